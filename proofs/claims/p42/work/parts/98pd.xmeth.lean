section
set_option maxRecDepth 4000 in
set_option maxHeartbeats 4000000 in
theorem cx_X12_slot {l : Launch} {D : va_G} {c : Nat → ClassId} {H0 : Heap} {sa : Nat × Nat × (Nat → Int32)} {w : mW} {μ : mM} {K : (Nat → Int) → (Nat → Int) → Prop} {W S : Nat → Nat → Prop} (hw : mWF w) (hT : mT w μ) {p1 : Int} (hp1 : 0 ≤ p1 ∧ p1 ≤ 20) {p2 : Int} (hp2 : 0 ≤ p2 ∧ p2 ≤ 2) {p3 : Int} (hp3 : 0 ≤ p3 ∧ p3 ≤ 9) : VC l D c H0 sa K W S S mX12_slot 1 [iv p1, iv p2, iv p3] μ (xqP w μ (fun z => (0 ≤ z ∧ z ≤ 449) ∧ (z = 20 * p1 + 10 * p2 + p3) ∧ True)) := by
  refine VC.of rfl (by decide) (le_t rfl) ?_
  refine xmr_lvE (lv' := [(0, iv p1), (1, iv p2), (2, iv p3)]) rfl ?_
  refine xmr_iconst (pc := 0) (z := 2) dX12_slot_0 ?_
  refine xmr_iload_n (pc := 1) (z := p1) dX12_slot_1 rfl rfl ?_
  refine xmr_imul (pc := 2) (x := 2) (y := p1) dX12_slot_2 ?_
  refine xmr_iload_n (pc := 3) (z := p2) dX12_slot_3 rfl rfl ?_
  refine xmr_iadd (pc := 4) (x := (2 * p1)) (y := p2) dX12_slot_4 ?_
  refine xmr_bipush (pc := 5) (z := 10) dX12_slot_5 (by decide) ?_
  refine xmr_imul (pc := 7) (x := ((2 * p1) + p2)) (y := 10) dX12_slot_7 ?_
  refine xmr_iload_n (pc := 8) (z := p3) dX12_slot_8 rfl rfl ?_
  refine xmr_iadd (pc := 9) (x := (((2 * p1) + p2) * 10)) (y := p3) dX12_slot_9 ?_
  exact xmr_iretP dX12_slot_10 rfl (le_t rfl) (le_t rfl) ⟨(rW (c := 0) (d := 449) (rAdd (e := 0) (f := 429) (rMulR (n := 10) (e := 0) (f := 420) (rAdd (e := 0) (f := 42) (rMulL (n := 2) (e := 0) (f := 40) hp1 rfl) hp2 rfl) rfl) hp3 rfl) rfl), (vc_X12_slot_1 hp1 hp2 hp3), trivial⟩

set_option maxRecDepth 4000 in
set_option maxHeartbeats 4000000 in
theorem cx_X12_sideOf {l : Launch} {D : va_G} {c : Nat → ClassId} {H0 : Heap} {sa : Nat × Nat × (Nat → Int32)} {w : mW} {μ : mM} {K : (Nat → Int) → (Nat → Int) → Prop} {W S : Nat → Nat → Prop} (hw : mWF w) (hT : mT w μ) {p1 : Int} (hp1 : 0 ≤ p1 ∧ p1 ≤ 19) {p2 : Int} (hp2 : (-2147483648) ≤ p2 ∧ p2 ≤ 2147483647) {f_e0 : Int} (q_f_e0 : μ 110 ((2 * p1).toNat) = f_e0) (h110 : ∀ i : Nat, (i : Int) ≤ 2 * p1 + 1 → S 110 i) : VC l D c H0 sa K W S S mX12_sideOf 1 [.ref 106, iv p1, iv p2] μ (xqP w μ (fun z => (0 ≤ z ∧ z ≤ 1) ∧ (z = 0 → f_e0 = p2) ∧ (z = 1 → ¬ f_e0 = p2) ∧ True)) := by
  refine VC.of rfl (by decide) (le_t rfl) ?_
  have ht_f_e0 : (0 ≤ f_e0 ∧ f_e0 ≤ 9) := by rw [← q_f_e0]; exact hT 110 110 (A_110 hw) ((2 * p1).toNat)
  refine xmr_lvE (lv' := [(0, .ref 106), (1, iv p1), (2, iv p2)]) rfl ?_
  refine xsv_aload_n (pc := 0) dX12_sideOf_0 rfl rfl ?_
  refine xgf_X12_7 (pc := 1) dX12_sideOf_1 wF_X12_40 (A_106 hw) hT ?_
  refine xmr_iconst (pc := 4) (z := 2) dX12_sideOf_4 ?_
  refine xmr_iload_n (pc := 5) (z := p1) dX12_sideOf_5 rfl rfl ?_
  refine xmr_imul (pc := 6) (x := 2) (y := p1) dX12_sideOf_6 ?_
  refine xlk_110 (hS := h110 _ (by omega)) (pc := 7) dX12_sideOf_7 (A_110 hw) (rIx (n := 40) (rMulL (n := 2) (e := 0) (f := 38) hp1 rfl) rfl) q_f_e0 ?_
  refine xmr_iload_n (pc := 8) (z := p2) dX12_sideOf_8 rfl rfl ?_
  refine xmr_icmp_ne (pc := 9) (tgt := 16) dX12_sideOf_9 (by decide) (r32 ht_f_e0 rfl) hp2 (fun h5 => ?_) (fun h5 => ?_)
  · refine xmr_iconst (pc := 16) (z := 1) dX12_sideOf_16 ?_
    exact xmr_iretP dX12_sideOf_17 rfl (le_t rfl) (le_t rfl) ⟨(rW (c := 0) (d := 1) (rR (x := 1)) rfl), (vc_X12_sideOf_1 h5 ht_f_e0 hp2), (vc_X12_sideOf_2 h5 ht_f_e0 hp2), trivial⟩
  have h6 : 0 ≤ p2 ∧ p2 ≤ 9 := (vc_X12_sideOf_3 h5 ht_f_e0 hp2)
  refine xmr_iconst (pc := 12) (z := 0) dX12_sideOf_12 ?_
  refine xsv_goto (pc := 13) (tgt := 17) dX12_sideOf_13 (by decide) ?_
  exact xmr_iretP dX12_sideOf_17 rfl (le_t rfl) (le_t rfl) ⟨(rW (c := 0) (d := 1) (rR (x := 0)) rfl), (vc_X12_sideOf_4 h5 ht_f_e0 h6), (vc_X12_sideOf_5 h5 ht_f_e0 h6), trivial⟩

set_option maxRecDepth 4000 in
set_option maxHeartbeats 4000000 in
theorem cx_X12_partnerOf_pt {l : Launch} {D : va_G} {c : Nat → ClassId} {H0 : Heap} {sa : Nat × Nat × (Nat → Int32)} {w : mW} {μ : mM} {K : (Nat → Int) → (Nat → Int) → Prop} {W S : Nat → Nat → Prop} (hw : mWF w) (hT : mT w μ) {p1 : Int} (hp1 : 0 ≤ p1 ∧ p1 ≤ 19) {p2 : Int} (hp2 : (-2147483648) ≤ p2 ∧ p2 ≤ 2147483647) {f_e0 : Int} (q_f_e0 : μ 110 ((2 * p1).toNat) = f_e0) {f_e1 : Int} (q_f_e1 : μ 110 (((2 * p1) + 1).toNat) = f_e1) (h110 : ∀ i : Nat, (i : Int) ≤ 2 * p1 + 1 → S 110 i) : VC l D c H0 sa K W S S mX12_partnerOf 2 [.ref 106, iv p1, iv p2] μ (xqP w μ (fun z => (0 ≤ z ∧ z ≤ 9) ∧ ((f_e0 = p2 → z = f_e1) ∧ (¬ f_e0 = p2 → z = f_e0)) ∧ True)) := by
  refine VC.of rfl (by decide) (le_t rfl) ?_
  have ht_f_e0 : (0 ≤ f_e0 ∧ f_e0 ≤ 9) := by rw [← q_f_e0]; exact hT 110 110 (A_110 hw) ((2 * p1).toNat)
  have ht_f_e1 : (0 ≤ f_e1 ∧ f_e1 ≤ 9) := by rw [← q_f_e1]; exact hT 110 110 (A_110 hw) (((2 * p1) + 1).toNat)
  refine xmr_lvE (lv' := [(0, .ref 106), (1, iv p1), (2, iv p2)]) rfl ?_
  refine xsv_aload_n (pc := 0) dX12_partnerOf_0 rfl rfl ?_
  refine xgf_X12_7 (pc := 1) dX12_partnerOf_1 wF_X12_40 (A_106 hw) hT ?_
  refine xmr_iconst (pc := 4) (z := 2) dX12_partnerOf_4 ?_
  refine xmr_iload_n (pc := 5) (z := p1) dX12_partnerOf_5 rfl rfl ?_
  refine xmr_imul (pc := 6) (x := 2) (y := p1) dX12_partnerOf_6 ?_
  refine xmr_iconst (pc := 7) (z := 1) dX12_partnerOf_7 ?_
  refine xmr_iadd (pc := 8) (x := (2 * p1)) (y := 1) dX12_partnerOf_8 ?_
  refine xsv_aload_n (pc := 9) dX12_partnerOf_9 rfl rfl ?_
  refine xmr_iload_n (pc := 10) (z := p1) dX12_partnerOf_10 rfl rfl ?_
  refine xmr_iload_n (pc := 11) (z := p2) dX12_partnerOf_11 rfl rfl ?_
  refine xmr_cVP (pc := 12) (cx_X12_sideOf hw hT hp1 hp2 q_f_e0 h110) (gOk _ _ _ _ _) dX12_partnerOf_12 (tX12_sideOf _ _ _ _ _) ⟨wV_X12_sideOf, wL_X12_sideOf⟩ wM_X12_542 (gCX12 _ _ _ _ _) rfl (A_106 hw) rfl ⟨le_t rfl, le_t rfl⟩ ⟨le_t rfl, le_t rfl⟩ rfl (le_t rfl) fun z29 h28 => ?_
  refine xmr_isub (pc := 15) (x := ((2 * p1) + 1)) (y := z29) dX12_partnerOf_15 ?_
  refine xla_110 (hS := h110 _ (by omega)) (pc := 16) dX12_partnerOf_16 (A_110 hw) hT (rIx (n := 40) (rSub (e := 0) (f := 39) (rAdd (e := 1) (f := 39) (rMulL (n := 2) (e := 0) (f := 38) hp1 rfl) (rR (x := 1)) rfl) h28.1 rfl) rfl) fun z30 q31 h32 => ?_
  exact xmr_iretP dX12_partnerOf_17 rfl (le_t rfl) (le_t rfl) ⟨h32, (vc_X12_partnerOf_pt_1 h28.2.1 h28.2.2.1 (cgr q31 q_f_e0) (cgr q31 q_f_e1) ht_f_e0 ht_f_e1 hp1 hp2 h28.1 h32), trivial⟩

set_option maxRecDepth 4000 in
set_option maxHeartbeats 4000000 in
theorem cx_X12_isThere {l : Launch} {D : va_G} {c : Nat → ClassId} {H0 : Heap} {sa : Nat × Nat × (Nat → Int32)} {w : mW} {μ : mM} {K : (Nat → Int) → (Nat → Int) → Prop} {W S : Nat → Nat → Prop} (hw : mWF w) (hT : mT w μ) {p1 : Int} (hp1 : 0 ≤ p1 ∧ p1 ≤ 2099) {f_x : Int} (q_f_x : μ 126 ((40 * p1).toNat) = f_x) (hR : ∀ i : Nat, 40 * p1 ≤ (i : Int) → (i : Int) < 40 * p1 + 40 → S 126 i) : VC l D c H0 sa K W S S mX12_isThere 1 [.ref 106, iv p1] μ (xqP w μ (fun z => (0 ≤ z ∧ z ≤ 1) ∧ (z = 1 → 0 ≤ f_x) ∧ (z = 0 → f_x < 0) ∧ True)) := by
  refine VC.of rfl (by decide) (le_t rfl) ?_
  have ht_f_x := rt7 hT (A_126 hw) (vc_X12_copy_1 hp1) q_f_x
  have h1 : (-1) ≤ f_x ∧ f_x ≤ 9 := ht_f_x.2.1 (vc_X12_copy_2 hp1)
  refine xmr_lvE (lv' := [(0, .ref 106), (1, iv p1)]) rfl ?_
  refine xsv_aload_n (pc := 0) dX12_isThere_0 rfl rfl ?_
  refine xgf_X12_32 (pc := 1) dX12_isThere_1 wF_X12_148 (A_106 hw) hT ?_
  refine xmr_bipush (pc := 4) (z := 40) dX12_isThere_4 (by decide) ?_
  refine xmr_iload_n (pc := 6) (z := p1) dX12_isThere_6 rfl rfl ?_
  refine xmr_imul (pc := 7) (x := 40) (y := p1) dX12_isThere_7 ?_
  refine xlk_126 (hS := hR _ (by omega) (by omega)) (pc := 8) dX12_isThere_8 (A_126 hw) (rIx (n := 84000) (rMulL (n := 40) (e := 0) (f := 83960) hp1 rfl) rfl) q_f_x ?_
  refine xmr_if_lt (pc := 9) (tgt := 16) dX12_isThere_9 (by decide) (r32 h1 rfl) (fun h10 => ?_) (fun h10 => ?_)
  · have h11 : (-1) ≤ f_x ∧ f_x ≤ (-1) := (vc_X12_isThere_3 h10 h1)
    refine xmr_iconst (pc := 16) (z := 0) dX12_isThere_16 ?_
    exact xmr_zretP dX12_isThere_17 rfl (rW (c := 0) (d := 1) (rR (x := 0)) rfl) (le_t rfl) (le_t rfl) ⟨(rW (c := 0) (d := 1) (rR (x := 0)) rfl), (vc_X12_isThere_4 h10 h11), (vc_X12_isThere_5 h10 h11), trivial⟩
  have h12 : 0 ≤ f_x ∧ f_x ≤ 9 := (vc_X12_isThere_6 h10 h1)
  refine xmr_iconst (pc := 12) (z := 1) dX12_isThere_12 ?_
  refine xsv_goto (pc := 13) (tgt := 17) dX12_isThere_13 (by decide) ?_
  exact xmr_zretP dX12_isThere_17 rfl (rW (c := 0) (d := 1) (rR (x := 1)) rfl) (le_t rfl) (le_t rfl) ⟨(rW (c := 0) (d := 1) (rR (x := 1)) rfl), (vc_X12_isThere_7 h10 h12), (vc_X12_isThere_8 h10 h12), trivial⟩

set_option maxRecDepth 4000 in
set_option maxHeartbeats 4000000 in
theorem cx_X12_isIn {l : Launch} {D : va_G} {c : Nat → ClassId} {H0 : Heap} {sa : Nat × Nat × (Nat → Int32)} {w : mW} {μ : mM} {K : (Nat → Int) → (Nat → Int) → Prop} {W S : Nat → Nat → Prop} (hw : mWF w) (hT : mT w μ) {p1 : Int} (hp1 : 0 ≤ p1 ∧ p1 ≤ 2099) {p2 : Int} (hp2 : (-2147483648) ≤ p2 ∧ p2 ≤ 2147483647) (hR : ∀ i : Nat, 40 * p1 ≤ (i : Int) → (i : Int) < 40 * p1 + 40 → S 126 i) : VC l D c H0 sa K W S S mX12_isIn 1 [.ref 106, iv p1, iv p2] μ (xqP w μ (fun z => (0 ≤ z ∧ z ≤ 1) ∧ True)) := by
  refine VC.of rfl (by decide) (le_t rfl) ?_
  refine xmr_lvE (lv' := [(0, .ref 106), (1, iv p1), (2, iv p2)]) rfl ?_
  refine xmr_iconst (pc := 0) (z := 0) dX12_isIn_0 ?_
  refine xmr_istore_n (pc := 1) (lv' := [(3, iv 0), (0, .ref 106), (1, iv p1), (2, iv p2)]) dX12_isIn_1 rfl (by decide) rfl ?_
  refine xmr_iconst (pc := 2) (z := 0) dX12_isIn_2 ?_
  refine xmr_istore (pc := 3) (lv' := [(4, iv 0), (3, iv 0), (0, .ref 106), (1, iv p1), (2, iv p2)]) dX12_isIn_3 (by decide) rfl ?_
  have L183 : ∀ (nL183 : Nat) (z182 z181 : Int), True → (0 ≤ z182 ∧ z182 ≤ 1) → (0 ≤ z181 ∧ z181 ≤ 20) → (21 - z181) < (nL183 : Int) → VS l D c H0 sa K W S S mX12_isIn (sRm 1 0 0) ((xqP w μ (fun z => (0 ≤ z ∧ z ≤ 1) ∧ True))) 5 [(0, .ref 106), (1, iv p1), (2, iv p2), (3, iv z182), (4, iv z181)] [] μ := by
    intro nL183
    induction nL183 with
    | zero => intro z182 z181 _ h184 h185 h189; exact ((vc_X12_tieOf_1 h189 h185)).elim
    | succ nL183 ih190 =>
      intro z182 z181 _ h184 h185 h189
      refine xmr_iload (pc := 5) (z := z181) dX12_isIn_5 rfl ?_
      refine xsv_aload_n (pc := 7) dX12_isIn_7 rfl rfl ?_
      refine xgf_X12_32 (pc := 8) dX12_isIn_8 wF_X12_148 (A_106 hw) hT ?_
      refine xmr_bipush (pc := 11) (z := 40) dX12_isIn_11 (by decide) ?_
      refine xmr_iload_n (pc := 13) (z := p1) dX12_isIn_13 rfl rfl ?_
      refine xmr_imul (pc := 14) (x := 40) (y := p1) dX12_isIn_14 ?_
      refine xmr_iconst (pc := 15) (z := 4) dX12_isIn_15 ?_
      refine xmr_iadd (pc := 16) (x := (40 * p1)) (y := 4) dX12_isIn_16 ?_
      refine xla_126 (hS := hR _ (by omega) (by omega)) (pc := 17) dX12_isIn_17 (A_126 hw) hT (rIx (n := 84000) (rAdd (e := 4) (f := 83964) (rMulL (n := 40) (e := 0) (f := 83960) hp1 rfl) (rR (x := 4)) rfl) rfl) fun z191 q192 h193 => ?_
      have h194 : 0 ≤ z191 ∧ z191 ≤ 20 := h193.2.2.1 (vc_X12_front_1 hp1)
      refine xmr_icmp_ge (pc := 18) (tgt := 56) dX12_isIn_18 (by decide) (r32 h185 rfl) (r32 h194 rfl) (fun h202 => ?_) (fun h202 => ?_)
      · refine xmr_iload_n (pc := 56) (z := z182) dX12_isIn_56 rfl rfl ?_
        exact xmr_zretP dX12_isIn_57 rfl h184 (le_t rfl) (le_t rfl) ⟨h184, trivial⟩
      have h203 : 0 ≤ z181 ∧ z181 ≤ 19 := (vc_X12_tieOf_3 h202 h185 h194)
      have h204 : 1 ≤ z191 ∧ z191 ≤ 20 := (vc_X12_tieOf_4 h202 h203 h194)
      refine xmr_iload_n (pc := 21) (z := z182) dX12_isIn_21 rfl rfl ?_
      refine xmr_if_ne (pc := 22) (tgt := 44) dX12_isIn_22 (by decide) (r32 h184 rfl) (fun h210 => ?_) (fun h210 => ?_)
      · have h211 : 1 ≤ z182 ∧ z182 ≤ 1 := (vc_X12_ring_24 h210 h184)
        refine xmr_iconst (pc := 44) (z := 1) dX12_isIn_44 ?_
        refine xsv_goto (pc := 45) (tgt := 49) dX12_isIn_45 (by decide) ?_
        refine xmr_istore_n (pc := 49) (lv' := [(3, iv 1), (0, .ref 106), (1, iv p1), (2, iv p2), (4, iv z181)]) dX12_isIn_49 rfl (by decide) rfl ?_
        refine xmr_iinc (pc := 50) (lv' := [(4, iv (z181 + 1)), (3, iv 1), (0, .ref 106), (1, iv p1), (2, iv p2)]) dX12_isIn_50 rfl (by decide) rfl ?_
        refine xsv_goto (pc := 53) (tgt := 5) dX12_isIn_53 (by decide) ?_
        refine xmr_lvS (lv' := [(0, .ref 106), (1, iv p1), (2, iv p2), (3, iv 1), (4, iv (z181 + 1))]) (List.forall_mem_cons.mpr ⟨rfl, List.forall_mem_cons.mpr ⟨rfl, List.forall_mem_cons.mpr ⟨rfl, List.forall_mem_cons.mpr ⟨rfl, List.forall_mem_cons.mpr ⟨rfl, fun _ h => absurd h List.not_mem_nil⟩⟩⟩⟩⟩) ?_
        exact ih190 1 (z181 + 1) trivial (rW (c := 0) (d := 1) (rR (x := 1)) rfl) (rW (c := 0) (d := 20) (rAdd (e := 1) (f := 20) h203 (rR (x := 1)) rfl) rfl) (vc_X12_tieOf_5 (nS h189) h202 h203 h204)
      have h212 : 0 ≤ z182 ∧ z182 ≤ 0 := (vc_X12_ring_22 h210 h184)
      refine xsv_aload_n (pc := 25) dX12_isIn_25 rfl rfl ?_
      refine xgf_X12_32 (pc := 26) dX12_isIn_26 wF_X12_148 (A_106 hw) hT ?_
      refine xmr_bipush (pc := 29) (z := 40) dX12_isIn_29 (by decide) ?_
      refine xmr_iload_n (pc := 31) (z := p1) dX12_isIn_31 rfl rfl ?_
      refine xmr_imul (pc := 32) (x := 40) (y := p1) dX12_isIn_32 ?_
      refine xmr_bipush (pc := 33) (z := 6) dX12_isIn_33 (by decide) ?_
      refine xmr_iadd (pc := 35) (x := (40 * p1)) (y := 6) dX12_isIn_35 ?_
      refine xmr_iload (pc := 36) (z := z181) dX12_isIn_36 rfl ?_
      refine xmr_iadd (pc := 38) (x := ((40 * p1) + 6)) (y := z181) dX12_isIn_38 ?_
      refine xla_126 (hS := hR _ (by omega) (by omega)) (pc := 39) dX12_isIn_39 (A_126 hw) hT (rIx (n := 84000) (rAdd (e := 6) (f := 83985) (rAdd (e := 6) (f := 83966) (rMulL (n := 40) (e := 0) (f := 83960) hp1 rfl) (rR (x := 6)) rfl) h203 rfl) rfl) fun z213 q214 h215 => ?_
      refine xmr_iload_n (pc := 40) (z := p2) dX12_isIn_40 rfl rfl ?_
      refine xmr_icmp_ne (pc := 41) (tgt := 48) dX12_isIn_41 (by decide) h215.1 hp2 (fun h216 => ?_) (fun h216 => ?_)
      · refine xmr_iconst (pc := 48) (z := 0) dX12_isIn_48 ?_
        refine xmr_istore_n (pc := 49) (lv' := [(3, iv 0), (0, .ref 106), (1, iv p1), (2, iv p2), (4, iv z181)]) dX12_isIn_49 rfl (by decide) rfl ?_
        refine xmr_iinc (pc := 50) (lv' := [(4, iv (z181 + 1)), (3, iv 0), (0, .ref 106), (1, iv p1), (2, iv p2)]) dX12_isIn_50 rfl (by decide) rfl ?_
        refine xsv_goto (pc := 53) (tgt := 5) dX12_isIn_53 (by decide) ?_
        refine xmr_lvS (lv' := [(0, .ref 106), (1, iv p1), (2, iv p2), (3, iv 0), (4, iv (z181 + 1))]) (List.forall_mem_cons.mpr ⟨rfl, List.forall_mem_cons.mpr ⟨rfl, List.forall_mem_cons.mpr ⟨rfl, List.forall_mem_cons.mpr ⟨rfl, List.forall_mem_cons.mpr ⟨rfl, fun _ h => absurd h List.not_mem_nil⟩⟩⟩⟩⟩) ?_
        exact ih190 0 (z181 + 1) trivial (rW (c := 0) (d := 1) (rR (x := 0)) rfl) (rW (c := 0) (d := 20) (rAdd (e := 1) (f := 20) h203 (rR (x := 1)) rfl) rfl) (vc_X12_isIn_8 (nS h189) h202 h215.2.1 h215.2.2.1 h215.2.2.2 h216 hp1 hp2 h203 h204 h215.1)
      refine xmr_iconst (pc := 44) (z := 1) dX12_isIn_44 ?_
      refine xsv_goto (pc := 45) (tgt := 49) dX12_isIn_45 (by decide) ?_
      refine xmr_istore_n (pc := 49) (lv' := [(3, iv 1), (0, .ref 106), (1, iv p1), (2, iv p2), (4, iv z181)]) dX12_isIn_49 rfl (by decide) rfl ?_
      refine xmr_iinc (pc := 50) (lv' := [(4, iv (z181 + 1)), (3, iv 1), (0, .ref 106), (1, iv p1), (2, iv p2)]) dX12_isIn_50 rfl (by decide) rfl ?_
      refine xsv_goto (pc := 53) (tgt := 5) dX12_isIn_53 (by decide) ?_
      refine xmr_lvS (lv' := [(0, .ref 106), (1, iv p1), (2, iv p2), (3, iv 1), (4, iv (z181 + 1))]) (List.forall_mem_cons.mpr ⟨rfl, List.forall_mem_cons.mpr ⟨rfl, List.forall_mem_cons.mpr ⟨rfl, List.forall_mem_cons.mpr ⟨rfl, List.forall_mem_cons.mpr ⟨rfl, fun _ h => absurd h List.not_mem_nil⟩⟩⟩⟩⟩) ?_
      exact ih190 1 (z181 + 1) trivial (rW (c := 0) (d := 1) (rR (x := 1)) rfl) (rW (c := 0) (d := 20) (rAdd (e := 1) (f := 20) h203 (rR (x := 1)) rfl) rfl) (vc_X12_isIn_9 (nS h189) h202 h215.2.1 h215.2.2.1 h215.2.2.2 h216 hp1 hp2 h203 h204 h215.1)
  refine xmr_lvS (lv' := [(0, .ref 106), (1, iv p1), (2, iv p2), (3, iv 0), (4, iv 0)]) (List.forall_mem_cons.mpr ⟨rfl, List.forall_mem_cons.mpr ⟨rfl, List.forall_mem_cons.mpr ⟨rfl, List.forall_mem_cons.mpr ⟨rfl, List.forall_mem_cons.mpr ⟨rfl, fun _ h => absurd h List.not_mem_nil⟩⟩⟩⟩⟩) ?_
  exact L183 22 0 0 trivial (rW (c := 0) (d := 1) (rR (x := 0)) rfl) (rW (c := 0) (d := 20) (rR (x := 0)) rfl) vc_X12_tieOf_12

set_option maxRecDepth 4000 in
set_option maxHeartbeats 4000000 in
theorem cx_X12_related {l : Launch} {D : va_G} {c : Nat → ClassId} {H0 : Heap} {sa : Nat × Nat × (Nat → Int32)} {w : mW} {μ : mM} {K : (Nat → Int) → (Nat → Int) → Prop} {W S : Nat → Nat → Prop} (hw : mWF w) (hT : mT w μ) {p1 : Int} (hp1 : (-2147483648) ≤ p1 ∧ p1 ≤ 2147483647) {p2 : Int} (hp2 : (-2147483648) ≤ p2 ∧ p2 ≤ 2147483647) {p3 : Int} (hp3 : (-2147483648) ≤ p3 ∧ p3 ≤ 2147483647) : VC l D c H0 sa K W S S mX12_related 1 [.ref 106, iv p1, iv p2, iv p3] μ (xqP w μ (fun z => (0 ≤ z ∧ z ≤ 1) ∧ True)) := by
  refine VC.of rfl (by decide) (le_t rfl) ?_
  refine xmr_lvE (lv' := [(0, .ref 106), (1, iv p1), (2, iv p2), (3, iv p3)]) rfl ?_
  refine xmr_iload_n (pc := 0) (z := p2) dX12_related_0 rfl rfl ?_
  refine xmr_bipush (pc := 1) (z := 60) dX12_related_1 (by decide) ?_
  refine xmr_icmp_ne (pc := 3) (tgt := 19) dX12_related_3 (by decide) hp2 (r32 (rR (x := 60)) rfl) (fun h7 => ?_) (fun h7 => ?_)
  · refine xmr_iload_n (pc := 19) (z := p2) dX12_related_19 rfl rfl ?_
    refine xmr_bipush (pc := 20) (z := 61) dX12_related_20 (by decide) ?_
    refine xmr_icmp_ne (pc := 22) (tgt := 38) dX12_related_22 (by decide) hp2 (r32 (rR (x := 61)) rfl) (fun h11 => ?_) (fun h11 => ?_)
    · refine xmr_iload_n (pc := 38) (z := p1) dX12_related_38 rfl rfl ?_
      refine xmr_iload_n (pc := 39) (z := p3) dX12_related_39 rfl rfl ?_
      refine xmr_icmp_le (pc := 40) (tgt := 47) dX12_related_40 (by decide) hp1 hp3 (fun h14 => ?_) (fun h14 => ?_)
      · refine xmr_iconst (pc := 47) (z := 0) dX12_related_47 ?_
        exact xmr_zretP dX12_related_48 rfl (rW (c := 0) (d := 1) (rR (x := 0)) rfl) (le_t rfl) (le_t rfl) ⟨(rW (c := 0) (d := 1) (rR (x := 0)) rfl), trivial⟩
      have h15 : (-2147483647) ≤ p1 ∧ p1 ≤ 2147483647 := (vc_X12_related_1 h14 hp1 hp3)
      have h16 : (-2147483648) ≤ p3 ∧ p3 ≤ 2147483646 := (vc_X12_related_2 h14 h15 hp3)
      refine xmr_iconst (pc := 43) (z := 1) dX12_related_43 ?_
      refine xsv_goto (pc := 44) (tgt := 48) dX12_related_44 (by decide) ?_
      exact xmr_zretP dX12_related_48 rfl (rW (c := 0) (d := 1) (rR (x := 1)) rfl) (le_t rfl) (le_t rfl) ⟨(rW (c := 0) (d := 1) (rR (x := 1)) rfl), trivial⟩
    have h17 : 61 ≤ p2 ∧ p2 ≤ 61 := (vc_X12_related_3 h11 h7 hp2)
    refine xmr_iload_n (pc := 25) (z := p1) dX12_related_25 rfl rfl ?_
    refine xmr_iload_n (pc := 26) (z := p3) dX12_related_26 rfl rfl ?_
    refine xmr_icmp_ne (pc := 27) (tgt := 34) dX12_related_27 (by decide) hp1 hp3 (fun h18 => ?_) (fun h18 => ?_)
    · refine xmr_iconst (pc := 34) (z := 0) dX12_related_34 ?_
      refine xsv_goto (pc := 35) (tgt := 48) dX12_related_35 (by decide) ?_
      exact xmr_zretP dX12_related_48 rfl (rW (c := 0) (d := 1) (rR (x := 0)) rfl) (le_t rfl) (le_t rfl) ⟨(rW (c := 0) (d := 1) (rR (x := 0)) rfl), trivial⟩
    refine xmr_iconst (pc := 30) (z := 1) dX12_related_30 ?_
    refine xsv_goto (pc := 31) (tgt := 48) dX12_related_31 (by decide) ?_
    exact xmr_zretP dX12_related_48 rfl (rW (c := 0) (d := 1) (rR (x := 1)) rfl) (le_t rfl) (le_t rfl) ⟨(rW (c := 0) (d := 1) (rR (x := 1)) rfl), trivial⟩
  have h19 : 60 ≤ p2 ∧ p2 ≤ 60 := (vc_X12_related_4 h7 hp2)
  refine xmr_iload_n (pc := 6) (z := p1) dX12_related_6 rfl rfl ?_
  refine xmr_iload_n (pc := 7) (z := p3) dX12_related_7 rfl rfl ?_
  refine xmr_icmp_ge (pc := 8) (tgt := 15) dX12_related_8 (by decide) hp1 hp3 (fun h22 => ?_) (fun h22 => ?_)
  · refine xmr_iconst (pc := 15) (z := 0) dX12_related_15 ?_
    refine xsv_goto (pc := 16) (tgt := 48) dX12_related_16 (by decide) ?_
    exact xmr_zretP dX12_related_48 rfl (rW (c := 0) (d := 1) (rR (x := 0)) rfl) (le_t rfl) (le_t rfl) ⟨(rW (c := 0) (d := 1) (rR (x := 0)) rfl), trivial⟩
  have h23 : (-2147483648) ≤ p1 ∧ p1 ≤ 2147483646 := (vc_X12_in_1 h22 hp1 hp3)
  have h24 : (-2147483647) ≤ p3 ∧ p3 ≤ 2147483647 := (vc_X12_in_2 h22 h23 hp3)
  refine xmr_iconst (pc := 11) (z := 1) dX12_related_11 ?_
  refine xsv_goto (pc := 12) (tgt := 48) dX12_related_12 (by decide) ?_
  exact xmr_zretP dX12_related_48 rfl (rW (c := 0) (d := 1) (rR (x := 1)) rfl) (le_t rfl) (le_t rfl) ⟨(rW (c := 0) (d := 1) (rR (x := 1)) rfl), trivial⟩

set_option maxRecDepth 4000 in
set_option maxHeartbeats 4000000 in
theorem cx_X12_mask {l : Launch} {D : va_G} {c : Nat → ClassId} {H0 : Heap} {sa : Nat × Nat × (Nat → Int32)} {w : mW} {μ : mM} {K : (Nat → Int) → (Nat → Int) → Prop} {W S : Nat → Nat → Prop} (hw : mWF w) (hT : mT w μ) {p1 : Int} (hp1 : (-2147483648) ≤ p1 ∧ p1 ≤ 2147483647) : VC l D c H0 sa K W S S mX12_mask 1 [iv p1] μ (xqP w μ (fun z => ((-2147483648) ≤ z ∧ z ≤ 2147483647) ∧ True)) := by
  refine VC.of rfl (by decide) (le_t rfl) ?_
  refine xmr_lvE (lv' := [(0, iv p1)]) rfl ?_
  refine xmr_iload_n (pc := 0) (z := p1) dX12_mask_0 rfl rfl ?_
  refine xmr_if_ne (pc := 1) (tgt := 8) dX12_mask_1 (by decide) hp1 (fun h7 => ?_) (fun h7 => ?_)
  · refine xmr_iconst (pc := 8) (z := (-1)) dX12_mask_8 ?_
    refine xmr_bipush (pc := 9) (z := 32) dX12_mask_9 (by decide) ?_
    refine xmr_iload_n (pc := 11) (z := p1) dX12_mask_11 rfl rfl ?_
    refine xmr_isub (pc := 12) (x := 32) (y := p1) dX12_mask_12 ?_
    refine xmr_wrap fun z8 h9 => ?_
    refine xmr_ishl (pc := 13) (x := (-1)) (y := z8) dX12_mask_13 ?_
    refine xmr_gen (P := fun z => (-2147483648) ≤ z ∧ z ≤ 2147483647) (r32i _) fun z10 q11 h12 => ?_
    exact xmr_iretP dX12_mask_14 rfl (le_t rfl) (le_t rfl) ⟨h12, trivial⟩
  have h13 : 0 ≤ p1 ∧ p1 ≤ 0 := (vc_X12_mask_1 h7 hp1)
  refine xmr_iconst (pc := 4) (z := 0) dX12_mask_4 ?_
  refine xsv_goto (pc := 5) (tgt := 14) dX12_mask_5 (by decide) ?_
  exact xmr_iretP dX12_mask_14 rfl (le_t rfl) (le_t rfl) ⟨(rW (c := (-2147483648)) (d := 2147483647) (rR (x := 0)) rfl), trivial⟩

set_option maxRecDepth 4000 in
set_option maxHeartbeats 4000000 in
theorem cx_X12_holds {l : Launch} {D : va_G} {c : Nat → ClassId} {H0 : Heap} {sa : Nat × Nat × (Nat → Int32)} {w : mW} {μ : mM} {K : (Nat → Int) → (Nat → Int) → Prop} {W S : Nat → Nat → Prop} (hw : mWF w) (hT : mT w μ) {p1 : Int} (hp1 : (-2147483648) ≤ p1 ∧ p1 ≤ 2147483647) {p2 : Int} (hp2 : (-2147483648) ≤ p2 ∧ p2 ≤ 2147483647) {p3 : Int} (hp3 : (-2147483648) ≤ p3 ∧ p3 ≤ 2147483647) : VC l D c H0 sa K W S S mX12_holds 2 [iv p1, iv p2, iv p3] μ (xqP w μ (fun z => (0 ≤ z ∧ z ≤ 1) ∧ True)) := by
  refine VC.of rfl (by decide) (le_t rfl) ?_
  refine xmr_lvE (lv' := [(0, iv p1), (1, iv p2), (2, iv p3)]) rfl ?_
  refine xmr_iload_n (pc := 0) (z := p1) dX12_holds_0 rfl rfl ?_
  refine xmr_iload_n (pc := 1) (z := p3) dX12_holds_1 rfl rfl ?_
  refine xmr_ixor (pc := 2) (x := p1) (y := p3) dX12_holds_2 ?_
  refine xmr_gen (P := fun z => (-2147483648) ≤ z ∧ z ≤ 2147483647) (r32i _) fun z1 q2 h3 => ?_
  refine xmr_iload_n (pc := 3) (z := p2) dX12_holds_3 rfl rfl ?_
  refine xmr_cSP (pc := 4) (cx_X12_mask hw hT hp2) (gOk _ _ _ _ _) dX12_holds_4 (tX12_mask _ _ _ _ _) wS_X12_mask wM_X12_11 ⟨le_t rfl, le_t rfl⟩ ⟨le_t rfl, le_t rfl⟩ rfl (le_t rfl) fun z8 h7 => ?_
  refine xmr_iand (pc := 7) (x := z1) (y := z8) dX12_holds_7 ?_
  refine xmr_gen (P := fun z => (-2147483648) ≤ z ∧ z ≤ 2147483647) (r32i _) fun z9 q10 h11 => ?_
  refine xmr_if_ne (pc := 8) (tgt := 15) dX12_holds_8 (by decide) h11 (fun h13 => ?_) (fun h13 => ?_)
  · refine xmr_iconst (pc := 15) (z := 0) dX12_holds_15 ?_
    exact xmr_zretP dX12_holds_16 rfl (rW (c := 0) (d := 1) (rR (x := 0)) rfl) (le_t rfl) (le_t rfl) ⟨(rW (c := 0) (d := 1) (rR (x := 0)) rfl), trivial⟩
  have h14 : 0 ≤ z9 ∧ z9 ≤ 0 := (vc_X12_mask_1 h13 h11)
  refine xmr_iconst (pc := 11) (z := 1) dX12_holds_11 ?_
  refine xsv_goto (pc := 12) (tgt := 16) dX12_holds_12 (by decide) ?_
  exact xmr_zretP dX12_holds_16 rfl (rW (c := 0) (d := 1) (rR (x := 1)) rfl) (le_t rfl) (le_t rfl) ⟨(rW (c := 0) (d := 1) (rR (x := 1)) rfl), trivial⟩

set_option maxRecDepth 4000 in
set_option maxHeartbeats 4000000 in
theorem cx_X12_marked {l : Launch} {D : va_G} {c : Nat → ClassId} {H0 : Heap} {sa : Nat × Nat × (Nat → Int32)} {w : mW} {μ : mM} {K : (Nat → Int) → (Nat → Int) → Prop} {W S : Nat → Nat → Prop} (hw : mWF w) (hT : mT w μ) {p1 : Int} (hp1 : 0 ≤ p1 ∧ p1 ≤ 2099) {p2 : Int} (hp2 : (-2147483648) ≤ p2 ∧ p2 ≤ 2147483647) (hR : ∀ i : Nat, 40 * p1 ≤ (i : Int) → (i : Int) < 40 * p1 + 40 → S 126 i) : VC l D c H0 sa K W S S mX12_marked 1 [.ref 106, iv p1, iv p2] μ (xqP w μ (fun z => (0 ≤ z ∧ z ≤ 1) ∧ True)) := by
  refine VC.of rfl (by decide) (le_t rfl) ?_
  refine xmr_lvE (lv' := [(0, .ref 106), (1, iv p1), (2, iv p2)]) rfl ?_
  refine xmr_iconst (pc := 0) (z := 0) dX12_marked_0 ?_
  refine xmr_istore_n (pc := 1) (lv' := [(3, iv 0), (0, .ref 106), (1, iv p1), (2, iv p2)]) dX12_marked_1 rfl (by decide) rfl ?_
  refine xmr_iconst (pc := 2) (z := 0) dX12_marked_2 ?_
  refine xmr_istore (pc := 3) (lv' := [(4, iv 0), (3, iv 0), (0, .ref 106), (1, iv p1), (2, iv p2)]) dX12_marked_3 (by decide) rfl ?_
  have L105 : ∀ (nL105 : Nat) (z104 z103 : Int), True → (0 ≤ z104 ∧ z104 ≤ 1) → (0 ≤ z103 ∧ z103 ≤ 8) → (9 - z103) < (nL105 : Int) → VS l D c H0 sa K W S S mX12_marked (sRm 1 0 0) ((xqP w μ (fun z => (0 ≤ z ∧ z ≤ 1) ∧ True))) 5 [(0, .ref 106), (1, iv p1), (2, iv p2), (3, iv z104), (4, iv z103)] [] μ := by
    intro nL105
    induction nL105 with
    | zero => intro z104 z103 _ h106 h107 h111; exact ((vc_X12_marked_1 h111 h107)).elim
    | succ nL105 ih112 =>
      intro z104 z103 _ h106 h107 h111
      refine xmr_iload (pc := 5) (z := z103) dX12_marked_5 rfl ?_
      refine xsv_aload_n (pc := 7) dX12_marked_7 rfl rfl ?_
      refine xgf_X12_32 (pc := 8) dX12_marked_8 wF_X12_148 (A_106 hw) hT ?_
      refine xmr_bipush (pc := 11) (z := 40) dX12_marked_11 (by decide) ?_
      refine xmr_iload_n (pc := 13) (z := p1) dX12_marked_13 rfl rfl ?_
      refine xmr_imul (pc := 14) (x := 40) (y := p1) dX12_marked_14 ?_
      refine xmr_iconst (pc := 15) (z := 5) dX12_marked_15 ?_
      refine xmr_iadd (pc := 16) (x := (40 * p1)) (y := 5) dX12_marked_16 ?_
      refine xla_126 (hS := hR _ (by omega) (by omega)) (pc := 17) dX12_marked_17 (A_126 hw) hT (rIx (n := 84000) (rAdd (e := 5) (f := 83965) (rMulL (n := 40) (e := 0) (f := 83960) hp1 rfl) (rR (x := 5)) rfl) rfl) fun z113 q114 h115 => ?_
      have h116 : 0 ≤ z113 ∧ z113 ≤ 8 := h115.2.2.2 (vc_X12_marked_2 hp1)
      refine xmr_icmp_ge (pc := 18) (tgt := 56) dX12_marked_18 (by decide) (r32 h107 rfl) (r32 h116 rfl) (fun h124 => ?_) (fun h124 => ?_)
      · refine xmr_iload_n (pc := 56) (z := z104) dX12_marked_56 rfl rfl ?_
        exact xmr_zretP dX12_marked_57 rfl h106 (le_t rfl) (le_t rfl) ⟨h106, trivial⟩
      have h125 : 0 ≤ z103 ∧ z103 ≤ 7 := (vc_X12_marked_3 h124 h107 h116)
      have h126 : 1 ≤ z113 ∧ z113 ≤ 8 := (vc_X12_marked_4 h124 h125 h116)
      refine xmr_iload_n (pc := 21) (z := z104) dX12_marked_21 rfl rfl ?_
      refine xmr_if_ne (pc := 22) (tgt := 44) dX12_marked_22 (by decide) (r32 h106 rfl) (fun h132 => ?_) (fun h132 => ?_)
      · have h133 : 1 ≤ z104 ∧ z104 ≤ 1 := (vc_X12_ring_24 h132 h106)
        refine xmr_iconst (pc := 44) (z := 1) dX12_marked_44 ?_
        refine xsv_goto (pc := 45) (tgt := 49) dX12_marked_45 (by decide) ?_
        refine xmr_istore_n (pc := 49) (lv' := [(3, iv 1), (0, .ref 106), (1, iv p1), (2, iv p2), (4, iv z103)]) dX12_marked_49 rfl (by decide) rfl ?_
        refine xmr_iinc (pc := 50) (lv' := [(4, iv (z103 + 1)), (3, iv 1), (0, .ref 106), (1, iv p1), (2, iv p2)]) dX12_marked_50 rfl (by decide) rfl ?_
        refine xsv_goto (pc := 53) (tgt := 5) dX12_marked_53 (by decide) ?_
        refine xmr_lvS (lv' := [(0, .ref 106), (1, iv p1), (2, iv p2), (3, iv 1), (4, iv (z103 + 1))]) (List.forall_mem_cons.mpr ⟨rfl, List.forall_mem_cons.mpr ⟨rfl, List.forall_mem_cons.mpr ⟨rfl, List.forall_mem_cons.mpr ⟨rfl, List.forall_mem_cons.mpr ⟨rfl, fun _ h => absurd h List.not_mem_nil⟩⟩⟩⟩⟩) ?_
        exact ih112 1 (z103 + 1) trivial (rW (c := 0) (d := 1) (rR (x := 1)) rfl) (rW (c := 0) (d := 8) (rAdd (e := 1) (f := 8) h125 (rR (x := 1)) rfl) rfl) (vc_X12_marked_6 (nS h111) h124 h125 h126)
      have h134 : 0 ≤ z104 ∧ z104 ≤ 0 := (vc_X12_ring_22 h132 h106)
      refine xsv_aload_n (pc := 25) dX12_marked_25 rfl rfl ?_
      refine xgf_X12_32 (pc := 26) dX12_marked_26 wF_X12_148 (A_106 hw) hT ?_
      refine xmr_bipush (pc := 29) (z := 40) dX12_marked_29 (by decide) ?_
      refine xmr_iload_n (pc := 31) (z := p1) dX12_marked_31 rfl rfl ?_
      refine xmr_imul (pc := 32) (x := 40) (y := p1) dX12_marked_32 ?_
      refine xmr_bipush (pc := 33) (z := 26) dX12_marked_33 (by decide) ?_
      refine xmr_iadd (pc := 35) (x := (40 * p1)) (y := 26) dX12_marked_35 ?_
      refine xmr_iload (pc := 36) (z := z103) dX12_marked_36 rfl ?_
      refine xmr_iadd (pc := 38) (x := ((40 * p1) + 26)) (y := z103) dX12_marked_38 ?_
      refine xla_126 (hS := hR _ (by omega) (by omega)) (pc := 39) dX12_marked_39 (A_126 hw) hT (rIx (n := 84000) (rAdd (e := 26) (f := 83993) (rAdd (e := 26) (f := 83986) (rMulL (n := 40) (e := 0) (f := 83960) hp1 rfl) (rR (x := 26)) rfl) h125 rfl) rfl) fun z135 q136 h137 => ?_
      refine xmr_iload_n (pc := 40) (z := p2) dX12_marked_40 rfl rfl ?_
      refine xmr_icmp_ne (pc := 41) (tgt := 48) dX12_marked_41 (by decide) h137.1 hp2 (fun h138 => ?_) (fun h138 => ?_)
      · refine xmr_iconst (pc := 48) (z := 0) dX12_marked_48 ?_
        refine xmr_istore_n (pc := 49) (lv' := [(3, iv 0), (0, .ref 106), (1, iv p1), (2, iv p2), (4, iv z103)]) dX12_marked_49 rfl (by decide) rfl ?_
        refine xmr_iinc (pc := 50) (lv' := [(4, iv (z103 + 1)), (3, iv 0), (0, .ref 106), (1, iv p1), (2, iv p2)]) dX12_marked_50 rfl (by decide) rfl ?_
        refine xsv_goto (pc := 53) (tgt := 5) dX12_marked_53 (by decide) ?_
        refine xmr_lvS (lv' := [(0, .ref 106), (1, iv p1), (2, iv p2), (3, iv 0), (4, iv (z103 + 1))]) (List.forall_mem_cons.mpr ⟨rfl, List.forall_mem_cons.mpr ⟨rfl, List.forall_mem_cons.mpr ⟨rfl, List.forall_mem_cons.mpr ⟨rfl, List.forall_mem_cons.mpr ⟨rfl, fun _ h => absurd h List.not_mem_nil⟩⟩⟩⟩⟩) ?_
        exact ih112 0 (z103 + 1) trivial (rW (c := 0) (d := 1) (rR (x := 0)) rfl) (rW (c := 0) (d := 8) (rAdd (e := 1) (f := 8) h125 (rR (x := 1)) rfl) rfl) (vc_X12_marked_8 (nS h111) h124 h137.2.1 h137.2.2.1 h137.2.2.2 h138 hp1 hp2 h125 h126 h137.1)
      refine xmr_iconst (pc := 44) (z := 1) dX12_marked_44 ?_
      refine xsv_goto (pc := 45) (tgt := 49) dX12_marked_45 (by decide) ?_
      refine xmr_istore_n (pc := 49) (lv' := [(3, iv 1), (0, .ref 106), (1, iv p1), (2, iv p2), (4, iv z103)]) dX12_marked_49 rfl (by decide) rfl ?_
      refine xmr_iinc (pc := 50) (lv' := [(4, iv (z103 + 1)), (3, iv 1), (0, .ref 106), (1, iv p1), (2, iv p2)]) dX12_marked_50 rfl (by decide) rfl ?_
      refine xsv_goto (pc := 53) (tgt := 5) dX12_marked_53 (by decide) ?_
      refine xmr_lvS (lv' := [(0, .ref 106), (1, iv p1), (2, iv p2), (3, iv 1), (4, iv (z103 + 1))]) (List.forall_mem_cons.mpr ⟨rfl, List.forall_mem_cons.mpr ⟨rfl, List.forall_mem_cons.mpr ⟨rfl, List.forall_mem_cons.mpr ⟨rfl, List.forall_mem_cons.mpr ⟨rfl, fun _ h => absurd h List.not_mem_nil⟩⟩⟩⟩⟩) ?_
      exact ih112 1 (z103 + 1) trivial (rW (c := 0) (d := 1) (rR (x := 1)) rfl) (rW (c := 0) (d := 8) (rAdd (e := 1) (f := 8) h125 (rR (x := 1)) rfl) rfl) (vc_X12_marked_9 (nS h111) h124 h137.2.1 h137.2.2.1 h137.2.2.2 h138 hp1 hp2 h125 h126 h137.1)
  refine xmr_lvS (lv' := [(0, .ref 106), (1, iv p1), (2, iv p2), (3, iv 0), (4, iv 0)]) (List.forall_mem_cons.mpr ⟨rfl, List.forall_mem_cons.mpr ⟨rfl, List.forall_mem_cons.mpr ⟨rfl, List.forall_mem_cons.mpr ⟨rfl, List.forall_mem_cons.mpr ⟨rfl, fun _ h => absurd h List.not_mem_nil⟩⟩⟩⟩⟩) ?_
  exact L105 10 0 0 trivial (rW (c := 0) (d := 1) (rR (x := 0)) rfl) (rW (c := 0) (d := 8) (rR (x := 0)) rfl) vc_X12_marked_10

set_option maxRecDepth 4000 in
set_option maxHeartbeats 4000000 in
theorem cx_X12_addMark {l : Launch} {D : va_G} {c : Nat → ClassId} {H0 : Heap} {sa : Nat × Nat × (Nat → Int32)} {w : mW} {μ : mM} {K : (Nat → Int) → (Nat → Int) → Prop} {W S : Nat → Nat → Prop} (hw : mWF w) (hT : mT w μ) {p1 : Int} (hp1 : 0 ≤ p1 ∧ p1 ≤ 2099) {p2 : Int} (hp2 : (-2147483648) ≤ p2 ∧ p2 ≤ 2147483647) (hR : ∀ i : Nat, 40 * p1 ≤ (i : Int) → (i : Int) < 40 * p1 + 40 → S 126 i) (hW : ∀ i : Nat, 40 * p1 ≤ (i : Int) → (i : Int) < 40 * p1 + 40 → W 126 i) : VC l D c H0 sa K W S S mX12_addMark 2 [.ref 106, iv p1, iv p2] μ (xqV w [126999] μ (fun μ1 => mG [(((40 * p1) + 1), ((40 * p1) + 40))] μ μ1 ∧ True)) := by
  refine VC.of rfl (by decide) (le_t rfl) ?_
  refine xmr_lvE (lv' := [(0, .ref 106), (1, iv p1), (2, iv p2)]) rfl ?_
  refine xsv_aload_n (pc := 0) dX12_addMark_0 rfl rfl ?_
  refine xgf_X12_32 (pc := 1) dX12_addMark_1 wF_X12_148 (A_106 hw) hT ?_
  refine xmr_bipush (pc := 4) (z := 40) dX12_addMark_4 (by decide) ?_
  refine xmr_iload_n (pc := 6) (z := p1) dX12_addMark_6 rfl rfl ?_
  refine xmr_imul (pc := 7) (x := 40) (y := p1) dX12_addMark_7 ?_
  refine xmr_iconst (pc := 8) (z := 5) dX12_addMark_8 ?_
  refine xmr_iadd (pc := 9) (x := (40 * p1)) (y := 5) dX12_addMark_9 ?_
  refine xla_126 (hS := hR _ (by omega) (by omega)) (pc := 10) dX12_addMark_10 (A_126 hw) hT (rIx (n := 84000) (rAdd (e := 5) (f := 83965) (rMulL (n := 40) (e := 0) (f := 83960) hp1 rfl) (rR (x := 5)) rfl) rfl) fun z1 q2 h3 => ?_
  have h4 : 0 ≤ z1 ∧ z1 ≤ 8 := h3.2.2.2 (vc_X12_marked_2 hp1)
  refine xmr_istore_n (pc := 11) (lv' := [(3, iv z1), (0, .ref 106), (1, iv p1), (2, iv p2)]) dX12_addMark_11 rfl (by decide) rfl ?_
  refine xmr_iload_n (pc := 12) (z := z1) dX12_addMark_12 rfl rfl ?_
  refine xmr_bipush (pc := 13) (z := 8) dX12_addMark_13 (by decide) ?_
  refine xmr_icmp_eq (pc := 15) (tgt := 27) dX12_addMark_15 (by decide) (r32 h4 rfl) (r32 (rR (x := 8)) rfl) (fun h5 => ?_) (fun h5 => ?_)
  · have h6 : 8 ≤ z1 ∧ z1 ≤ 8 := (vc_X12_addMark_2 h5 h4)
    exact xmr_vret dX12_addMark_27 rfl (le_t rfl) (le_t rfl) hT mF.refl ⟨mG.refl, trivial⟩
  have h7 : 0 ≤ z1 ∧ z1 ≤ 7 := (vc_X12_addMark_3 h5 h4)
  refine xsv_aload_n (pc := 18) dX12_addMark_18 rfl rfl ?_
  refine xmr_iload_n (pc := 19) (z := p1) dX12_addMark_19 rfl rfl ?_
  refine xmr_iload_n (pc := 20) (z := p2) dX12_addMark_20 rfl rfl ?_
  refine xmr_cVP (pc := 21) (cx_X12_marked hw hT hp1 hp2 hR) (gOk _ _ _ _ _) dX12_addMark_21 (tX12_marked _ _ _ _ _) ⟨wV_X12_marked, wL_X12_marked⟩ wM_X12_154 (gCX12 _ _ _ _ _) rfl (A_106 hw) rfl ⟨le_t rfl, le_t rfl⟩ ⟨le_t rfl, le_t rfl⟩ rfl (le_t rfl) fun z12 h11 => ?_
  refine xmr_if_eq (pc := 24) (tgt := 28) dX12_addMark_24 (by decide) (r32 h11.1 rfl) (fun h13 => ?_) (fun h13 => ?_)
  · have h14 : 0 ≤ z12 ∧ z12 ≤ 0 := (vc_X12_ring_22 h13 h11.1)
    refine xmr_bipush (pc := 28) (z := 40) dX12_addMark_28 (by decide) ?_
    refine xmr_iload_n (pc := 30) (z := p1) dX12_addMark_30 rfl rfl ?_
    refine xmr_imul (pc := 31) (x := 40) (y := p1) dX12_addMark_31 ?_
    refine xmr_bipush (pc := 32) (z := 26) dX12_addMark_32 (by decide) ?_
    refine xmr_iadd (pc := 34) (x := (40 * p1)) (y := 26) dX12_addMark_34 ?_
    refine xmr_iload_n (pc := 35) (z := z1) dX12_addMark_35 rfl rfl ?_
    refine xmr_iadd (pc := 36) (x := ((40 * p1) + 26)) (y := z1) dX12_addMark_36 ?_
    refine xmr_istore (pc := 37) (lv' := [(4, iv (((40 * p1) + 26) + z1)), (3, iv z1), (0, .ref 106), (1, iv p1), (2, iv p2)]) dX12_addMark_37 (by decide) rfl ?_
    have L63 : ∀ (nL63 : Nat) (z61 : Int) (μ62 : mM) (f_n : Int), mT w μ62 → mF [126999] w μ μ62 → mG [(((40 * p1) + 1), ((40 * p1) + 40))] μ μ62 → μ62 126 (((40 * p1) + 5).toNat) = f_n → (26 ≤ z61 ∧ z61 ≤ 83993) → (40 * p1 + 26 ≤ z61) → (z61 ≤ 40 * p1 + 33) → (f_n ≤ 7) → (z61 - 25) < (nL63 : Int) → VS l D c H0 sa K W S S mX12_addMark (sRm 2 0 0) ((xqV w [126999] μ (fun μ1 => mG [(((40 * p1) + 1), ((40 * p1) + 40))] μ μ1 ∧ True))) 39 [(0, .ref 106), (1, iv p1), (2, iv p2), (4, iv z61)] [] μ62 := by
      intro nL63
      induction nL63 with
      | zero => intro z61 μ62 f_n T65 F66 G67 q72 h64 h68 h69 h70 h71; exact ((vc_X12_addMark_5 h71 h68 h69 hp1 h64)).elim
      | succ nL63 ih73 =>
        intro z61 μ62 f_n T65 F66 G67 q72 h64 h68 h69 h70 h71
        have h74 := rt7 T65 (A_126 hw) (vc_X12_addMark_6 h68 h69 hp1 h64) q72
        have h75 : 0 ≤ f_n ∧ f_n ≤ 8 := h74.2.2.2 (vc_X12_addMark_7 h68 h69 hp1 h64)
        refine xmr_iload (pc := 39) (z := z61) dX12_addMark_39 rfl ?_
        refine xmr_bipush (pc := 41) (z := 40) dX12_addMark_41 (by decide) ?_
        refine xmr_iload_n (pc := 43) (z := p1) dX12_addMark_43 rfl rfl ?_
        refine xmr_imul (pc := 44) (x := 40) (y := p1) dX12_addMark_44 ?_
        refine xmr_bipush (pc := 45) (z := 26) dX12_addMark_45 (by decide) ?_
        refine xmr_iadd (pc := 47) (x := (40 * p1)) (y := 26) dX12_addMark_47 ?_
        have J86 : VS l D c H0 sa K W S S mX12_addMark (sRm 2 0 0) ((xqV w [126999] μ (fun μ1 => mG [(((40 * p1) + 1), ((40 * p1) + 40))] μ μ1 ∧ True))) 86 [(0, .ref 106), (1, iv p1), (2, iv p2), (4, iv z61)] [] μ62 := by
          refine xsv_aload_n (pc := 86) dX12_addMark_86 rfl rfl ?_
          refine xgf_X12_32 (pc := 87) dX12_addMark_87 wF_X12_148 (A_106 hw) T65 ?_
          refine xmr_iload (pc := 90) (z := z61) dX12_addMark_90 rfl ?_
          refine xmr_iload_n (pc := 92) (z := p2) dX12_addMark_92 rfl rfl ?_
          refine xss_126 (hW := hW _ (by omega) (by omega)) (pc := 93) dX12_addMark_93 (A_126 hw) T65 (rIx (n := 84000) h64 rfl) (vc_X12_addMark_8 h68 h69 hp1 hp2 h64) fun μ87 u88 T89 => ?_
          refine xsv_aload_n (pc := 94) dX12_addMark_94 rfl rfl ?_
          refine xgf_X12_32 (pc := 95) dX12_addMark_95 wF_X12_148 (A_106 hw) T89 ?_
          refine xmr_bipush (pc := 98) (z := 40) dX12_addMark_98 (by decide) ?_
          refine xmr_iload_n (pc := 100) (z := p1) dX12_addMark_100 rfl rfl ?_
          refine xmr_imul (pc := 101) (x := 40) (y := p1) dX12_addMark_101 ?_
          refine xmr_iconst (pc := 102) (z := 5) dX12_addMark_102 ?_
          refine xmr_iadd (pc := 103) (x := (40 * p1)) (y := 5) dX12_addMark_103 ?_
          refine xsv_dup2 (pc := 104) dX12_addMark_104 rfl rfl ?_
          refine xlk_126 (hS := hR _ (by omega) (by omega)) (pc := 105) dX12_addMark_105 (A_126 hw) (rIx (n := 84000) (rAdd (e := 5) (f := 83965) (rMulL (n := 40) (e := 0) (f := 83960) hp1 rfl) (rR (x := 5)) rfl) rfl) (u88.f (Or.inr (vc_X12_addMark_9 h68 h69 hp1 h64)) q72) ?_
          refine xmr_iconst (pc := 106) (z := 1) dX12_addMark_106 ?_
          refine xmr_iadd (pc := 107) (x := f_n) (y := 1) dX12_addMark_107 ?_
          refine xss_126 (hW := hW _ (by omega) (by omega)) (pc := 108) dX12_addMark_108 (A_126 hw) T89 (rIx (n := 84000) (rAdd (e := 5) (f := 83965) (rMulL (n := 40) (e := 0) (f := 83960) hp1 rfl) (rR (x := 5)) rfl) rfl) (vc_X12_addMark_10 h68 h69 h70 h75 hp1 h64) fun μ90 u91 T92 => ?_
          exact xmr_vret dX12_addMark_109 rfl (le_t rfl) (le_t rfl) T92 (mF.up (mF.up (mF.call mF.refl F66 rfl) (A_126 hw) u88 rfl) (A_126 hw) u91 rfl) ⟨(mG.up (mG.up (mG.call mG.refl G67 (List.forall_mem_cons.mpr ⟨⟨_, List.mem_cons_self, (vc_X12_addMark_11 h68 h69 hp1 h64)⟩, (fun _ h => absurd h List.not_mem_nil)⟩)) u88 List.mem_cons_self (vc_X12_addMark_12 h68 h69 hp1 h64)) u91 List.mem_cons_self (vc_X12_addMark_13 h68 h69 hp1 h64)), trivial⟩
        refine xmr_icmp_le (pc := 48) (tgt := 86) dX12_addMark_48 (by decide) (r32 h64 rfl) (r32 (rAdd (e := 26) (f := 83986) (rMulL (n := 40) (e := 0) (f := 83960) hp1 rfl) (rR (x := 26)) rfl) rfl) (fun h93 => ?_) (fun h93 => ?_)
        · have h94 : 26 ≤ z61 ∧ z61 ≤ 83986 := (vc_X12_addMark_14 h93 h68 h69 hp1 h64)
          exact J86 
        have h95 : 27 ≤ z61 ∧ z61 ≤ 83993 := (vc_X12_addMark_15 h93 h68 h69 hp1 h64)
        refine xsv_aload_n (pc := 51) dX12_addMark_51 rfl rfl ?_
        refine xgf_X12_32 (pc := 52) dX12_addMark_52 wF_X12_148 (A_106 hw) T65 ?_
        refine xmr_iload (pc := 55) (z := z61) dX12_addMark_55 rfl ?_
        refine xmr_iconst (pc := 57) (z := 1) dX12_addMark_57 ?_
        refine xmr_isub (pc := 58) (x := z61) (y := 1) dX12_addMark_58 ?_
        refine xla_126 (hS := hR _ (by omega) (by omega)) (pc := 59) dX12_addMark_59 (A_126 hw) T65 (rIx (n := 84000) (rSub (e := 26) (f := 83992) h95 (rR (x := 1)) rfl) rfl) fun z96 q97 h98 => ?_
        refine xmr_iload_n (pc := 60) (z := p2) dX12_addMark_60 rfl rfl ?_
        refine xmr_icmp_le (pc := 61) (tgt := 86) dX12_addMark_61 (by decide) h98.1 hp2 (fun h99 => ?_) (fun h99 => ?_)
        · exact J86 
        have h100 : (-2147483647) ≤ z96 ∧ z96 ≤ 2147483647 := (vc_X12_addMark_16 h99 h98.2.1 h98.2.2.1 h98.2.2.2 hp2 h95 h98.1)
        have h101 : (-2147483648) ≤ p2 ∧ p2 ≤ 2147483646 := (vc_X12_addMark_17 h99 h98.2.1 h98.2.2.1 h98.2.2.2 hp2 h95 h100)
        refine xsv_aload_n (pc := 64) dX12_addMark_64 rfl rfl ?_
        refine xgf_X12_32 (pc := 65) dX12_addMark_65 wF_X12_148 (A_106 hw) T65 ?_
        refine xmr_iload (pc := 68) (z := z61) dX12_addMark_68 rfl ?_
        refine xsv_aload_n (pc := 70) dX12_addMark_70 rfl rfl ?_
        refine xgf_X12_32 (pc := 71) dX12_addMark_71 wF_X12_148 (A_106 hw) T65 ?_
        refine xmr_iload (pc := 74) (z := z61) dX12_addMark_74 rfl ?_
        refine xmr_iconst (pc := 76) (z := 1) dX12_addMark_76 ?_
        refine xmr_isub (pc := 77) (x := z61) (y := 1) dX12_addMark_77 ?_
        refine xlk_126 (hS := hR _ (by omega) (by omega)) (pc := 78) dX12_addMark_78 (A_126 hw) (rIx (n := 84000) (rSub (e := 26) (f := 83992) h95 (rR (x := 1)) rfl) rfl) q97 ?_
        refine xss_126 (hW := hW _ (by omega) (by omega)) (pc := 79) dX12_addMark_79 (A_126 hw) T65 (rIx (n := 84000) h95 rfl) (vc_X12_addMark_18 h68 h69 h93 h98.2.1 h98.2.2.1 h98.2.2.2 h99 hp1 h101 h95 h100) fun μ102 u103 T104 => ?_
        refine xmr_iinc (pc := 80) (lv' := [(4, iv (z61 + (-1))), (0, .ref 106), (1, iv p1), (2, iv p2)]) dX12_addMark_80 rfl (by decide) rfl ?_
        refine xsv_goto (pc := 83) (tgt := 39) dX12_addMark_83 (by decide) ?_
        refine xmr_lvS (lv' := [(0, .ref 106), (1, iv p1), (2, iv p2), (4, iv (z61 + (-1)))]) (List.forall_mem_cons.mpr ⟨rfl, List.forall_mem_cons.mpr ⟨rfl, List.forall_mem_cons.mpr ⟨rfl, List.forall_mem_cons.mpr ⟨rfl, fun _ h => absurd h List.not_mem_nil⟩⟩⟩⟩) ?_
        exact ih73 (z61 + (-1)) μ102 f_n T104 (mF.up (mF.call mF.refl F66 rfl) (A_126 hw) u103 rfl) (mG.up (mG.call mG.refl G67 (List.forall_mem_cons.mpr ⟨⟨_, List.mem_cons_self, (vc_X12_addMark_24 h68 h69 h93 h98.2.1 h98.2.2.1 h98.2.2.2 hp1 h95 h100)⟩, (fun _ h => absurd h List.not_mem_nil)⟩)) u103 List.mem_cons_self (vc_X12_addMark_25 h68 h69 h93 h98.2.1 h98.2.2.1 h98.2.2.2 h99 hp1 h101 h95 h100)) (u103.f (Or.inr (vc_X12_addMark_19 h68 h69 h93 h98.2.1 h98.2.2.1 h98.2.2.2 h99 hp1 h101 h95 h100)) q72) (rW (c := 26) (d := 83993) (rAdd (e := 26) (f := 83992) h95 (rR (x := (-1))) rfl) rfl) (vc_X12_addMark_20 h68 h69 h93 h98.2.1 h98.2.2.1 h98.2.2.2 h99 hp1 h101 h95 h100) (vc_X12_addMark_21 h68 h69 h93 h98.2.1 h98.2.2.1 h98.2.2.2 h99 hp1 h101 h95 h100) (vc_X12_addMark_22 h70 h75) (vc_X12_addMark_23 (nS h71) h68 h69 h93 h98.2.1 h98.2.2.1 h98.2.2.2 h99 hp1 h101 h95 h100)
    refine xmr_lvS (lv' := [(0, .ref 106), (1, iv p1), (2, iv p2), (4, iv (((40 * p1) + 26) + z1))]) (List.forall_mem_cons.mpr ⟨rfl, List.forall_mem_cons.mpr ⟨rfl, List.forall_mem_cons.mpr ⟨rfl, List.forall_mem_cons.mpr ⟨rfl, fun _ h => absurd h List.not_mem_nil⟩⟩⟩⟩) ?_
    exact L63 83969 (((40 * p1) + 26) + z1) μ z1 hT mF.refl mG.refl q2 (rAdd (e := 26) (f := 83993) (rAdd (e := 26) (f := 83986) (rMulL (n := 40) (e := 0) (f := 83960) hp1 rfl) (rR (x := 26)) rfl) h7 rfl) (vc_X12_addMark_26 h5 hp1 h7) (vc_X12_addMark_27 h5 hp1 h7) (vc_X12_addMark_28 h5 h7) (vc_X12_addMark_29 h5 hp1 h7)
  have h105 : 1 ≤ z12 ∧ z12 ≤ 1 := (vc_X12_ring_24 h13 h11.1)
  exact xmr_vret dX12_addMark_27 rfl (le_t rfl) (le_t rfl) hT mF.refl ⟨mG.refl, trivial⟩

set_option maxRecDepth 4000 in
set_option maxHeartbeats 4000000 in
theorem cx_X12_dropMark {l : Launch} {D : va_G} {c : Nat → ClassId} {H0 : Heap} {sa : Nat × Nat × (Nat → Int32)} {w : mW} {μ : mM} {K : (Nat → Int) → (Nat → Int) → Prop} {W S : Nat → Nat → Prop} (hw : mWF w) (hT : mT w μ) {p1 : Int} (hp1 : 0 ≤ p1 ∧ p1 ≤ 2099) {p2 : Int} (hp2 : (-2147483648) ≤ p2 ∧ p2 ≤ 2147483647) (hR : ∀ i : Nat, 40 * p1 ≤ (i : Int) → (i : Int) < 40 * p1 + 40 → S 126 i) (hW : ∀ i : Nat, 40 * p1 ≤ (i : Int) → (i : Int) < 40 * p1 + 40 → W 126 i) : VC l D c H0 sa K W S S mX12_dropMark 2 [.ref 106, iv p1, iv p2] μ (xqV w [126999] μ (fun μ1 => mG [(((40 * p1) + 1), ((40 * p1) + 40))] μ μ1 ∧ True)) := by
  refine VC.of rfl (by decide) (le_t rfl) ?_
  refine xmr_lvE (lv' := [(0, .ref 106), (1, iv p1), (2, iv p2)]) rfl ?_
  refine xsv_aload_n (pc := 0) dX12_dropMark_0 rfl rfl ?_
  refine xmr_iload_n (pc := 1) (z := p1) dX12_dropMark_1 rfl rfl ?_
  refine xmr_iload_n (pc := 2) (z := p2) dX12_dropMark_2 rfl rfl ?_
  refine xmr_cVP (pc := 3) (cx_X12_marked hw hT hp1 hp2 hR) (gOk _ _ _ _ _) dX12_dropMark_3 (tX12_marked _ _ _ _ _) ⟨wV_X12_marked, wL_X12_marked⟩ wM_X12_154 (gCX12 _ _ _ _ _) rfl (A_106 hw) rfl ⟨le_t rfl, le_t rfl⟩ ⟨le_t rfl, le_t rfl⟩ rfl (le_t rfl) fun z5 h4 => ?_
  refine xmr_if_ne (pc := 6) (tgt := 10) dX12_dropMark_6 (by decide) (r32 h4.1 rfl) (fun h6 => ?_) (fun h6 => ?_)
  · have h7 : 1 ≤ z5 ∧ z5 ≤ 1 := (vc_X12_ring_24 h6 h4.1)
    refine xmr_iconst (pc := 10) (z := 0) dX12_dropMark_10 ?_
    refine xmr_istore_n (pc := 11) (lv' := [(3, iv 0), (0, .ref 106), (1, iv p1), (2, iv p2)]) dX12_dropMark_11 rfl (by decide) rfl ?_
    refine xmr_iconst (pc := 12) (z := 0) dX12_dropMark_12 ?_
    refine xmr_istore (pc := 13) (lv' := [(4, iv 0), (3, iv 0), (0, .ref 106), (1, iv p1), (2, iv p2)]) dX12_dropMark_13 (by decide) rfl ?_
    have L151 : ∀ (nL151 : Nat) (z149 z148 : Int) (μ150 : mM), mT w μ150 → mF [126999] w μ μ150 → mG [(((40 * p1) + 1), ((40 * p1) + 40))] μ μ150 → (0 ≤ z149 ∧ z149 ≤ 8) → (0 ≤ z148 ∧ z148 ≤ 8) → (z149 ≤ z148) → (z148 ≤ 8) → (9 - z148) < (nL151 : Int) → VS l D c H0 sa K W S S mX12_dropMark (sRm 2 0 0) ((xqV w [126999] μ (fun μ1 => mG [(((40 * p1) + 1), ((40 * p1) + 40))] μ μ1 ∧ True))) 15 [(0, .ref 106), (1, iv p1), (2, iv p2), (3, iv z149), (4, iv z148)] [] μ150 := by
      intro nL151
      induction nL151 with
      | zero => intro z149 z148 μ150 T154 F155 G156 h152 h153 h157 h158 h159; exact ((vc_X12_dropMark_2 h159 h157 h158 h153 h152)).elim
      | succ nL151 ih160 =>
        intro z149 z148 μ150 T154 F155 G156 h152 h153 h157 h158 h159
        refine xmr_iload (pc := 15) (z := z148) dX12_dropMark_15 rfl ?_
        refine xsv_aload_n (pc := 17) dX12_dropMark_17 rfl rfl ?_
        refine xgf_X12_32 (pc := 18) dX12_dropMark_18 wF_X12_148 (A_106 hw) T154 ?_
        refine xmr_bipush (pc := 21) (z := 40) dX12_dropMark_21 (by decide) ?_
        refine xmr_iload_n (pc := 23) (z := p1) dX12_dropMark_23 rfl rfl ?_
        refine xmr_imul (pc := 24) (x := 40) (y := p1) dX12_dropMark_24 ?_
        refine xmr_iconst (pc := 25) (z := 5) dX12_dropMark_25 ?_
        refine xmr_iadd (pc := 26) (x := (40 * p1)) (y := 5) dX12_dropMark_26 ?_
        refine xla_126 (hS := hR _ (by omega) (by omega)) (pc := 27) dX12_dropMark_27 (A_126 hw) T154 (rIx (n := 84000) (rAdd (e := 5) (f := 83965) (rMulL (n := 40) (e := 0) (f := 83960) hp1 rfl) (rR (x := 5)) rfl) rfl) fun z161 q162 h163 => ?_
        have h164 : 0 ≤ z161 ∧ z161 ≤ 8 := h163.2.2.2 (vc_X12_marked_2 hp1)
        refine xmr_icmp_ge (pc := 28) (tgt := 79) dX12_dropMark_28 (by decide) (r32 h153 rfl) (r32 h164 rfl) (fun h173 => ?_) (fun h173 => ?_)
        · refine xsv_aload_n (pc := 79) dX12_dropMark_79 rfl rfl ?_
          refine xgf_X12_32 (pc := 80) dX12_dropMark_80 wF_X12_148 (A_106 hw) T154 ?_
          refine xmr_bipush (pc := 83) (z := 40) dX12_dropMark_83 (by decide) ?_
          refine xmr_iload_n (pc := 85) (z := p1) dX12_dropMark_85 rfl rfl ?_
          refine xmr_imul (pc := 86) (x := 40) (y := p1) dX12_dropMark_86 ?_
          refine xmr_iconst (pc := 87) (z := 5) dX12_dropMark_87 ?_
          refine xmr_iadd (pc := 88) (x := (40 * p1)) (y := 5) dX12_dropMark_88 ?_
          refine xmr_iload_n (pc := 89) (z := z149) dX12_dropMark_89 rfl rfl ?_
          refine xss_126 (hW := hW _ (by omega) (by omega)) (pc := 90) dX12_dropMark_90 (A_126 hw) T154 (rIx (n := 84000) (rAdd (e := 5) (f := 83965) (rMulL (n := 40) (e := 0) (f := 83960) hp1 rfl) (rR (x := 5)) rfl) rfl) (vc_X12_dropMark_4 h157 h158 h173 hp1 h153 h152 h164) fun μ174 u175 T176 => ?_
          exact xmr_vret dX12_dropMark_91 rfl (le_t rfl) (le_t rfl) T176 (mF.up (mF.call mF.refl F155 rfl) (A_126 hw) u175 rfl) ⟨(mG.up (mG.call mG.refl G156 (List.forall_mem_cons.mpr ⟨⟨_, List.mem_cons_self, (vc_X12_dropMark_5 hp1)⟩, (fun _ h => absurd h List.not_mem_nil)⟩)) u175 List.mem_cons_self (vc_X12_dropMark_6 hp1)), trivial⟩
        have h177 : 0 ≤ z148 ∧ z148 ≤ 7 := (vc_X12_dropMark_7 h173 h157 h158 h153 h152 h164)
        have h178 : 1 ≤ z161 ∧ z161 ≤ 8 := (vc_X12_dropMark_8 h173 h157 h158 h177 h152 h164)
        refine xsv_aload_n (pc := 31) dX12_dropMark_31 rfl rfl ?_
        refine xgf_X12_32 (pc := 32) dX12_dropMark_32 wF_X12_148 (A_106 hw) T154 ?_
        refine xmr_bipush (pc := 35) (z := 40) dX12_dropMark_35 (by decide) ?_
        refine xmr_iload_n (pc := 37) (z := p1) dX12_dropMark_37 rfl rfl ?_
        refine xmr_imul (pc := 38) (x := 40) (y := p1) dX12_dropMark_38 ?_
        refine xmr_bipush (pc := 39) (z := 26) dX12_dropMark_39 (by decide) ?_
        refine xmr_iadd (pc := 41) (x := (40 * p1)) (y := 26) dX12_dropMark_41 ?_
        refine xmr_iload (pc := 42) (z := z148) dX12_dropMark_42 rfl ?_
        refine xmr_iadd (pc := 44) (x := ((40 * p1) + 26)) (y := z148) dX12_dropMark_44 ?_
        refine xla_126 (hS := hR _ (by omega) (by omega)) (pc := 45) dX12_dropMark_45 (A_126 hw) T154 (rIx (n := 84000) (rAdd (e := 26) (f := 83993) (rAdd (e := 26) (f := 83986) (rMulL (n := 40) (e := 0) (f := 83960) hp1 rfl) (rR (x := 26)) rfl) h177 rfl) rfl) fun z179 q180 h181 => ?_
        refine xmr_istore (pc := 46) (lv' := [(5, iv z179), (0, .ref 106), (1, iv p1), (2, iv p2), (3, iv z149), (4, iv z148)]) dX12_dropMark_46 (by decide) rfl ?_
        refine xmr_iload (pc := 48) (z := z179) dX12_dropMark_48 rfl ?_
        refine xmr_iload_n (pc := 50) (z := p2) dX12_dropMark_50 rfl rfl ?_
        refine xmr_icmp_eq (pc := 51) (tgt := 73) dX12_dropMark_51 (by decide) h181.1 hp2 (fun h185 => ?_) (fun h185 => ?_)
        · refine xmr_iinc (pc := 73) (lv' := [(4, iv (z148 + 1)), (5, iv z179), (0, .ref 106), (1, iv p1), (2, iv p2), (3, iv z149)]) dX12_dropMark_73 rfl (by decide) rfl ?_
          refine xsv_goto (pc := 76) (tgt := 15) dX12_dropMark_76 (by decide) ?_
          refine xmr_lvS (lv' := [(0, .ref 106), (1, iv p1), (2, iv p2), (3, iv z149), (4, iv (z148 + 1))]) (List.forall_mem_cons.mpr ⟨rfl, List.forall_mem_cons.mpr ⟨rfl, List.forall_mem_cons.mpr ⟨rfl, List.forall_mem_cons.mpr ⟨rfl, List.forall_mem_cons.mpr ⟨rfl, fun _ h => absurd h List.not_mem_nil⟩⟩⟩⟩⟩) ?_
          exact ih160 z149 (z148 + 1) μ150 T154 (mF.call mF.refl F155 rfl) (mG.call mG.refl G156 (List.forall_mem_cons.mpr ⟨⟨_, List.mem_cons_self, (vc_X12_dropMark_12 h181.2.1 h181.2.2.1 h181.2.2.2 h157 h158 h173 h185 hp1 hp2 h177 h152 h178 h181.1)⟩, (fun _ h => absurd h List.not_mem_nil)⟩)) h152 (rW (c := 0) (d := 8) (rAdd (e := 1) (f := 8) h177 (rR (x := 1)) rfl) rfl) (vc_X12_dropMark_9 h157 h158 h173 h181.2.1 h181.2.2.1 h181.2.2.2 h185 hp1 hp2 h177 h152 h178 h181.1) (vc_X12_dropMark_10 h157 h158 h173 h181.2.1 h181.2.2.1 h181.2.2.2 h185 hp1 hp2 h177 h152 h178 h181.1) (vc_X12_dropMark_11 (nS h159) h157 h158 h173 h181.2.1 h181.2.2.1 h181.2.2.2 h185 hp1 hp2 h177 h152 h178 h181.1)
        refine xsv_aload_n (pc := 54) dX12_dropMark_54 rfl rfl ?_
        refine xgf_X12_32 (pc := 55) dX12_dropMark_55 wF_X12_148 (A_106 hw) T154 ?_
        refine xmr_bipush (pc := 58) (z := 40) dX12_dropMark_58 (by decide) ?_
        refine xmr_iload_n (pc := 60) (z := p1) dX12_dropMark_60 rfl rfl ?_
        refine xmr_imul (pc := 61) (x := 40) (y := p1) dX12_dropMark_61 ?_
        refine xmr_bipush (pc := 62) (z := 26) dX12_dropMark_62 (by decide) ?_
        refine xmr_iadd (pc := 64) (x := (40 * p1)) (y := 26) dX12_dropMark_64 ?_
        refine xmr_iload_n (pc := 65) (z := z149) dX12_dropMark_65 rfl rfl ?_
        refine xmr_iadd (pc := 66) (x := ((40 * p1) + 26)) (y := z149) dX12_dropMark_66 ?_
        refine xmr_iload (pc := 67) (z := z179) dX12_dropMark_67 rfl ?_
        refine xss_126 (hW := hW _ (by omega) (by omega)) (pc := 69) dX12_dropMark_69 (A_126 hw) T154 (rIx (n := 84000) (rAdd (e := 26) (f := 83994) (rAdd (e := 26) (f := 83986) (rMulL (n := 40) (e := 0) (f := 83960) hp1 rfl) (rR (x := 26)) rfl) h152 rfl) rfl) (vc_X12_dropMark_13 h157 h181.2.1 h181.2.2.1 h181.2.2.2 h185 h158 h173 hp1 hp2 h177 h152 h178 h181.1) fun μ186 u187 T188 => ?_
        refine xmr_iinc (pc := 70) (lv' := [(3, iv (z149 + 1)), (5, iv z179), (0, .ref 106), (1, iv p1), (2, iv p2), (4, iv z148)]) dX12_dropMark_70 rfl (by decide) rfl ?_
        refine xmr_iinc (pc := 73) (lv' := [(4, iv (z148 + 1)), (3, iv (z149 + 1)), (5, iv z179), (0, .ref 106), (1, iv p1), (2, iv p2)]) dX12_dropMark_73 rfl (by decide) rfl ?_
        refine xsv_goto (pc := 76) (tgt := 15) dX12_dropMark_76 (by decide) ?_
        refine xmr_lvS (lv' := [(0, .ref 106), (1, iv p1), (2, iv p2), (3, iv (z149 + 1)), (4, iv (z148 + 1))]) (List.forall_mem_cons.mpr ⟨rfl, List.forall_mem_cons.mpr ⟨rfl, List.forall_mem_cons.mpr ⟨rfl, List.forall_mem_cons.mpr ⟨rfl, List.forall_mem_cons.mpr ⟨rfl, fun _ h => absurd h List.not_mem_nil⟩⟩⟩⟩⟩) ?_
        exact ih160 (z149 + 1) (z148 + 1) μ186 T188 (mF.up (mF.call mF.refl F155 rfl) (A_126 hw) u187 rfl) (mG.up (mG.call mG.refl G156 (List.forall_mem_cons.mpr ⟨⟨_, List.mem_cons_self, (vc_X12_dropMark_18 h181.2.1 h181.2.2.1 h181.2.2.2 h157 h158 h173 h185 hp1 hp2 h177 h152 h178 h181.1)⟩, (fun _ h => absurd h List.not_mem_nil)⟩)) u187 List.mem_cons_self (vc_X12_dropMark_19 h157 h181.2.1 h181.2.2.1 h181.2.2.2 h158 h173 h185 hp1 hp2 h177 h152 h178 h181.1)) (vc_X12_dropMark_14 h157 h158 h173 h181.2.1 h181.2.2.1 h181.2.2.2 hp1 h177 h152 h178 h181.1) (rW (c := 0) (d := 8) (rAdd (e := 1) (f := 8) h177 (rR (x := 1)) rfl) rfl) (vc_X12_dropMark_15 h157 h158 h173 h181.2.1 h181.2.2.1 h181.2.2.2 h185 hp1 hp2 h177 h152 h178 h181.1) (vc_X12_dropMark_16 h157 h158 h173 h181.2.1 h181.2.2.1 h181.2.2.2 h185 hp1 hp2 h177 h152 h178 h181.1) (vc_X12_dropMark_17 (nS h159) h157 h158 h173 h181.2.1 h181.2.2.1 h181.2.2.2 h185 hp1 hp2 h177 h152 h178 h181.1)
    refine xmr_lvS (lv' := [(0, .ref 106), (1, iv p1), (2, iv p2), (3, iv 0), (4, iv 0)]) (List.forall_mem_cons.mpr ⟨rfl, List.forall_mem_cons.mpr ⟨rfl, List.forall_mem_cons.mpr ⟨rfl, List.forall_mem_cons.mpr ⟨rfl, List.forall_mem_cons.mpr ⟨rfl, fun _ h => absurd h List.not_mem_nil⟩⟩⟩⟩⟩) ?_
    exact L151 10 0 0 μ hT mF.refl mG.refl (rW (c := 0) (d := 8) (rR (x := 0)) rfl) (rW (c := 0) (d := 8) (rR (x := 0)) rfl) vc_X12_dropMark_20 vc_X12_dropMark_21 vc_X12_marked_10
  have h189 : 0 ≤ z5 ∧ z5 ≤ 0 := (vc_X12_ring_22 h6 h4.1)
  exact xmr_vret dX12_dropMark_9 rfl (le_t rfl) (le_t rfl) hT mF.refl ⟨mG.refl, trivial⟩

set_option maxRecDepth 4000 in
set_option maxHeartbeats 4000000 in
theorem cx_X12_front {l : Launch} {D : va_G} {c : Nat → ClassId} {H0 : Heap} {sa : Nat × Nat × (Nat → Int32)} {w : mW} {μ : mM} {K : (Nat → Int) → (Nat → Int) → Prop} {W S : Nat → Nat → Prop} (hw : mWF w) (hT : mT w μ) {p1 : Int} (hp1 : 0 ≤ p1 ∧ p1 ≤ 2099) {p2 : Int} (hp2 : (-2147483648) ≤ p2 ∧ p2 ≤ 2147483647) (hR : ∀ i : Nat, 40 * p1 ≤ (i : Int) → (i : Int) < 40 * p1 + 40 → S 126 i) (hW : ∀ i : Nat, 40 * p1 ≤ (i : Int) → (i : Int) < 40 * p1 + 40 → W 126 i) : VC l D c H0 sa K W S S mX12_front 1 [.ref 106, iv p1, iv p2] μ (xqI w [126999] μ (fun z μ1 => (0 ≤ z ∧ z ≤ 1) ∧ mG [(((40 * p1) + 1), ((40 * p1) + 40))] μ μ1 ∧ True)) := by
  refine VC.of rfl (by decide) (le_t rfl) ?_
  refine xmr_lvE (lv' := [(0, .ref 106), (1, iv p1), (2, iv p2)]) rfl ?_
  refine xsv_aload_n (pc := 0) dX12_front_0 rfl rfl ?_
  refine xgf_X12_32 (pc := 1) dX12_front_1 wF_X12_148 (A_106 hw) hT ?_
  refine xmr_bipush (pc := 4) (z := 40) dX12_front_4 (by decide) ?_
  refine xmr_iload_n (pc := 6) (z := p1) dX12_front_6 rfl rfl ?_
  refine xmr_imul (pc := 7) (x := 40) (y := p1) dX12_front_7 ?_
  refine xmr_iconst (pc := 8) (z := 4) dX12_front_8 ?_
  refine xmr_iadd (pc := 9) (x := (40 * p1)) (y := 4) dX12_front_9 ?_
  refine xla_126 (hS := hR _ (by omega) (by omega)) (pc := 10) dX12_front_10 (A_126 hw) hT (rIx (n := 84000) (rAdd (e := 4) (f := 83964) (rMulL (n := 40) (e := 0) (f := 83960) hp1 rfl) (rR (x := 4)) rfl) rfl) fun z1 q2 h3 => ?_
  have h4 : 0 ≤ z1 ∧ z1 ≤ 20 := h3.2.2.1 (vc_X12_front_1 hp1)
  refine xmr_istore_n (pc := 11) (lv' := [(3, iv z1), (0, .ref 106), (1, iv p1), (2, iv p2)]) dX12_front_11 rfl (by decide) rfl ?_
  refine xmr_iload_n (pc := 12) (z := z1) dX12_front_12 rfl rfl ?_
  refine xmr_bipush (pc := 13) (z := 20) dX12_front_13 (by decide) ?_
  refine xmr_icmp_ne (pc := 15) (tgt := 20) dX12_front_15 (by decide) (r32 h4 rfl) (r32 (rR (x := 20)) rfl) (fun h5 => ?_) (fun h5 => ?_)
  · have h6 : 0 ≤ z1 ∧ z1 ≤ 19 := (vc_X12_front_2 h5 h4)
    refine xmr_iload_n (pc := 20) (z := z1) dX12_front_20 rfl rfl ?_
    refine xmr_istore (pc := 21) (lv' := [(4, iv z1), (3, iv z1), (0, .ref 106), (1, iv p1), (2, iv p2)]) dX12_front_21 (by decide) rfl ?_
    have L47 : ∀ (nL47 : Nat) (z45 : Int) (μ46 : mM) (f_n : Int), mT w μ46 → mF [126999] w μ μ46 → mG [(((40 * p1) + 1), ((40 * p1) + 40))] μ μ46 → μ46 126 (((40 * p1) + 4).toNat) = f_n → (0 ≤ z45 ∧ z45 ≤ 19) → (f_n ≤ 19) → (z45 - (-1)) < (nL47 : Int) → VS l D c H0 sa K W S S mX12_front (sRm 1 0 0) ((xqI w [126999] μ (fun z μ1 => (0 ≤ z ∧ z ≤ 1) ∧ mG [(((40 * p1) + 1), ((40 * p1) + 40))] μ μ1 ∧ True))) 23 [(0, .ref 106), (1, iv p1), (2, iv p2), (4, iv z45)] [] μ46 := by
      intro nL47
      induction nL47 with
      | zero => intro z45 μ46 f_n T49 F50 G51 q54 h48 h52 h53; exact ((vc_X12_front_3 h53 h48)).elim
      | succ nL47 ih55 =>
        intro z45 μ46 f_n T49 F50 G51 q54 h48 h52 h53
        have h56 := rt7 T49 (A_126 hw) (vc_X12_front_4 hp1) q54
        have h57 : 0 ≤ f_n ∧ f_n ≤ 20 := h56.2.2.1 (vc_X12_front_1 hp1)
        refine xmr_iload (pc := 23) (z := z45) dX12_front_23 rfl ?_
        refine xmr_if_le (pc := 25) (tgt := 63) dX12_front_25 (by decide) (r32 h48 rfl) (fun h66 => ?_) (fun h66 => ?_)
        · have h67 : 0 ≤ z45 ∧ z45 ≤ 0 := (vc_X12_front_5 h66 h48)
          refine xsv_aload_n (pc := 63) dX12_front_63 rfl rfl ?_
          refine xgf_X12_32 (pc := 64) dX12_front_64 wF_X12_148 (A_106 hw) T49 ?_
          refine xmr_bipush (pc := 67) (z := 40) dX12_front_67 (by decide) ?_
          refine xmr_iload_n (pc := 69) (z := p1) dX12_front_69 rfl rfl ?_
          refine xmr_imul (pc := 70) (x := 40) (y := p1) dX12_front_70 ?_
          refine xmr_bipush (pc := 71) (z := 6) dX12_front_71 (by decide) ?_
          refine xmr_iadd (pc := 73) (x := (40 * p1)) (y := 6) dX12_front_73 ?_
          refine xmr_iload_n (pc := 74) (z := p2) dX12_front_74 rfl rfl ?_
          refine xss_126 (hW := hW _ (by omega) (by omega)) (pc := 75) dX12_front_75 (A_126 hw) T49 (rIx (n := 84000) (rAdd (e := 6) (f := 83966) (rMulL (n := 40) (e := 0) (f := 83960) hp1 rfl) (rR (x := 6)) rfl) rfl) (vc_X12_front_6 hp1 hp2) fun μ68 u69 T70 => ?_
          refine xsv_aload_n (pc := 76) dX12_front_76 rfl rfl ?_
          refine xgf_X12_32 (pc := 77) dX12_front_77 wF_X12_148 (A_106 hw) T70 ?_
          refine xmr_bipush (pc := 80) (z := 40) dX12_front_80 (by decide) ?_
          refine xmr_iload_n (pc := 82) (z := p1) dX12_front_82 rfl rfl ?_
          refine xmr_imul (pc := 83) (x := 40) (y := p1) dX12_front_83 ?_
          refine xmr_iconst (pc := 84) (z := 4) dX12_front_84 ?_
          refine xmr_iadd (pc := 85) (x := (40 * p1)) (y := 4) dX12_front_85 ?_
          refine xsv_dup2 (pc := 86) dX12_front_86 rfl rfl ?_
          refine xlk_126 (hS := hR _ (by omega) (by omega)) (pc := 87) dX12_front_87 (A_126 hw) (rIx (n := 84000) (rAdd (e := 4) (f := 83964) (rMulL (n := 40) (e := 0) (f := 83960) hp1 rfl) (rR (x := 4)) rfl) rfl) (u69.f (Or.inr (vc_X12_front_7 hp1)) q54) ?_
          refine xmr_iconst (pc := 88) (z := 1) dX12_front_88 ?_
          refine xmr_iadd (pc := 89) (x := f_n) (y := 1) dX12_front_89 ?_
          refine xss_126 (hW := hW _ (by omega) (by omega)) (pc := 90) dX12_front_90 (A_126 hw) T70 (rIx (n := 84000) (rAdd (e := 4) (f := 83964) (rMulL (n := 40) (e := 0) (f := 83960) hp1 rfl) (rR (x := 4)) rfl) rfl) (vc_X12_front_8 h52 h57 hp1) fun μ71 u72 T73 => ?_
          refine xmr_iconst (pc := 91) (z := 1) dX12_front_91 ?_
          exact xmr_zret dX12_front_92 rfl (rW (c := 0) (d := 1) (rR (x := 1)) rfl) (le_t rfl) (le_t rfl) T73 (mF.up (mF.up (mF.call mF.refl F50 rfl) (A_126 hw) u69 rfl) (A_126 hw) u72 rfl) ⟨(rW (c := 0) (d := 1) (rR (x := 1)) rfl), (mG.up (mG.up (mG.call mG.refl G51 (List.forall_mem_cons.mpr ⟨⟨_, List.mem_cons_self, (vc_X12_dropMark_5 hp1)⟩, (fun _ h => absurd h List.not_mem_nil)⟩)) u69 List.mem_cons_self (vc_X12_front_10 hp1)) u72 List.mem_cons_self (vc_X12_front_11 hp1)), trivial⟩
        have h74 : 1 ≤ z45 ∧ z45 ≤ 19 := (vc_X12_front_12 h66 h48)
        refine xsv_aload_n (pc := 28) dX12_front_28 rfl rfl ?_
        refine xgf_X12_32 (pc := 29) dX12_front_29 wF_X12_148 (A_106 hw) T49 ?_
        refine xmr_bipush (pc := 32) (z := 40) dX12_front_32 (by decide) ?_
        refine xmr_iload_n (pc := 34) (z := p1) dX12_front_34 rfl rfl ?_
        refine xmr_imul (pc := 35) (x := 40) (y := p1) dX12_front_35 ?_
        refine xmr_bipush (pc := 36) (z := 6) dX12_front_36 (by decide) ?_
        refine xmr_iadd (pc := 38) (x := (40 * p1)) (y := 6) dX12_front_38 ?_
        refine xmr_iload (pc := 39) (z := z45) dX12_front_39 rfl ?_
        refine xmr_iadd (pc := 41) (x := ((40 * p1) + 6)) (y := z45) dX12_front_41 ?_
        refine xsv_aload_n (pc := 42) dX12_front_42 rfl rfl ?_
        refine xgf_X12_32 (pc := 43) dX12_front_43 wF_X12_148 (A_106 hw) T49 ?_
        refine xmr_bipush (pc := 46) (z := 40) dX12_front_46 (by decide) ?_
        refine xmr_iload_n (pc := 48) (z := p1) dX12_front_48 rfl rfl ?_
        refine xmr_imul (pc := 49) (x := 40) (y := p1) dX12_front_49 ?_
        refine xmr_iconst (pc := 50) (z := 5) dX12_front_50 ?_
        refine xmr_iadd (pc := 51) (x := (40 * p1)) (y := 5) dX12_front_51 ?_
        refine xmr_iload (pc := 52) (z := z45) dX12_front_52 rfl ?_
        refine xmr_iadd (pc := 54) (x := ((40 * p1) + 5)) (y := z45) dX12_front_54 ?_
        refine xla_126 (hS := hR _ (by omega) (by omega)) (pc := 55) dX12_front_55 (A_126 hw) T49 (rIx (n := 84000) (rAdd (e := 6) (f := 83984) (rAdd (e := 5) (f := 83965) (rMulL (n := 40) (e := 0) (f := 83960) hp1 rfl) (rR (x := 5)) rfl) h74 rfl) rfl) fun z75 q76 h77 => ?_
        refine xss_126 (hW := hW _ (by omega) (by omega)) (pc := 56) dX12_front_56 (A_126 hw) T49 (rIx (n := 84000) (rAdd (e := 7) (f := 83985) (rAdd (e := 6) (f := 83966) (rMulL (n := 40) (e := 0) (f := 83960) hp1 rfl) (rR (x := 6)) rfl) h74 rfl) rfl) (vc_X12_front_13 h66 h77.2.1 h77.2.2.1 h77.2.2.2 hp1 h74 h77.1) fun μ78 u79 T80 => ?_
        refine xmr_iinc (pc := 57) (lv' := [(4, iv (z45 + (-1))), (0, .ref 106), (1, iv p1), (2, iv p2)]) dX12_front_57 rfl (by decide) rfl ?_
        refine xsv_goto (pc := 60) (tgt := 23) dX12_front_60 (by decide) ?_
        refine xmr_lvS (lv' := [(0, .ref 106), (1, iv p1), (2, iv p2), (4, iv (z45 + (-1)))]) (List.forall_mem_cons.mpr ⟨rfl, List.forall_mem_cons.mpr ⟨rfl, List.forall_mem_cons.mpr ⟨rfl, List.forall_mem_cons.mpr ⟨rfl, fun _ h => absurd h List.not_mem_nil⟩⟩⟩⟩) ?_
        exact ih55 (z45 + (-1)) μ78 f_n T80 (mF.up (mF.call mF.refl F50 rfl) (A_126 hw) u79 rfl) (mG.up (mG.call mG.refl G51 (List.forall_mem_cons.mpr ⟨⟨_, List.mem_cons_self, (vc_X12_front_17 h77.2.1 h77.2.2.1 h77.2.2.2 h66 hp1 h74 h77.1)⟩, (fun _ h => absurd h List.not_mem_nil)⟩)) u79 List.mem_cons_self (vc_X12_front_18 h66 h77.2.1 h77.2.2.1 h77.2.2.2 hp1 h74 h77.1)) (u79.f (Or.inr (vc_X12_front_14 h66 h77.2.1 h77.2.2.1 h77.2.2.2 hp1 h74 h77.1)) q54) (rW (c := 0) (d := 19) (rAdd (e := 0) (f := 18) h74 (rR (x := (-1))) rfl) rfl) (vc_X12_front_15 h52 h57) (vc_X12_front_16 (nS h53) h66 h77.2.1 h77.2.2.1 h77.2.2.2 hp1 h74 h77.1)
    refine xmr_lvS (lv' := [(0, .ref 106), (1, iv p1), (2, iv p2), (4, iv z1)]) (List.forall_mem_cons.mpr ⟨rfl, List.forall_mem_cons.mpr ⟨rfl, List.forall_mem_cons.mpr ⟨rfl, List.forall_mem_cons.mpr ⟨rfl, fun _ h => absurd h List.not_mem_nil⟩⟩⟩⟩) ?_
    exact L47 21 z1 μ z1 hT mF.refl mG.refl q2 h6 (vc_X12_front_19 h5 h6) (vc_X12_front_20 h5 h6)
  have h81 : 20 ≤ z1 ∧ z1 ≤ 20 := (vc_X12_front_21 h5 h4)
  refine xmr_iconst (pc := 18) (z := 0) dX12_front_18 ?_
  exact xmr_zret dX12_front_19 rfl (rW (c := 0) (d := 1) (rR (x := 0)) rfl) (le_t rfl) (le_t rfl) hT mF.refl ⟨(rW (c := 0) (d := 1) (rR (x := 0)) rfl), mG.refl, trivial⟩

set_option maxRecDepth 4000 in
set_option maxHeartbeats 4000000 in
theorem cx_X12_nothing {l : Launch} {D : va_G} {c : Nat → ClassId} {H0 : Heap} {sa : Nat × Nat × (Nat → Int32)} {w : mW} {μ : mM} {K : (Nat → Int) → (Nat → Int) → Prop} {W S : Nat → Nat → Prop} (hw : mWF w) (hT : mT w μ) {p1 : Int} (hp1 : 0 ≤ p1 ∧ p1 ≤ 2099) (hW : ∀ i : Nat, 40 * p1 ≤ (i : Int) → (i : Int) < 40 * p1 + 40 → W 126 i) : VC l D c H0 sa K W S (Sins S 126 (40 * p1).toNat) mX12_nothing 1 [.ref 106, iv p1] μ (xqV w [126999] μ (fun μ1 => ∃ o_x : Int, μ1 126 ((40 * p1).toNat) = o_x ∧ mG [((40 * p1), ((40 * p1) + 1))] μ μ1 ∧ (o_x = -1) ∧ True)) := by
  refine VC.of rfl (by decide) (le_t rfl) ?_
  refine xmr_lvE (lv' := [(0, .ref 106), (1, iv p1)]) rfl ?_
  refine xsv_aload_n (pc := 0) dX12_nothing_0 rfl rfl ?_
  refine xgf_X12_32 (pc := 1) dX12_nothing_1 wF_X12_148 (A_106 hw) hT ?_
  refine xmr_bipush (pc := 4) (z := 40) dX12_nothing_4 (by decide) ?_
  refine xmr_iload_n (pc := 6) (z := p1) dX12_nothing_6 rfl rfl ?_
  refine xmr_imul (pc := 7) (x := 40) (y := p1) dX12_nothing_7 ?_
  refine xmr_iconst (pc := 8) (z := (-1)) dX12_nothing_8 ?_
  refine xss_126i (hW := hW _ (by omega) (by omega)) (pc := 9) dX12_nothing_9 (A_126 hw) hT (rIx (n := 84000) (rMulL (n := 40) (e := 0) (f := 83960) hp1 rfl) rfl) (vc_X12_nothing_1 hp1) fun μ1 u2 T3 => ?_
  exact xmr_vret dX12_nothing_10 rfl (le_t rfl) (le_t rfl) T3 (mF.up mF.refl (A_126 hw) u2 rfl) ⟨(-1), u2.1, (mG.up mG.refl u2 List.mem_cons_self (vc_X12_nothing_2 hp1)), vc_X12_nothing_3, trivial⟩

set_option maxRecDepth 4000 in
set_option maxHeartbeats 4000000 in
theorem cx_X12_waysMatch {l : Launch} {D : va_G} {c : Nat → ClassId} {H0 : Heap} {sa : Nat × Nat × (Nat → Int32)} {w : mW} {μ : mM} {K : (Nat → Int) → (Nat → Int) → Prop} {W S : Nat → Nat → Prop} (hw : mWF w) (hT : mT w μ) {p1 : Int} (hp1 : 0 ≤ p1 ∧ p1 ≤ 11) {p2 : Int} (hp2 : 0 ≤ p2 ∧ p2 ≤ 3899) {p3 : Int} (hp3 : 0 ≤ p3 ∧ p3 ≤ 2099) (hR : ∀ i : Nat, 40 * p3 ≤ (i : Int) → (i : Int) < 40 * p3 + 40 → S 126 i) (h137 : S 137 p2.toNat) (h138 : S 138 p2.toNat) (h139 : S 139 p2.toNat) (h142 : S 142 p1.toNat) (h143 : ∀ i : Nat, 41 * p1 ≤ (i : Int) → (i : Int) < 41 * p1 + 41 → S 143 i ∧ S 144 i) : VC l D c H0 sa K W S S mX12_waysMatch 1 [.ref 106, iv p1, iv p2, iv p3] μ (xqP w μ (fun z => (0 ≤ z ∧ z ≤ 1) ∧ True)) := by
  refine VC.of rfl (by decide) (le_t rfl) ?_
  refine xmr_lvE (lv' := [(0, .ref 106), (1, iv p1), (2, iv p2), (3, iv p3)]) rfl ?_
  refine xsv_aload_n (pc := 0) dX12_waysMatch_0 rfl rfl ?_
  refine xgf_X12_50 (pc := 1) dX12_waysMatch_1 wF_X12_305 (A_106 hw) hT ?_
  refine xmr_iload_n (pc := 4) (z := p2) dX12_waysMatch_4 rfl rfl ?_
  refine xla_137 (hS := h137) (pc := 5) dX12_waysMatch_5 (A_137 hw) hT (rIx (n := 3900) hp2 rfl) fun z1 q2 h3 => ?_
  refine xmr_lstore (pc := 6) (lv' := [(4, jv z1), (0, .ref 106), (1, iv p1), (2, iv p2), (3, iv p3)]) dX12_waysMatch_6 (by decide) rfl ?_
  refine xsv_aload_n (pc := 8) dX12_waysMatch_8 rfl rfl ?_
  refine xgf_X12_32 (pc := 9) dX12_waysMatch_9 wF_X12_148 (A_106 hw) hT ?_
  refine xmr_bipush (pc := 12) (z := 40) dX12_waysMatch_12 (by decide) ?_
  refine xmr_iload_n (pc := 14) (z := p3) dX12_waysMatch_14 rfl rfl ?_
  refine xmr_imul (pc := 15) (x := 40) (y := p3) dX12_waysMatch_15 ?_
  refine xmr_iconst (pc := 16) (z := 4) dX12_waysMatch_16 ?_
  refine xmr_iadd (pc := 17) (x := (40 * p3)) (y := 4) dX12_waysMatch_17 ?_
  refine xla_126 (hS := hR _ (by omega) (by omega)) (pc := 18) dX12_waysMatch_18 (A_126 hw) hT (rIx (n := 84000) (rAdd (e := 4) (f := 83964) (rMulL (n := 40) (e := 0) (f := 83960) hp3 rfl) (rR (x := 4)) rfl) rfl) fun z4 q5 h6 => ?_
  have h7 : 0 ≤ z4 ∧ z4 ≤ 20 := h6.2.2.1 (vc_X12_front_1 hp3)
  refine xmr_istore (pc := 19) (lv' := [(6, iv z4), (4, jv z1), (0, .ref 106), (1, iv p1), (2, iv p2), (3, iv p3)]) dX12_waysMatch_19 (by decide) rfl ?_
  refine xmr_iload (pc := 21) (z := z4) dX12_waysMatch_21 rfl ?_
  refine xmr_if_ne (pc := 23) (tgt := 33) dX12_waysMatch_23 (by decide) (r32 h7 rfl) (fun h8 => ?_) (fun h8 => ?_)
  · have h9 : 1 ≤ z4 ∧ z4 ≤ 20 := (vc_X12_waysMatch_2 h8 h7)
    refine xmr_lconst (pc := 33) (z := 0) dX12_waysMatch_33 (by decide) ?_
    refine xmr_lstore (pc := 34) (lv' := [(7, jv 0), (6, iv z4), (4, jv z1), (0, .ref 106), (1, iv p1), (2, iv p2), (3, iv p3)]) dX12_waysMatch_34 (by decide) rfl ?_
    refine xmr_iconst (pc := 36) (z := 0) dX12_waysMatch_36 ?_
    refine xmr_istore (pc := 37) (lv' := [(9, iv 0), (7, jv 0), (6, iv z4), (4, jv z1), (0, .ref 106), (1, iv p1), (2, iv p2), (3, iv p3)]) dX12_waysMatch_37 (by decide) rfl ?_
    have L2395 : ∀ (nL2395 : Nat) (z2394 z2393 z2392 : Int), True → ((-9223372036854775808) ≤ z2394 ∧ z2394 ≤ 9223372036854775807) → ((-9223372036854775808) ≤ z2393 ∧ z2393 ≤ 9223372036854775807) → (0 ≤ z2392 ∧ z2392 ≤ 20) → (21 - z2392) < (nL2395 : Int) → VS l D c H0 sa K W S S mX12_waysMatch (sRm 1 0 0) ((xqP w μ (fun z => (0 ≤ z ∧ z ≤ 1) ∧ True))) 39 [(0, .ref 106), (1, iv p1), (2, iv p2), (3, iv p3), (4, jv z2394), (6, iv z4), (7, jv z2393), (9, iv z2392)] [] μ := by
      intro nL2395
      induction nL2395 with
      | zero => intro z2394 z2393 z2392 _ h2396 h2397 h2398 h2402; exact ((vc_X12_tieOf_1 h2402 h2398)).elim
      | succ nL2395 ih2403 =>
        intro z2394 z2393 z2392 _ h2396 h2397 h2398 h2402
        refine xmr_iload (pc := 39) (z := z2392) dX12_waysMatch_39 rfl ?_
        refine xmr_iload (pc := 41) (z := z4) dX12_waysMatch_41 rfl ?_
        refine xmr_icmp_ge (pc := 43) (tgt := 193) dX12_waysMatch_43 (by decide) (r32 h2398 rfl) (r32 h9 rfl) (fun h2562 => ?_) (fun h2562 => ?_)
        · have h2563 : 1 ≤ z2392 ∧ z2392 ≤ 20 := (vc_X12_waysMatch_4 h2562 h8 h2398 h9)
          refine xmr_lload (pc := 193) (z := z2393) dX12_waysMatch_193 rfl ?_
          refine xsv_aload_n (pc := 195) dX12_waysMatch_195 rfl rfl ?_
          refine xgf_X12_51 (pc := 196) dX12_waysMatch_196 wF_X12_308 (A_106 hw) hT ?_
          refine xmr_iload_n (pc := 199) (z := p2) dX12_waysMatch_199 rfl rfl ?_
          refine xla_138 (hS := h138) (pc := 200) dX12_waysMatch_200 (A_138 hw) hT (rIx (n := 3900) hp2 rfl) fun z2564 q2565 h2566 => ?_
          refine xmr_land (pc := 201) dX12_waysMatch_201 ?_
          refine xmr_genL (r64i _) fun z2567 q2568 h2569 => ?_
          refine xmr_lconst (pc := 202) (z := 0) dX12_waysMatch_202 (by decide) ?_
          refine xmr_lcmp (pc := 203) dX12_waysMatch_203 ?_
          refine xmr_gen (P := fun z => (-1) ≤ z ∧ z ≤ 1) (lg_cmp_r _ _) fun z2570 q2571 h2572 => ?_
          refine xmr_if_eq (pc := 204) (tgt := 211) dX12_waysMatch_204 (by decide) (r32 h2572 rfl) (fun h2574 => ?_) (fun h2574 => ?_)
          · have h2575 : 0 ≤ z2570 ∧ z2570 ≤ 0 := (vc_X12_waysMatch_5 h2574 h2572)
            refine xmr_iconst (pc := 211) (z := 0) dX12_waysMatch_211 ?_
            exact xmr_zretP dX12_waysMatch_212 rfl (rW (c := 0) (d := 1) (rR (x := 0)) rfl) (le_t rfl) (le_t rfl) ⟨(rW (c := 0) (d := 1) (rR (x := 0)) rfl), trivial⟩
          refine xmr_iconst (pc := 207) (z := 1) dX12_waysMatch_207 ?_
          refine xsv_goto (pc := 208) (tgt := 212) dX12_waysMatch_208 (by decide) ?_
          exact xmr_zretP dX12_waysMatch_212 rfl (rW (c := 0) (d := 1) (rR (x := 1)) rfl) (le_t rfl) (le_t rfl) ⟨(rW (c := 0) (d := 1) (rR (x := 1)) rfl), trivial⟩
        have h2576 : 0 ≤ z2392 ∧ z2392 ≤ 19 := (vc_X12_waysMatch_6 h2562 h8 h2398 h9)
        refine xmr_lconst (pc := 46) (z := 0) dX12_waysMatch_46 (by decide) ?_
        refine xmr_lstore (pc := 47) (lv' := [(7, jv 0), (0, .ref 106), (1, iv p1), (2, iv p2), (3, iv p3), (4, jv z2394), (6, iv z4), (9, iv z2392)]) dX12_waysMatch_47 (by decide) rfl ?_
        refine xmr_iconst (pc := 49) (z := 0) dX12_waysMatch_49 ?_
        refine xmr_istore (pc := 50) (lv' := [(10, iv 0), (7, jv 0), (0, .ref 106), (1, iv p1), (2, iv p2), (3, iv p3), (4, jv z2394), (6, iv z4), (9, iv z2392)]) dX12_waysMatch_50 (by decide) rfl ?_
        have L4111 : ∀ (nL4111 : Nat) (z4110 z4109 : Int), True → ((-9223372036854775808) ≤ z4110 ∧ z4110 ≤ 9223372036854775807) → (0 ≤ z4109 ∧ z4109 ≤ 40) → (41 - z4109) < (nL4111 : Int) → VS l D c H0 sa K W S S mX12_waysMatch (sRm 1 0 0) ((xqP w μ (fun z => (0 ≤ z ∧ z ≤ 1) ∧ True))) 52 [(0, .ref 106), (1, iv p1), (2, iv p2), (3, iv p3), (4, jv z2394), (6, iv z4), (7, jv z4110), (9, iv z2392), (10, iv z4109)] [] μ := by
          intro nL4111
          induction nL4111 with
          | zero => intro z4110 z4109 _ h4112 h4113 h4117; exact ((vc_X12_waysMatch_7 h4117 h4113)).elim
          | succ nL4111 ih4118 =>
            intro z4110 z4109 _ h4112 h4113 h4117
            refine xmr_iload (pc := 52) (z := z4109) dX12_waysMatch_52 rfl ?_
            refine xsv_aload_n (pc := 54) dX12_waysMatch_54 rfl rfl ?_
            refine xgf_X12_55 (pc := 55) dX12_waysMatch_55 wF_X12_292 (A_106 hw) hT ?_
            refine xmr_iload_n (pc := 58) (z := p1) dX12_waysMatch_58 rfl rfl ?_
            refine xla_142 (hS := h142) (pc := 59) dX12_waysMatch_59 (A_142 hw) hT (rIx (n := 13) hp1 rfl) fun z4119 q4120 h4121 => ?_
            refine xmr_icmp_ge (pc := 60) (tgt := 135) dX12_waysMatch_60 (by decide) (r32 h4113 rfl) (r32 h4121 rfl) (fun h4155 => ?_) (fun h4155 => ?_)
            · refine xmr_lconst (pc := 135) (z := 0) dX12_waysMatch_135 (by decide) ?_
              refine xmr_lstore (pc := 136) (lv' := [(4, jv 0), (0, .ref 106), (1, iv p1), (2, iv p2), (3, iv p3), (6, iv z4), (7, jv z4110), (9, iv z2392), (10, iv z4109)]) dX12_waysMatch_136 (by decide) rfl ?_
              refine xmr_iconst (pc := 138) (z := 0) dX12_waysMatch_138 ?_
              refine xmr_istore (pc := 139) (lv' := [(10, iv 0), (4, jv 0), (0, .ref 106), (1, iv p1), (2, iv p2), (3, iv p3), (6, iv z4), (7, jv z4110), (9, iv z2392)]) dX12_waysMatch_139 (by decide) rfl ?_
              have L4478 : ∀ (nL4478 : Nat) (z4477 z4476 : Int), True → ((-9223372036854775808) ≤ z4477 ∧ z4477 ≤ 9223372036854775807) → (0 ≤ z4476 ∧ z4476 ≤ 40) → (41 - z4476) < (nL4478 : Int) → VS l D c H0 sa K W S S mX12_waysMatch (sRm 1 0 0) ((xqP w μ (fun z => (0 ≤ z ∧ z ≤ 1) ∧ True))) 141 [(0, .ref 106), (1, iv p1), (2, iv p2), (3, iv p3), (4, jv z4477), (6, iv z4), (7, jv z4110), (9, iv z2392), (10, iv z4476)] [] μ := by
                intro nL4478
                induction nL4478 with
                | zero => intro z4477 z4476 _ h4479 h4480 h4484; exact ((vc_X12_waysMatch_7 h4484 h4480)).elim
                | succ nL4478 ih4485 =>
                  intro z4477 z4476 _ h4479 h4480 h4484
                  refine xmr_iload (pc := 141) (z := z4476) dX12_waysMatch_141 rfl ?_
                  refine xsv_aload_n (pc := 143) dX12_waysMatch_143 rfl rfl ?_
                  refine xgf_X12_55 (pc := 144) dX12_waysMatch_144 wF_X12_292 (A_106 hw) hT ?_
                  refine xmr_iload_n (pc := 147) (z := p1) dX12_waysMatch_147 rfl rfl ?_
                  refine xlk_142 (hS := h142) (pc := 148) dX12_waysMatch_148 (A_142 hw) (rIx (n := 13) hp1 rfl) q4120 ?_
                  refine xmr_icmp_ge (pc := 149) (tgt := 187) dX12_waysMatch_149 (by decide) (r32 h4480 rfl) (r32 h4121 rfl) (fun h4504 => ?_) (fun h4504 => ?_)
                  · refine xmr_iinc (pc := 187) (lv' := [(9, iv (z2392 + 1)), (0, .ref 106), (1, iv p1), (2, iv p2), (3, iv p3), (4, jv z4477), (6, iv z4), (7, jv z4110), (10, iv z4476)]) dX12_waysMatch_187 rfl (by decide) rfl ?_
                    refine xsv_goto (pc := 190) (tgt := 39) dX12_waysMatch_190 (by decide) ?_
                    refine xmr_lvS (lv' := [(0, .ref 106), (1, iv p1), (2, iv p2), (3, iv p3), (4, jv z4477), (6, iv z4), (7, jv z4110), (9, iv (z2392 + 1))]) (List.forall_mem_cons.mpr ⟨rfl, List.forall_mem_cons.mpr ⟨rfl, List.forall_mem_cons.mpr ⟨rfl, List.forall_mem_cons.mpr ⟨rfl, List.forall_mem_cons.mpr ⟨rfl, List.forall_mem_cons.mpr ⟨rfl, List.forall_mem_cons.mpr ⟨rfl, List.forall_mem_cons.mpr ⟨rfl, fun _ h => absurd h List.not_mem_nil⟩⟩⟩⟩⟩⟩⟩⟩) ?_
                    exact ih2403 z4477 z4110 (z2392 + 1) trivial h4479 h4112 (rW (c := 0) (d := 20) (rAdd (e := 1) (f := 20) h2576 (rR (x := 1)) rfl) rfl) (vc_X12_waysMatch_9 (nS h2402) h2562 h8 h2576 h9)
                  have h4505 : 0 ≤ z4476 ∧ z4476 ≤ 39 := (vc_X12_waysMatch_10 h4504 h4155 h4113 h4121 h4480)
                  have h4506 : 1 ≤ z4119 ∧ z4119 ≤ 40 := (vc_X12_waysMatch_11 h4504 h4155 h4113 h4121 h4505)
                  refine xmr_lload (pc := 152) (z := z4110) dX12_waysMatch_152 rfl ?_
                  refine xmr_iload (pc := 154) (z := z4476) dX12_waysMatch_154 rfl ?_
                  refine xmr_lshr (pc := 156) dX12_waysMatch_156 ?_
                  refine xmr_genL (r64i _) fun z4507 q4508 h4509 => ?_
                  refine xmr_lconst (pc := 157) (z := 1) dX12_waysMatch_157 (by decide) ?_
                  refine xmr_land (pc := 158) dX12_waysMatch_158 ?_
                  refine xmr_genL (r64i _) fun z4510 q4511 h4512 => ?_
                  refine xmr_lconst (pc := 159) (z := 1) dX12_waysMatch_159 (by decide) ?_
                  refine xmr_lcmp (pc := 160) dX12_waysMatch_160 ?_
                  refine xmr_gen (P := fun z => (-1) ≤ z ∧ z ≤ 1) (lg_cmp_r _ _) fun z4513 q4514 h4515 => ?_
                  refine xmr_if_ne (pc := 161) (tgt := 181) dX12_waysMatch_161 (by decide) (r32 h4515 rfl) (fun h4523 => ?_) (fun h4523 => ?_)
                  · refine xmr_iinc (pc := 181) (lv' := [(10, iv (z4476 + 1)), (0, .ref 106), (1, iv p1), (2, iv p2), (3, iv p3), (4, jv z4477), (6, iv z4), (7, jv z4110), (9, iv z2392)]) dX12_waysMatch_181 rfl (by decide) rfl ?_
                    refine xsv_goto (pc := 184) (tgt := 141) dX12_waysMatch_184 (by decide) ?_
                    refine xmr_lvS (lv' := [(0, .ref 106), (1, iv p1), (2, iv p2), (3, iv p3), (4, jv z4477), (6, iv z4), (7, jv z4110), (9, iv z2392), (10, iv (z4476 + 1))]) (List.forall_mem_cons.mpr ⟨rfl, List.forall_mem_cons.mpr ⟨rfl, List.forall_mem_cons.mpr ⟨rfl, List.forall_mem_cons.mpr ⟨rfl, List.forall_mem_cons.mpr ⟨rfl, List.forall_mem_cons.mpr ⟨rfl, List.forall_mem_cons.mpr ⟨rfl, List.forall_mem_cons.mpr ⟨rfl, List.forall_mem_cons.mpr ⟨rfl, fun _ h => absurd h List.not_mem_nil⟩⟩⟩⟩⟩⟩⟩⟩⟩) ?_
                    exact ih4485 z4477 (z4476 + 1) trivial h4479 (rW (c := 0) (d := 40) (rAdd (e := 1) (f := 40) h4505 (rR (x := 1)) rfl) rfl) (vc_X12_waysMatch_12 (nS h4484) h4504 h4155 h4113 h4506 h4505)
                  have h4524 : 0 ≤ z4513 ∧ z4513 ≤ 0 := (vc_X12_waysMatch_5 h4523 h4515)
                  refine xmr_lload (pc := 164) (z := z4477) dX12_waysMatch_164 rfl ?_
                  refine xsv_aload_n (pc := 166) dX12_waysMatch_166 rfl rfl ?_
                  refine xgf_X12_57 (pc := 167) dX12_waysMatch_167 wF_X12_275 (A_106 hw) hT ?_
                  refine xmr_bipush (pc := 170) (z := 41) dX12_waysMatch_170 (by decide) ?_
                  refine xmr_iload_n (pc := 172) (z := p1) dX12_waysMatch_172 rfl rfl ?_
                  refine xmr_imul (pc := 173) (x := 41) (y := p1) dX12_waysMatch_173 ?_
                  refine xmr_iload (pc := 174) (z := z4476) dX12_waysMatch_174 rfl ?_
                  refine xmr_iadd (pc := 176) (x := (41 * p1)) (y := z4476) dX12_waysMatch_176 ?_
                  refine xla_144 (hS := (h143 _ (by omega) (by omega)).2) (pc := 177) dX12_waysMatch_177 (A_144 hw) hT (rIx (n := 533) (rAdd (e := 0) (f := 490) (rMulL (n := 41) (e := 0) (f := 451) hp1 rfl) h4505 rfl) rfl) fun z4525 q4526 h4527 => ?_
                  refine xmr_lor (pc := 178) dX12_waysMatch_178 ?_
                  refine xmr_genL (r64i _) fun z4528 q4529 h4530 => ?_
                  refine xmr_lstore (pc := 179) (lv' := [(4, jv z4528), (0, .ref 106), (1, iv p1), (2, iv p2), (3, iv p3), (6, iv z4), (7, jv z4110), (9, iv z2392), (10, iv z4476)]) dX12_waysMatch_179 (by decide) rfl ?_
                  refine xmr_iinc (pc := 181) (lv' := [(10, iv (z4476 + 1)), (4, jv z4528), (0, .ref 106), (1, iv p1), (2, iv p2), (3, iv p3), (6, iv z4), (7, jv z4110), (9, iv z2392)]) dX12_waysMatch_181 rfl (by decide) rfl ?_
                  refine xsv_goto (pc := 184) (tgt := 141) dX12_waysMatch_184 (by decide) ?_
                  refine xmr_lvS (lv' := [(0, .ref 106), (1, iv p1), (2, iv p2), (3, iv p3), (4, jv z4528), (6, iv z4), (7, jv z4110), (9, iv z2392), (10, iv (z4476 + 1))]) (List.forall_mem_cons.mpr ⟨rfl, List.forall_mem_cons.mpr ⟨rfl, List.forall_mem_cons.mpr ⟨rfl, List.forall_mem_cons.mpr ⟨rfl, List.forall_mem_cons.mpr ⟨rfl, List.forall_mem_cons.mpr ⟨rfl, List.forall_mem_cons.mpr ⟨rfl, List.forall_mem_cons.mpr ⟨rfl, List.forall_mem_cons.mpr ⟨rfl, fun _ h => absurd h List.not_mem_nil⟩⟩⟩⟩⟩⟩⟩⟩⟩) ?_
                  exact ih4485 z4528 (z4476 + 1) trivial h4530 (rW (c := 0) (d := 40) (rAdd (e := 1) (f := 40) h4505 (rR (x := 1)) rfl) rfl) (vc_X12_waysMatch_12 (nS h4484) h4504 h4155 h4113 h4506 h4505)
              refine xmr_lvS (lv' := [(0, .ref 106), (1, iv p1), (2, iv p2), (3, iv p3), (4, jv 0), (6, iv z4), (7, jv z4110), (9, iv z2392), (10, iv 0)]) (List.forall_mem_cons.mpr ⟨rfl, List.forall_mem_cons.mpr ⟨rfl, List.forall_mem_cons.mpr ⟨rfl, List.forall_mem_cons.mpr ⟨rfl, List.forall_mem_cons.mpr ⟨rfl, List.forall_mem_cons.mpr ⟨rfl, List.forall_mem_cons.mpr ⟨rfl, List.forall_mem_cons.mpr ⟨rfl, List.forall_mem_cons.mpr ⟨rfl, fun _ h => absurd h List.not_mem_nil⟩⟩⟩⟩⟩⟩⟩⟩⟩) ?_
              exact L4478 42 0 0 trivial (rW (c := -9223372036854775808) (d := 9223372036854775807) (rR (x := 0)) rfl) (rW (c := 0) (d := 40) (rR (x := 0)) rfl) vc_X12_waysMatch_14
            have h4531 : 0 ≤ z4109 ∧ z4109 ≤ 39 := (vc_X12_waysMatch_15 h4155 h4113 h4121)
            have h4532 : 1 ≤ z4119 ∧ z4119 ≤ 40 := (vc_X12_waysMatch_16 h4155 h4531 h4121)
            refine xmr_lload (pc := 63) (z := z2394) dX12_waysMatch_63 rfl ?_
            refine xmr_iload (pc := 65) (z := z4109) dX12_waysMatch_65 rfl ?_
            refine xmr_lshr (pc := 67) dX12_waysMatch_67 ?_
            refine xmr_genL (r64i _) fun z4533 q4534 h4535 => ?_
            refine xmr_lconst (pc := 68) (z := 1) dX12_waysMatch_68 (by decide) ?_
            refine xmr_land (pc := 69) dX12_waysMatch_69 ?_
            refine xmr_genL (r64i _) fun z4536 q4537 h4538 => ?_
            refine xmr_lconst (pc := 70) (z := 1) dX12_waysMatch_70 (by decide) ?_
            refine xmr_lcmp (pc := 71) dX12_waysMatch_71 ?_
            refine xmr_gen (P := fun z => (-1) ≤ z ∧ z ≤ 1) (lg_cmp_r _ _) fun z4539 q4540 h4541 => ?_
            refine xmr_if_ne (pc := 72) (tgt := 129) dX12_waysMatch_72 (by decide) (r32 h4541 rfl) (fun h4564 => ?_) (fun h4564 => ?_)
            · refine xmr_iinc (pc := 129) (lv' := [(10, iv (z4109 + 1)), (0, .ref 106), (1, iv p1), (2, iv p2), (3, iv p3), (4, jv z2394), (6, iv z4), (7, jv z4110), (9, iv z2392)]) dX12_waysMatch_129 rfl (by decide) rfl ?_
              refine xsv_goto (pc := 132) (tgt := 52) dX12_waysMatch_132 (by decide) ?_
              refine xmr_lvS (lv' := [(0, .ref 106), (1, iv p1), (2, iv p2), (3, iv p3), (4, jv z2394), (6, iv z4), (7, jv z4110), (9, iv z2392), (10, iv (z4109 + 1))]) (List.forall_mem_cons.mpr ⟨rfl, List.forall_mem_cons.mpr ⟨rfl, List.forall_mem_cons.mpr ⟨rfl, List.forall_mem_cons.mpr ⟨rfl, List.forall_mem_cons.mpr ⟨rfl, List.forall_mem_cons.mpr ⟨rfl, List.forall_mem_cons.mpr ⟨rfl, List.forall_mem_cons.mpr ⟨rfl, List.forall_mem_cons.mpr ⟨rfl, fun _ h => absurd h List.not_mem_nil⟩⟩⟩⟩⟩⟩⟩⟩⟩) ?_
              exact ih4118 z4110 (z4109 + 1) trivial h4112 (rW (c := 0) (d := 40) (rAdd (e := 1) (f := 40) h4531 (rR (x := 1)) rfl) rfl) (vc_X12_waysMatch_17 (nS h4117) h4155 h4531 h4532)
            have h4565 : 0 ≤ z4539 ∧ z4539 ≤ 0 := (vc_X12_waysMatch_5 h4564 h4541)
            refine xsv_aload_n (pc := 75) dX12_waysMatch_75 rfl rfl ?_
            refine xgf_X12_56 (pc := 76) dX12_waysMatch_76 wF_X12_295 (A_106 hw) hT ?_
            refine xmr_bipush (pc := 79) (z := 41) dX12_waysMatch_79 (by decide) ?_
            refine xmr_iload_n (pc := 81) (z := p1) dX12_waysMatch_81 rfl rfl ?_
            refine xmr_imul (pc := 82) (x := 41) (y := p1) dX12_waysMatch_82 ?_
            refine xmr_iload (pc := 83) (z := z4109) dX12_waysMatch_83 rfl ?_
            refine xmr_iadd (pc := 85) (x := (41 * p1)) (y := z4109) dX12_waysMatch_85 ?_
            refine xla_143 (hS := (h143 _ (by omega) (by omega)).1) (pc := 86) dX12_waysMatch_86 (A_143 hw) hT (rIx (n := 533) (rAdd (e := 0) (f := 490) (rMulL (n := 41) (e := 0) (f := 451) hp1 rfl) h4531 rfl) rfl) fun z4566 q4567 h4568 => ?_
            refine xmr_if_lt (pc := 87) (tgt := 120) dX12_waysMatch_87 (by decide) h4568 (fun h4587 => ?_) (fun h4587 => ?_)
            · have h4588 : (-2147483648) ≤ z4566 ∧ z4566 ≤ (-1) := (vc_X12_ring_60 h4587 h4568)
              refine xmr_lload (pc := 120) (z := z4110) dX12_waysMatch_120 rfl ?_
              refine xmr_lconst (pc := 122) (z := 1) dX12_waysMatch_122 (by decide) ?_
              refine xmr_iload (pc := 123) (z := z4109) dX12_waysMatch_123 rfl ?_
              refine xmr_lshl (pc := 125) dX12_waysMatch_125 ?_
              refine xmr_genL (r64i _) fun z4589 q4590 h4591 => ?_
              refine xmr_lor (pc := 126) dX12_waysMatch_126 ?_
              refine xmr_genL (r64i _) fun z4592 q4593 h4594 => ?_
              refine xmr_lstore (pc := 127) (lv' := [(7, jv z4592), (0, .ref 106), (1, iv p1), (2, iv p2), (3, iv p3), (4, jv z2394), (6, iv z4), (9, iv z2392), (10, iv z4109)]) dX12_waysMatch_127 (by decide) rfl ?_
              refine xmr_iinc (pc := 129) (lv' := [(10, iv (z4109 + 1)), (7, jv z4592), (0, .ref 106), (1, iv p1), (2, iv p2), (3, iv p3), (4, jv z2394), (6, iv z4), (9, iv z2392)]) dX12_waysMatch_129 rfl (by decide) rfl ?_
              refine xsv_goto (pc := 132) (tgt := 52) dX12_waysMatch_132 (by decide) ?_
              refine xmr_lvS (lv' := [(0, .ref 106), (1, iv p1), (2, iv p2), (3, iv p3), (4, jv z2394), (6, iv z4), (7, jv z4592), (9, iv z2392), (10, iv (z4109 + 1))]) (List.forall_mem_cons.mpr ⟨rfl, List.forall_mem_cons.mpr ⟨rfl, List.forall_mem_cons.mpr ⟨rfl, List.forall_mem_cons.mpr ⟨rfl, List.forall_mem_cons.mpr ⟨rfl, List.forall_mem_cons.mpr ⟨rfl, List.forall_mem_cons.mpr ⟨rfl, List.forall_mem_cons.mpr ⟨rfl, List.forall_mem_cons.mpr ⟨rfl, fun _ h => absurd h List.not_mem_nil⟩⟩⟩⟩⟩⟩⟩⟩⟩) ?_
              exact ih4118 z4592 (z4109 + 1) trivial h4594 (rW (c := 0) (d := 40) (rAdd (e := 1) (f := 40) h4531 (rR (x := 1)) rfl) rfl) (vc_X12_waysMatch_17 (nS h4117) h4155 h4531 h4532)
            have h4595 : 0 ≤ z4566 ∧ z4566 ≤ 2147483647 := (vc_X12_ring_1 h4587 h4568)
            refine xsv_aload_n (pc := 90) dX12_waysMatch_90 rfl rfl ?_
            refine xgf_X12_56 (pc := 91) dX12_waysMatch_91 wF_X12_295 (A_106 hw) hT ?_
            refine xmr_bipush (pc := 94) (z := 41) dX12_waysMatch_94 (by decide) ?_
            refine xmr_iload_n (pc := 96) (z := p1) dX12_waysMatch_96 rfl rfl ?_
            refine xmr_imul (pc := 97) (x := 41) (y := p1) dX12_waysMatch_97 ?_
            refine xmr_iload (pc := 98) (z := z4109) dX12_waysMatch_98 rfl ?_
            refine xmr_iadd (pc := 100) (x := (41 * p1)) (y := z4109) dX12_waysMatch_100 ?_
            refine xlk_143 (hS := (h143 _ (by omega) (by omega)).1) (pc := 101) dX12_waysMatch_101 (A_143 hw) (rIx (n := 533) (rAdd (e := 0) (f := 490) (rMulL (n := 41) (e := 0) (f := 451) hp1 rfl) h4531 rfl) rfl) q4567 ?_
            refine xsv_aload_n (pc := 102) dX12_waysMatch_102 rfl rfl ?_
            refine xgf_X12_32 (pc := 103) dX12_waysMatch_103 wF_X12_148 (A_106 hw) hT ?_
            refine xmr_bipush (pc := 106) (z := 40) dX12_waysMatch_106 (by decide) ?_
            refine xmr_iload_n (pc := 108) (z := p3) dX12_waysMatch_108 rfl rfl ?_
            refine xmr_imul (pc := 109) (x := 40) (y := p3) dX12_waysMatch_109 ?_
            refine xmr_bipush (pc := 110) (z := 6) dX12_waysMatch_110 (by decide) ?_
            refine xmr_iadd (pc := 112) (x := (40 * p3)) (y := 6) dX12_waysMatch_112 ?_
            refine xmr_iload (pc := 113) (z := z2392) dX12_waysMatch_113 rfl ?_
            refine xmr_iadd (pc := 115) (x := ((40 * p3) + 6)) (y := z2392) dX12_waysMatch_115 ?_
            refine xla_126 (hS := hR _ (by omega) (by omega)) (pc := 116) dX12_waysMatch_116 (A_126 hw) hT (rIx (n := 84000) (rAdd (e := 6) (f := 83985) (rAdd (e := 6) (f := 83966) (rMulL (n := 40) (e := 0) (f := 83960) hp3 rfl) (rR (x := 6)) rfl) h2576 rfl) rfl) fun z4596 q4597 h4598 => ?_
            refine xmr_icmp_ne (pc := 117) (tgt := 129) dX12_waysMatch_117 (by decide) (r32 h4595 rfl) h4598.1 (fun h4606 => ?_) (fun h4606 => ?_)
            · refine xmr_iinc (pc := 129) (lv' := [(10, iv (z4109 + 1)), (0, .ref 106), (1, iv p1), (2, iv p2), (3, iv p3), (4, jv z2394), (6, iv z4), (7, jv z4110), (9, iv z2392)]) dX12_waysMatch_129 rfl (by decide) rfl ?_
              refine xsv_goto (pc := 132) (tgt := 52) dX12_waysMatch_132 (by decide) ?_
              refine xmr_lvS (lv' := [(0, .ref 106), (1, iv p1), (2, iv p2), (3, iv p3), (4, jv z2394), (6, iv z4), (7, jv z4110), (9, iv z2392), (10, iv (z4109 + 1))]) (List.forall_mem_cons.mpr ⟨rfl, List.forall_mem_cons.mpr ⟨rfl, List.forall_mem_cons.mpr ⟨rfl, List.forall_mem_cons.mpr ⟨rfl, List.forall_mem_cons.mpr ⟨rfl, List.forall_mem_cons.mpr ⟨rfl, List.forall_mem_cons.mpr ⟨rfl, List.forall_mem_cons.mpr ⟨rfl, List.forall_mem_cons.mpr ⟨rfl, fun _ h => absurd h List.not_mem_nil⟩⟩⟩⟩⟩⟩⟩⟩⟩) ?_
              exact ih4118 z4110 (z4109 + 1) trivial h4112 (rW (c := 0) (d := 40) (rAdd (e := 1) (f := 40) h4531 (rR (x := 1)) rfl) rfl) (vc_X12_waysMatch_17 (nS h4117) h4155 h4531 h4532)
            have h4607 : 0 ≤ z4596 ∧ z4596 ≤ 2147483647 := (vc_X12_waysMatch_21 h4606 h4587 h4598.2.1 h4598.2.2.1 h4598.2.2.2 hp3 h2576 h4595 h4598.1)
            refine xmr_lload (pc := 120) (z := z4110) dX12_waysMatch_120 rfl ?_
            refine xmr_lconst (pc := 122) (z := 1) dX12_waysMatch_122 (by decide) ?_
            refine xmr_iload (pc := 123) (z := z4109) dX12_waysMatch_123 rfl ?_
            refine xmr_lshl (pc := 125) dX12_waysMatch_125 ?_
            refine xmr_genL (r64i _) fun z4608 q4609 h4610 => ?_
            refine xmr_lor (pc := 126) dX12_waysMatch_126 ?_
            refine xmr_genL (r64i _) fun z4611 q4612 h4613 => ?_
            refine xmr_lstore (pc := 127) (lv' := [(7, jv z4611), (0, .ref 106), (1, iv p1), (2, iv p2), (3, iv p3), (4, jv z2394), (6, iv z4), (9, iv z2392), (10, iv z4109)]) dX12_waysMatch_127 (by decide) rfl ?_
            refine xmr_iinc (pc := 129) (lv' := [(10, iv (z4109 + 1)), (7, jv z4611), (0, .ref 106), (1, iv p1), (2, iv p2), (3, iv p3), (4, jv z2394), (6, iv z4), (9, iv z2392)]) dX12_waysMatch_129 rfl (by decide) rfl ?_
            refine xsv_goto (pc := 132) (tgt := 52) dX12_waysMatch_132 (by decide) ?_
            refine xmr_lvS (lv' := [(0, .ref 106), (1, iv p1), (2, iv p2), (3, iv p3), (4, jv z2394), (6, iv z4), (7, jv z4611), (9, iv z2392), (10, iv (z4109 + 1))]) (List.forall_mem_cons.mpr ⟨rfl, List.forall_mem_cons.mpr ⟨rfl, List.forall_mem_cons.mpr ⟨rfl, List.forall_mem_cons.mpr ⟨rfl, List.forall_mem_cons.mpr ⟨rfl, List.forall_mem_cons.mpr ⟨rfl, List.forall_mem_cons.mpr ⟨rfl, List.forall_mem_cons.mpr ⟨rfl, List.forall_mem_cons.mpr ⟨rfl, fun _ h => absurd h List.not_mem_nil⟩⟩⟩⟩⟩⟩⟩⟩⟩) ?_
            exact ih4118 z4611 (z4109 + 1) trivial h4613 (rW (c := 0) (d := 40) (rAdd (e := 1) (f := 40) h4531 (rR (x := 1)) rfl) rfl) (vc_X12_waysMatch_17 (nS h4117) h4155 h4531 h4532)
        refine xmr_lvS (lv' := [(0, .ref 106), (1, iv p1), (2, iv p2), (3, iv p3), (4, jv z2394), (6, iv z4), (7, jv 0), (9, iv z2392), (10, iv 0)]) (List.forall_mem_cons.mpr ⟨rfl, List.forall_mem_cons.mpr ⟨rfl, List.forall_mem_cons.mpr ⟨rfl, List.forall_mem_cons.mpr ⟨rfl, List.forall_mem_cons.mpr ⟨rfl, List.forall_mem_cons.mpr ⟨rfl, List.forall_mem_cons.mpr ⟨rfl, List.forall_mem_cons.mpr ⟨rfl, List.forall_mem_cons.mpr ⟨rfl, fun _ h => absurd h List.not_mem_nil⟩⟩⟩⟩⟩⟩⟩⟩⟩) ?_
        exact L4111 42 0 0 trivial (rW (c := -9223372036854775808) (d := 9223372036854775807) (rR (x := 0)) rfl) (rW (c := 0) (d := 40) (rR (x := 0)) rfl) vc_X12_waysMatch_14
    refine xmr_lvS (lv' := [(0, .ref 106), (1, iv p1), (2, iv p2), (3, iv p3), (4, jv z1), (6, iv z4), (7, jv 0), (9, iv 0)]) (List.forall_mem_cons.mpr ⟨rfl, List.forall_mem_cons.mpr ⟨rfl, List.forall_mem_cons.mpr ⟨rfl, List.forall_mem_cons.mpr ⟨rfl, List.forall_mem_cons.mpr ⟨rfl, List.forall_mem_cons.mpr ⟨rfl, List.forall_mem_cons.mpr ⟨rfl, List.forall_mem_cons.mpr ⟨rfl, fun _ h => absurd h List.not_mem_nil⟩⟩⟩⟩⟩⟩⟩⟩) ?_
    exact L2395 22 z1 0 0 trivial h3 (rW (c := -9223372036854775808) (d := 9223372036854775807) (rR (x := 0)) rfl) (rW (c := 0) (d := 20) (rR (x := 0)) rfl) vc_X12_tieOf_12
  have h4614 : 0 ≤ z4 ∧ z4 ≤ 0 := (vc_X12_waysMatch_23 h8 h7)
  refine xsv_aload_n (pc := 26) dX12_waysMatch_26 rfl rfl ?_
  refine xgf_X12_52 (pc := 27) dX12_waysMatch_27 wF_X12_311 (A_106 hw) hT ?_
  refine xmr_iload_n (pc := 30) (z := p2) dX12_waysMatch_30 rfl rfl ?_
  refine xla_139 (hS := h139) (pc := 31) dX12_waysMatch_31 (A_139 hw) hT (rIx (n := 3900) hp2 rfl) fun z4615 q4616 h4617 => ?_
  exact xmr_zretP dX12_waysMatch_32 rfl h4617 (le_t rfl) (le_t rfl) ⟨h4617, trivial⟩

set_option maxRecDepth 4000 in
set_option maxHeartbeats 4000000 in
theorem cx_X12_copy {l : Launch} {D : va_G} {c : Nat → ClassId} {H0 : Heap} {sa : Nat × Nat × (Nat → Int32)} {w : mW} {μ : mM} {K : (Nat → Int) → (Nat → Int) → Prop} {W S : Nat → Nat → Prop} (hw : mWF w) (hT : mT w μ) {p1 : Int} (hp1 : 0 ≤ p1 ∧ p1 ≤ 2099) {p2 : Int} (hp2 : 0 ≤ p2 ∧ p2 ≤ 2099) {f_x : Int} (q_f_x : μ 126 ((40 * p1).toNat) = f_x) (hq0 : p1 < p2 ∨ p2 < p1) (hR : ∀ i : Nat, 40 * p1 ≤ (i : Int) → (i : Int) < 40 * p1 + 40 → S 126 i) (hW : ∀ i : Nat, 40 * p2 ≤ (i : Int) → (i : Int) < 40 * p2 + 40 → W 126 i) : VC l D c H0 sa K W S (Srow S p2 40) mX12_copy 1 [.ref 106, iv p1, iv p2] μ (xqV w [126999] μ (fun μ1 => ∃ o_x : Int, μ1 126 ((40 * p2).toNat) = o_x ∧ mG [((40 * p2), ((40 * p2) + 40))] μ μ1 ∧ (o_x = f_x) ∧ True)) := by
  refine VC.of rfl (by decide) (le_t rfl) ?_
  have ht_f_x := rt7 hT (A_126 hw) (vc_X12_copy_1 hp1) q_f_x
  have h1 : (-1) ≤ f_x ∧ f_x ≤ 9 := ht_f_x.2.1 (vc_X12_copy_2 hp1)
  refine VS.mono (S' := Srow S p2 0) (fun a i q => q.resolve_right (by omega)) ?_
  refine xmr_lvE (lv' := [(0, .ref 106), (1, iv p1), (2, iv p2)]) rfl ?_
  refine xmr_iconst (pc := 0) (z := 0) dX12_copy_0 ?_
  refine xmr_istore_n (pc := 1) (lv' := [(3, iv 0), (0, .ref 106), (1, iv p1), (2, iv p2)]) dX12_copy_1 rfl (by decide) rfl ?_
  refine xmr_iload_n (pc := 2) (z := 0) dX12_copy_2 rfl rfl ?_
  refine xmr_bipush (pc := 3) (z := 40) dX12_copy_3 (by decide) ?_
  refine xmr_icmp_ge (pc := 5) (tgt := 36) dX12_copy_5 (by decide) (r32 (rR (x := 0)) rfl) (r32 (rR (x := 40)) rfl) (fun h => ((vc_X12_copy_3 h)).elim) (fun _ => ?_)
  refine xsv_aload_n (pc := 8) dX12_copy_8 rfl rfl ?_
  refine xgf_X12_32 (pc := 9) dX12_copy_9 wF_X12_148 (A_106 hw) hT ?_
  refine xmr_bipush (pc := 12) (z := 40) dX12_copy_12 (by decide) ?_
  refine xmr_iload_n (pc := 14) (z := p2) dX12_copy_14 rfl rfl ?_
  refine xmr_imul (pc := 15) (x := 40) (y := p2) dX12_copy_15 ?_
  refine xmr_iload_n (pc := 16) (z := 0) dX12_copy_16 rfl rfl ?_
  refine xmr_iadd (pc := 17) (x := (40 * p2)) (y := 0) dX12_copy_17 ?_
  refine xsv_aload_n (pc := 18) dX12_copy_18 rfl rfl ?_
  refine xgf_X12_32 (pc := 19) dX12_copy_19 wF_X12_148 (A_106 hw) hT ?_
  refine xmr_bipush (pc := 22) (z := 40) dX12_copy_22 (by decide) ?_
  refine xmr_iload_n (pc := 24) (z := p1) dX12_copy_24 rfl rfl ?_
  refine xmr_imul (pc := 25) (x := 40) (y := p1) dX12_copy_25 ?_
  refine xmr_iload_n (pc := 26) (z := 0) dX12_copy_26 rfl rfl ?_
  refine xmr_iadd (pc := 27) (x := (40 * p1)) (y := 0) dX12_copy_27 ?_
  refine xlk_126 (hS := Or.inl (hR _ (by omega) (by omega))) (pc := 28) dX12_copy_28 (A_126 hw) (rIx (n := 84000) (rAdd (e := 0) (f := 83960) (rMulL (n := 40) (e := 0) (f := 83960) hp1 rfl) (rR (x := 0)) rfl) rfl) (eqIx (vc_X12_copy_4 hp1) q_f_x) ?_
  refine xss_126i (hW := hW _ (by omega) (by omega)) (pc := 29) dX12_copy_29 (A_126 hw) hT (rIx (n := 84000) (rAdd (e := 0) (f := 83960) (rMulL (n := 40) (e := 0) (f := 83960) hp2 rfl) (rR (x := 0)) rfl) rfl) (vc_X12_copy_5 hq0 h1 hp1 hp2) fun μ177 u178 T179 => ?_
  refine xmr_iinc (pc := 30) (lv' := [(3, iv 1), (0, .ref 106), (1, iv p1), (2, iv p2)]) dX12_copy_30 rfl (by decide) rfl ?_
  refine xsv_goto (pc := 33) (tgt := 2) dX12_copy_33 (by decide) ?_
  have L296 : ∀ (nL296 : Nat) (z294 : Int) (μ295 : mM) (f_y : Int), mT w μ295 → mF [126999] w μ177 μ295 → mG [((40 * p2), ((40 * p2) + 40))] μ177 μ295 → μ295 126 ((40 * p2).toNat) = f_y → (1 ≤ z294 ∧ z294 ≤ 40) → (f_y = f_x) → (41 - z294) < (nL296 : Int) → VS l D c H0 sa K W (Srow S p2 z294) (Srow S p2 40) mX12_copy (sRm 1 0 0) ((xqV w [126999] μ (fun μ1 => ∃ o_x : Int, μ1 126 ((40 * p2).toNat) = o_x ∧ mG [((40 * p2), ((40 * p2) + 40))] μ μ1 ∧ (o_x = f_x) ∧ True))) 2 [(0, .ref 106), (1, iv p1), (2, iv p2), (3, iv z294)] [] μ295 := by
    intro nL296
    induction nL296 with
    | zero => intro z294 μ295 f_y T298 F299 G300 q303 h297 h301 h302; exact ((vc_X12_copy_6 h302 h297)).elim
    | succ nL296 ih304 =>
      intro z294 μ295 f_y T298 F299 G300 q303 h297 h301 h302
      have h305 := rt7 T298 (A_126 hw) (vc_X12_copy_7 hq0 hp1 hp2) q303
      have h306 : (-1) ≤ f_y ∧ f_y ≤ 9 := h305.2.1 (vc_X12_copy_8 hq0 hp1 hp2)
      refine xmr_iload_n (pc := 2) (z := z294) dX12_copy_2 rfl rfl ?_
      refine xmr_bipush (pc := 3) (z := 40) dX12_copy_3 (by decide) ?_
      refine xmr_icmp_ge (pc := 5) (tgt := 36) dX12_copy_5 (by decide) (r32 h297 rfl) (r32 (rR (x := 40)) rfl) (fun h315 => ?_) (fun h315 => ?_)
      · have h316 : 40 ≤ z294 ∧ z294 ≤ 40 := (vc_X12_copy_9 h315 h297)
        exact xmr_vret (hs := Srow.le (by omega)) dX12_copy_36 rfl (le_t rfl) (le_t rfl) T298 (mF.call (mF.up mF.refl (A_126 hw) u178 rfl) F299 rfl) ⟨f_y, q303, (mG.call (mG.up mG.refl u178 List.mem_cons_self (vc_X12_copy_10 hq0 hp1 hp2)) G300 (List.forall_mem_cons.mpr ⟨⟨_, List.mem_cons_self, (vc_X12_copy_11 hq0 hp1 hp2)⟩, (fun _ h => absurd h List.not_mem_nil)⟩)), (vc_X12_copy_12 h301 h1 h306), trivial⟩
      have h317 : 1 ≤ z294 ∧ z294 ≤ 39 := (vc_X12_copy_13 h315 h297)
      refine xsv_aload_n (pc := 8) dX12_copy_8 rfl rfl ?_
      refine xgf_X12_32 (pc := 9) dX12_copy_9 wF_X12_148 (A_106 hw) T298 ?_
      refine xmr_bipush (pc := 12) (z := 40) dX12_copy_12 (by decide) ?_
      refine xmr_iload_n (pc := 14) (z := p2) dX12_copy_14 rfl rfl ?_
      refine xmr_imul (pc := 15) (x := 40) (y := p2) dX12_copy_15 ?_
      refine xmr_iload_n (pc := 16) (z := z294) dX12_copy_16 rfl rfl ?_
      refine xmr_iadd (pc := 17) (x := (40 * p2)) (y := z294) dX12_copy_17 ?_
      refine xsv_aload_n (pc := 18) dX12_copy_18 rfl rfl ?_
      refine xgf_X12_32 (pc := 19) dX12_copy_19 wF_X12_148 (A_106 hw) T298 ?_
      refine xmr_bipush (pc := 22) (z := 40) dX12_copy_22 (by decide) ?_
      refine xmr_iload_n (pc := 24) (z := p1) dX12_copy_24 rfl rfl ?_
      refine xmr_imul (pc := 25) (x := 40) (y := p1) dX12_copy_25 ?_
      refine xmr_iload_n (pc := 26) (z := z294) dX12_copy_26 rfl rfl ?_
      refine xmr_iadd (pc := 27) (x := (40 * p1)) (y := z294) dX12_copy_27 ?_
      refine xla_126 (hS := Or.inl (hR _ (by omega) (by omega))) (pc := 28) dX12_copy_28 (A_126 hw) T298 (rIx (n := 84000) (rAdd (e := 1) (f := 83999) (rMulL (n := 40) (e := 0) (f := 83960) hp1 rfl) h317 rfl) rfl) fun z318 q319 h320 => ?_
      refine xss_126i (hW := hW _ (by omega) (by omega)) (pc := 29) dX12_copy_29 (A_126 hw) T298 (rIx (n := 84000) (rAdd (e := 1) (f := 83999) (rMulL (n := 40) (e := 0) (f := 83960) hp2 rfl) h317 rfl) rfl) (vc_X12_copy_14 hq0 h315 h320.2.1 h320.2.2.1 h320.2.2.2 hp1 hp2 h317 h320.1) fun μ321 u322 T323 => ?_
      refine xmr_iinc (pc := 30) (lv' := [(3, iv (z294 + 1)), (0, .ref 106), (1, iv p1), (2, iv p2)]) dX12_copy_30 rfl (by decide) rfl ?_
      refine xsv_goto (pc := 33) (tgt := 2) dX12_copy_33 (by decide) ?_
      refine xmr_lvS (lv' := [(0, .ref 106), (1, iv p1), (2, iv p2), (3, iv (z294 + 1))]) (List.forall_mem_cons.mpr ⟨rfl, List.forall_mem_cons.mpr ⟨rfl, List.forall_mem_cons.mpr ⟨rfl, List.forall_mem_cons.mpr ⟨rfl, fun _ h => absurd h List.not_mem_nil⟩⟩⟩⟩) ?_
      refine VS.mono (Srow.ins (by omega) (by omega)) ?_; exact ih304 (z294 + 1) μ321 f_y T323 (mF.up (mF.call mF.refl F299 rfl) (A_126 hw) u322 rfl) (mG.up (mG.call mG.refl G300 (List.forall_mem_cons.mpr ⟨⟨_, List.mem_cons_self, (vc_X12_copy_17 hq0 h320.2.1 h320.2.2.1 h320.2.2.2 hp1 hp2 h317 h320.1)⟩, (fun _ h => absurd h List.not_mem_nil)⟩)) u322 List.mem_cons_self (vc_X12_copy_18 hq0 h315 h320.2.1 h320.2.2.1 h320.2.2.2 hp1 hp2 h317 h320.1)) (u322.f (Or.inr (vc_X12_copy_15 hq0 h315 h320.2.1 h320.2.2.1 h320.2.2.2 hp1 hp2 h317 h320.1)) q303) (rW (c := 1) (d := 40) (rAdd (e := 2) (f := 40) h317 (rR (x := 1)) rfl) rfl) (vc_X12_copy_12 h301 h1 h306) (vc_X12_copy_16 (nS h302) h315 h320.2.1 h320.2.2.1 h320.2.2.2 hq0 hp1 hp2 h317 h320.1)
  refine xmr_lvS (lv' := [(0, .ref 106), (1, iv p1), (2, iv p2), (3, iv 1)]) (List.forall_mem_cons.mpr ⟨rfl, List.forall_mem_cons.mpr ⟨rfl, List.forall_mem_cons.mpr ⟨rfl, List.forall_mem_cons.mpr ⟨rfl, fun _ h => absurd h List.not_mem_nil⟩⟩⟩⟩) ?_
  refine VS.mono (Srow.ins (n := 0) (by omega) (by omega)) ?_; exact L296 41 1 μ177 f_x T179 mF.refl mG.refl (eqIx (vc_X12_copy_19 hp2) u178.1) (rW (c := 1) (d := 40) (rR (x := 1)) rfl) (vc_X12_copy_20 h1) vc_X12_copy_21

set_option maxRecDepth 4000 in
set_option maxHeartbeats 4000000 in
theorem cx_X12_judgedAnew {l : Launch} {D : va_G} {c : Nat → ClassId} {H0 : Heap} {sa : Nat × Nat × (Nat → Int32)} {w : mW} {μ : mM} {K : (Nat → Int) → (Nat → Int) → Prop} {W S : Nat → Nat → Prop} (hw : mWF w) (hT : mT w μ) {p1 : Int} (hp1 : 0 ≤ p1 ∧ p1 ≤ 9) {p2 : Int} (hp2 : (-2147483648) ≤ p2 ∧ p2 ≤ 2147483647) {p3 : Int} (hp3 : (-2147483648) ≤ p3 ∧ p3 ≤ 2147483647) {p4 : Int} (hp4 : (-2147483648) ≤ p4 ∧ p4 ≤ 2147483647) (h18 : S 106 18) (hr : ∀ a i : Nat, 119 ≤ a → a ≤ 125 → (i : Int) < μ 106 18 → S a i) (hx : S 108 p1.toNat ∧ S 109 p1.toNat) (hxr : ∀ r : Int, 0 ≤ r → r < μ 106 18 → S 108 (μ 119 r.toNat).toNat ∧ S 109 (μ 119 r.toNat).toNat) : VC l D c H0 sa K W S S mX12_judgedAnew 3 [.ref 106, iv p1, iv p2, iv p3, iv p4] μ (xqP w μ (fun z => (0 ≤ z ∧ z ≤ 2) ∧ True)) := by
  refine VC.of rfl (by decide) (le_t rfl) ?_
  refine xmr_lvE (lv' := [(0, .ref 106), (1, iv p1), (2, iv p2), (3, iv p3), (4, iv p4)]) rfl ?_
  refine xmr_iconst (pc := 0) (z := 2) dX12_judgedAnew_0 ?_
  refine xmr_istore (pc := 1) (lv' := [(5, iv 2), (0, .ref 106), (1, iv p1), (2, iv p2), (3, iv p3), (4, iv p4)]) dX12_judgedAnew_1 (by decide) rfl ?_
  refine xmr_iconst (pc := 3) (z := 0) dX12_judgedAnew_3 ?_
  refine xmr_istore (pc := 4) (lv' := [(6, iv 0), (5, iv 2), (0, .ref 106), (1, iv p1), (2, iv p2), (3, iv p3), (4, iv p4)]) dX12_judgedAnew_4 (by decide) rfl ?_
  have L747 : ∀ (nL747 : Nat) (z746 z745 : Int), True → (0 ≤ z746 ∧ z746 ≤ 2) → (0 ≤ z745 ∧ z745 ≤ 30) → (31 - z745) < (nL747 : Int) → VS l D c H0 sa K W S S mX12_judgedAnew (sRm 3 0 0) ((xqP w μ (fun z => (0 ≤ z ∧ z ≤ 2) ∧ True))) 6 [(0, .ref 106), (1, iv p1), (2, iv p2), (3, iv p3), (4, iv p4), (5, iv z746), (6, iv z745)] [] μ := by
    intro nL747
    induction nL747 with
    | zero => intro z746 z745 _ h748 h749 h753; exact ((vc_X12_judgedAnew_1 h753 h749)).elim
    | succ nL747 ih754 =>
      intro z746 z745 _ h748 h749 h753
      refine xmr_iload (pc := 6) (z := z745) dX12_judgedAnew_6 rfl ?_
      refine xsv_aload_n (pc := 8) dX12_judgedAnew_8 rfl rfl ?_
      refine xgf_X12_18 (hS := h18) (pc := 9) dX12_judgedAnew_9 wF_X12_95 (A_106 hw) hT fun z755 q756 h757 => ?_
      refine xmr_icmp_ge (pc := 12) (tgt := 184) dX12_judgedAnew_12 (by decide) (r32 h749 rfl) (r32 h757 rfl) (fun h821 => ?_) (fun h821 => ?_)
      · refine xmr_iload (pc := 184) (z := z746) dX12_judgedAnew_184 rfl ?_
        exact xmr_iretP dX12_judgedAnew_186 rfl (le_t rfl) (le_t rfl) ⟨h748, trivial⟩
      have h822 : 0 ≤ z745 ∧ z745 ≤ 29 := (vc_X12_judgedAnew_2 h821 h749 h757)
      have h823 : 1 ≤ z755 ∧ z755 ≤ 30 := (vc_X12_judgedAnew_3 h821 h822 h757)
      refine xsv_aload_n (pc := 15) dX12_judgedAnew_15 rfl rfl ?_
      refine xgf_X12_19 (pc := 16) dX12_judgedAnew_16 wF_X12_98 (A_106 hw) hT ?_
      refine xmr_iload (pc := 19) (z := z745) dX12_judgedAnew_19 rfl ?_
      refine xla_119 (hS := hr _ _ (by decide) (by decide) (by omega)) (pc := 21) dX12_judgedAnew_21 (A_119 hw) hT (rIx (n := 30) h822 rfl) fun z824 q825 h826 => ?_
      refine xmr_istore (pc := 22) (lv' := [(7, iv z824), (0, .ref 106), (1, iv p1), (2, iv p2), (3, iv p3), (4, iv p4), (5, iv z746), (6, iv z745)]) dX12_judgedAnew_22 (by decide) rfl ?_
      refine xsv_aload_n (pc := 24) dX12_judgedAnew_24 rfl rfl ?_
      refine xgf_X12_22 (pc := 25) dX12_judgedAnew_25 wF_X12_107 (A_106 hw) hT ?_
      refine xmr_iload (pc := 28) (z := z745) dX12_judgedAnew_28 rfl ?_
      refine xla_122 (hS := hr _ _ (by decide) (by decide) (by omega)) (pc := 30) dX12_judgedAnew_30 (A_122 hw) hT (rIx (n := 30) h822 rfl) fun z827 q828 h829 => ?_
      refine xmr_iload_n (pc := 31) (z := p3) dX12_judgedAnew_31 rfl rfl ?_
      have J850 : ∀ (z848 : Int), ((0 ≤ z848 ∧ z848 ≤ 1)) → VS l D c H0 sa K W S S mX12_judgedAnew (sRm 3 0 0) ((xqP w μ (fun z => (0 ≤ z ∧ z ≤ 2) ∧ True))) 87 [(0, .ref 106), (1, iv p1), (2, iv p2), (3, iv p3), (4, iv p4), (5, iv z746), (6, iv z745), (7, iv z824)] [iv z848] μ := by
        intro z848 h849
        refine xmr_istore (pc := 87) (lv' := [(8, iv z848), (0, .ref 106), (1, iv p1), (2, iv p2), (3, iv p3), (4, iv p4), (5, iv z746), (6, iv z745), (7, iv z824)]) dX12_judgedAnew_87 (by decide) rfl ?_
        refine xmr_iload (pc := 89) (z := z848) dX12_judgedAnew_89 rfl ?_
        refine xmr_if_eq (pc := 91) (tgt := 178) dX12_judgedAnew_91 (by decide) (r32 h849 rfl) (fun h886 => ?_) (fun h886 => ?_)
        · have h887 : 0 ≤ z848 ∧ z848 ≤ 0 := (vc_X12_ring_22 h886 h849)
          refine xmr_iinc (pc := 178) (lv' := [(6, iv (z745 + 1)), (8, iv z848), (0, .ref 106), (1, iv p1), (2, iv p2), (3, iv p3), (4, iv p4), (5, iv z746), (7, iv z824)]) dX12_judgedAnew_178 rfl (by decide) rfl ?_
          refine xsv_goto (pc := 181) (tgt := 6) dX12_judgedAnew_181 (by decide) ?_
          refine xmr_lvS (lv' := [(0, .ref 106), (1, iv p1), (2, iv p2), (3, iv p3), (4, iv p4), (5, iv z746), (6, iv (z745 + 1))]) (List.forall_mem_cons.mpr ⟨rfl, List.forall_mem_cons.mpr ⟨rfl, List.forall_mem_cons.mpr ⟨rfl, List.forall_mem_cons.mpr ⟨rfl, List.forall_mem_cons.mpr ⟨rfl, List.forall_mem_cons.mpr ⟨rfl, List.forall_mem_cons.mpr ⟨rfl, fun _ h => absurd h List.not_mem_nil⟩⟩⟩⟩⟩⟩⟩) ?_
          exact ih754 z746 (z745 + 1) trivial h748 (rW (c := 0) (d := 30) (rAdd (e := 1) (f := 30) h822 (rR (x := 1)) rfl) rfl) (vc_X12_judgedAnew_5 (nS h753) h821 h822 h823)
        have h888 : 1 ≤ z848 ∧ z848 ≤ 1 := (vc_X12_ring_24 h886 h849)
        refine xsv_aload_n (pc := 94) dX12_judgedAnew_94 rfl rfl ?_
        refine xgf_X12_4 (pc := 95) dX12_judgedAnew_95 wF_X12_26 (A_106 hw) hT ?_
        refine xmr_iload (pc := 98) (z := z824) dX12_judgedAnew_98 rfl ?_
        refine xla_109 (hS := (by have h := hxr z745 (by omega) (by omega); rw [q825] at h; exact h.2)) (pc := 100) dX12_judgedAnew_100 (A_109 hw) hT (rIx (n := 10) h826 rfl) fun z889 q890 h891 => ?_
        refine xsv_aload_n (pc := 101) dX12_judgedAnew_101 rfl rfl ?_
        refine xgf_X12_4 (pc := 102) dX12_judgedAnew_102 wF_X12_26 (A_106 hw) hT ?_
        refine xmr_iload_n (pc := 105) (z := p1) dX12_judgedAnew_105 rfl rfl ?_
        refine xla_109 (hS := hx.2) (pc := 106) dX12_judgedAnew_106 (A_109 hw) hT (rIx (n := 10) hp1 rfl) fun z892 q893 h894 => ?_
        refine xmr_icmp_gt (pc := 107) (tgt := 178) dX12_judgedAnew_107 (by decide) (r32 h891 rfl) (r32 h894 rfl) (fun h922 => ?_) (fun h922 => ?_)
        · have h923 : 1 ≤ z889 ∧ z889 ≤ 32 := (vc_X12_judgedAnew_7 h922 h891 h894)
          have h924 : 0 ≤ z892 ∧ z892 ≤ 31 := (vc_X12_judgedAnew_8 h922 h923 h894)
          refine xmr_iinc (pc := 178) (lv' := [(6, iv (z745 + 1)), (8, iv z848), (0, .ref 106), (1, iv p1), (2, iv p2), (3, iv p3), (4, iv p4), (5, iv z746), (7, iv z824)]) dX12_judgedAnew_178 rfl (by decide) rfl ?_
          refine xsv_goto (pc := 181) (tgt := 6) dX12_judgedAnew_181 (by decide) ?_
          refine xmr_lvS (lv' := [(0, .ref 106), (1, iv p1), (2, iv p2), (3, iv p3), (4, iv p4), (5, iv z746), (6, iv (z745 + 1))]) (List.forall_mem_cons.mpr ⟨rfl, List.forall_mem_cons.mpr ⟨rfl, List.forall_mem_cons.mpr ⟨rfl, List.forall_mem_cons.mpr ⟨rfl, List.forall_mem_cons.mpr ⟨rfl, List.forall_mem_cons.mpr ⟨rfl, List.forall_mem_cons.mpr ⟨rfl, fun _ h => absurd h List.not_mem_nil⟩⟩⟩⟩⟩⟩⟩) ?_
          exact ih754 z746 (z745 + 1) trivial h748 (rW (c := 0) (d := 30) (rAdd (e := 1) (f := 30) h822 (rR (x := 1)) rfl) rfl) (vc_X12_judgedAnew_5 (nS h753) h821 h822 h823)
        refine xsv_aload_n (pc := 110) dX12_judgedAnew_110 rfl rfl ?_
        refine xgf_X12_3 (pc := 111) dX12_judgedAnew_111 wF_X12_22 (A_106 hw) hT ?_
        refine xmr_iload (pc := 114) (z := z824) dX12_judgedAnew_114 rfl ?_
        refine xla_108 (hS := (by have h := hxr z745 (by omega) (by omega); rw [q825] at h; exact h.1)) (pc := 116) dX12_judgedAnew_116 (A_108 hw) hT (rIx (n := 10) h826 rfl) fun z925 q926 h927 => ?_
        refine xsv_aload_n (pc := 117) dX12_judgedAnew_117 rfl rfl ?_
        refine xgf_X12_4 (pc := 118) dX12_judgedAnew_118 wF_X12_26 (A_106 hw) hT ?_
        refine xmr_iload (pc := 121) (z := z824) dX12_judgedAnew_121 rfl ?_
        refine xlk_109 (hS := (by have h := hxr z745 (by omega) (by omega); rw [q825] at h; exact h.2)) (pc := 123) dX12_judgedAnew_123 (A_109 hw) (rIx (n := 10) h826 rfl) q890 ?_
        refine xsv_aload_n (pc := 124) dX12_judgedAnew_124 rfl rfl ?_
        refine xgf_X12_3 (pc := 125) dX12_judgedAnew_125 wF_X12_22 (A_106 hw) hT ?_
        refine xmr_iload_n (pc := 128) (z := p1) dX12_judgedAnew_128 rfl rfl ?_
        refine xla_108 (hS := hx.1) (pc := 129) dX12_judgedAnew_129 (A_108 hw) hT (rIx (n := 10) hp1 rfl) fun z928 q929 h930 => ?_
        refine xmr_cSP (pc := 130) (cx_X12_holds hw hT h927 (rW (c := (-2147483648)) (d := 2147483647) h891 rfl) h930) (gOk _ _ _ _ _) dX12_judgedAnew_130 (tX12_holds _ _ _ _ _) wS_X12_holds wM_X12_142 ⟨le_t rfl, le_t rfl⟩ ⟨le_t rfl, le_t rfl⟩ rfl (le_t rfl) fun z935 h934 => ?_
        refine xmr_if_ne (pc := 133) (tgt := 139) dX12_judgedAnew_133 (by decide) (r32 h934.1 rfl) (fun h950 => ?_) (fun h950 => ?_)
        · have h951 : 1 ≤ z935 ∧ z935 ≤ 1 := (vc_X12_ring_24 h950 h934.1)
          refine xmr_iload (pc := 139) (z := z746) dX12_judgedAnew_139 rfl ?_
          refine xmr_iconst (pc := 141) (z := 2) dX12_judgedAnew_141 ?_
          have J956 : ∀ (z954 : Int), ((0 ≤ z954 ∧ z954 ≤ 1)) → VS l D c H0 sa K W S S mX12_judgedAnew (sRm 3 0 0) ((xqP w μ (fun z => (0 ≤ z ∧ z ≤ 2) ∧ True))) 148 [(0, .ref 106), (1, iv p1), (2, iv p2), (3, iv p3), (4, iv p4), (5, iv z954), (6, iv z745)] [] μ := by
            intro z954 h955
            refine xsv_aload_n (pc := 148) dX12_judgedAnew_148 rfl rfl ?_
            refine xgf_X12_21 (pc := 149) dX12_judgedAnew_149 wF_X12_104 (A_106 hw) hT ?_
            refine xmr_iload (pc := 152) (z := z745) dX12_judgedAnew_152 rfl ?_
            refine xla_121 (hS := hr _ _ (by decide) (by decide) (by omega)) (pc := 154) dX12_judgedAnew_154 (A_121 hw) hT (rIx (n := 30) h822 rfl) fun z957 q958 h959 => ?_
            refine xmr_iload_n (pc := 155) (z := p2) dX12_judgedAnew_155 rfl rfl ?_
            refine xmr_icmp_ne (pc := 156) (tgt := 178) dX12_judgedAnew_156 (by decide) h959 hp2 (fun h965 => ?_) (fun h965 => ?_)
            · refine xmr_iinc (pc := 178) (lv' := [(6, iv (z745 + 1)), (0, .ref 106), (1, iv p1), (2, iv p2), (3, iv p3), (4, iv p4), (5, iv z954)]) dX12_judgedAnew_178 rfl (by decide) rfl ?_
              refine xsv_goto (pc := 181) (tgt := 6) dX12_judgedAnew_181 (by decide) ?_
              refine xmr_lvS (lv' := [(0, .ref 106), (1, iv p1), (2, iv p2), (3, iv p3), (4, iv p4), (5, iv z954), (6, iv (z745 + 1))]) (List.forall_mem_cons.mpr ⟨rfl, List.forall_mem_cons.mpr ⟨rfl, List.forall_mem_cons.mpr ⟨rfl, List.forall_mem_cons.mpr ⟨rfl, List.forall_mem_cons.mpr ⟨rfl, List.forall_mem_cons.mpr ⟨rfl, List.forall_mem_cons.mpr ⟨rfl, fun _ h => absurd h List.not_mem_nil⟩⟩⟩⟩⟩⟩⟩) ?_
              exact ih754 z954 (z745 + 1) trivial (rW (c := 0) (d := 2) h955 rfl) (rW (c := 0) (d := 30) (rAdd (e := 1) (f := 30) h822 (rR (x := 1)) rfl) rfl) (vc_X12_judgedAnew_5 (nS h753) h821 h822 h823)
            refine xsv_aload_n (pc := 159) dX12_judgedAnew_159 rfl rfl ?_
            refine xgf_X12_4 (pc := 160) dX12_judgedAnew_160 wF_X12_26 (A_106 hw) hT ?_
            refine xmr_iload_n (pc := 163) (z := p1) dX12_judgedAnew_163 rfl rfl ?_
            refine xlk_109 (hS := hx.2) (pc := 164) dX12_judgedAnew_164 (A_109 hw) (rIx (n := 10) hp1 rfl) q893 ?_
            refine xsv_aload_n (pc := 165) dX12_judgedAnew_165 rfl rfl ?_
            refine xgf_X12_20 (pc := 166) dX12_judgedAnew_166 wF_X12_101 (A_106 hw) hT ?_
            refine xmr_iload (pc := 169) (z := z745) dX12_judgedAnew_169 rfl ?_
            refine xla_120 (hS := hr _ _ (by decide) (by decide) (by omega)) (pc := 171) dX12_judgedAnew_171 (A_120 hw) hT (rIx (n := 30) h822 rfl) fun z966 q967 h968 => ?_
            refine xmr_icmp_gt (pc := 172) (tgt := 178) dX12_judgedAnew_172 (by decide) (r32 h894 rfl) h968 (fun h971 => ?_) (fun h971 => ?_)
            · have h972 : (-2147483648) ≤ z966 ∧ z966 ≤ 31 := (vc_X12_judgedAnew_10 h971 h922 h891 h894 h968)
              refine xmr_iinc (pc := 178) (lv' := [(6, iv (z745 + 1)), (0, .ref 106), (1, iv p1), (2, iv p2), (3, iv p3), (4, iv p4), (5, iv z954)]) dX12_judgedAnew_178 rfl (by decide) rfl ?_
              refine xsv_goto (pc := 181) (tgt := 6) dX12_judgedAnew_181 (by decide) ?_
              refine xmr_lvS (lv' := [(0, .ref 106), (1, iv p1), (2, iv p2), (3, iv p3), (4, iv p4), (5, iv z954), (6, iv (z745 + 1))]) (List.forall_mem_cons.mpr ⟨rfl, List.forall_mem_cons.mpr ⟨rfl, List.forall_mem_cons.mpr ⟨rfl, List.forall_mem_cons.mpr ⟨rfl, List.forall_mem_cons.mpr ⟨rfl, List.forall_mem_cons.mpr ⟨rfl, List.forall_mem_cons.mpr ⟨rfl, fun _ h => absurd h List.not_mem_nil⟩⟩⟩⟩⟩⟩⟩) ?_
              exact ih754 z954 (z745 + 1) trivial (rW (c := 0) (d := 2) h955 rfl) (rW (c := 0) (d := 30) (rAdd (e := 1) (f := 30) h822 (rR (x := 1)) rfl) rfl) (vc_X12_judgedAnew_5 (nS h753) h821 h822 h823)
            have h973 : 0 ≤ z966 ∧ z966 ≤ 2147483647 := (vc_X12_judgedAnew_11 h971 h922 h891 h894 h968)
            refine xmr_iconst (pc := 175) (z := 1) dX12_judgedAnew_175 ?_
            refine xmr_istore (pc := 176) (lv' := [(5, iv 1), (0, .ref 106), (1, iv p1), (2, iv p2), (3, iv p3), (4, iv p4), (6, iv z745)]) dX12_judgedAnew_176 (by decide) rfl ?_
            refine xmr_iinc (pc := 178) (lv' := [(6, iv (z745 + 1)), (5, iv 1), (0, .ref 106), (1, iv p1), (2, iv p2), (3, iv p3), (4, iv p4)]) dX12_judgedAnew_178 rfl (by decide) rfl ?_
            refine xsv_goto (pc := 181) (tgt := 6) dX12_judgedAnew_181 (by decide) ?_
            refine xmr_lvS (lv' := [(0, .ref 106), (1, iv p1), (2, iv p2), (3, iv p3), (4, iv p4), (5, iv 1), (6, iv (z745 + 1))]) (List.forall_mem_cons.mpr ⟨rfl, List.forall_mem_cons.mpr ⟨rfl, List.forall_mem_cons.mpr ⟨rfl, List.forall_mem_cons.mpr ⟨rfl, List.forall_mem_cons.mpr ⟨rfl, List.forall_mem_cons.mpr ⟨rfl, List.forall_mem_cons.mpr ⟨rfl, fun _ h => absurd h List.not_mem_nil⟩⟩⟩⟩⟩⟩⟩) ?_
            exact ih754 1 (z745 + 1) trivial (rW (c := 0) (d := 2) (rR (x := 1)) rfl) (rW (c := 0) (d := 30) (rAdd (e := 1) (f := 30) h822 (rR (x := 1)) rfl) rfl) (vc_X12_judgedAnew_5 (nS h753) h821 h822 h823)
          refine xmr_icmp_ne (pc := 142) (tgt := 148) dX12_judgedAnew_142 (by decide) (r32 h748 rfl) (r32 (rR (x := 2)) rfl) (fun h974 => ?_) (fun h974 => ?_)
          · have h975 : 0 ≤ z746 ∧ z746 ≤ 1 := (vc_X12_letWay_5 h974 h748)
            refine xmr_lvS (lv' := [(0, .ref 106), (1, iv p1), (2, iv p2), (3, iv p3), (4, iv p4), (5, iv z746), (6, iv z745)]) (List.forall_mem_cons.mpr ⟨rfl, List.forall_mem_cons.mpr ⟨rfl, List.forall_mem_cons.mpr ⟨rfl, List.forall_mem_cons.mpr ⟨rfl, List.forall_mem_cons.mpr ⟨rfl, List.forall_mem_cons.mpr ⟨rfl, List.forall_mem_cons.mpr ⟨rfl, fun _ h => absurd h List.not_mem_nil⟩⟩⟩⟩⟩⟩⟩) ?_
            exact J956 z746 h975
          have h976 : 2 ≤ z746 ∧ z746 ≤ 2 := (vc_X12_letWay_16 h974 h748)
          refine xmr_iconst (pc := 145) (z := 0) dX12_judgedAnew_145 ?_
          refine xmr_istore (pc := 146) (lv' := [(5, iv 0), (8, iv z848), (0, .ref 106), (1, iv p1), (2, iv p2), (3, iv p3), (4, iv p4), (6, iv z745), (7, iv z824)]) dX12_judgedAnew_146 (by decide) rfl ?_
          refine xmr_lvS (lv' := [(0, .ref 106), (1, iv p1), (2, iv p2), (3, iv p3), (4, iv p4), (5, iv 0), (6, iv z745)]) (List.forall_mem_cons.mpr ⟨rfl, List.forall_mem_cons.mpr ⟨rfl, List.forall_mem_cons.mpr ⟨rfl, List.forall_mem_cons.mpr ⟨rfl, List.forall_mem_cons.mpr ⟨rfl, List.forall_mem_cons.mpr ⟨rfl, List.forall_mem_cons.mpr ⟨rfl, fun _ h => absurd h List.not_mem_nil⟩⟩⟩⟩⟩⟩⟩) ?_
          exact J956 0 (rW (c := 0) (d := 1) (rR (x := 0)) rfl)
        have h977 : 0 ≤ z935 ∧ z935 ≤ 0 := (vc_X12_ring_22 h950 h934.1)
        refine xsv_goto (pc := 136) (tgt := 178) dX12_judgedAnew_136 (by decide) ?_
        refine xmr_iinc (pc := 178) (lv' := [(6, iv (z745 + 1)), (8, iv z848), (0, .ref 106), (1, iv p1), (2, iv p2), (3, iv p3), (4, iv p4), (5, iv z746), (7, iv z824)]) dX12_judgedAnew_178 rfl (by decide) rfl ?_
        refine xsv_goto (pc := 181) (tgt := 6) dX12_judgedAnew_181 (by decide) ?_
        refine xmr_lvS (lv' := [(0, .ref 106), (1, iv p1), (2, iv p2), (3, iv p3), (4, iv p4), (5, iv z746), (6, iv (z745 + 1))]) (List.forall_mem_cons.mpr ⟨rfl, List.forall_mem_cons.mpr ⟨rfl, List.forall_mem_cons.mpr ⟨rfl, List.forall_mem_cons.mpr ⟨rfl, List.forall_mem_cons.mpr ⟨rfl, List.forall_mem_cons.mpr ⟨rfl, List.forall_mem_cons.mpr ⟨rfl, fun _ h => absurd h List.not_mem_nil⟩⟩⟩⟩⟩⟩⟩) ?_
        exact ih754 z746 (z745 + 1) trivial h748 (rW (c := 0) (d := 30) (rAdd (e := 1) (f := 30) h822 (rR (x := 1)) rfl) rfl) (vc_X12_judgedAnew_5 (nS h753) h821 h822 h823)
      refine xmr_icmp_gt (pc := 32) (tgt := 86) dX12_judgedAnew_32 (by decide) h829 hp3 (fun h978 => ?_) (fun h978 => ?_)
      · have h979 : (-2147483647) ≤ z827 ∧ z827 ≤ 2147483647 := (vc_X12_judgedAnew_15 h978 hp3 h829)
        have h980 : (-2147483648) ≤ p3 ∧ p3 ≤ 2147483646 := (vc_X12_judgedAnew_16 h978 hp3 h979)
        refine xmr_iconst (pc := 86) (z := 0) dX12_judgedAnew_86 ?_
        refine xmr_lvS (lv' := [(0, .ref 106), (1, iv p1), (2, iv p2), (3, iv p3), (4, iv p4), (5, iv z746), (6, iv z745), (7, iv z824)]) (List.forall_mem_cons.mpr ⟨rfl, List.forall_mem_cons.mpr ⟨rfl, List.forall_mem_cons.mpr ⟨rfl, List.forall_mem_cons.mpr ⟨rfl, List.forall_mem_cons.mpr ⟨rfl, List.forall_mem_cons.mpr ⟨rfl, List.forall_mem_cons.mpr ⟨rfl, List.forall_mem_cons.mpr ⟨rfl, fun _ h => absurd h List.not_mem_nil⟩⟩⟩⟩⟩⟩⟩⟩) ?_
        exact J850 0 (rW (c := 0) (d := 1) (rR (x := 0)) rfl)
      refine xmr_iload_n (pc := 35) (z := p3) dX12_judgedAnew_35 rfl rfl ?_
      refine xsv_aload_n (pc := 36) dX12_judgedAnew_36 rfl rfl ?_
      refine xgf_X12_23 (pc := 37) dX12_judgedAnew_37 wF_X12_110 (A_106 hw) hT ?_
      refine xmr_iload (pc := 40) (z := z745) dX12_judgedAnew_40 rfl ?_
      refine xla_123 (hS := hr _ _ (by decide) (by decide) (by omega)) (pc := 42) dX12_judgedAnew_42 (A_123 hw) hT (rIx (n := 30) h822 rfl) fun z981 q982 h983 => ?_
      refine xmr_icmp_ge (pc := 43) (tgt := 86) dX12_judgedAnew_43 (by decide) hp3 h983 (fun h984 => ?_) (fun h984 => ?_)
      · refine xmr_iconst (pc := 86) (z := 0) dX12_judgedAnew_86 ?_
        refine xmr_lvS (lv' := [(0, .ref 106), (1, iv p1), (2, iv p2), (3, iv p3), (4, iv p4), (5, iv z746), (6, iv z745), (7, iv z824)]) (List.forall_mem_cons.mpr ⟨rfl, List.forall_mem_cons.mpr ⟨rfl, List.forall_mem_cons.mpr ⟨rfl, List.forall_mem_cons.mpr ⟨rfl, List.forall_mem_cons.mpr ⟨rfl, List.forall_mem_cons.mpr ⟨rfl, List.forall_mem_cons.mpr ⟨rfl, List.forall_mem_cons.mpr ⟨rfl, fun _ h => absurd h List.not_mem_nil⟩⟩⟩⟩⟩⟩⟩⟩) ?_
        exact J850 0 (rW (c := 0) (d := 1) (rR (x := 0)) rfl)
      have h985 : (-2147483648) ≤ p3 ∧ p3 ≤ 2147483646 := (vc_X12_judgedAnew_17 h984 h978 hp3 h829 h983)
      have h986 : (-2147483647) ≤ z981 ∧ z981 ≤ 2147483647 := (vc_X12_judgedAnew_18 h984 h978 h985 h829 h983)
      refine xsv_aload_n (pc := 46) dX12_judgedAnew_46 rfl rfl ?_
      refine xgf_X12_24 (pc := 47) dX12_judgedAnew_47 wF_X12_113 (A_106 hw) hT ?_
      refine xmr_iload (pc := 50) (z := z745) dX12_judgedAnew_50 rfl ?_
      refine xla_124 (hS := hr _ _ (by decide) (by decide) (by omega)) (pc := 52) dX12_judgedAnew_52 (A_124 hw) hT (rIx (n := 30) h822 rfl) fun z987 q988 h989 => ?_
      refine xmr_iload (pc := 53) (z := p4) dX12_judgedAnew_53 rfl ?_
      refine xmr_icmp_gt (pc := 55) (tgt := 86) dX12_judgedAnew_55 (by decide) h989 hp4 (fun h990 => ?_) (fun h990 => ?_)
      · have h991 : (-2147483647) ≤ z987 ∧ z987 ≤ 2147483647 := (vc_X12_judgedAnew_15 h990 hp4 h989)
        have h992 : (-2147483648) ≤ p4 ∧ p4 ≤ 2147483646 := (vc_X12_judgedAnew_16 h990 hp4 h991)
        refine xmr_iconst (pc := 86) (z := 0) dX12_judgedAnew_86 ?_
        refine xmr_lvS (lv' := [(0, .ref 106), (1, iv p1), (2, iv p2), (3, iv p3), (4, iv p4), (5, iv z746), (6, iv z745), (7, iv z824)]) (List.forall_mem_cons.mpr ⟨rfl, List.forall_mem_cons.mpr ⟨rfl, List.forall_mem_cons.mpr ⟨rfl, List.forall_mem_cons.mpr ⟨rfl, List.forall_mem_cons.mpr ⟨rfl, List.forall_mem_cons.mpr ⟨rfl, List.forall_mem_cons.mpr ⟨rfl, List.forall_mem_cons.mpr ⟨rfl, fun _ h => absurd h List.not_mem_nil⟩⟩⟩⟩⟩⟩⟩⟩) ?_
        exact J850 0 (rW (c := 0) (d := 1) (rR (x := 0)) rfl)
      refine xsv_aload_n (pc := 58) dX12_judgedAnew_58 rfl rfl ?_
      refine xgf_X12_25 (pc := 59) dX12_judgedAnew_59 wF_X12_116 (A_106 hw) hT ?_
      refine xmr_iload (pc := 62) (z := z745) dX12_judgedAnew_62 rfl ?_
      refine xla_125 (hS := hr _ _ (by decide) (by decide) (by omega)) (pc := 64) dX12_judgedAnew_64 (A_125 hw) hT (rIx (n := 30) h822 rfl) fun z993 q994 h995 => ?_
      refine xmr_ldc (pc := 65) (z := (-99999999)) dX12_judgedAnew_65 wG_X12_29 (by decide) ?_
      refine xmr_icmp_eq (pc := 67) (tgt := 82) dX12_judgedAnew_67 (by decide) h995 (r32 (rR (x := (-99999999))) rfl) (fun h996 => ?_) (fun h996 => ?_)
      · have h997 : (-99999999) ≤ z993 ∧ z993 ≤ (-99999999) := (vc_X12_judgedAnew_21 h996 h995)
        refine xmr_iconst (pc := 82) (z := 1) dX12_judgedAnew_82 ?_
        refine xsv_goto (pc := 83) (tgt := 87) dX12_judgedAnew_83 (by decide) ?_
        refine xmr_lvS (lv' := [(0, .ref 106), (1, iv p1), (2, iv p2), (3, iv p3), (4, iv p4), (5, iv z746), (6, iv z745), (7, iv z824)]) (List.forall_mem_cons.mpr ⟨rfl, List.forall_mem_cons.mpr ⟨rfl, List.forall_mem_cons.mpr ⟨rfl, List.forall_mem_cons.mpr ⟨rfl, List.forall_mem_cons.mpr ⟨rfl, List.forall_mem_cons.mpr ⟨rfl, List.forall_mem_cons.mpr ⟨rfl, List.forall_mem_cons.mpr ⟨rfl, fun _ h => absurd h List.not_mem_nil⟩⟩⟩⟩⟩⟩⟩⟩) ?_
        exact J850 1 (rW (c := 0) (d := 1) (rR (x := 1)) rfl)
      refine xmr_iload (pc := 70) (z := p4) dX12_judgedAnew_70 rfl ?_
      refine xsv_aload_n (pc := 72) dX12_judgedAnew_72 rfl rfl ?_
      refine xgf_X12_25 (pc := 73) dX12_judgedAnew_73 wF_X12_116 (A_106 hw) hT ?_
      refine xmr_iload (pc := 76) (z := z745) dX12_judgedAnew_76 rfl ?_
      refine xlk_125 (hS := hr _ _ (by decide) (by decide) (by omega)) (pc := 78) dX12_judgedAnew_78 (A_125 hw) (rIx (n := 30) h822 rfl) q994 ?_
      refine xmr_icmp_ge (pc := 79) (tgt := 86) dX12_judgedAnew_79 (by decide) hp4 h995 (fun h998 => ?_) (fun h998 => ?_)
      · refine xmr_iconst (pc := 86) (z := 0) dX12_judgedAnew_86 ?_
        refine xmr_lvS (lv' := [(0, .ref 106), (1, iv p1), (2, iv p2), (3, iv p3), (4, iv p4), (5, iv z746), (6, iv z745), (7, iv z824)]) (List.forall_mem_cons.mpr ⟨rfl, List.forall_mem_cons.mpr ⟨rfl, List.forall_mem_cons.mpr ⟨rfl, List.forall_mem_cons.mpr ⟨rfl, List.forall_mem_cons.mpr ⟨rfl, List.forall_mem_cons.mpr ⟨rfl, List.forall_mem_cons.mpr ⟨rfl, List.forall_mem_cons.mpr ⟨rfl, fun _ h => absurd h List.not_mem_nil⟩⟩⟩⟩⟩⟩⟩⟩) ?_
        exact J850 0 (rW (c := 0) (d := 1) (rR (x := 0)) rfl)
      have h999 : (-2147483648) ≤ p4 ∧ p4 ≤ 2147483646 := (vc_X12_judgedAnew_22 h998 h990 h996 hp4 h989 h995)
      have h1000 : (-2147483647) ≤ z993 ∧ z993 ≤ 2147483647 := (vc_X12_judgedAnew_23 h998 h990 h996 h999 h989 h995)
      refine xmr_iconst (pc := 82) (z := 1) dX12_judgedAnew_82 ?_
      refine xsv_goto (pc := 83) (tgt := 87) dX12_judgedAnew_83 (by decide) ?_
      refine xmr_lvS (lv' := [(0, .ref 106), (1, iv p1), (2, iv p2), (3, iv p3), (4, iv p4), (5, iv z746), (6, iv z745), (7, iv z824)]) (List.forall_mem_cons.mpr ⟨rfl, List.forall_mem_cons.mpr ⟨rfl, List.forall_mem_cons.mpr ⟨rfl, List.forall_mem_cons.mpr ⟨rfl, List.forall_mem_cons.mpr ⟨rfl, List.forall_mem_cons.mpr ⟨rfl, List.forall_mem_cons.mpr ⟨rfl, List.forall_mem_cons.mpr ⟨rfl, fun _ h => absurd h List.not_mem_nil⟩⟩⟩⟩⟩⟩⟩⟩) ?_
      exact J850 1 (rW (c := 0) (d := 1) (rR (x := 1)) rfl)
  refine xmr_lvS (lv' := [(0, .ref 106), (1, iv p1), (2, iv p2), (3, iv p3), (4, iv p4), (5, iv 2), (6, iv 0)]) (List.forall_mem_cons.mpr ⟨rfl, List.forall_mem_cons.mpr ⟨rfl, List.forall_mem_cons.mpr ⟨rfl, List.forall_mem_cons.mpr ⟨rfl, List.forall_mem_cons.mpr ⟨rfl, List.forall_mem_cons.mpr ⟨rfl, List.forall_mem_cons.mpr ⟨rfl, fun _ h => absurd h List.not_mem_nil⟩⟩⟩⟩⟩⟩⟩) ?_
  exact L747 32 2 0 trivial (rW (c := 0) (d := 2) (rR (x := 2)) rfl) (rW (c := 0) (d := 30) (rR (x := 0)) rfl) vc_X12_judgedAnew_24

theorem xties {l : Launch} {D : va_G} {c : Nat → ClassId} {H0 : Heap} {sa : Nat × Nat × (Nat → Int32)} {K : (Nat → Int) → (Nat → Int) → Prop} {W S SE : Nat → Nat → Prop} {Q : Option Value → mM → Prop} {M : sM} {R : Room} {μ : mM} {pc : Nat} {lv : List (Nat × Value)} {st : List Value} {index tgt : Nat} {z off g : Int} (hd : decode M.2.1 pc = .ok (.getfield index, 3)) (hw : sFl (RX12, TX12, 126) M.1.cls index 6 ∈ lw_ok) (hd2 : decode M.2.1 (pc + 3) = .ok (.if_icmp .ge off, 3)) (ht : ((pc + 3 : Nat) : Int) + off = (tgt : Int)) (hz : -2147483648 ≤ z ∧ z ≤ 2147483647) (hg : z ≤ g) (hK : ∀ γ f, K γ f → g < f 6) (k : VS l D c H0 sa K W S SE M R Q (pc + 3 + 3) lv st μ) : VS l D c H0 sa K W S SE M R Q pc lv (.ref 106 :: iv z :: st) μ :=
  VS.lift (fun _ ν _ x T' y _ k => gf_X12_6 hd hw (A_106 x) T' (fun v q hv => mr_icmp_ge hd2 ht hz (by omega) (fun h => absurd (y.elim fun γ y => hK γ _ y) (by have q : ν 106 6 = v := q; omega)) (fun _ => k))) k
set_option maxRecDepth 4000 in
set_option maxHeartbeats 4000000 in
theorem cx_X12_tieOf_hit {l : Launch} {D : va_G} {c : Nat → ClassId} {H0 : Heap} {sa : Nat × Nat × (Nat → Int32)} {w : mW} {μ : mM} {K : (Nat → Int) → (Nat → Int) → Prop} {W S : Nat → Nat → Prop} (hw : mWF w) (hT : mT w μ) {p1 : Int} (hp1 : (-2147483648) ≤ p1 ∧ p1 ≤ 2147483647) {p2 : Int} (hp2 : (-2147483648) ≤ p2 ∧ p2 ≤ 2147483647) {g1 : Int} (hg1 : 0 ≤ g1 ∧ g1 ≤ 19) {f_e0 : Int} (q_f_e0 : μ 110 ((2 * g1).toNat) = f_e0) {f_e1 : Int} (q_f_e1 : μ 110 (((2 * g1) + 1).toNat) = f_e1) {f_ties : Int} (q_f_ties : μ 106 6 = f_ties) (hq0 : g1 < f_ties) (hq1 : (f_e0 = p1 ∧ f_e1 = p2) ∨ (f_e0 = p2 ∧ f_e1 = p1)) (hK : ∀ γ f, K γ f → g1 < f 6) (h110 : ∀ i : Nat, (i : Int) ≤ 2 * g1 + 1 → S 110 i) : VC l D c H0 sa K W S S mX12_tieOf 1 [.ref 106, iv p1, iv p2] μ (xqP w μ (fun z => (0 ≤ z ∧ z ≤ 19) ∧ z ≤ g1)) := by
  refine VC.of rfl (by decide) (le_t rfl) ?_
  have ht_f_e0 : (0 ≤ f_e0 ∧ f_e0 ≤ 9) := by rw [← q_f_e0]; exact hT 110 110 (A_110 hw) ((2 * g1).toNat)
  have ht_f_e1 : (0 ≤ f_e1 ∧ f_e1 ≤ 9) := by rw [← q_f_e1]; exact hT 110 110 (A_110 hw) (((2 * g1) + 1).toNat)
  have ht_f_ties : (0 ≤ f_ties ∧ f_ties ≤ 20) := by rw [← q_f_ties]; exact hT 106 106 (A_106 hw) 6
  have h1 : 1 ≤ f_ties ∧ f_ties ≤ 20 := (vc_X3_putAttributes_11 hq0 ht_f_ties hg1)
  refine xmr_lvE (lv' := [(0, .ref 106), (1, iv p1), (2, iv p2)]) rfl ?_
  refine xmr_iconst (pc := 0) (z := 0) dX12_tieOf_0 ?_
  refine xmr_istore_n (pc := 1) (lv' := [(3, iv 0), (0, .ref 106), (1, iv p1), (2, iv p2)]) dX12_tieOf_1 rfl (by decide) rfl ?_
  have L417 : ∀ (nL417 : Nat) (z416 : Int), True → (0 ≤ z416 ∧ z416 ≤ 20) → (z416 ≤ g1) → (21 - z416) < (nL417 : Int) → VS l D c H0 sa K W S S mX12_tieOf (sRm 1 0 0) ((xqP w μ (fun z => (0 ≤ z ∧ z ≤ 19) ∧ z ≤ g1))) 2 [(0, .ref 106), (1, iv p1), (2, iv p2), (3, iv z416)] [] μ := by
    intro nL417
    induction nL417 with
    | zero => intro z416 _ h418 h422 h423; exact ((vc_X12_tieOf_hit_2 h423 h422 hq0 h1 hg1 h418)).elim
    | succ nL417 ih424 =>
      intro z416 _ h418 h422 h423
      refine xmr_iload_n (pc := 2) (z := z416) dX12_tieOf_2 rfl rfl ?_
      refine xsv_aload_n (pc := 3) dX12_tieOf_3 rfl rfl ?_
      refine xties (pc := 4) (tgt := 70) dX12_tieOf_4 wF_X12_37 dX12_tieOf_7 (by decide) (r32 h418 rfl) h422 hK ?_
      have h425 : z416 < f_ties := Int.lt_of_le_of_lt h422 hq0
      have h426 : 0 ≤ z416 ∧ z416 ≤ 19 := (vc_X12_tieOf_hit_4 h425 hq0 h422 h1 hg1 h418)
      refine xsv_aload_n (pc := 10) dX12_tieOf_10 rfl rfl ?_
      refine xgf_X12_7 (pc := 11) dX12_tieOf_11 wF_X12_40 (A_106 hw) hT ?_
      refine xmr_iconst (pc := 14) (z := 2) dX12_tieOf_14 ?_
      refine xmr_iload_n (pc := 15) (z := z416) dX12_tieOf_15 rfl rfl ?_
      refine xmr_imul (pc := 16) (x := 2) (y := z416) dX12_tieOf_16 ?_
      refine xla_110 (hS := h110 _ (by omega)) (pc := 17) dX12_tieOf_17 (A_110 hw) hT (rIx (n := 40) (rMulL (n := 2) (e := 0) (f := 38) h426 rfl) rfl) fun z427 q428 h429 => ?_
      refine xmr_iload_n (pc := 18) (z := p1) dX12_tieOf_18 rfl rfl ?_
      refine xmr_icmp_ne (pc := 19) (tgt := 36) dX12_tieOf_19 (by decide) (r32 h429 rfl) hp1 (fun h430 => ?_) (fun h430 => ?_)
      · refine xsv_aload_n (pc := 36) dX12_tieOf_36 rfl rfl ?_
        refine xgf_X12_7 (pc := 37) dX12_tieOf_37 wF_X12_40 (A_106 hw) hT ?_
        refine xmr_iconst (pc := 40) (z := 2) dX12_tieOf_40 ?_
        refine xmr_iload_n (pc := 41) (z := z416) dX12_tieOf_41 rfl rfl ?_
        refine xmr_imul (pc := 42) (x := 2) (y := z416) dX12_tieOf_42 ?_
        refine xlk_110 (hS := h110 _ (by omega)) (pc := 43) dX12_tieOf_43 (A_110 hw) (rIx (n := 40) (rMulL (n := 2) (e := 0) (f := 38) h426 rfl) rfl) q428 ?_
        refine xmr_iload_n (pc := 44) (z := p2) dX12_tieOf_44 rfl rfl ?_
        refine xmr_icmp_ne (pc := 45) (tgt := 64) dX12_tieOf_45 (by decide) (r32 h429 rfl) hp2 (fun h431 => ?_) (fun h431 => ?_)
        · refine xmr_iinc (pc := 64) (lv' := [(3, iv (z416 + 1)), (0, .ref 106), (1, iv p1), (2, iv p2)]) dX12_tieOf_64 rfl (by decide) rfl ?_
          refine xsv_goto (pc := 67) (tgt := 2) dX12_tieOf_67 (by decide) ?_
          refine xmr_lvS (lv' := [(0, .ref 106), (1, iv p1), (2, iv p2), (3, iv (z416 + 1))]) (List.forall_mem_cons.mpr ⟨rfl, List.forall_mem_cons.mpr ⟨rfl, List.forall_mem_cons.mpr ⟨rfl, List.forall_mem_cons.mpr ⟨rfl, fun _ h => absurd h List.not_mem_nil⟩⟩⟩⟩) ?_
          exact ih424 (z416 + 1) trivial (rW (c := 0) (d := 20) (rAdd (e := 1) (f := 20) h426 (rR (x := 1)) rfl) rfl) (vc_X12_tieOf_hit_5 hq0 h422 h425 (cgr q428 q_f_e0) (cgr q428 q_f_e1) hq1 h430 h431 ht_f_e0 ht_f_e1 h1 hg1 hp1 hp2 h426 h429) (vc_X12_tieOf_hit_6 (nS h423) h422 h425 (cgr q428 q_f_e0) (cgr q428 q_f_e1) hq0 hq1 h430 h431 ht_f_e0 ht_f_e1 h1 hg1 hp1 hp2 h426 h429)
        have h432 : 0 ≤ p2 ∧ p2 ≤ 9 := (vc_X12_tieOf_hit_7 h431 hq1 (cgr q428 q_f_e0) (cgr q428 q_f_e1) h430 ht_f_e0 ht_f_e1 hg1 hp1 hp2 h426 h429)
        refine xsv_aload_n (pc := 48) dX12_tieOf_48 rfl rfl ?_
        refine xgf_X12_7 (pc := 49) dX12_tieOf_49 wF_X12_40 (A_106 hw) hT ?_
        refine xmr_iconst (pc := 52) (z := 2) dX12_tieOf_52 ?_
        refine xmr_iload_n (pc := 53) (z := z416) dX12_tieOf_53 rfl rfl ?_
        refine xmr_imul (pc := 54) (x := 2) (y := z416) dX12_tieOf_54 ?_
        refine xmr_iconst (pc := 55) (z := 1) dX12_tieOf_55 ?_
        refine xmr_iadd (pc := 56) (x := (2 * z416)) (y := 1) dX12_tieOf_56 ?_
        refine xla_110 (hS := h110 _ (by omega)) (pc := 57) dX12_tieOf_57 (A_110 hw) hT (rIx (n := 40) (rAdd (e := 1) (f := 39) (rMulL (n := 2) (e := 0) (f := 38) h426 rfl) (rR (x := 1)) rfl) rfl) fun z433 q434 h435 => ?_
        refine xmr_iload_n (pc := 58) (z := p1) dX12_tieOf_58 rfl rfl ?_
        refine xmr_icmp_ne (pc := 59) (tgt := 64) dX12_tieOf_59 (by decide) (r32 h435 rfl) hp1 (fun h436 => ?_) (fun h436 => ?_)
        · refine xmr_iinc (pc := 64) (lv' := [(3, iv (z416 + 1)), (0, .ref 106), (1, iv p1), (2, iv p2)]) dX12_tieOf_64 rfl (by decide) rfl ?_
          refine xsv_goto (pc := 67) (tgt := 2) dX12_tieOf_67 (by decide) ?_
          refine xmr_lvS (lv' := [(0, .ref 106), (1, iv p1), (2, iv p2), (3, iv (z416 + 1))]) (List.forall_mem_cons.mpr ⟨rfl, List.forall_mem_cons.mpr ⟨rfl, List.forall_mem_cons.mpr ⟨rfl, List.forall_mem_cons.mpr ⟨rfl, fun _ h => absurd h List.not_mem_nil⟩⟩⟩⟩) ?_
          exact ih424 (z416 + 1) trivial (rW (c := 0) (d := 20) (rAdd (e := 1) (f := 20) h426 (rR (x := 1)) rfl) rfl) (vc_X12_tieOf_hit_8 hq0 h422 h425 (cgr q428 q_f_e0) (cgr q428 q_f_e1) (cgr q434 q_f_e0) (cgr q434 q_f_e1) (cgr q434 q428) hq1 h430 h431 h436 ht_f_e0 ht_f_e1 h1 hg1 hp1 h432 h426 h429 h435) (vc_X12_tieOf_hit_9 (nS h423) h422 h425 (cgr q428 q_f_e0) (cgr q428 q_f_e1) (cgr q434 q_f_e0) (cgr q434 q_f_e1) (cgr q434 q428) hq0 hq1 h430 h431 h436 ht_f_e0 ht_f_e1 h1 hg1 hp1 h432 h426 h429 h435)
        have h437 : 0 ≤ p1 ∧ p1 ≤ 9 := (vc_X12_tieOf_hit_10 h436 hq1 h430 (cgr q434 q_f_e0) (cgr q434 q_f_e1) (cgr q434 q428) ht_f_e0 ht_f_e1 hg1 hp1 h432 h426 h429 h435)
        refine xmr_iload_n (pc := 62) (z := z416) dX12_tieOf_62 rfl rfl ?_
        exact xmr_iretP dX12_tieOf_63 rfl (le_t rfl) (le_t rfl) ⟨h426, h422⟩
      have h438 : 0 ≤ p1 ∧ p1 ≤ 9 := (vc_X12_tieOf_hit_11 h430 hq1 (cgr q428 q_f_e0) (cgr q428 q_f_e1) ht_f_e0 ht_f_e1 hg1 hp1 hp2 h426 h429)
      refine xsv_aload_n (pc := 22) dX12_tieOf_22 rfl rfl ?_
      refine xgf_X12_7 (pc := 23) dX12_tieOf_23 wF_X12_40 (A_106 hw) hT ?_
      refine xmr_iconst (pc := 26) (z := 2) dX12_tieOf_26 ?_
      refine xmr_iload_n (pc := 27) (z := z416) dX12_tieOf_27 rfl rfl ?_
      refine xmr_imul (pc := 28) (x := 2) (y := z416) dX12_tieOf_28 ?_
      refine xmr_iconst (pc := 29) (z := 1) dX12_tieOf_29 ?_
      refine xmr_iadd (pc := 30) (x := (2 * z416)) (y := 1) dX12_tieOf_30 ?_
      refine xla_110 (hS := h110 _ (by omega)) (pc := 31) dX12_tieOf_31 (A_110 hw) hT (rIx (n := 40) (rAdd (e := 1) (f := 39) (rMulL (n := 2) (e := 0) (f := 38) h426 rfl) (rR (x := 1)) rfl) rfl) fun z439 q440 h441 => ?_
      refine xmr_iload_n (pc := 32) (z := p2) dX12_tieOf_32 rfl rfl ?_
      refine xmr_icmp_eq (pc := 33) (tgt := 62) dX12_tieOf_33 (by decide) (r32 h441 rfl) hp2 (fun h442 => ?_) (fun h442 => ?_)
      · have h443 : 0 ≤ p2 ∧ p2 ≤ 9 := (vc_X12_tieOf_hit_12 h442 hq1 (cgr q440 q_f_e0) (cgr q440 q_f_e1) (cgr q440 q428) ht_f_e0 ht_f_e1 hg1 h438 hp2 h426 h429 h441)
        refine xmr_iload_n (pc := 62) (z := z416) dX12_tieOf_62 rfl rfl ?_
        exact xmr_iretP dX12_tieOf_63 rfl (le_t rfl) (le_t rfl) ⟨h426, h422⟩
      refine xsv_aload_n (pc := 36) dX12_tieOf_36 rfl rfl ?_
      refine xgf_X12_7 (pc := 37) dX12_tieOf_37 wF_X12_40 (A_106 hw) hT ?_
      refine xmr_iconst (pc := 40) (z := 2) dX12_tieOf_40 ?_
      refine xmr_iload_n (pc := 41) (z := z416) dX12_tieOf_41 rfl rfl ?_
      refine xmr_imul (pc := 42) (x := 2) (y := z416) dX12_tieOf_42 ?_
      refine xlk_110 (hS := h110 _ (by omega)) (pc := 43) dX12_tieOf_43 (A_110 hw) (rIx (n := 40) (rMulL (n := 2) (e := 0) (f := 38) h426 rfl) rfl) q428 ?_
      refine xmr_iload_n (pc := 44) (z := p2) dX12_tieOf_44 rfl rfl ?_
      refine xmr_icmp_ne (pc := 45) (tgt := 64) dX12_tieOf_45 (by decide) (r32 h429 rfl) hp2 (fun h444 => ?_) (fun h444 => ?_)
      · refine xmr_iinc (pc := 64) (lv' := [(3, iv (z416 + 1)), (0, .ref 106), (1, iv p1), (2, iv p2)]) dX12_tieOf_64 rfl (by decide) rfl ?_
        refine xsv_goto (pc := 67) (tgt := 2) dX12_tieOf_67 (by decide) ?_
        refine xmr_lvS (lv' := [(0, .ref 106), (1, iv p1), (2, iv p2), (3, iv (z416 + 1))]) (List.forall_mem_cons.mpr ⟨rfl, List.forall_mem_cons.mpr ⟨rfl, List.forall_mem_cons.mpr ⟨rfl, List.forall_mem_cons.mpr ⟨rfl, fun _ h => absurd h List.not_mem_nil⟩⟩⟩⟩) ?_
        exact ih424 (z416 + 1) trivial (rW (c := 0) (d := 20) (rAdd (e := 1) (f := 20) h426 (rR (x := 1)) rfl) rfl) (vc_X12_tieOf_hit_13 hq0 h422 h425 (cgr q428 q_f_e0) (cgr q428 q_f_e1) (cgr q440 q_f_e0) (cgr q440 q_f_e1) (cgr q440 q428) hq1 h430 h442 h444 ht_f_e0 ht_f_e1 h1 hg1 h438 hp2 h426 h429 h441) (vc_X12_tieOf_hit_14 (nS h423) h422 h425 (cgr q428 q_f_e0) (cgr q428 q_f_e1) (cgr q440 q_f_e0) (cgr q440 q_f_e1) (cgr q440 q428) hq0 hq1 h430 h442 h444 ht_f_e0 ht_f_e1 h1 hg1 h438 hp2 h426 h429 h441)
      have h445 : 0 ≤ p2 ∧ p2 ≤ 9 := (vc_X12_tieOf_hit_15 h444 hq1 (cgr q428 q_f_e0) (cgr q428 q_f_e1) h430 (cgr q440 q428) h442 ht_f_e0 ht_f_e1 hg1 h438 hp2 h426 h429 h441)
      refine xsv_aload_n (pc := 48) dX12_tieOf_48 rfl rfl ?_
      refine xgf_X12_7 (pc := 49) dX12_tieOf_49 wF_X12_40 (A_106 hw) hT ?_
      refine xmr_iconst (pc := 52) (z := 2) dX12_tieOf_52 ?_
      refine xmr_iload_n (pc := 53) (z := z416) dX12_tieOf_53 rfl rfl ?_
      refine xmr_imul (pc := 54) (x := 2) (y := z416) dX12_tieOf_54 ?_
      refine xmr_iconst (pc := 55) (z := 1) dX12_tieOf_55 ?_
      refine xmr_iadd (pc := 56) (x := (2 * z416)) (y := 1) dX12_tieOf_56 ?_
      refine xlk_110 (hS := h110 _ (by omega)) (pc := 57) dX12_tieOf_57 (A_110 hw) (rIx (n := 40) (rAdd (e := 1) (f := 39) (rMulL (n := 2) (e := 0) (f := 38) h426 rfl) (rR (x := 1)) rfl) rfl) q440 ?_
      refine xmr_iload_n (pc := 58) (z := p1) dX12_tieOf_58 rfl rfl ?_
      refine xmr_icmp_ne (pc := 59) (tgt := 64) dX12_tieOf_59 (by decide) (r32 h441 rfl) (r32 h438 rfl) (fun h446 => ?_) (fun h446 => ?_)
      · refine xmr_iinc (pc := 64) (lv' := [(3, iv (z416 + 1)), (0, .ref 106), (1, iv p1), (2, iv p2)]) dX12_tieOf_64 rfl (by decide) rfl ?_
        refine xsv_goto (pc := 67) (tgt := 2) dX12_tieOf_67 (by decide) ?_
        refine xmr_lvS (lv' := [(0, .ref 106), (1, iv p1), (2, iv p2), (3, iv (z416 + 1))]) (List.forall_mem_cons.mpr ⟨rfl, List.forall_mem_cons.mpr ⟨rfl, List.forall_mem_cons.mpr ⟨rfl, List.forall_mem_cons.mpr ⟨rfl, fun _ h => absurd h List.not_mem_nil⟩⟩⟩⟩) ?_
        exact ih424 (z416 + 1) trivial (rW (c := 0) (d := 20) (rAdd (e := 1) (f := 20) h426 (rR (x := 1)) rfl) rfl) (vc_X12_tieOf_hit_16 hq0 h422 h425 (cgr q428 q_f_e0) (cgr q428 q_f_e1) (cgr q440 q_f_e0) (cgr q440 q_f_e1) (cgr q440 q428) hq1 h430 h442 h444 h446 ht_f_e0 ht_f_e1 h1 hg1 h438 h445 h426 h429 h441) (vc_X12_tieOf_hit_17 (nS h423) h422 h425 (cgr q428 q_f_e0) (cgr q428 q_f_e1) (cgr q440 q_f_e0) (cgr q440 q_f_e1) (cgr q440 q428) hq0 hq1 h430 h442 h444 h446 ht_f_e0 ht_f_e1 h1 hg1 h438 h445 h426 h429 h441)
      refine xmr_iload_n (pc := 62) (z := z416) dX12_tieOf_62 rfl rfl ?_
      exact xmr_iretP dX12_tieOf_63 rfl (le_t rfl) (le_t rfl) ⟨h426, h422⟩
  refine xmr_lvS (lv' := [(0, .ref 106), (1, iv p1), (2, iv p2), (3, iv 0)]) (List.forall_mem_cons.mpr ⟨rfl, List.forall_mem_cons.mpr ⟨rfl, List.forall_mem_cons.mpr ⟨rfl, List.forall_mem_cons.mpr ⟨rfl, fun _ h => absurd h List.not_mem_nil⟩⟩⟩⟩) ?_
  exact L417 22 0 trivial (rW (c := 0) (d := 20) (rR (x := 0)) rfl) (vc_X12_tieOf_hit_18 hq0 h1 hg1) vc_X12_tieOf_12

set_option maxRecDepth 4000 in
set_option maxHeartbeats 4000000 in
theorem cx_X12_tieWord {l : Launch} {D : va_G} {c : Nat → ClassId} {H0 : Heap} {sa : Nat × Nat × (Nat → Int32)} {w : mW} {μ : mM} {K : (Nat → Int) → (Nat → Int) → Prop} {W S : Nat → Nat → Prop} (hw : mWF w) (hT : mT w μ) {p1 : Int} (hp1 : (-2147483648) ≤ p1 ∧ p1 ≤ 2147483647) {p2 : Int} (hp2 : (-2147483648) ≤ p2 ∧ p2 ≤ 2147483647) {g1 : Int} (hg1 : 0 ≤ g1 ∧ g1 ≤ 19) {f_e0 : Int} (q_f_e0 : μ 110 ((2 * g1).toNat) = f_e0) {f_e1 : Int} (q_f_e1 : μ 110 (((2 * g1) + 1).toNat) = f_e1) {f_ties : Int} (q_f_ties : μ 106 6 = f_ties) (hq0 : g1 < f_ties) (hq1 : (f_e0 = p1 ∧ f_e1 = p2) ∨ (f_e0 = p2 ∧ f_e1 = p1)) (hK : ∀ γ f, K γ f → g1 < f 6) (h110 : ∀ i : Nat, (i : Int) ≤ 2 * g1 + 1 → S 110 i) (h111 : ∀ i : Nat, (i : Int) ≤ g1 → S 111 i) : VC l D c H0 sa K W S S mX12_tieWord 2 [.ref 106, iv p1, iv p2] μ (xqP w μ (fun z => (16 ≤ z ∧ z ≤ 19) ∧ True)) := by
  refine VC.of rfl (by decide) (le_t rfl) ?_
  have ht_f_e0 : (0 ≤ f_e0 ∧ f_e0 ≤ 9) := by rw [← q_f_e0]; exact hT 110 110 (A_110 hw) ((2 * g1).toNat)
  have ht_f_e1 : (0 ≤ f_e1 ∧ f_e1 ≤ 9) := by rw [← q_f_e1]; exact hT 110 110 (A_110 hw) (((2 * g1) + 1).toNat)
  have ht_f_ties : (0 ≤ f_ties ∧ f_ties ≤ 20) := by rw [← q_f_ties]; exact hT 106 106 (A_106 hw) 6
  have h1 : 1 ≤ f_ties ∧ f_ties ≤ 20 := (vc_X3_putAttributes_11 hq0 ht_f_ties hg1)
  refine xmr_lvE (lv' := [(0, .ref 106), (1, iv p1), (2, iv p2)]) rfl ?_
  refine xsv_aload_n (pc := 0) dX12_tieWord_0 rfl rfl ?_
  refine xmr_iload_n (pc := 1) (z := p1) dX12_tieWord_1 rfl rfl ?_
  refine xmr_iload_n (pc := 2) (z := p2) dX12_tieWord_2 rfl rfl ?_
  refine xmr_cVP (pc := 3) (cx_X12_tieOf_hit hw hT hp1 hp2 hg1 q_f_e0 q_f_e1 q_f_ties (vc_X12_tieWord_2 hq0 h1 hg1) (vc_X12_tieWord_3 hq1 ht_f_e0 ht_f_e1 hp1 hp2) hK h110) (gOk _ _ _ _ _) dX12_tieWord_3 (tX12_tieOf _ _ _ _ _) ⟨wV_X12_tieOf, wL_X12_tieOf⟩ wM_X12_43 (gCX12 _ _ _ _ _) rfl (A_106 hw) rfl ⟨le_t rfl, le_t rfl⟩ ⟨le_t rfl, le_t rfl⟩ rfl (le_t rfl) fun z51 h50 => ?_
  refine xmr_istore_n (pc := 6) (lv' := [(3, iv z51), (0, .ref 106), (1, iv p1), (2, iv p2)]) dX12_tieWord_6 rfl (by decide) rfl ?_
  refine xsv_aload_n (pc := 7) dX12_tieWord_7 rfl rfl ?_
  refine xgf_X12_8 (pc := 8) dX12_tieWord_8 wF_X12_46 (A_106 hw) hT ?_
  refine xmr_iload_n (pc := 11) (z := z51) dX12_tieWord_11 rfl rfl ?_
  refine xla_111 (hS := h111 _ (by omega)) (pc := 12) dX12_tieWord_12 (A_111 hw) hT (rIx (n := 20) h50.1 rfl) fun z52 q53 h54 => ?_
  refine xmr_iconst (pc := 13) (z := 1) dX12_tieWord_13 ?_
  refine xmr_icmp_ne (pc := 14) (tgt := 20) dX12_tieWord_14 (by decide) (r32 h54 rfl) (r32 (rR (x := 1)) rfl) (fun h55 => ?_) (fun h55 => ?_)
  · refine xsv_aload_n (pc := 20) dX12_tieWord_20 rfl rfl ?_
    refine xgf_X12_8 (pc := 21) dX12_tieWord_21 wF_X12_46 (A_106 hw) hT ?_
    refine xmr_iload_n (pc := 24) (z := z51) dX12_tieWord_24 rfl rfl ?_
    refine xlk_111 (hS := h111 _ (by omega)) (pc := 25) dX12_tieWord_25 (A_111 hw) (rIx (n := 20) h50.1 rfl) q53 ?_
    refine xmr_iconst (pc := 26) (z := 2) dX12_tieWord_26 ?_
    refine xmr_icmp_ne (pc := 27) (tgt := 33) dX12_tieWord_27 (by decide) (r32 h54 rfl) (r32 (rR (x := 2)) rfl) (fun h56 => ?_) (fun h56 => ?_)
    · have h57 : 0 ≤ z52 ∧ z52 ≤ 1 := (vc_X9_partnerRole_1 h56 h55 h54)
      refine xsv_aload_n (pc := 33) dX12_tieWord_33 rfl rfl ?_
      refine xgf_X12_7 (pc := 34) dX12_tieWord_34 wF_X12_40 (A_106 hw) hT ?_
      refine xmr_iconst (pc := 37) (z := 2) dX12_tieWord_37 ?_
      refine xmr_iload_n (pc := 38) (z := z51) dX12_tieWord_38 rfl rfl ?_
      refine xmr_imul (pc := 39) (x := 2) (y := z51) dX12_tieWord_39 ?_
      refine xla_110 (hS := h110 _ (by omega)) (pc := 40) dX12_tieWord_40 (A_110 hw) hT (rIx (n := 40) (rMulL (n := 2) (e := 0) (f := 38) h50.1 rfl) rfl) fun z58 q59 h60 => ?_
      refine xmr_iload_n (pc := 41) (z := p1) dX12_tieWord_41 rfl rfl ?_
      refine xmr_icmp_ne (pc := 42) (tgt := 50) dX12_tieWord_42 (by decide) (r32 h60 rfl) hp1 (fun h62 => ?_) (fun h62 => ?_)
      · refine xmr_bipush (pc := 50) (z := 17) dX12_tieWord_50 (by decide) ?_
        exact xmr_iretP dX12_tieWord_52 rfl (le_t rfl) (le_t rfl) ⟨(rW (c := 16) (d := 19) (rR (x := 17)) rfl), trivial⟩
      have h63 : 0 ≤ p1 ∧ p1 ≤ 9 := (vc_X12_tieWord_5 h62 hq1 ht_f_e0 ht_f_e1 hp1 hp2 h60)
      refine xmr_bipush (pc := 45) (z := 16) dX12_tieWord_45 (by decide) ?_
      refine xsv_goto (pc := 47) (tgt := 52) dX12_tieWord_47 (by decide) ?_
      exact xmr_iretP dX12_tieWord_52 rfl (le_t rfl) (le_t rfl) ⟨(rW (c := 16) (d := 19) (rR (x := 16)) rfl), trivial⟩
    have h64 : 2 ≤ z52 ∧ z52 ≤ 2 := (vc_X9_partnerRole_3 h56 h55 h54)
    refine xmr_bipush (pc := 30) (z := 19) dX12_tieWord_30 (by decide) ?_
    exact xmr_iretP dX12_tieWord_32 rfl (le_t rfl) (le_t rfl) ⟨(rW (c := 16) (d := 19) (rR (x := 19)) rfl), trivial⟩
  have h65 : 1 ≤ z52 ∧ z52 ≤ 1 := (vc_X9_partnerRole_4 h55 h54)
  refine xmr_bipush (pc := 17) (z := 18) dX12_tieWord_17 (by decide) ?_
  exact xmr_iretP dX12_tieWord_19 rfl (le_t rfl) (le_t rfl) ⟨(rW (c := 16) (d := 19) (rR (x := 18)) rfl), trivial⟩

set_option maxRecDepth 4000 in
set_option maxHeartbeats 4000000 in
theorem cx_X12_isSo {l : Launch} {D : va_G} {c : Nat → ClassId} {H0 : Heap} {sa : Nat × Nat × (Nat → Int32)} {w : mW} {μ : mM} {K : (Nat → Int) → (Nat → Int) → Prop} {W S : Nat → Nat → Prop} (hw : mWF w) (hT : mT w μ) {p1 : Int} (hp1 : 0 ≤ p1 ∧ p1 ≤ 11) {p2 : Int} (hp2 : 0 ≤ p2 ∧ p2 ≤ 3899) {p3 : Int} (hp3 : 0 ≤ p3 ∧ p3 ≤ 2099) {p4 : Int} (hp4 : (-2147483648) ≤ p4 ∧ p4 ≤ 2147483647) {p5 : Int} (hp5 : (-2147483648) ≤ p5 ∧ p5 ≤ 2147483647) {g1 : Int} (hg1 : 0 ≤ g1 ∧ g1 ≤ 19) {f_e0 : Int} (q_f_e0 : μ 110 ((2 * g1).toNat) = f_e0) {f_e1 : Int} (q_f_e1 : μ 110 (((2 * g1) + 1).toNat) = f_e1) {f_ties : Int} (q_f_ties : μ 106 6 = f_ties) {f_x : Int} (q_f_x : μ 126 ((40 * p3).toNat) = f_x) (hq0 : g1 < f_ties) (hq1 : (f_e0 = p4 ∧ f_e1 = p5) ∨ (f_e0 = p5 ∧ f_e1 = p4)) (hq2 : 0 ≤ f_x) (hR : ∀ i : Nat, 40 * p3 ≤ (i : Int) → (i : Int) < 40 * p3 + 40 → S 126 i) (hK : ∀ γ f, K γ f → g1 < f 6) (h110 : ∀ i : Nat, (i : Int) ≤ 2 * g1 + 1 → S 110 i) (h111 : ∀ i : Nat, (i : Int) ≤ g1 → S 111 i) (hP : ∀ a : Nat, 132 ≤ a → a ≤ 139 → S a p2.toNat) (h142 : S 142 p1.toNat) (h143 : ∀ i : Nat, 41 * p1 ≤ (i : Int) → (i : Int) < 41 * p1 + 41 → S 143 i ∧ S 144 i) (hx : S 108 f_x.toNat ∧ S 109 f_x.toNat) (h17 : S 106 17) (hJ : ∀ n z : Int, (-2147483648 ≤ n ∧ n ≤ 2147483647) → μ 106 17 = z → VC l D c H0 sa K W S S mX12_judged 4 [.ref 106, iv f_x, iv n, iv z, iv z] μ (xqI w [106026, 106027, 106028, 106029, 106030, 106031] μ (fun z _ => (0 ≤ z ∧ z ≤ 2) ∧ True))) : VC l D c H0 sa K W S S mX12_isSo 5 [.ref 106, iv p1, iv p2, iv p3, iv p4, iv p5] μ (xqI w [106026, 106027, 106028, 106029, 106030, 106031] μ (fun z μ1 => (0 ≤ z ∧ z ≤ 1) ∧ True)) := by
  refine VC.of rfl (by decide) (le_t rfl) ?_
  have ht_f_e0 : (0 ≤ f_e0 ∧ f_e0 ≤ 9) := by rw [← q_f_e0]; exact hT 110 110 (A_110 hw) ((2 * g1).toNat)
  have ht_f_e1 : (0 ≤ f_e1 ∧ f_e1 ≤ 9) := by rw [← q_f_e1]; exact hT 110 110 (A_110 hw) (((2 * g1) + 1).toNat)
  have ht_f_ties : (0 ≤ f_ties ∧ f_ties ≤ 20) := by rw [← q_f_ties]; exact hT 106 106 (A_106 hw) 6
  have ht_f_x := rt7 hT (A_126 hw) (vc_X12_copy_1 hp3) q_f_x
  have h1 : (-1) ≤ f_x ∧ f_x ≤ 9 := ht_f_x.2.1 (vc_X12_copy_2 hp3)
  have h2 : 1 ≤ f_ties ∧ f_ties ≤ 20 := (vc_X3_putAttributes_11 hq0 ht_f_ties hg1)
  have h3 : 0 ≤ f_x ∧ f_x ≤ 9 := (vc_X12_isThere_6 hq2 h1)
  refine xmr_lvE (lv' := [(0, .ref 106), (1, iv p1), (2, iv p2), (3, iv p3), (4, iv p4), (5, iv p5)]) rfl ?_
  refine xsv_aload_n (pc := 0) dX12_isSo_0 rfl rfl ?_
  refine xgf_X12_32 (pc := 1) dX12_isSo_1 wF_X12_148 (A_106 hw) hT ?_
  refine xmr_bipush (pc := 4) (z := 40) dX12_isSo_4 (by decide) ?_
  refine xmr_iload_n (pc := 6) (z := p3) dX12_isSo_6 rfl rfl ?_
  refine xmr_imul (pc := 7) (x := 40) (y := p3) dX12_isSo_7 ?_
  refine xlk_126 (hS := hR _ (by omega) (by omega)) (pc := 8) dX12_isSo_8 (A_126 hw) (rIx (n := 84000) (rMulL (n := 40) (e := 0) (f := 83960) hp3 rfl) rfl) q_f_x ?_
  refine xmr_istore (pc := 9) (lv' := [(6, iv f_x), (0, .ref 106), (1, iv p1), (2, iv p2), (3, iv p3), (4, iv p4), (5, iv p5)]) dX12_isSo_9 (by decide) rfl ?_
  refine xsv_aload_n (pc := 11) dX12_isSo_11 rfl rfl ?_
  refine xgf_X12_32 (pc := 12) dX12_isSo_12 wF_X12_148 (A_106 hw) hT ?_
  refine xmr_bipush (pc := 15) (z := 40) dX12_isSo_15 (by decide) ?_
  refine xmr_iload_n (pc := 17) (z := p3) dX12_isSo_17 rfl rfl ?_
  refine xmr_imul (pc := 18) (x := 40) (y := p3) dX12_isSo_18 ?_
  refine xmr_iconst (pc := 19) (z := 4) dX12_isSo_19 ?_
  refine xmr_iadd (pc := 20) (x := (40 * p3)) (y := 4) dX12_isSo_20 ?_
  refine xla_126 (hS := hR _ (by omega) (by omega)) (pc := 21) dX12_isSo_21 (A_126 hw) hT (rIx (n := 84000) (rAdd (e := 4) (f := 83964) (rMulL (n := 40) (e := 0) (f := 83960) hp3 rfl) (rR (x := 4)) rfl) rfl) fun z439 q440 h441 => ?_
  have h442 : 0 ≤ z439 ∧ z439 ≤ 20 := h441.2.2.1 (vc_X12_front_1 hp3)
  refine xmr_istore (pc := 22) (lv' := [(8, iv z439), (6, iv f_x), (0, .ref 106), (1, iv p1), (2, iv p2), (3, iv p3), (4, iv p4), (5, iv p5)]) dX12_isSo_22 (by decide) rfl ?_
  refine xsv_aload_n (pc := 24) dX12_isSo_24 rfl rfl ?_
  refine xgf_X12_45 (pc := 25) dX12_isSo_25 wF_X12_323 (A_106 hw) hT ?_
  refine xmr_iload_n (pc := 28) (z := p2) dX12_isSo_28 rfl rfl ?_
  refine xla_132 (hS := hP _ (by decide) (by decide)) (pc := 29) dX12_isSo_29 (A_132 hw) hT (rIx (n := 3900) hp2 rfl) fun z443 q444 h445 => ?_
  refine xmr_iconst (pc := 30) (z := 4) dX12_isSo_30 ?_
  have J581 : ∀ (z575 : Int) (μ577 : mM), (mT w μ577) → (mF [106026, 106027, 106028, 106029, 106030, 106031] w μ μ577) → ((0 ≤ z575 ∧ z575 ≤ 1)) → VS l D c H0 sa K W S S mX12_isSo (sRm 5 0 0) ((xqI w [106026, 106027, 106028, 106029, 106030, 106031] μ (fun z μ1 => (0 ≤ z ∧ z ≤ 1) ∧ True))) 462 [(0, .ref 106), (2, iv p2), (7, iv z575)] [] μ577 := by
    intro z575 μ577 T578 F579 h576
    refine xmr_iload (pc := 462) (z := z575) dX12_isSo_462 rfl ?_
    refine xsv_aload_n (pc := 464) dX12_isSo_464 rfl rfl ?_
    refine xgf_X12_46 (pc := 465) dX12_isSo_465 wF_X12_326 (A_106 hw) T578 ?_
    refine xmr_iload_n (pc := 468) (z := p2) dX12_isSo_468 rfl rfl ?_
    refine xla_133 (hS := hP _ (by decide) (by decide)) (pc := 469) dX12_isSo_469 (A_133 hw) T578 (rIx (n := 3900) hp2 rfl) fun z582 q583 h584 => ?_
    refine xmr_icmp_eq (pc := 470) (tgt := 477) dX12_isSo_470 (by decide) (r32 h576 rfl) (r32 h584 rfl) (fun h585 => ?_) (fun h585 => ?_)
    · refine xmr_iconst (pc := 477) (z := 0) dX12_isSo_477 ?_
      exact xmr_zret dX12_isSo_478 rfl (rW (c := 0) (d := 1) (rR (x := 0)) rfl) (le_t rfl) (le_t rfl) T578 (mF.call mF.refl F579 rfl) ⟨(rW (c := 0) (d := 1) (rR (x := 0)) rfl), trivial⟩
    refine xmr_iconst (pc := 473) (z := 1) dX12_isSo_473 ?_
    refine xsv_goto (pc := 474) (tgt := 478) dX12_isSo_474 (by decide) ?_
    exact xmr_zret dX12_isSo_478 rfl (rW (c := 0) (d := 1) (rR (x := 1)) rfl) (le_t rfl) (le_t rfl) T578 (mF.call mF.refl F579 rfl) ⟨(rW (c := 0) (d := 1) (rR (x := 1)) rfl), trivial⟩
  refine xmr_icmp_ne (pc := 31) (tgt := 101) dX12_isSo_31 (by decide) h445 (r32 (rR (x := 4)) rfl) (fun h586 => ?_) (fun h586 => ?_)
  · refine xsv_aload_n (pc := 101) dX12_isSo_101 rfl rfl ?_
    refine xgf_X12_45 (pc := 102) dX12_isSo_102 wF_X12_323 (A_106 hw) hT ?_
    refine xmr_iload_n (pc := 105) (z := p2) dX12_isSo_105 rfl rfl ?_
    refine xlk_132 (hS := hP _ (by decide) (by decide)) (pc := 106) dX12_isSo_106 (A_132 hw) (rIx (n := 3900) hp2 rfl) q444 ?_
    refine xmr_bipush (pc := 107) (z := 6) dX12_isSo_107 (by decide) ?_
    refine xmr_icmp_ne (pc := 109) (tgt := 124) dX12_isSo_109 (by decide) h445 (r32 (rR (x := 6)) rfl) (fun h587 => ?_) (fun h587 => ?_)
    · refine xsv_aload_n (pc := 124) dX12_isSo_124 rfl rfl ?_
      refine xgf_X12_45 (pc := 125) dX12_isSo_125 wF_X12_323 (A_106 hw) hT ?_
      refine xmr_iload_n (pc := 128) (z := p2) dX12_isSo_128 rfl rfl ?_
      refine xlk_132 (hS := hP _ (by decide) (by decide)) (pc := 129) dX12_isSo_129 (A_132 hw) (rIx (n := 3900) hp2 rfl) q444 ?_
      refine xmr_bipush (pc := 130) (z := 8) dX12_isSo_130 (by decide) ?_
      refine xmr_icmp_ne (pc := 132) (tgt := 151) dX12_isSo_132 (by decide) h445 (r32 (rR (x := 8)) rfl) (fun h588 => ?_) (fun h588 => ?_)
      · refine xsv_aload_n (pc := 151) dX12_isSo_151 rfl rfl ?_
        refine xgf_X12_45 (pc := 152) dX12_isSo_152 wF_X12_323 (A_106 hw) hT ?_
        refine xmr_iload_n (pc := 155) (z := p2) dX12_isSo_155 rfl rfl ?_
        refine xlk_132 (hS := hP _ (by decide) (by decide)) (pc := 156) dX12_isSo_156 (A_132 hw) (rIx (n := 3900) hp2 rfl) q444 ?_
        refine xmr_bipush (pc := 157) (z := 9) dX12_isSo_157 (by decide) ?_
        refine xmr_icmp_ne (pc := 159) (tgt := 183) dX12_isSo_159 (by decide) h445 (r32 (rR (x := 9)) rfl) (fun h589 => ?_) (fun h589 => ?_)
        · refine xsv_aload_n (pc := 183) dX12_isSo_183 rfl rfl ?_
          refine xgf_X12_45 (pc := 184) dX12_isSo_184 wF_X12_323 (A_106 hw) hT ?_
          refine xmr_iload_n (pc := 187) (z := p2) dX12_isSo_187 rfl rfl ?_
          refine xlk_132 (hS := hP _ (by decide) (by decide)) (pc := 188) dX12_isSo_188 (A_132 hw) (rIx (n := 3900) hp2 rfl) q444 ?_
          refine xmr_bipush (pc := 189) (z := 10) dX12_isSo_189 (by decide) ?_
          refine xmr_icmp_ne (pc := 191) (tgt := 221) dX12_isSo_191 (by decide) h445 (r32 (rR (x := 10)) rfl) (fun h590 => ?_) (fun h590 => ?_)
          · refine xsv_aload_n (pc := 221) dX12_isSo_221 rfl rfl ?_
            refine xgf_X12_45 (pc := 222) dX12_isSo_222 wF_X12_323 (A_106 hw) hT ?_
            refine xmr_iload_n (pc := 225) (z := p2) dX12_isSo_225 rfl rfl ?_
            refine xlk_132 (hS := hP _ (by decide) (by decide)) (pc := 226) dX12_isSo_226 (A_132 hw) (rIx (n := 3900) hp2 rfl) q444 ?_
            refine xmr_bipush (pc := 227) (z := 11) dX12_isSo_227 (by decide) ?_
            refine xmr_icmp_ne (pc := 229) (tgt := 255) dX12_isSo_229 (by decide) h445 (r32 (rR (x := 11)) rfl) (fun h591 => ?_) (fun h591 => ?_)
            · refine xsv_aload_n (pc := 255) dX12_isSo_255 rfl rfl ?_
              refine xgf_X12_45 (pc := 256) dX12_isSo_256 wF_X12_323 (A_106 hw) hT ?_
              refine xmr_iload_n (pc := 259) (z := p2) dX12_isSo_259 rfl rfl ?_
              refine xlk_132 (hS := hP _ (by decide) (by decide)) (pc := 260) dX12_isSo_260 (A_132 hw) (rIx (n := 3900) hp2 rfl) q444 ?_
              refine xmr_bipush (pc := 261) (z := 12) dX12_isSo_261 (by decide) ?_
              refine xmr_icmp_ne (pc := 263) (tgt := 298) dX12_isSo_263 (by decide) h445 (r32 (rR (x := 12)) rfl) (fun h592 => ?_) (fun h592 => ?_)
              · refine xsv_aload_n (pc := 298) dX12_isSo_298 rfl rfl ?_
                refine xgf_X12_45 (pc := 299) dX12_isSo_299 wF_X12_323 (A_106 hw) hT ?_
                refine xmr_iload_n (pc := 302) (z := p2) dX12_isSo_302 rfl rfl ?_
                refine xlk_132 (hS := hP _ (by decide) (by decide)) (pc := 303) dX12_isSo_303 (A_132 hw) (rIx (n := 3900) hp2 rfl) q444 ?_
                refine xmr_bipush (pc := 304) (z := 13) dX12_isSo_304 (by decide) ?_
                refine xmr_icmp_ne (pc := 306) (tgt := 341) dX12_isSo_306 (by decide) h445 (r32 (rR (x := 13)) rfl) (fun h593 => ?_) (fun h593 => ?_)
                · refine xsv_aload_n (pc := 341) dX12_isSo_341 rfl rfl ?_
                  refine xgf_X12_45 (pc := 342) dX12_isSo_342 wF_X12_323 (A_106 hw) hT ?_
                  refine xmr_iload_n (pc := 345) (z := p2) dX12_isSo_345 rfl rfl ?_
                  refine xlk_132 (hS := hP _ (by decide) (by decide)) (pc := 346) dX12_isSo_346 (A_132 hw) (rIx (n := 3900) hp2 rfl) q444 ?_
                  refine xmr_bipush (pc := 347) (z := 14) dX12_isSo_347 (by decide) ?_
                  refine xmr_icmp_ne (pc := 349) (tgt := 382) dX12_isSo_349 (by decide) h445 (r32 (rR (x := 14)) rfl) (fun h594 => ?_) (fun h594 => ?_)
                  · refine xsv_aload_n (pc := 382) dX12_isSo_382 rfl rfl ?_
                    refine xmr_iload (pc := 383) (z := f_x) dX12_isSo_383 rfl ?_
                    refine xmr_iload (pc := 385) (z := z439) dX12_isSo_385 rfl ?_
                    have J602 : ∀ (z600 : Int), (((-2147483648) ≤ z600 ∧ z600 ≤ 2147483647)) → VS l D c H0 sa K W S S mX12_isSo (sRm 5 0 0) ((xqI w [106026, 106027, 106028, 106029, 106030, 106031] μ (fun z μ1 => (0 ≤ z ∧ z ≤ 1) ∧ True))) 409 [(0, .ref 106), (2, iv p2)] [iv z600, iv f_x, .ref 106] μ := by
                      intro z600 h601
                      refine xsv_aload_n (pc := 409) dX12_isSo_409 rfl rfl ?_
                      refine xgf_X12_17 (hS := h17) (pc := 410) dX12_isSo_410 wF_X12_85 (A_106 hw) hT fun z603 q604 h605 => ?_
                      refine xsv_aload_n (pc := 413) dX12_isSo_413 rfl rfl ?_
                      refine xgk_X12_17 (hS := h17) (pc := 414) dX12_isSo_414 wF_X12_85 (A_106 hw) q604 ?_
                      refine xmr_cVI (pc := 417) (hJ _ _ h601 q604) (gOk _ _ _ _ _) dX12_isSo_417 (tX12_judged _ _ _ _ _) ⟨wV_X12_judged, wL_X12_judged⟩ wM_X12_145 (gCX12 _ _ _ _ _) rfl (A_106 hw) rfl ⟨le_t rfl, le_t rfl⟩ ⟨le_t rfl, le_t rfl⟩ rfl (le_t rfl) fun z610 μ606 T607 F608 h609 => ?_
                      refine xmr_istore (pc := 420) (lv' := [(9, iv z610), (0, .ref 106), (2, iv p2)]) dX12_isSo_420 (by decide) rfl ?_
                      refine xsv_aload_n (pc := 422) dX12_isSo_422 rfl rfl ?_
                      refine xgf_X12_47 (pc := 423) dX12_isSo_423 wF_X12_329 (A_106 hw) T607 ?_
                      refine xmr_iload_n (pc := 426) (z := p2) dX12_isSo_426 rfl rfl ?_
                      refine xla_134 (hS := hP _ (by decide) (by decide)) (pc := 427) dX12_isSo_427 (A_134 hw) T607 (rIx (n := 3900) hp2 rfl) fun z611 q612 h613 => ?_
                      refine xmr_iload (pc := 428) (z := z610) dX12_isSo_428 rfl ?_
                      refine xmr_iconst (pc := 430) (z := 1) dX12_isSo_430 ?_
                      refine xmr_icmp_ne (pc := 431) (tgt := 439) dX12_isSo_431 (by decide) (r32 h609.1 rfl) (r32 (rR (x := 1)) rfl) (fun h617 => ?_) (fun h617 => ?_)
                      · refine xmr_iload (pc := 439) (z := z610) dX12_isSo_439 rfl ?_
                        refine xmr_iconst (pc := 441) (z := 2) dX12_isSo_441 ?_
                        refine xmr_icmp_ne (pc := 442) (tgt := 450) dX12_isSo_442 (by decide) (r32 h609.1 rfl) (r32 (rR (x := 2)) rfl) (fun h620 => ?_) (fun h620 => ?_)
                        · have h621 : 0 ≤ z610 ∧ z610 ≤ 1 := (vc_X9_partnerRole_1 h620 h617 h609.1)
                          refine xmr_bipush (pc := 450) (z := 22) dX12_isSo_450 (by decide) ?_
                          refine xmr_icmp_ne (pc := 452) (tgt := 459) dX12_isSo_452 (by decide) h613 (r32 (rR (x := 22)) rfl) (fun h623 => ?_) (fun h623 => ?_)
                          · refine xmr_iconst (pc := 459) (z := 0) dX12_isSo_459 ?_
                            refine xmr_istore (pc := 460) (lv' := [(7, iv 0), (9, iv z610), (0, .ref 106), (2, iv p2)]) dX12_isSo_460 (by decide) rfl ?_
                            refine xmr_lvS (lv' := [(0, .ref 106), (2, iv p2), (7, iv 0)]) (List.forall_mem_cons.mpr ⟨rfl, List.forall_mem_cons.mpr ⟨rfl, List.forall_mem_cons.mpr ⟨rfl, fun _ h => absurd h List.not_mem_nil⟩⟩⟩) ?_
                            exact J581 0 μ606 T607 (mF.call mF.refl F608 rfl) (rW (c := 0) (d := 1) (rR (x := 0)) rfl)
                          have h624 : 22 ≤ z611 ∧ z611 ≤ 22 := (vc_X12_isSo_7 h623 h613)
                          refine xmr_iconst (pc := 455) (z := 1) dX12_isSo_455 ?_
                          refine xsv_goto (pc := 456) (tgt := 460) dX12_isSo_456 (by decide) ?_
                          refine xmr_istore (pc := 460) (lv' := [(7, iv 1), (9, iv z610), (0, .ref 106), (2, iv p2)]) dX12_isSo_460 (by decide) rfl ?_
                          refine xmr_lvS (lv' := [(0, .ref 106), (2, iv p2), (7, iv 1)]) (List.forall_mem_cons.mpr ⟨rfl, List.forall_mem_cons.mpr ⟨rfl, List.forall_mem_cons.mpr ⟨rfl, fun _ h => absurd h List.not_mem_nil⟩⟩⟩) ?_
                          exact J581 1 μ606 T607 (mF.call mF.refl F608 rfl) (rW (c := 0) (d := 1) (rR (x := 1)) rfl)
                        have h625 : 2 ≤ z610 ∧ z610 ≤ 2 := (vc_X9_partnerRole_3 h620 h617 h609.1)
                        refine xmr_bipush (pc := 445) (z := 21) dX12_isSo_445 (by decide) ?_
                        refine xsv_goto (pc := 447) (tgt := 452) dX12_isSo_447 (by decide) ?_
                        refine xmr_icmp_ne (pc := 452) (tgt := 459) dX12_isSo_452 (by decide) h613 (r32 (rR (x := 21)) rfl) (fun h627 => ?_) (fun h627 => ?_)
                        · refine xmr_iconst (pc := 459) (z := 0) dX12_isSo_459 ?_
                          refine xmr_istore (pc := 460) (lv' := [(7, iv 0), (9, iv z610), (0, .ref 106), (2, iv p2)]) dX12_isSo_460 (by decide) rfl ?_
                          refine xmr_lvS (lv' := [(0, .ref 106), (2, iv p2), (7, iv 0)]) (List.forall_mem_cons.mpr ⟨rfl, List.forall_mem_cons.mpr ⟨rfl, List.forall_mem_cons.mpr ⟨rfl, fun _ h => absurd h List.not_mem_nil⟩⟩⟩) ?_
                          exact J581 0 μ606 T607 (mF.call mF.refl F608 rfl) (rW (c := 0) (d := 1) (rR (x := 0)) rfl)
                        have h628 : 21 ≤ z611 ∧ z611 ≤ 21 := (vc_X12_isSo_9 h627 h613)
                        refine xmr_iconst (pc := 455) (z := 1) dX12_isSo_455 ?_
                        refine xsv_goto (pc := 456) (tgt := 460) dX12_isSo_456 (by decide) ?_
                        refine xmr_istore (pc := 460) (lv' := [(7, iv 1), (9, iv z610), (0, .ref 106), (2, iv p2)]) dX12_isSo_460 (by decide) rfl ?_
                        refine xmr_lvS (lv' := [(0, .ref 106), (2, iv p2), (7, iv 1)]) (List.forall_mem_cons.mpr ⟨rfl, List.forall_mem_cons.mpr ⟨rfl, List.forall_mem_cons.mpr ⟨rfl, fun _ h => absurd h List.not_mem_nil⟩⟩⟩) ?_
                        exact J581 1 μ606 T607 (mF.call mF.refl F608 rfl) (rW (c := 0) (d := 1) (rR (x := 1)) rfl)
                      have h629 : 1 ≤ z610 ∧ z610 ≤ 1 := (vc_X9_partnerRole_4 h617 h609.1)
                      refine xmr_bipush (pc := 434) (z := 20) dX12_isSo_434 (by decide) ?_
                      refine xsv_goto (pc := 436) (tgt := 452) dX12_isSo_436 (by decide) ?_
                      refine xmr_icmp_ne (pc := 452) (tgt := 459) dX12_isSo_452 (by decide) h613 (r32 (rR (x := 20)) rfl) (fun h631 => ?_) (fun h631 => ?_)
                      · refine xmr_iconst (pc := 459) (z := 0) dX12_isSo_459 ?_
                        refine xmr_istore (pc := 460) (lv' := [(7, iv 0), (9, iv z610), (0, .ref 106), (2, iv p2)]) dX12_isSo_460 (by decide) rfl ?_
                        refine xmr_lvS (lv' := [(0, .ref 106), (2, iv p2), (7, iv 0)]) (List.forall_mem_cons.mpr ⟨rfl, List.forall_mem_cons.mpr ⟨rfl, List.forall_mem_cons.mpr ⟨rfl, fun _ h => absurd h List.not_mem_nil⟩⟩⟩) ?_
                        exact J581 0 μ606 T607 (mF.call mF.refl F608 rfl) (rW (c := 0) (d := 1) (rR (x := 0)) rfl)
                      have h632 : 20 ≤ z611 ∧ z611 ≤ 20 := (vc_X12_isSo_11 h631 h613)
                      refine xmr_iconst (pc := 455) (z := 1) dX12_isSo_455 ?_
                      refine xsv_goto (pc := 456) (tgt := 460) dX12_isSo_456 (by decide) ?_
                      refine xmr_istore (pc := 460) (lv' := [(7, iv 1), (9, iv z610), (0, .ref 106), (2, iv p2)]) dX12_isSo_460 (by decide) rfl ?_
                      refine xmr_lvS (lv' := [(0, .ref 106), (2, iv p2), (7, iv 1)]) (List.forall_mem_cons.mpr ⟨rfl, List.forall_mem_cons.mpr ⟨rfl, List.forall_mem_cons.mpr ⟨rfl, fun _ h => absurd h List.not_mem_nil⟩⟩⟩) ?_
                      exact J581 1 μ606 T607 (mF.call mF.refl F608 rfl) (rW (c := 0) (d := 1) (rR (x := 1)) rfl)
                    refine xmr_if_ne (pc := 387) (tgt := 395) dX12_isSo_387 (by decide) (r32 h442 rfl) (fun h633 => ?_) (fun h633 => ?_)
                    · have h634 : 1 ≤ z439 ∧ z439 ≤ 20 := (vc_X12_waysMatch_2 h633 h442)
                      refine xsv_aload_n (pc := 395) dX12_isSo_395 rfl rfl ?_
                      refine xgf_X12_32 (pc := 396) dX12_isSo_396 wF_X12_148 (A_106 hw) hT ?_
                      refine xmr_bipush (pc := 399) (z := 40) dX12_isSo_399 (by decide) ?_
                      refine xmr_iload_n (pc := 401) (z := p3) dX12_isSo_401 rfl rfl ?_
                      refine xmr_imul (pc := 402) (x := 40) (y := p3) dX12_isSo_402 ?_
                      refine xmr_iconst (pc := 403) (z := 5) dX12_isSo_403 ?_
                      refine xmr_iadd (pc := 404) (x := (40 * p3)) (y := 5) dX12_isSo_404 ?_
                      refine xmr_iload (pc := 405) (z := z439) dX12_isSo_405 rfl ?_
                      refine xmr_iadd (pc := 407) (x := ((40 * p3) + 5)) (y := z439) dX12_isSo_407 ?_
                      refine xla_126 (hS := hR _ (by omega) (by omega)) (pc := 408) dX12_isSo_408 (A_126 hw) hT (rIx (n := 84000) (rAdd (e := 6) (f := 83985) (rAdd (e := 5) (f := 83965) (rMulL (n := 40) (e := 0) (f := 83960) hp3 rfl) (rR (x := 5)) rfl) h634 rfl) rfl) fun z635 q636 h637 => ?_
                      refine xmr_lvS (lv' := [(0, .ref 106), (2, iv p2)]) (List.forall_mem_cons.mpr ⟨rfl, List.forall_mem_cons.mpr ⟨rfl, fun _ h => absurd h List.not_mem_nil⟩⟩) ?_
                      exact J602 z635 h637.1
                    have h638 : 0 ≤ z439 ∧ z439 ≤ 0 := (vc_X12_waysMatch_23 h633 h442)
                    refine xmr_iload (pc := 390) (z := p4) dX12_isSo_390 rfl ?_
                    refine xsv_goto (pc := 392) (tgt := 409) dX12_isSo_392 (by decide) ?_
                    refine xmr_lvS (lv' := [(0, .ref 106), (2, iv p2)]) (List.forall_mem_cons.mpr ⟨rfl, List.forall_mem_cons.mpr ⟨rfl, fun _ h => absurd h List.not_mem_nil⟩⟩) ?_
                    exact J602 p4 hp4
                  have h639 : 14 ≤ z443 ∧ z443 ≤ 14 := (vc_X12_isSo_14 h594 h587 h588 h589 h590 h591 h592 h593 h445)
                  refine xsv_aload_n (pc := 352) dX12_isSo_352 rfl rfl ?_
                  refine xgf_X12_32 (pc := 353) dX12_isSo_353 wF_X12_148 (A_106 hw) hT ?_
                  refine xmr_bipush (pc := 356) (z := 40) dX12_isSo_356 (by decide) ?_
                  refine xmr_iload_n (pc := 358) (z := p3) dX12_isSo_358 rfl rfl ?_
                  refine xmr_imul (pc := 359) (x := 40) (y := p3) dX12_isSo_359 ?_
                  refine xmr_iconst (pc := 360) (z := 2) dX12_isSo_360 ?_
                  refine xmr_iadd (pc := 361) (x := (40 * p3)) (y := 2) dX12_isSo_361 ?_
                  refine xla_126 (hS := hR _ (by omega) (by omega)) (pc := 362) dX12_isSo_362 (A_126 hw) hT (rIx (n := 84000) (rAdd (e := 2) (f := 83962) (rMulL (n := 40) (e := 0) (f := 83960) hp3 rfl) (rR (x := 2)) rfl) rfl) fun z640 q641 h642 => ?_
                  refine xsv_aload_n (pc := 363) dX12_isSo_363 rfl rfl ?_
                  refine xgf_X12_47 (pc := 364) dX12_isSo_364 wF_X12_329 (A_106 hw) hT ?_
                  refine xmr_iload_n (pc := 367) (z := p2) dX12_isSo_367 rfl rfl ?_
                  refine xla_134 (hS := hP _ (by decide) (by decide)) (pc := 368) dX12_isSo_368 (A_134 hw) hT (rIx (n := 3900) hp2 rfl) fun z643 q644 h645 => ?_
                  refine xmr_icmp_ne (pc := 369) (tgt := 376) dX12_isSo_369 (by decide) h642.1 h645 (fun h646 => ?_) (fun h646 => ?_)
                  · refine xmr_iconst (pc := 376) (z := 0) dX12_isSo_376 ?_
                    refine xmr_istore (pc := 377) (lv' := [(7, iv 0), (8, iv z439), (6, iv f_x), (0, .ref 106), (1, iv p1), (2, iv p2), (3, iv p3), (4, iv p4), (5, iv p5)]) dX12_isSo_377 (by decide) rfl ?_
                    refine xsv_goto (pc := 379) (tgt := 462) dX12_isSo_379 (by decide) ?_
                    refine xmr_lvS (lv' := [(0, .ref 106), (2, iv p2), (7, iv 0)]) (List.forall_mem_cons.mpr ⟨rfl, List.forall_mem_cons.mpr ⟨rfl, List.forall_mem_cons.mpr ⟨rfl, fun _ h => absurd h List.not_mem_nil⟩⟩⟩) ?_
                    exact J581 0 μ hT mF.refl (rW (c := 0) (d := 1) (rR (x := 0)) rfl)
                  refine xmr_iconst (pc := 372) (z := 1) dX12_isSo_372 ?_
                  refine xsv_goto (pc := 373) (tgt := 377) dX12_isSo_373 (by decide) ?_
                  refine xmr_istore (pc := 377) (lv' := [(7, iv 1), (8, iv z439), (6, iv f_x), (0, .ref 106), (1, iv p1), (2, iv p2), (3, iv p3), (4, iv p4), (5, iv p5)]) dX12_isSo_377 (by decide) rfl ?_
                  refine xsv_goto (pc := 379) (tgt := 462) dX12_isSo_379 (by decide) ?_
                  refine xmr_lvS (lv' := [(0, .ref 106), (2, iv p2), (7, iv 1)]) (List.forall_mem_cons.mpr ⟨rfl, List.forall_mem_cons.mpr ⟨rfl, List.forall_mem_cons.mpr ⟨rfl, fun _ h => absurd h List.not_mem_nil⟩⟩⟩) ?_
                  exact J581 1 μ hT mF.refl (rW (c := 0) (d := 1) (rR (x := 1)) rfl)
                have h647 : 13 ≤ z443 ∧ z443 ≤ 13 := (vc_X12_isSo_15 h593 h586 h587 h588 h589 h590 h591 h592 h445)
                refine xsv_aload_n (pc := 309) dX12_isSo_309 rfl rfl ?_
                refine xsv_aload_n (pc := 310) dX12_isSo_310 rfl rfl ?_
                refine xgf_X12_32 (pc := 311) dX12_isSo_311 wF_X12_148 (A_106 hw) hT ?_
                refine xmr_bipush (pc := 314) (z := 40) dX12_isSo_314 (by decide) ?_
                refine xmr_iload_n (pc := 316) (z := p3) dX12_isSo_316 rfl rfl ?_
                refine xmr_imul (pc := 317) (x := 40) (y := p3) dX12_isSo_317 ?_
                refine xmr_iconst (pc := 318) (z := 3) dX12_isSo_318 ?_
                refine xmr_iadd (pc := 319) (x := (40 * p3)) (y := 3) dX12_isSo_319 ?_
                refine xla_126 (hS := hR _ (by omega) (by omega)) (pc := 320) dX12_isSo_320 (A_126 hw) hT (rIx (n := 84000) (rAdd (e := 3) (f := 83963) (rMulL (n := 40) (e := 0) (f := 83960) hp3 rfl) (rR (x := 3)) rfl) rfl) fun z648 q649 h650 => ?_
                refine xsv_aload_n (pc := 321) dX12_isSo_321 rfl rfl ?_
                refine xgf_X12_48 (pc := 322) dX12_isSo_322 wF_X12_336 (A_106 hw) hT ?_
                refine xmr_iload_n (pc := 325) (z := p2) dX12_isSo_325 rfl rfl ?_
                refine xla_135 (hS := hP _ (by decide) (by decide)) (pc := 326) dX12_isSo_326 (A_135 hw) hT (rIx (n := 3900) hp2 rfl) fun z651 q652 h653 => ?_
                refine xsv_aload_n (pc := 327) dX12_isSo_327 rfl rfl ?_
                refine xgf_X12_47 (pc := 328) dX12_isSo_328 wF_X12_329 (A_106 hw) hT ?_
                refine xmr_iload_n (pc := 331) (z := p2) dX12_isSo_331 rfl rfl ?_
                refine xla_134 (hS := hP _ (by decide) (by decide)) (pc := 332) dX12_isSo_332 (A_134 hw) hT (rIx (n := 3900) hp2 rfl) fun z654 q655 h656 => ?_
                refine xmr_cVP (pc := 333) (cx_X12_related hw hT h650.1 h653 h656) (gOk _ _ _ _ _) dX12_isSo_333 (tX12_related _ _ _ _ _) ⟨wV_X12_related, wL_X12_related⟩ wM_X12_385 (gCX12 _ _ _ _ _) rfl (A_106 hw) rfl ⟨le_t rfl, le_t rfl⟩ ⟨le_t rfl, le_t rfl⟩ rfl (le_t rfl) fun z661 h660 => ?_
                refine xmr_istore (pc := 336) (lv' := [(7, iv z661), (8, iv z439), (6, iv f_x), (0, .ref 106), (1, iv p1), (2, iv p2), (3, iv p3), (4, iv p4), (5, iv p5)]) dX12_isSo_336 (by decide) rfl ?_
                refine xsv_goto (pc := 338) (tgt := 462) dX12_isSo_338 (by decide) ?_
                refine xmr_lvS (lv' := [(0, .ref 106), (2, iv p2), (7, iv z661)]) (List.forall_mem_cons.mpr ⟨rfl, List.forall_mem_cons.mpr ⟨rfl, List.forall_mem_cons.mpr ⟨rfl, fun _ h => absurd h List.not_mem_nil⟩⟩⟩) ?_
                exact J581 z661 μ hT mF.refl h660.1
              have h662 : 12 ≤ z443 ∧ z443 ≤ 12 := (vc_X12_isSo_16 h592 h586 h587 h588 h589 h590 h591 h445)
              refine xsv_aload_n (pc := 266) dX12_isSo_266 rfl rfl ?_
              refine xsv_aload_n (pc := 267) dX12_isSo_267 rfl rfl ?_
              refine xgf_X12_32 (pc := 268) dX12_isSo_268 wF_X12_148 (A_106 hw) hT ?_
              refine xmr_bipush (pc := 271) (z := 40) dX12_isSo_271 (by decide) ?_
              refine xmr_iload_n (pc := 273) (z := p3) dX12_isSo_273 rfl rfl ?_
              refine xmr_imul (pc := 274) (x := 40) (y := p3) dX12_isSo_274 ?_
              refine xmr_iconst (pc := 275) (z := 1) dX12_isSo_275 ?_
              refine xmr_iadd (pc := 276) (x := (40 * p3)) (y := 1) dX12_isSo_276 ?_
              refine xla_126 (hS := hR _ (by omega) (by omega)) (pc := 277) dX12_isSo_277 (A_126 hw) hT (rIx (n := 84000) (rAdd (e := 1) (f := 83961) (rMulL (n := 40) (e := 0) (f := 83960) hp3 rfl) (rR (x := 1)) rfl) rfl) fun z663 q664 h665 => ?_
              refine xsv_aload_n (pc := 278) dX12_isSo_278 rfl rfl ?_
              refine xgf_X12_48 (pc := 279) dX12_isSo_279 wF_X12_336 (A_106 hw) hT ?_
              refine xmr_iload_n (pc := 282) (z := p2) dX12_isSo_282 rfl rfl ?_
              refine xla_135 (hS := hP _ (by decide) (by decide)) (pc := 283) dX12_isSo_283 (A_135 hw) hT (rIx (n := 3900) hp2 rfl) fun z666 q667 h668 => ?_
              refine xsv_aload_n (pc := 284) dX12_isSo_284 rfl rfl ?_
              refine xgf_X12_47 (pc := 285) dX12_isSo_285 wF_X12_329 (A_106 hw) hT ?_
              refine xmr_iload_n (pc := 288) (z := p2) dX12_isSo_288 rfl rfl ?_
              refine xla_134 (hS := hP _ (by decide) (by decide)) (pc := 289) dX12_isSo_289 (A_134 hw) hT (rIx (n := 3900) hp2 rfl) fun z669 q670 h671 => ?_
              refine xmr_cVP (pc := 290) (cx_X12_related hw hT h665.1 h668 h671) (gOk _ _ _ _ _) dX12_isSo_290 (tX12_related _ _ _ _ _) ⟨wV_X12_related, wL_X12_related⟩ wM_X12_385 (gCX12 _ _ _ _ _) rfl (A_106 hw) rfl ⟨le_t rfl, le_t rfl⟩ ⟨le_t rfl, le_t rfl⟩ rfl (le_t rfl) fun z676 h675 => ?_
              refine xmr_istore (pc := 293) (lv' := [(7, iv z676), (8, iv z439), (6, iv f_x), (0, .ref 106), (1, iv p1), (2, iv p2), (3, iv p3), (4, iv p4), (5, iv p5)]) dX12_isSo_293 (by decide) rfl ?_
              refine xsv_goto (pc := 295) (tgt := 462) dX12_isSo_295 (by decide) ?_
              refine xmr_lvS (lv' := [(0, .ref 106), (2, iv p2), (7, iv z676)]) (List.forall_mem_cons.mpr ⟨rfl, List.forall_mem_cons.mpr ⟨rfl, List.forall_mem_cons.mpr ⟨rfl, fun _ h => absurd h List.not_mem_nil⟩⟩⟩) ?_
              exact J581 z676 μ hT mF.refl h675.1
            have h677 : 11 ≤ z443 ∧ z443 ≤ 11 := (vc_X12_isSo_17 h591 h586 h587 h588 h589 h590 h445)
            refine xsv_aload_n (pc := 232) dX12_isSo_232 rfl rfl ?_
            refine xmr_iload (pc := 233) (z := z439) dX12_isSo_233 rfl ?_
            refine xsv_aload_n (pc := 235) dX12_isSo_235 rfl rfl ?_
            refine xgf_X12_48 (pc := 236) dX12_isSo_236 wF_X12_336 (A_106 hw) hT ?_
            refine xmr_iload_n (pc := 239) (z := p2) dX12_isSo_239 rfl rfl ?_
            refine xla_135 (hS := hP _ (by decide) (by decide)) (pc := 240) dX12_isSo_240 (A_135 hw) hT (rIx (n := 3900) hp2 rfl) fun z678 q679 h680 => ?_
            refine xsv_aload_n (pc := 241) dX12_isSo_241 rfl rfl ?_
            refine xgf_X12_47 (pc := 242) dX12_isSo_242 wF_X12_329 (A_106 hw) hT ?_
            refine xmr_iload_n (pc := 245) (z := p2) dX12_isSo_245 rfl rfl ?_
            refine xla_134 (hS := hP _ (by decide) (by decide)) (pc := 246) dX12_isSo_246 (A_134 hw) hT (rIx (n := 3900) hp2 rfl) fun z681 q682 h683 => ?_
            refine xmr_cVP (pc := 247) (cx_X12_related hw hT (rW (c := (-2147483648)) (d := 2147483647) h442 rfl) h680 h683) (gOk _ _ _ _ _) dX12_isSo_247 (tX12_related _ _ _ _ _) ⟨wV_X12_related, wL_X12_related⟩ wM_X12_385 (gCX12 _ _ _ _ _) rfl (A_106 hw) rfl ⟨le_t rfl, le_t rfl⟩ ⟨le_t rfl, le_t rfl⟩ rfl (le_t rfl) fun z688 h687 => ?_
            refine xmr_istore (pc := 250) (lv' := [(7, iv z688), (8, iv z439), (6, iv f_x), (0, .ref 106), (1, iv p1), (2, iv p2), (3, iv p3), (4, iv p4), (5, iv p5)]) dX12_isSo_250 (by decide) rfl ?_
            refine xsv_goto (pc := 252) (tgt := 462) dX12_isSo_252 (by decide) ?_
            refine xmr_lvS (lv' := [(0, .ref 106), (2, iv p2), (7, iv z688)]) (List.forall_mem_cons.mpr ⟨rfl, List.forall_mem_cons.mpr ⟨rfl, List.forall_mem_cons.mpr ⟨rfl, fun _ h => absurd h List.not_mem_nil⟩⟩⟩) ?_
            exact J581 z688 μ hT mF.refl h687.1
          have h689 : 10 ≤ z443 ∧ z443 ≤ 10 := (vc_X12_isSo_18 h590 h586 h587 h588 h589 h445)
          refine xsv_aload_n (pc := 194) dX12_isSo_194 rfl rfl ?_
          refine xmr_iload (pc := 195) (z := p4) dX12_isSo_195 rfl ?_
          refine xmr_iload (pc := 197) (z := p5) dX12_isSo_197 rfl ?_
          refine xmr_cVP (pc := 199) (cx_X12_tieWord hw hT hp4 hp5 hg1 q_f_e0 q_f_e1 q_f_ties (vc_X12_tieWord_2 hq0 h2 hg1) (vc_X12_tieWord_3 hq1 ht_f_e0 ht_f_e1 hp4 hp5) hK h110 h111) (gOk _ _ _ _ _) dX12_isSo_199 (tX12_tieWord _ _ _ _ _) ⟨wV_X12_tieWord, wL_X12_tieWord⟩ wM_X12_382 (gCX12 _ _ _ _ _) rfl (A_106 hw) rfl ⟨le_t rfl, le_t rfl⟩ ⟨le_t rfl, le_t rfl⟩ rfl (le_t rfl) fun z694 h693 => ?_
          refine xsv_aload_n (pc := 202) dX12_isSo_202 rfl rfl ?_
          refine xgf_X12_47 (pc := 203) dX12_isSo_203 wF_X12_329 (A_106 hw) hT ?_
          refine xmr_iload_n (pc := 206) (z := p2) dX12_isSo_206 rfl rfl ?_
          refine xla_134 (hS := hP _ (by decide) (by decide)) (pc := 207) dX12_isSo_207 (A_134 hw) hT (rIx (n := 3900) hp2 rfl) fun z695 q696 h697 => ?_
          refine xmr_icmp_ne (pc := 208) (tgt := 215) dX12_isSo_208 (by decide) (r32 h693.1 rfl) h697 (fun h699 => ?_) (fun h699 => ?_)
          · refine xmr_iconst (pc := 215) (z := 0) dX12_isSo_215 ?_
            refine xmr_istore (pc := 216) (lv' := [(7, iv 0), (8, iv z439), (6, iv f_x), (0, .ref 106), (1, iv p1), (2, iv p2), (3, iv p3), (4, iv p4), (5, iv p5)]) dX12_isSo_216 (by decide) rfl ?_
            refine xsv_goto (pc := 218) (tgt := 462) dX12_isSo_218 (by decide) ?_
            refine xmr_lvS (lv' := [(0, .ref 106), (2, iv p2), (7, iv 0)]) (List.forall_mem_cons.mpr ⟨rfl, List.forall_mem_cons.mpr ⟨rfl, List.forall_mem_cons.mpr ⟨rfl, fun _ h => absurd h List.not_mem_nil⟩⟩⟩) ?_
            exact J581 0 μ hT mF.refl (rW (c := 0) (d := 1) (rR (x := 0)) rfl)
          have h700 : 16 ≤ z695 ∧ z695 ≤ 19 := (vc_X12_isSo_21 h699 h693.1 h697)
          refine xmr_iconst (pc := 211) (z := 1) dX12_isSo_211 ?_
          refine xsv_goto (pc := 212) (tgt := 216) dX12_isSo_212 (by decide) ?_
          refine xmr_istore (pc := 216) (lv' := [(7, iv 1), (8, iv z439), (6, iv f_x), (0, .ref 106), (1, iv p1), (2, iv p2), (3, iv p3), (4, iv p4), (5, iv p5)]) dX12_isSo_216 (by decide) rfl ?_
          refine xsv_goto (pc := 218) (tgt := 462) dX12_isSo_218 (by decide) ?_
          refine xmr_lvS (lv' := [(0, .ref 106), (2, iv p2), (7, iv 1)]) (List.forall_mem_cons.mpr ⟨rfl, List.forall_mem_cons.mpr ⟨rfl, List.forall_mem_cons.mpr ⟨rfl, fun _ h => absurd h List.not_mem_nil⟩⟩⟩) ?_
          exact J581 1 μ hT mF.refl (rW (c := 0) (d := 1) (rR (x := 1)) rfl)
        have h701 : 9 ≤ z443 ∧ z443 ≤ 9 := (vc_X12_isSo_22 h589 h586 h587 h588 h445)
        refine xmr_iload (pc := 162) (z := p5) dX12_isSo_162 rfl ?_
        refine xsv_aload_n (pc := 164) dX12_isSo_164 rfl rfl ?_
        refine xgf_X12_47 (pc := 165) dX12_isSo_165 wF_X12_329 (A_106 hw) hT ?_
        refine xmr_iload_n (pc := 168) (z := p2) dX12_isSo_168 rfl rfl ?_
        refine xla_134 (hS := hP _ (by decide) (by decide)) (pc := 169) dX12_isSo_169 (A_134 hw) hT (rIx (n := 3900) hp2 rfl) fun z702 q703 h704 => ?_
        refine xmr_icmp_ne (pc := 170) (tgt := 177) dX12_isSo_170 (by decide) hp5 h704 (fun h705 => ?_) (fun h705 => ?_)
        · refine xmr_iconst (pc := 177) (z := 0) dX12_isSo_177 ?_
          refine xmr_istore (pc := 178) (lv' := [(7, iv 0), (8, iv z439), (6, iv f_x), (0, .ref 106), (1, iv p1), (2, iv p2), (3, iv p3), (4, iv p4), (5, iv p5)]) dX12_isSo_178 (by decide) rfl ?_
          refine xsv_goto (pc := 180) (tgt := 462) dX12_isSo_180 (by decide) ?_
          refine xmr_lvS (lv' := [(0, .ref 106), (2, iv p2), (7, iv 0)]) (List.forall_mem_cons.mpr ⟨rfl, List.forall_mem_cons.mpr ⟨rfl, List.forall_mem_cons.mpr ⟨rfl, fun _ h => absurd h List.not_mem_nil⟩⟩⟩) ?_
          exact J581 0 μ hT mF.refl (rW (c := 0) (d := 1) (rR (x := 0)) rfl)
        refine xmr_iconst (pc := 173) (z := 1) dX12_isSo_173 ?_
        refine xsv_goto (pc := 174) (tgt := 178) dX12_isSo_174 (by decide) ?_
        refine xmr_istore (pc := 178) (lv' := [(7, iv 1), (8, iv z439), (6, iv f_x), (0, .ref 106), (1, iv p1), (2, iv p2), (3, iv p3), (4, iv p4), (5, iv p5)]) dX12_isSo_178 (by decide) rfl ?_
        refine xsv_goto (pc := 180) (tgt := 462) dX12_isSo_180 (by decide) ?_
        refine xmr_lvS (lv' := [(0, .ref 106), (2, iv p2), (7, iv 1)]) (List.forall_mem_cons.mpr ⟨rfl, List.forall_mem_cons.mpr ⟨rfl, List.forall_mem_cons.mpr ⟨rfl, fun _ h => absurd h List.not_mem_nil⟩⟩⟩) ?_
        exact J581 1 μ hT mF.refl (rW (c := 0) (d := 1) (rR (x := 1)) rfl)
      have h706 : 8 ≤ z443 ∧ z443 ≤ 8 := (vc_X12_isSo_23 h588 h586 h587 h445)
      refine xsv_aload_n (pc := 135) dX12_isSo_135 rfl rfl ?_
      refine xmr_iload_n (pc := 136) (z := p3) dX12_isSo_136 rfl rfl ?_
      refine xsv_aload_n (pc := 137) dX12_isSo_137 rfl rfl ?_
      refine xgf_X12_47 (pc := 138) dX12_isSo_138 wF_X12_329 (A_106 hw) hT ?_
      refine xmr_iload_n (pc := 141) (z := p2) dX12_isSo_141 rfl rfl ?_
      refine xla_134 (hS := hP _ (by decide) (by decide)) (pc := 142) dX12_isSo_142 (A_134 hw) hT (rIx (n := 3900) hp2 rfl) fun z707 q708 h709 => ?_
      refine xmr_cVP (pc := 143) (cx_X12_marked hw hT hp3 h709 hR) (gOk _ _ _ _ _) dX12_isSo_143 (tX12_marked _ _ _ _ _) ⟨wV_X12_marked, wL_X12_marked⟩ wM_X12_154 (gCX12 _ _ _ _ _) rfl (A_106 hw) rfl ⟨le_t rfl, le_t rfl⟩ ⟨le_t rfl, le_t rfl⟩ rfl (le_t rfl) fun z714 h713 => ?_
      refine xmr_istore (pc := 146) (lv' := [(7, iv z714), (8, iv z439), (6, iv f_x), (0, .ref 106), (1, iv p1), (2, iv p2), (3, iv p3), (4, iv p4), (5, iv p5)]) dX12_isSo_146 (by decide) rfl ?_
      refine xsv_goto (pc := 148) (tgt := 462) dX12_isSo_148 (by decide) ?_
      refine xmr_lvS (lv' := [(0, .ref 106), (2, iv p2), (7, iv z714)]) (List.forall_mem_cons.mpr ⟨rfl, List.forall_mem_cons.mpr ⟨rfl, List.forall_mem_cons.mpr ⟨rfl, fun _ h => absurd h List.not_mem_nil⟩⟩⟩) ?_
      exact J581 z714 μ hT mF.refl h713.1
    have h715 : 6 ≤ z443 ∧ z443 ≤ 6 := (vc_X12_isSo_24 h587 h586 h445)
    refine xsv_aload_n (pc := 112) dX12_isSo_112 rfl rfl ?_
    refine xmr_iload_n (pc := 113) (z := p1) dX12_isSo_113 rfl rfl ?_
    refine xmr_iload_n (pc := 114) (z := p2) dX12_isSo_114 rfl rfl ?_
    refine xmr_iload_n (pc := 115) (z := p3) dX12_isSo_115 rfl rfl ?_
    refine xmr_cVP (pc := 116) (cx_X12_waysMatch hw hT hp1 hp2 hp3 hR (hP _ (by decide) (by decide)) (hP _ (by decide) (by decide)) (hP _ (by decide) (by decide)) h142 h143) (gOk _ _ _ _ _) dX12_isSo_116 (tX12_waysMatch _ _ _ _ _) ⟨wV_X12_waysMatch, wL_X12_waysMatch⟩ wM_X12_379 (gCX12 _ _ _ _ _) rfl (A_106 hw) rfl ⟨le_t rfl, le_t rfl⟩ ⟨le_t rfl, le_t rfl⟩ rfl (le_t rfl) fun z720 h719 => ?_
    refine xmr_istore (pc := 119) (lv' := [(7, iv z720), (8, iv z439), (6, iv f_x), (0, .ref 106), (1, iv p1), (2, iv p2), (3, iv p3), (4, iv p4), (5, iv p5)]) dX12_isSo_119 (by decide) rfl ?_
    refine xsv_goto (pc := 121) (tgt := 462) dX12_isSo_121 (by decide) ?_
    refine xmr_lvS (lv' := [(0, .ref 106), (2, iv p2), (7, iv z720)]) (List.forall_mem_cons.mpr ⟨rfl, List.forall_mem_cons.mpr ⟨rfl, List.forall_mem_cons.mpr ⟨rfl, fun _ h => absurd h List.not_mem_nil⟩⟩⟩) ?_
    exact J581 z720 μ hT mF.refl h719.1
  have h721 : 4 ≤ z443 ∧ z443 ≤ 4 := (vc_X12_isSo_25 h586 h445)
  refine xsv_aload_n (pc := 34) dX12_isSo_34 rfl rfl ?_
  refine xgf_X12_4 (pc := 35) dX12_isSo_35 wF_X12_26 (A_106 hw) hT ?_
  refine xmr_iload (pc := 38) (z := f_x) dX12_isSo_38 rfl ?_
  refine xla_109 (hS := hx.2) (pc := 40) dX12_isSo_40 (A_109 hw) hT (rIx (n := 10) h3 rfl) fun z722 q723 h724 => ?_
  refine xsv_aload_n (pc := 41) dX12_isSo_41 rfl rfl ?_
  refine xgf_X12_48 (pc := 42) dX12_isSo_42 wF_X12_336 (A_106 hw) hT ?_
  refine xmr_iload_n (pc := 45) (z := p2) dX12_isSo_45 rfl rfl ?_
  refine xla_135 (hS := hP _ (by decide) (by decide)) (pc := 46) dX12_isSo_46 (A_135 hw) hT (rIx (n := 3900) hp2 rfl) fun z725 q726 h727 => ?_
  refine xmr_icmp_lt (pc := 47) (tgt := 95) dX12_isSo_47 (by decide) (r32 h724 rfl) h727 (fun h748 => ?_) (fun h748 => ?_)
  · have h749 : 1 ≤ z725 ∧ z725 ≤ 2147483647 := (vc_X12_isSo_26 h748 h724 h727)
    refine xmr_iconst (pc := 95) (z := 0) dX12_isSo_95 ?_
    refine xmr_istore (pc := 96) (lv' := [(7, iv 0), (8, iv z439), (6, iv f_x), (0, .ref 106), (1, iv p1), (2, iv p2), (3, iv p3), (4, iv p4), (5, iv p5)]) dX12_isSo_96 (by decide) rfl ?_
    refine xsv_goto (pc := 98) (tgt := 462) dX12_isSo_98 (by decide) ?_
    refine xmr_lvS (lv' := [(0, .ref 106), (2, iv p2), (7, iv 0)]) (List.forall_mem_cons.mpr ⟨rfl, List.forall_mem_cons.mpr ⟨rfl, List.forall_mem_cons.mpr ⟨rfl, fun _ h => absurd h List.not_mem_nil⟩⟩⟩) ?_
    exact J581 0 μ hT mF.refl (rW (c := 0) (d := 1) (rR (x := 0)) rfl)
  have h750 : (-2147483648) ≤ z725 ∧ z725 ≤ 32 := (vc_X12_isSo_27 h748 h724 h727)
  refine xsv_aload_n (pc := 50) dX12_isSo_50 rfl rfl ?_
  refine xgf_X12_47 (pc := 51) dX12_isSo_51 wF_X12_329 (A_106 hw) hT ?_
  refine xmr_iload_n (pc := 54) (z := p2) dX12_isSo_54 rfl rfl ?_
  refine xla_134 (hS := hP _ (by decide) (by decide)) (pc := 55) dX12_isSo_55 (A_134 hw) hT (rIx (n := 3900) hp2 rfl) fun z751 q752 h753 => ?_
  refine xsv_aload_n (pc := 56) dX12_isSo_56 rfl rfl ?_
  refine xgf_X12_48 (pc := 57) dX12_isSo_57 wF_X12_336 (A_106 hw) hT ?_
  refine xmr_iload_n (pc := 60) (z := p2) dX12_isSo_60 rfl rfl ?_
  refine xlk_135 (hS := hP _ (by decide) (by decide)) (pc := 61) dX12_isSo_61 (A_135 hw) (rIx (n := 3900) hp2 rfl) q726 ?_
  refine xsv_aload_n (pc := 62) dX12_isSo_62 rfl rfl ?_
  refine xgf_X12_3 (pc := 63) dX12_isSo_63 wF_X12_22 (A_106 hw) hT ?_
  refine xmr_iload (pc := 66) (z := f_x) dX12_isSo_66 rfl ?_
  refine xla_108 (hS := hx.1) (pc := 68) dX12_isSo_68 (A_108 hw) hT (rIx (n := 10) h3 rfl) fun z754 q755 h756 => ?_
  refine xmr_cSP (pc := 69) (cx_X12_holds hw hT h753 (rW (c := (-2147483648)) (d := 2147483647) h750 rfl) h756) (gOk _ _ _ _ _) dX12_isSo_69 (tX12_holds _ _ _ _ _) wS_X12_holds wM_X12_142 ⟨le_t rfl, le_t rfl⟩ ⟨le_t rfl, le_t rfl⟩ rfl (le_t rfl) fun z761 h760 => ?_
  refine xmr_if_eq (pc := 72) (tgt := 95) dX12_isSo_72 (by decide) (r32 h760.1 rfl) (fun h769 => ?_) (fun h769 => ?_)
  · have h770 : 0 ≤ z761 ∧ z761 ≤ 0 := (vc_X12_ring_22 h769 h760.1)
    refine xmr_iconst (pc := 95) (z := 0) dX12_isSo_95 ?_
    refine xmr_istore (pc := 96) (lv' := [(7, iv 0), (8, iv z439), (6, iv f_x), (0, .ref 106), (1, iv p1), (2, iv p2), (3, iv p3), (4, iv p4), (5, iv p5)]) dX12_isSo_96 (by decide) rfl ?_
    refine xsv_goto (pc := 98) (tgt := 462) dX12_isSo_98 (by decide) ?_
    refine xmr_lvS (lv' := [(0, .ref 106), (2, iv p2), (7, iv 0)]) (List.forall_mem_cons.mpr ⟨rfl, List.forall_mem_cons.mpr ⟨rfl, List.forall_mem_cons.mpr ⟨rfl, fun _ h => absurd h List.not_mem_nil⟩⟩⟩) ?_
    exact J581 0 μ hT mF.refl (rW (c := 0) (d := 1) (rR (x := 0)) rfl)
  have h771 : 1 ≤ z761 ∧ z761 ≤ 1 := (vc_X12_ring_24 h769 h760.1)
  refine xsv_aload_n (pc := 75) dX12_isSo_75 rfl rfl ?_
  refine xgf_X12_4 (pc := 76) dX12_isSo_76 wF_X12_26 (A_106 hw) hT ?_
  refine xmr_iload (pc := 79) (z := f_x) dX12_isSo_79 rfl ?_
  refine xlk_109 (hS := hx.2) (pc := 81) dX12_isSo_81 (A_109 hw) (rIx (n := 10) h3 rfl) q723 ?_
  refine xsv_aload_n (pc := 82) dX12_isSo_82 rfl rfl ?_
  refine xgf_X12_49 (pc := 83) dX12_isSo_83 wF_X12_339 (A_106 hw) hT ?_
  refine xmr_iload_n (pc := 86) (z := p2) dX12_isSo_86 rfl rfl ?_
  refine xla_136 (hS := hP _ (by decide) (by decide)) (pc := 87) dX12_isSo_87 (A_136 hw) hT (rIx (n := 3900) hp2 rfl) fun z772 q773 h774 => ?_
  refine xmr_icmp_gt (pc := 88) (tgt := 95) dX12_isSo_88 (by decide) (r32 h724 rfl) h774 (fun h777 => ?_) (fun h777 => ?_)
  · have h778 : (-2147483648) ≤ z772 ∧ z772 ≤ 31 := (vc_X12_isSo_30 h777 h748 h724 h750 h774)
    refine xmr_iconst (pc := 95) (z := 0) dX12_isSo_95 ?_
    refine xmr_istore (pc := 96) (lv' := [(7, iv 0), (8, iv z439), (6, iv f_x), (0, .ref 106), (1, iv p1), (2, iv p2), (3, iv p3), (4, iv p4), (5, iv p5)]) dX12_isSo_96 (by decide) rfl ?_
    refine xsv_goto (pc := 98) (tgt := 462) dX12_isSo_98 (by decide) ?_
    refine xmr_lvS (lv' := [(0, .ref 106), (2, iv p2), (7, iv 0)]) (List.forall_mem_cons.mpr ⟨rfl, List.forall_mem_cons.mpr ⟨rfl, List.forall_mem_cons.mpr ⟨rfl, fun _ h => absurd h List.not_mem_nil⟩⟩⟩) ?_
    exact J581 0 μ hT mF.refl (rW (c := 0) (d := 1) (rR (x := 0)) rfl)
  have h779 : 0 ≤ z772 ∧ z772 ≤ 2147483647 := (vc_X12_isSo_31 h777 h748 h724 h750 h774)
  refine xmr_iconst (pc := 91) (z := 1) dX12_isSo_91 ?_
  refine xsv_goto (pc := 92) (tgt := 96) dX12_isSo_92 (by decide) ?_
  refine xmr_istore (pc := 96) (lv' := [(7, iv 1), (8, iv z439), (6, iv f_x), (0, .ref 106), (1, iv p1), (2, iv p2), (3, iv p3), (4, iv p4), (5, iv p5)]) dX12_isSo_96 (by decide) rfl ?_
  refine xsv_goto (pc := 98) (tgt := 462) dX12_isSo_98 (by decide) ?_
  refine xmr_lvS (lv' := [(0, .ref 106), (2, iv p2), (7, iv 1)]) (List.forall_mem_cons.mpr ⟨rfl, List.forall_mem_cons.mpr ⟨rfl, List.forall_mem_cons.mpr ⟨rfl, fun _ h => absurd h List.not_mem_nil⟩⟩⟩) ?_
  exact J581 1 μ hT mF.refl (rW (c := 0) (d := 1) (rR (x := 1)) rfl)

set_option maxRecDepth 4000 in
set_option maxHeartbeats 4000000 in
theorem cx_X12_through {l : Launch} {D : va_G} {c : Nat → ClassId} {H0 : Heap} {sa : Nat × Nat × (Nat → Int32)} {w : mW} {μ : mM} {K : (Nat → Int) → (Nat → Int) → Prop} {W S : Nat → Nat → Prop} (hw : mWF w) (hT : mT w μ) {p1 : Int} (hp1 : (-2147483648) ≤ p1 ∧ p1 ≤ 2147483647) {p2 : Int} (hp2 : 0 ≤ p2 ∧ p2 ≤ 2099) {p3 : Int} (hp3 : (-2147483648) ≤ p3 ∧ p3 ≤ 2147483647) {p4 : Int} (hp4 : (-2147483648) ≤ p4 ∧ p4 ≤ 2147483647) {g1 : Int} (hg1 : 0 ≤ g1 ∧ g1 ≤ 19) {f_e0 : Int} (q_f_e0 : μ 110 ((2 * g1).toNat) = f_e0) {f_e1 : Int} (q_f_e1 : μ 110 (((2 * g1) + 1).toNat) = f_e1) {f_ties : Int} (q_f_ties : μ 106 6 = f_ties) {f_x : Int} (q_f_x : μ 126 ((40 * p2).toNat) = f_x) {f_pol : Int} (q_f_pol : μ 106 39 = f_pol) (hq0 : g1 < f_ties) (hq1 : (f_e0 = p3 ∧ f_e1 = p4) ∨ (f_e0 = p4 ∧ f_e1 = p3)) (hq2 : 0 ≤ f_x) (hq3 : p1 = -99999999 ∨ (0 ≤ p1 ∧ p1 < f_pol)) (hIPK : PK μ) (hR : ∀ i : Nat, 40 * p2 ≤ (i : Int) → (i : Int) < 40 * p2 + 40 → S 126 i) (hW : ∀ i : Nat, 40 * p2 ≤ (i : Int) → (i : Int) < 40 * p2 + 40 → W 126 i) (hK : ∀ γ f, K γ f → g1 < f 6) (h110 : ∀ i : Nat, (i : Int) ≤ 2 * g1 + 1 → S 110 i) (h111 : ∀ i : Nat, (i : Int) ≤ g1 → S 111 i) (h127 : ∀ i : Nat, (i : Int) < f_pol → S 127 i ∧ S 142 i) (h128 : ∀ i : Nat, (i : Int) < 31 * f_pol → S 128 i ∧ S 129 i) (h132 : ∀ a i : Nat, 132 ≤ a → a ≤ 141 → (i : Int) < 300 * f_pol → S a i) (h143 : ∀ i : Nat, (i : Int) < 41 * f_pol → S 143 i ∧ S 144 i) (hx : S 108 f_x.toNat ∧ S 109 f_x.toNat) (h17 : S 106 17) (hG : ∀ a i : Nat, 151 ≤ a → a ≤ 153 → W a i) (hJ : ∀ (m : Int) (μ' : mM) (n z : Int), mT w μ' → mF [106026, 106027, 106028, 106029, 106030, 106031, 126999, 151999, 152999, 153999] w μ μ' → (-2147483648 ≤ n ∧ n ≤ 2147483647) → μ' 106 17 = z → VC l D c H0 sa K W (Slev S m) (Slev S m) mX12_judged 4 [.ref 106, iv f_x, iv n, iv z, iv z] μ' (xqI w [106026, 106027, 106028, 106029, 106030, 106031] μ' (fun z _ => (0 ≤ z ∧ z ≤ 2) ∧ True))) : VC l D c H0 sa K W S S mX12_through 6 [.ref 106, iv p1, iv p2, iv p3, iv p4] μ (xqI w [106026, 106027, 106028, 106029, 106030, 106031, 126999, 151999, 152999, 153999] μ (fun z μ1 => ∃ o_x : Int, μ1 126 ((40 * p2).toNat) = o_x ∧ (0 ≤ z ∧ z ≤ 1) ∧ mG [(((40 * p2) + 1), ((40 * p2) + 40))] μ μ1 ∧ (o_x = f_x) ∧ True)) := by
  refine VC.of rfl (by decide) (le_t rfl) ?_
  have ht_f_e0 : (0 ≤ f_e0 ∧ f_e0 ≤ 9) := by rw [← q_f_e0]; exact hT 110 110 (A_110 hw) ((2 * g1).toNat)
  have ht_f_e1 : (0 ≤ f_e1 ∧ f_e1 ≤ 9) := by rw [← q_f_e1]; exact hT 110 110 (A_110 hw) (((2 * g1) + 1).toNat)
  have ht_f_ties : (0 ≤ f_ties ∧ f_ties ≤ 20) := by rw [← q_f_ties]; exact hT 106 106 (A_106 hw) 6
  have ht_f_x := rt7 hT (A_126 hw) (vc_X12_copy_1 hp2) q_f_x
  have h1 : (-1) ≤ f_x ∧ f_x ≤ 9 := ht_f_x.2.1 (vc_X12_copy_2 hp2)
  have ht_f_pol : (0 ≤ f_pol ∧ f_pol ≤ 12) := by rw [← q_f_pol]; exact hT 106 106 (A_106 hw) 39
  have h2 : 1 ≤ f_ties ∧ f_ties ≤ 20 := (vc_X3_putAttributes_11 hq0 ht_f_ties hg1)
  have h3 : 0 ≤ f_x ∧ f_x ≤ 9 := (vc_X12_isThere_6 hq2 h1)
  refine VS.mono (S' := Slev S 0) (fun a i q => q.resolve_right (by omega)) ?_
  refine xmr_lvE (lv' := [(0, .ref 106), (1, iv p1), (2, iv p2), (3, iv p3), (4, iv p4)]) rfl ?_
  refine xmr_iload_n (pc := 0) (z := p1) dX12_through_0 rfl rfl ?_
  refine xmr_ldc (pc := 1) (z := (-99999999)) dX12_through_1 wG_X12_29 (by decide) ?_
  refine xmr_icmp_ne (pc := 3) (tgt := 8) dX12_through_3 (by decide) hp1 (r32 (rR (x := (-99999999))) rfl) (fun h17636 => ?_) (fun h17636 => ?_)
  · refine xmr_iconst (pc := 8) (z := 1) dX12_through_8 ?_
    refine xmr_istore (pc := 9) (lv' := [(5, iv 1), (0, .ref 106), (1, iv p1), (2, iv p2), (3, iv p3), (4, iv p4)]) dX12_through_9 (by decide) rfl ?_
    refine xmr_iconst (pc := 11) (z := 0) dX12_through_11 ?_
    refine xmr_istore (pc := 12) (lv' := [(6, iv 0), (5, iv 1), (0, .ref 106), (1, iv p1), (2, iv p2), (3, iv p3), (4, iv p4)]) dX12_through_12 (by decide) rfl ?_
    refine xsv_aload_n (pc := 14) dX12_through_14 rfl rfl ?_
    refine xgf_X12_67 (pc := 15) dX12_through_15 wF_X12_388 (A_106 hw) hT ?_
    refine xmr_iconst (pc := 18) (z := 0) dX12_through_18 ?_
    refine xmr_iload_n (pc := 19) (z := p1) dX12_through_19 rfl rfl ?_
    refine xss_151i (hW := hG _ _ (by decide) (by decide)) (pc := 20) dX12_through_20 (A_151 hw) hT (rIx (n := 14) (rR (x := 0)) rfl) (vc_X12_through_5 hq3 h17636 ht_f_pol hp1) fun μ17637 u17638 T17639 => ?_
    refine xsv_aload_n (pc := 21) dX12_through_21 rfl rfl ?_
    refine xgf_X12_68 (pc := 22) dX12_through_22 wF_X12_391 (A_106 hw) T17639 ?_
    refine xmr_iconst (pc := 25) (z := 0) dX12_through_25 ?_
    refine xmr_iconst (pc := 26) (z := (-1)) dX12_through_26 ?_
    refine xss_152i (hW := hG _ _ (by decide) (by decide)) (pc := 27) dX12_through_27 (A_152 hw) T17639 (rIx (n := 14) (rR (x := 0)) rfl) (rW (c := (-1)) (d := 30) (rR (x := (-1))) rfl) fun μ17640 u17641 T17642 => ?_
    refine xsv_aload_n (pc := 28) dX12_through_28 rfl rfl ?_
    refine xgf_X12_69 (pc := 29) dX12_through_29 wF_X12_394 (A_106 hw) T17642 ?_
    refine xmr_iconst (pc := 32) (z := 0) dX12_through_32 ?_
    refine xmr_iconst (pc := 33) (z := 0) dX12_through_33 ?_
    refine xss_153i (hW := hG _ _ (by decide) (by decide)) (pc := 34) dX12_through_34 (A_153 hw) T17642 (rIx (n := 14) (rR (x := 0)) rfl) (rW (c := 0) (d := 300) (rR (x := 0)) rfl) fun μ17643 u17644 T17645 => ?_
    obtain ⟨z17646, q17647⟩ : ∃ z, μ17643 127 (p1.toNat) = z := ⟨_, rfl⟩
    have h17648 : (0 ≤ z17646 ∧ z17646 ≤ 30) := by rw [← q17647]; exact T17645 127 127 (A_127 hw) (p1.toNat)
    have I17649 : lvOK μ17643 ((0 : Int) + 1) := lvOK.push lvOK.zero vc_X12_through_6 u17638 u17641 u17644 (u17644.f (Or.inl (mAt.ne (A_153 hw) (A_106 hw) rfl)) (u17641.f (Or.inl (mAt.ne (A_152 hw) (A_106 hw) rfl)) (u17638.f (Or.inl (mAt.ne (A_151 hw) (A_106 hw) rfl)) q_f_pol))) (vc_X12_through_7 hq3 h17636 ht_f_pol hp1) q17647 (vc_X12_through_8 h17648)
    have L31897 : ∀ (nL31897 : Nat) (z31895 z31894 f_R : Int) (μ31896 : mM) (f_y : Int), mT w μ31896 → mF [106026, 106027, 106028, 106029, 106030, 106031, 126999, 151999, 152999, 153999] w μ17643 μ31896 → mG [(((40 * p2) + 1), ((40 * p2) + 40))] μ17643 μ31896 → μ31896 126 ((40 * p2).toNat) = f_y → (0 ≤ z31895 ∧ z31895 ≤ 12) → (0 ≤ z31894 ∧ z31894 ≤ 500) → ((-1) ≤ f_R ∧ f_R ≤ 30) → (f_y = f_x) → PK μ31896 → lvOK μ31896 z31895 → (z31895 = 0 ∨ μ31896 152 (z31895 - 1).toNat = f_R) → (((100 * (501 - z31894)) + (34 * z31895)) - f_R) < (nL31897 : Int) → VS l D c H0 sa K W (Slev S z31895) S mX12_through (sRm 6 0 0) ((xqI w [106026, 106027, 106028, 106029, 106030, 106031, 126999, 151999, 152999, 153999] μ (fun z μ1 => ∃ o_x : Int, μ1 126 ((40 * p2).toNat) = o_x ∧ (0 ≤ z ∧ z ≤ 1) ∧ mG [(((40 * p2) + 1), ((40 * p2) + 40))] μ μ1 ∧ (o_x = f_x) ∧ True))) 35 [(0, .ref 106), (2, iv p2), (3, iv p3), (4, iv p4), (5, iv z31895), (6, iv z31894)] [] μ31896 := by
      intro nL31897
      induction nL31897 with
      | zero => intro z31895 z31894 f_R μ31896 f_y T31901 F31902 G31903 q31909 h31898 h31899 h31900 h31904 I31905 R31906 R31907 h31908; exact ((vc_X12_through_9 h31908 h31900 h31899 h31898)).elim
      | succ nL31897 ih31910 =>
        intro z31895 z31894 f_R μ31896 f_y T31901 F31902 G31903 q31909 h31898 h31899 h31900 h31904 I31905 R31906 R31907 h31908
        have h31911 := rt7 T31901 (A_126 hw) (vc_X12_copy_1 hp2) q31909
        have h31912 : (-1) ≤ f_y ∧ f_y ≤ 9 := h31911.2.1 (vc_X12_copy_2 hp2)
        refine xmr_iload (pc := 35) (z := z31895) dX12_through_35 rfl ?_
        refine xmr_if_le (pc := 37) (tgt := 529) dX12_through_37 (by decide) (r32 h31898 rfl) (fun h31913 => ?_) (fun h31913 => ?_)
        · have h31914 : 0 ≤ z31895 ∧ z31895 ≤ 0 := (vc_X12_through_10 h31913 h31898)
          refine xmr_iconst (pc := 529) (z := 1) dX12_through_529 ?_
          exact xmr_zret dX12_through_530 rfl (rW (c := 0) (d := 1) (rR (x := 1)) rfl) (le_t rfl) (le_t rfl) T31901 (mF.call (mF.up (mF.up (mF.up mF.refl (A_151 hw) u17638 rfl) (A_152 hw) u17641 rfl) (A_153 hw) u17644 rfl) F31902 rfl) ⟨f_y, q31909, (rW (c := 0) (d := 1) (rR (x := 1)) rfl), (mG.call (mG.upO (mG.upO (mG.upO mG.refl u17638 rfl) u17641 rfl) u17644 rfl) G31903 (List.forall_mem_cons.mpr ⟨⟨_, List.mem_cons_self, (vc_X12_dropMark_5 hp2)⟩, (fun _ h => absurd h List.not_mem_nil)⟩)), (vc_X12_through_12 hq2 h31904 h3 h31912), trivial⟩
        have h31915 : 1 ≤ z31895 ∧ z31895 ≤ 12 := (vc_X12_through_13 h31913 h31898)
        refine xmr_iload (pc := 40) (z := z31895) dX12_through_40 rfl ?_
        refine xmr_iconst (pc := 42) (z := 1) dX12_through_42 ?_
        refine xmr_isub (pc := 43) (x := z31895) (y := 1) dX12_through_43 ?_
        refine xmr_istore (pc := 44) (lv' := [(7, iv (z31895 - 1)), (0, .ref 106), (2, iv p2), (3, iv p3), (4, iv p4), (5, iv z31895), (6, iv z31894)]) dX12_through_44 (by decide) rfl ?_
        refine xsv_aload_n (pc := 46) dX12_through_46 rfl rfl ?_
        refine xgf_X12_67 (pc := 47) dX12_through_47 wF_X12_388 (A_106 hw) T31901 ?_
        refine xmr_iload (pc := 50) (z := (z31895 - 1)) dX12_through_50 rfl ?_
        refine xla_151 (hS := Or.inr ⟨Or.inl rfl, by omega⟩) (pc := 52) dX12_through_52 (A_151 hw) T31901 (rIx (n := 14) (rSub (e := 0) (f := 11) h31915 (rR (x := 1)) rfl) rfl) fun z31916 q31917 h31918 => ?_
        have h31919 : 0 ≤ z31916 ∧ z31916 < f_pol ∧ z31916 + (z31895 - 1) ≤ 11 := lvOK.p R31906 (vc_X12_through_14 h31913 h31915) q31917 (F31902.f (A_106 hw) rfl (u17644.f (Or.inl (mAt.ne (A_153 hw) (A_106 hw) rfl)) (u17641.f (Or.inl (mAt.ne (A_152 hw) (A_106 hw) rfl)) (u17638.f (Or.inl (mAt.ne (A_151 hw) (A_106 hw) rfl)) q_f_pol))))
        refine xmr_istore (pc := 53) (lv' := [(8, iv z31916), (7, iv (z31895 - 1)), (0, .ref 106), (2, iv p2), (3, iv p3), (4, iv p4), (5, iv z31895), (6, iv z31894)]) dX12_through_53 (by decide) rfl ?_
        refine xsv_aload_n (pc := 55) dX12_through_55 rfl rfl ?_
        refine xgf_X12_68 (pc := 56) dX12_through_56 wF_X12_391 (A_106 hw) T31901 ?_
        refine xmr_iload (pc := 59) (z := (z31895 - 1)) dX12_through_59 rfl ?_
        refine xla_152 (hS := Or.inr ⟨Or.inr (Or.inl rfl), by omega⟩) (pc := 61) dX12_through_61 (A_152 hw) T31901 (rIx (n := 14) (rSub (e := 0) (f := 11) h31915 (rR (x := 1)) rfl) rfl) fun z31920 q31921 h31922 => ?_
        obtain ⟨z31923, q31924⟩ : ∃ z, μ31896 127 (z31916.toNat) = z := ⟨_, rfl⟩
        have h31925 : (0 ≤ z31923 ∧ z31923 ≤ 30) := by rw [← q31924]; exact T31901 127 127 (A_127 hw) (z31916.toNat)
        obtain ⟨z31926, q31927⟩ : ∃ z, μ31896 131 (z31916.toNat) = z := ⟨_, rfl⟩
        have h31928 : (0 ≤ z31926 ∧ z31926 ≤ 300) := by rw [← q31927]; exact T31901 131 131 (A_131 hw) (z31916.toNat)
        have h31929 : z31920 < z31923 ∧ z31920 = f_R := ⟨lvOK.r R31906 (vc_X12_through_15 h31913 h31919 hq3 ht_f_pol hp1 h31915 h31918) q31917 q31921 q31924, topE R31907 (vc_X12_through_16 h31913 h31919 hq3 ht_f_pol hp1 h31915 h31918) (vc_X12_through_17 h31913 h31919 hq3 ht_f_pol hp1 h31915 h31918) q31921⟩
        have h31930 : (-1) ≤ z31920 ∧ z31920 ≤ 29 := (vc_X12_through_18 h31929.1 h31929 h31900 h31922 h31925)
        refine xmr_istore (pc := 62) (lv' := [(9, iv z31920), (8, iv z31916), (7, iv (z31895 - 1)), (0, .ref 106), (2, iv p2), (3, iv p3), (4, iv p4), (5, iv z31895), (6, iv z31894)]) dX12_through_62 (by decide) rfl ?_
        refine xmr_iload (pc := 64) (z := z31920) dX12_through_64 rfl ?_
        refine xmr_if_lt (pc := 66) (tgt := 94) dX12_through_66 (by decide) (r32 h31930 rfl) (fun h31931 => ?_) (fun h31931 => ?_)
        · have h31932 : (-1) ≤ z31920 ∧ z31920 ≤ (-1) := (vc_X12_through_19 h31931 h31929 h31929.1 h31900 h31930 h31925)
          refine xmr_iinc (pc := 94) (lv' := [(9, iv (z31920 + 1)), (8, iv z31916), (7, iv (z31895 - 1)), (0, .ref 106), (2, iv p2), (3, iv p3), (4, iv p4), (5, iv z31895), (6, iv z31894)]) dX12_through_94 rfl (by decide) rfl ?_
          refine xmr_iconst (pc := 97) (z := 0) dX12_through_97 ?_
          refine xmr_istore (pc := 98) (lv' := [(10, iv 0), (9, iv (z31920 + 1)), (8, iv z31916), (7, iv (z31895 - 1)), (0, .ref 106), (2, iv p2), (3, iv p3), (4, iv p4), (5, iv z31895), (6, iv z31894)]) dX12_through_98 (by decide) rfl ?_
          have L33603 : ∀ (nL33603 : Nat) (z33601 z33600 : Int) (μ33602 : mM), mT w μ33602 → mF [106026, 106027, 106028, 106029, 106030, 106031] w μ31896 μ33602 → (0 ≤ z33601 ∧ z33601 ≤ 30) → (0 ≤ z33600 ∧ z33600 ≤ 1) → (z33600 = 0 ∨ z33601 < z31923) → (f_R < z33601) → PK μ33602 → (70 - ((2 * z33601) + z33600)) < (nL33603 : Int) → VS l D c H0 sa K W (Slev S z31895) S mX12_through (sRm 6 0 0) ((xqI w [106026, 106027, 106028, 106029, 106030, 106031, 126999, 151999, 152999, 153999] μ (fun z μ1 => ∃ o_x : Int, μ1 126 ((40 * p2).toNat) = o_x ∧ (0 ≤ z ∧ z ≤ 1) ∧ mG [(((40 * p2) + 1), ((40 * p2) + 40))] μ μ1 ∧ (o_x = f_x) ∧ True))) 100 [(0, .ref 106), (2, iv p2), (3, iv p3), (4, iv p4), (5, iv z31895), (6, iv z31894), (7, iv (z31895 - 1)), (8, iv z31916), (9, iv z33601), (10, iv z33600)] [] μ33602 := by
            intro nL33603
            induction nL33603 with
            | zero => intro z33601 z33600 μ33602 T33606 F33607 h33604 h33605 h33609 h33610 I33611 h33612; exact ((vc_X12_through_20 h33612 h33609 h33610 h31929 h31929.1 h31900 h31932 h31925 h33605 h33604)).elim
            | succ nL33603 ih33613 =>
              intro z33601 z33600 μ33602 T33606 F33607 h33604 h33605 h33609 h33610 I33611 h33612
              refine xmr_iload (pc := 100) (z := z33601) dX12_through_100 rfl ?_
              refine xsv_aload_n (pc := 102) dX12_through_102 rfl rfl ?_
              refine xgf_X12_40 (pc := 103) dX12_through_103 wF_X12_358 (A_106 hw) T33606 ?_
              refine xmr_iload (pc := 106) (z := z31916) dX12_through_106 rfl ?_
              refine xlk_127 (hS := Or.inl (h127 _ (by omega)).1) (pc := 108) dX12_through_108 (A_127 hw) (rIx (n := 13) h31918 rfl) (F33607.f (A_127 hw) rfl q31924) ?_
              have J33655 : VS l D c H0 sa K W (Slev S z31895) S mX12_through (sRm 6 0 0) ((xqI w [106026, 106027, 106028, 106029, 106030, 106031, 126999, 151999, 152999, 153999] μ (fun z μ1 => ∃ o_x : Int, μ1 126 ((40 * p2).toNat) = o_x ∧ (0 ≤ z ∧ z ≤ 1) ∧ mG [(((40 * p2) + 1), ((40 * p2) + 40))] μ μ1 ∧ (o_x = f_x) ∧ True))) 198 [(0, .ref 106), (2, iv p2), (3, iv p3), (4, iv p4), (5, iv z31895), (6, iv z31894), (7, iv (z31895 - 1)), (8, iv z31916), (9, iv z33601), (10, iv z33600)] [] μ33602 := by
                refine xmr_iload (pc := 198) (z := z33600) dX12_through_198 rfl ?_
                refine xmr_if_ne (pc := 200) (tgt := 209) dX12_through_200 (by decide) (r32 h33605 rfl) (fun h33656 => ?_) (fun h33656 => ?_)
                · have h33657 : 1 ≤ z33600 ∧ z33600 ≤ 1 := (vc_X12_through_21 h33656 h33609 h31925 h33605 h33604)
                  refine xsv_aload_n (pc := 209) dX12_through_209 rfl rfl ?_
                  refine xgf_X12_68 (pc := 210) dX12_through_210 wF_X12_391 (A_106 hw) T33606 ?_
                  refine xmr_iload (pc := 213) (z := (z31895 - 1)) dX12_through_213 rfl ?_
                  refine xmr_iload (pc := 215) (z := z33601) dX12_through_215 rfl ?_
                  refine xss_152 (hW := hG _ _ (by decide) (by decide)) (pc := 217) dX12_through_217 (A_152 hw) T33606 (rIx (n := 14) (rSub (e := 0) (f := 11) h31915 (rR (x := 1)) rfl) rfl) (rW (c := (-1)) (d := 30) h33604 rfl) fun μ33658 u33659 T33660 => ?_
                  refine xsv_aload_n (pc := 218) dX12_through_218 rfl rfl ?_
                  refine xgf_X12_69 (pc := 219) dX12_through_219 wF_X12_394 (A_106 hw) T33660 ?_
                  refine xmr_iload (pc := 222) (z := (z31895 - 1)) dX12_through_222 rfl ?_
                  refine xsv_aload_n (pc := 224) dX12_through_224 rfl rfl ?_
                  refine xgf_X12_42 (pc := 225) dX12_through_225 wF_X12_364 (A_106 hw) T33660 ?_
                  refine xmr_bipush (pc := 228) (z := 31) dX12_through_228 (by decide) ?_
                  refine xmr_iload (pc := 230) (z := z31916) dX12_through_230 rfl ?_
                  refine xmr_imul (pc := 232) (x := 31) (y := z31916) dX12_through_232 ?_
                  refine xmr_iload (pc := 233) (z := z33601) dX12_through_233 rfl ?_
                  refine xmr_iadd (pc := 235) (x := (31 * z31916)) (y := z33601) dX12_through_235 ?_
                  refine xla_129 (hS := Or.inl (h128 _ (by omega)).2) (pc := 236) dX12_through_236 (A_129 hw) T33660 (rIx (n := 403) (rAdd (e := 0) (f := 371) (rMulL (n := 31) (e := 0) (f := 341) h31918 rfl) h33604 rfl) rfl) fun z33661 q33662 h33663 => ?_
                  refine xss_153 (hW := hG _ _ (by decide) (by decide)) (pc := 237) dX12_through_237 (A_153 hw) T33660 (rIx (n := 14) (rSub (e := 0) (f := 11) h31915 (rR (x := 1)) rfl) rfl) h33663 fun μ33664 u33665 T33666 => ?_
                  have I33667 : lvOK μ33664 z31895 := lvOK.row (lvOK.keep R31906 hw ((mF.call mF.refl F33607 rfl) : mF [106026, 106027, 106028, 106029, 106030, 106031] w μ31896 _) rfl) (PK.keep I33611 hw ((mF.up (mF.up mF.refl (A_152 hw) u33659 rfl) (A_153 hw) u33665 rfl) : mF [152999, 153999] w μ33602 μ33664) rfl) (vc_X12_through_15 h31913 h31919 hq3 ht_f_pol hp1 h31915 h31918) u33659 u33665 (u33665.f (Or.inl (mAt.ne (A_153 hw) (A_151 hw) rfl)) (u33659.f (Or.inl (mAt.ne (A_152 hw) (A_151 hw) rfl)) (F33607.f (A_151 hw) rfl q31917))) (vc_X12_through_22 hq3 h31919 h17636 h31913 ht_f_pol hp1 h31915 h31918) (u33665.f (Or.inl (mAt.ne (A_153 hw) (A_106 hw) rfl)) (u33659.f (Or.inl (mAt.ne (A_152 hw) (A_106 hw) rfl)) (F33607.f (A_106 hw) rfl (F31902.f (A_106 hw) rfl (u17644.f (Or.inl (mAt.ne (A_153 hw) (A_106 hw) rfl)) (u17641.f (Or.inl (mAt.ne (A_152 hw) (A_106 hw) rfl)) (u17638.f (Or.inl (mAt.ne (A_151 hw) (A_106 hw) rfl)) q_f_pol))))))) (vc_X12_through_23 h31929 h31929.1 h33609 h33610 h31931 h33656 h31900 h31932 h31925 h33657 h33604) (u33665.f (Or.inl (mAt.ne (A_153 hw) (A_127 hw) rfl)) (u33659.f (Or.inl (mAt.ne (A_152 hw) (A_127 hw) rfl)) (F33607.f (A_127 hw) rfl q31924))) (vc_X12_through_24 h31919 h33609 h33610 hq3 h31913 h31929 h31929.1 h33656 h31900 ht_f_pol hp1 h31915 h31918 h31932 h31925 h33657 h33604) (u33665.f (Or.inl (mAt.ne (A_153 hw) (A_129 hw) rfl)) q33662)
                  refine xsv_goto (pc := 238) (tgt := 35) dX12_through_238 (by decide) ?_
                  refine xmr_lvS (lv' := [(0, .ref 106), (2, iv p2), (3, iv p3), (4, iv p4), (5, iv z31895), (6, iv z31894)]) (List.forall_mem_cons.mpr ⟨rfl, List.forall_mem_cons.mpr ⟨rfl, List.forall_mem_cons.mpr ⟨rfl, List.forall_mem_cons.mpr ⟨rfl, List.forall_mem_cons.mpr ⟨rfl, List.forall_mem_cons.mpr ⟨rfl, fun _ h => absurd h List.not_mem_nil⟩⟩⟩⟩⟩⟩) ?_
                  exact ih31910 z31895 z31894 z33601 μ33664 f_y T33666 (mF.up (mF.up (mF.call (mF.call mF.refl F31902 rfl) F33607 rfl) (A_152 hw) u33659 rfl) (A_153 hw) u33665 rfl) (mG.upO (mG.upO (mG.fr (mG.call mG.refl G31903 (List.forall_mem_cons.mpr ⟨⟨_, List.mem_cons_self, (vc_X12_dropMark_5 hp2)⟩, (fun _ h => absurd h List.not_mem_nil)⟩)) F33607 (A_126 hw) rfl) u33659 rfl) u33665 rfl) (u33665.f (Or.inl (mAt.ne (A_153 hw) (A_126 hw) rfl)) (u33659.f (Or.inl (mAt.ne (A_152 hw) (A_126 hw) rfl)) (F33607.f (A_126 hw) rfl q31909))) (rW (c := 0) (d := 12) h31915 rfl) h31899 (rW (c := (-1)) (d := 30) h33604 rfl) (vc_X12_through_12 hq2 h31904 h3 h31912) (PK.keep I33611 hw ((mF.up (mF.up mF.refl (A_152 hw) u33659 rfl) (A_153 hw) u33665 rfl) : mF [152999, 153999] w μ33602 μ33664) rfl) (lvOK.pred I33667 (vc_X12_through_26 h31913 h31919 hq3 ht_f_pol hp1 h31915 h31918)) (Or.inr (u33665.f (Or.inl (mAt.ne (A_153 hw) (A_152 hw) rfl)) u33659.1)) (vc_X12_through_25 (nS h31908) h31913 h31919 h31929 h33609 h33610 hq3 h31929.1 h31931 h33656 h31900 ht_f_pol hp1 h31899 h31915 h31918 h31932 h31925 h33657 h33604)
                have h33668 : 0 ≤ z33600 ∧ z33600 ≤ 0 := (vc_X12_through_27 h33656 h33609 h31925 h33605 h33604)
                refine xmr_iinc (pc := 203) (lv' := [(5, iv (z31895 + (-1))), (0, .ref 106), (2, iv p2), (3, iv p3), (4, iv p4), (6, iv z31894), (7, iv (z31895 - 1)), (8, iv z31916), (9, iv z33601), (10, iv z33600)]) dX12_through_203 rfl (by decide) rfl ?_
                by_cases h33669 : (z31895 + (-1)) = 0
                · have h33670 : 1 ≤ z31895 ∧ z31895 ≤ 1 := (vc_X12_through_28 h33669 h31913 h31919 ht_f_pol h31915 h31918)
                  refine xsv_goto (pc := 206) (tgt := 35) dX12_through_206 (by decide) ?_
                  refine xmr_lvS (lv' := [(0, .ref 106), (2, iv p2), (3, iv p3), (4, iv p4), (5, iv (z31895 + (-1))), (6, iv z31894)]) (List.forall_mem_cons.mpr ⟨rfl, List.forall_mem_cons.mpr ⟨rfl, List.forall_mem_cons.mpr ⟨rfl, List.forall_mem_cons.mpr ⟨rfl, List.forall_mem_cons.mpr ⟨rfl, List.forall_mem_cons.mpr ⟨rfl, fun _ h => absurd h List.not_mem_nil⟩⟩⟩⟩⟩⟩) ?_
                  refine VS.mono (Slev.le (m := z31895 + (-1)) (n := z31895) (by omega)) ?_; exact ih31910 (z31895 + (-1)) z31894 0 μ33602 f_y T33606 (mF.call (mF.call mF.refl F31902 rfl) F33607 rfl) (mG.fr (mG.call mG.refl G31903 (List.forall_mem_cons.mpr ⟨⟨_, List.mem_cons_self, (vc_X12_dropMark_5 hp2)⟩, (fun _ h => absurd h List.not_mem_nil)⟩)) F33607 (A_126 hw) rfl) (F33607.f (A_126 hw) rfl q31909) (rW (c := 0) (d := 12) (rAdd (e := 0) (f := 0) h33670 (rR (x := (-1))) rfl) rfl) h31899 (rW (c := (-1)) (d := 30) (rR (x := 0)) rfl) (vc_X12_through_12 hq2 h31904 h3 h31912) I33611 (lvOK.pred (lvOK.keep R31906 hw ((mF.call mF.refl F33607 rfl) : mF [106026, 106027, 106028, 106029, 106030, 106031] w μ31896 μ33602) rfl) (vc_X12_through_30 h31913 h31919 h33669 hq3 ht_f_pol hp1 h33670 h31918)) (Or.inl (vc_X12_through_31 h31913 h31919 h33669 hq3 ht_f_pol hp1 h33670 h31918)) (vc_X12_through_29 (nS h31908) h31913 h31919 h31929 h33610 h33669 hq3 h31929.1 h31931 h33609 h31900 ht_f_pol hp1 h31899 h33670 h31918 h31932 h31925 h33668 h33604)
                have h33671 : 2 ≤ z31895 ∧ z31895 ≤ 12 := (vc_X12_through_32 h33669 h31913 h31919 ht_f_pol h31915 h31918)
                refine xsv_goto (pc := 206) (tgt := 35) dX12_through_206 (by decide) ?_
                obtain ⟨z33672, q33673⟩ : ∃ z, μ33602 152 (((z31895 + (-1)) - 1).toNat) = z := ⟨_, rfl⟩
                have h33674 : ((-1) ≤ z33672 ∧ z33672 ≤ 30) := by rw [← q33673]; exact T33606 152 152 (A_152 hw) (((z31895 + (-1)) - 1).toNat)
                refine xmr_lvS (lv' := [(0, .ref 106), (2, iv p2), (3, iv p3), (4, iv p4), (5, iv (z31895 + (-1))), (6, iv z31894)]) (List.forall_mem_cons.mpr ⟨rfl, List.forall_mem_cons.mpr ⟨rfl, List.forall_mem_cons.mpr ⟨rfl, List.forall_mem_cons.mpr ⟨rfl, List.forall_mem_cons.mpr ⟨rfl, List.forall_mem_cons.mpr ⟨rfl, fun _ h => absurd h List.not_mem_nil⟩⟩⟩⟩⟩⟩) ?_
                refine VS.mono (Slev.le (m := z31895 + (-1)) (n := z31895) (by omega)) ?_; exact ih31910 (z31895 + (-1)) z31894 z33672 μ33602 f_y T33606 (mF.call (mF.call mF.refl F31902 rfl) F33607 rfl) (mG.fr (mG.call mG.refl G31903 (List.forall_mem_cons.mpr ⟨⟨_, List.mem_cons_self, (vc_X12_dropMark_5 hp2)⟩, (fun _ h => absurd h List.not_mem_nil)⟩)) F33607 (A_126 hw) rfl) (F33607.f (A_126 hw) rfl q31909) (rW (c := 0) (d := 12) (rAdd (e := 1) (f := 11) h33671 (rR (x := (-1))) rfl) rfl) h31899 h33674 (vc_X12_through_12 hq2 h31904 h3 h31912) I33611 (lvOK.pred (lvOK.keep R31906 hw ((mF.call mF.refl F33607 rfl) : mF [106026, 106027, 106028, 106029, 106030, 106031] w μ31896 μ33602) rfl) (vc_X12_through_34 h31913 h31919 h33669 hq3 ht_f_pol hp1 h33671 h31918)) (Or.inr q33673) (vc_X12_through_33 (nS h31908) h31913 h31919 h31929 h33610 h33669 hq3 h31929.1 h31931 h33609 h31900 ht_f_pol hp1 h31899 h33671 h31918 h31932 h31925 h33668 h33604 h33674)
              refine xmr_icmp_ge (pc := 109) (tgt := 198) dX12_through_109 (by decide) (r32 h33604 rfl) (r32 h31925 rfl) (fun h33675 => ?_) (fun h33675 => ?_)
              · exact J33655 
              have h33676 : 0 ≤ z33601 ∧ z33601 ≤ 29 := (vc_X12_through_35 h33675 h31929 h31929.1 h33609 h33610 h31900 h31932 h31925 h33605 h33604)
              have h33677 : 1 ≤ z31923 ∧ z31923 ≤ 30 := (vc_X12_through_36 h33675 h31929 h31929.1 h33609 h33610 h31900 h31932 h31925 h33605 h33676)
              refine xmr_iload (pc := 112) (z := z33600) dX12_through_112 rfl ?_
              refine xmr_if_ne (pc := 114) (tgt := 198) dX12_through_114 (by decide) (r32 h33605 rfl) (fun h33678 => ?_) (fun h33678 => ?_)
              · have h33679 : 1 ≤ z33600 ∧ z33600 ≤ 1 := (vc_X12_through_37 h33678 h33609 h33677 h33605 h33676)
                exact J33655 
              have h33680 : 0 ≤ z33600 ∧ z33600 ≤ 0 := (vc_X12_through_38 h33678 h33609 h33677 h33605 h33676)
              refine xmr_iconst (pc := 117) (z := 1) dX12_through_117 ?_
              refine xmr_istore (pc := 118) (lv' := [(10, iv 1), (0, .ref 106), (2, iv p2), (3, iv p3), (4, iv p4), (5, iv z31895), (6, iv z31894), (7, iv (z31895 - 1)), (8, iv z31916), (9, iv z33601)]) dX12_through_118 (by decide) rfl ?_
              refine xsv_aload_n (pc := 120) dX12_through_120 rfl rfl ?_
              refine xgf_X12_41 (pc := 121) dX12_through_121 wF_X12_361 (A_106 hw) T33606 ?_
              refine xmr_bipush (pc := 124) (z := 31) dX12_through_124 (by decide) ?_
              refine xmr_iload (pc := 126) (z := z31916) dX12_through_126 rfl ?_
              refine xmr_imul (pc := 128) (x := 31) (y := z31916) dX12_through_128 ?_
              refine xmr_iload (pc := 129) (z := z33601) dX12_through_129 rfl ?_
              refine xmr_iadd (pc := 131) (x := (31 * z31916)) (y := z33601) dX12_through_131 ?_
              refine xla_128 (hS := Or.inl (h128 _ (by omega)).1) (pc := 132) dX12_through_132 (A_128 hw) T33606 (rIx (n := 403) (rAdd (e := 0) (f := 370) (rMulL (n := 31) (e := 0) (f := 341) h31918 rfl) h33676 rfl) rfl) fun z33681 q33682 h33683 => ?_
              refine xmr_istore (pc := 133) (lv' := [(11, iv z33681), (10, iv 1), (0, .ref 106), (2, iv p2), (3, iv p3), (4, iv p4), (5, iv z31895), (6, iv z31894), (7, iv (z31895 - 1)), (8, iv z31916), (9, iv z33601)]) dX12_through_133 (by decide) rfl ?_
              have L33734 : ∀ (nL33734 : Nat) (z33732 z33731 : Int) (μ33733 : mM), mT w μ33733 → mF [106026, 106027, 106028, 106029, 106030, 106031] w μ33602 μ33733 → (0 ≤ z33732 ∧ z33732 ≤ 1) → (0 ≤ z33731 ∧ z33731 ≤ 300) → PK μ33733 → (301 - z33731) < (nL33734 : Int) → VS l D c H0 sa K W (Slev S z31895) S mX12_through (sRm 6 0 0) ((xqI w [106026, 106027, 106028, 106029, 106030, 106031, 126999, 151999, 152999, 153999] μ (fun z μ1 => ∃ o_x : Int, μ1 126 ((40 * p2).toNat) = o_x ∧ (0 ≤ z ∧ z ≤ 1) ∧ mG [(((40 * p2) + 1), ((40 * p2) + 40))] μ μ1 ∧ (o_x = f_x) ∧ True))) 135 [(0, .ref 106), (2, iv p2), (3, iv p3), (4, iv p4), (5, iv z31895), (6, iv z31894), (7, iv (z31895 - 1)), (8, iv z31916), (9, iv z33601), (10, iv z33732), (11, iv z33731)] [] μ33733 := by
                intro nL33734
                induction nL33734 with
                | zero => intro z33732 z33731 μ33733 T33737 F33738 h33735 h33736 I33740 h33741; exact ((vc_X12_through_39 h33741 h33736)).elim
                | succ nL33734 ih33742 =>
                  intro z33732 z33731 μ33733 T33737 F33738 h33735 h33736 I33740 h33741
                  refine xmr_iload (pc := 135) (z := z33731) dX12_through_135 rfl ?_
                  refine xsv_aload_n (pc := 137) dX12_through_137 rfl rfl ?_
                  refine xgf_X12_41 (pc := 138) dX12_through_138 wF_X12_361 (A_106 hw) T33737 ?_
                  refine xmr_bipush (pc := 141) (z := 31) dX12_through_141 (by decide) ?_
                  refine xmr_iload (pc := 143) (z := z31916) dX12_through_143 rfl ?_
                  refine xmr_imul (pc := 145) (x := 31) (y := z31916) dX12_through_145 ?_
                  refine xmr_iload (pc := 146) (z := z33601) dX12_through_146 rfl ?_
                  refine xmr_iadd (pc := 148) (x := (31 * z31916)) (y := z33601) dX12_through_148 ?_
                  refine xmr_iconst (pc := 149) (z := 1) dX12_through_149 ?_
                  refine xmr_iadd (pc := 150) (x := ((31 * z31916) + z33601)) (y := 1) dX12_through_150 ?_
                  refine xla_128 (hS := Or.inl (h128 _ (by omega)).1) (pc := 151) dX12_through_151 (A_128 hw) T33737 (rIx (n := 403) (rAdd (e := 1) (f := 371) (rAdd (e := 0) (f := 370) (rMulL (n := 31) (e := 0) (f := 341) h31918 rfl) h33676 rfl) (rR (x := 1)) rfl) rfl) fun z33743 q33744 h33745 => ?_
                  refine xmr_icmp_ge (pc := 152) (tgt := 187) dX12_through_152 (by decide) (r32 h33736 rfl) (r32 h33745 rfl) (fun h33755 => ?_) (fun h33755 => ?_)
                  · refine xmr_iload (pc := 187) (z := z33732) dX12_through_187 rfl ?_
                    refine xmr_if_ne (pc := 189) (tgt := 100) dX12_through_189 (by decide) (r32 h33735 rfl) (fun h33756 => ?_) (fun h33756 => ?_)
                    · have h33757 : 1 ≤ z33732 ∧ z33732 ≤ 1 := (vc_X12_ring_24 h33756 h33735)
                      refine xmr_lvS (lv' := [(0, .ref 106), (2, iv p2), (3, iv p3), (4, iv p4), (5, iv z31895), (6, iv z31894), (7, iv (z31895 - 1)), (8, iv z31916), (9, iv z33601), (10, iv z33732)]) (List.forall_mem_cons.mpr ⟨rfl, List.forall_mem_cons.mpr ⟨rfl, List.forall_mem_cons.mpr ⟨rfl, List.forall_mem_cons.mpr ⟨rfl, List.forall_mem_cons.mpr ⟨rfl, List.forall_mem_cons.mpr ⟨rfl, List.forall_mem_cons.mpr ⟨rfl, List.forall_mem_cons.mpr ⟨rfl, List.forall_mem_cons.mpr ⟨rfl, List.forall_mem_cons.mpr ⟨rfl, fun _ h => absurd h List.not_mem_nil⟩⟩⟩⟩⟩⟩⟩⟩⟩⟩) ?_
                      exact ih33613 z33601 z33732 μ33733 T33737 (mF.call (mF.call mF.refl F33607 rfl) F33738 rfl) (rW (c := 0) (d := 30) h33676 rfl) (rW (c := 0) (d := 1) h33757 rfl) (vc_X12_through_41 h31929 h31929.1 h33609 h33610 h33675 h33756 h31931 h33678 h31900 h31932 h33677 h33680 h33676 h33757) (vc_X12_through_42 h31929 h33609 h33610 h33675 h31929.1 h31931 h33678 h31900 h31932 h33677 h33680 h33676) I33740 (vc_X12_through_43 (nS h33612) h33609 h33610 h33675 h33678 h33756 h31929 h31929.1 h31900 h31932 h33677 h33680 h33676 h33757)
                    have h33758 : 0 ≤ z33732 ∧ z33732 ≤ 0 := (vc_X12_ring_22 h33756 h33735)
                    refine xmr_iinc (pc := 192) (lv' := [(9, iv (z33601 + 1)), (0, .ref 106), (2, iv p2), (3, iv p3), (4, iv p4), (5, iv z31895), (6, iv z31894), (7, iv (z31895 - 1)), (8, iv z31916), (10, iv z33732), (11, iv z33731)]) dX12_through_192 rfl (by decide) rfl ?_
                    refine xsv_goto (pc := 195) (tgt := 100) dX12_through_195 (by decide) ?_
                    refine xmr_lvS (lv' := [(0, .ref 106), (2, iv p2), (3, iv p3), (4, iv p4), (5, iv z31895), (6, iv z31894), (7, iv (z31895 - 1)), (8, iv z31916), (9, iv (z33601 + 1)), (10, iv z33732)]) (List.forall_mem_cons.mpr ⟨rfl, List.forall_mem_cons.mpr ⟨rfl, List.forall_mem_cons.mpr ⟨rfl, List.forall_mem_cons.mpr ⟨rfl, List.forall_mem_cons.mpr ⟨rfl, List.forall_mem_cons.mpr ⟨rfl, List.forall_mem_cons.mpr ⟨rfl, List.forall_mem_cons.mpr ⟨rfl, List.forall_mem_cons.mpr ⟨rfl, List.forall_mem_cons.mpr ⟨rfl, fun _ h => absurd h List.not_mem_nil⟩⟩⟩⟩⟩⟩⟩⟩⟩⟩) ?_
                    exact ih33613 (z33601 + 1) z33732 μ33733 T33737 (mF.call (mF.call mF.refl F33607 rfl) F33738 rfl) (rW (c := 0) (d := 30) (rAdd (e := 1) (f := 30) h33676 (rR (x := 1)) rfl) rfl) (rW (c := 0) (d := 1) h33758 rfl) (vc_X12_through_45 h31929 h31929.1 h33609 h33610 h33675 h33756 h31931 h33678 h31900 h31932 h33677 h33680 h33676 h33758) (vc_X12_through_46 h31929 h33609 h33610 h33675 h31929.1 h31931 h33678 h31900 h31932 h33677 h33680 h33676) I33740 (vc_X12_through_47 (nS h33612) h33609 h33610 h33675 h33678 h33756 h31929 h31929.1 h31900 h31932 h33677 h33680 h33676 h33758)
                  have h33759 : 0 ≤ z33731 ∧ z33731 ≤ 299 := (vc_X12_through_48 h33755 h33736 h33745)
                  have h33760 : 1 ≤ z33743 ∧ z33743 ≤ 300 := (vc_X12_through_49 h33755 h33759 h33745)
                  refine xmr_iload (pc := 155) (z := z33732) dX12_through_155 rfl ?_
                  refine xmr_if_eq (pc := 157) (tgt := 187) dX12_through_157 (by decide) (r32 h33735 rfl) (fun h33768 => ?_) (fun h33768 => ?_)
                  · have h33769 : 0 ≤ z33732 ∧ z33732 ≤ 0 := (vc_X12_ring_22 h33768 h33735)
                    refine xmr_iload (pc := 187) (z := z33732) dX12_through_187 rfl ?_
                    refine xmr_if_ne (pc := 189) (tgt := 100) dX12_through_189 (by decide) (r32 h33769 rfl) (fun h => ((vc_X10_firstWrongStep_7 h h33769)).elim) (fun _ => ?_)
                    refine xmr_iinc (pc := 192) (lv' := [(9, iv (z33601 + 1)), (0, .ref 106), (2, iv p2), (3, iv p3), (4, iv p4), (5, iv z31895), (6, iv z31894), (7, iv (z31895 - 1)), (8, iv z31916), (10, iv z33732), (11, iv z33731)]) dX12_through_192 rfl (by decide) rfl ?_
                    refine xsv_goto (pc := 195) (tgt := 100) dX12_through_195 (by decide) ?_
                    refine xmr_lvS (lv' := [(0, .ref 106), (2, iv p2), (3, iv p3), (4, iv p4), (5, iv z31895), (6, iv z31894), (7, iv (z31895 - 1)), (8, iv z31916), (9, iv (z33601 + 1)), (10, iv z33732)]) (List.forall_mem_cons.mpr ⟨rfl, List.forall_mem_cons.mpr ⟨rfl, List.forall_mem_cons.mpr ⟨rfl, List.forall_mem_cons.mpr ⟨rfl, List.forall_mem_cons.mpr ⟨rfl, List.forall_mem_cons.mpr ⟨rfl, List.forall_mem_cons.mpr ⟨rfl, List.forall_mem_cons.mpr ⟨rfl, List.forall_mem_cons.mpr ⟨rfl, List.forall_mem_cons.mpr ⟨rfl, fun _ h => absurd h List.not_mem_nil⟩⟩⟩⟩⟩⟩⟩⟩⟩⟩) ?_
                    exact ih33613 (z33601 + 1) z33732 μ33733 T33737 (mF.call (mF.call mF.refl F33607 rfl) F33738 rfl) (rW (c := 0) (d := 30) (rAdd (e := 1) (f := 30) h33676 (rR (x := 1)) rfl) rfl) (rW (c := 0) (d := 1) h33769 rfl) (vc_X12_through_45 h31929 h31929.1 h33609 h33610 h33675 h33768 h31931 h33678 h31900 h31932 h33677 h33680 h33676 h33769) (vc_X12_through_46 h31929 h33609 h33610 h33675 h31929.1 h31931 h33678 h31900 h31932 h33677 h33680 h33676) I33740 (vc_X12_through_47 (nS h33612) h33609 h33610 h33675 h33678 h33768 h31929 h31929.1 h31900 h31932 h33677 h33680 h33676 h33769)
                  have h33770 : 1 ≤ z33732 ∧ z33732 ≤ 1 := (vc_X12_ring_24 h33768 h33735)
                  refine xsv_aload_n (pc := 160) dX12_through_160 rfl rfl ?_
                  refine xmr_iload (pc := 161) (z := z31916) dX12_through_161 rfl ?_
                  refine xmr_sipush (pc := 163) (z := 300) dX12_through_163 (by decide) ?_
                  refine xmr_iload (pc := 166) (z := z31916) dX12_through_166 rfl ?_
                  refine xmr_imul (pc := 168) (x := 300) (y := z31916) dX12_through_168 ?_
                  refine xmr_iload (pc := 169) (z := z33731) dX12_through_169 rfl ?_
                  refine xmr_iadd (pc := 171) (x := (300 * z31916)) (y := z33731) dX12_through_171 ?_
                  refine xmr_iload_n (pc := 172) (z := p2) dX12_through_172 rfl rfl ?_
                  refine xmr_iload_n (pc := 173) (z := p3) dX12_through_173 rfl rfl ?_
                  refine xmr_iload (pc := 174) (z := p4) dX12_through_174 rfl ?_
                  refine xmr_cVI (pc := 176) (cx_X12_isSo hw T33737 h31918 (rW (c := 0) (d := 3899) (rAdd (e := 0) (f := 3599) (rMulL (n := 300) (e := 0) (f := 3300) h31918 rfl) h33759 rfl) rfl) hp2 hp3 hp4 hg1 (F33738.f (A_110 hw) rfl (F33607.f (A_110 hw) rfl (F31902.f (A_110 hw) rfl (u17644.f (Or.inl (mAt.ne (A_153 hw) (A_110 hw) rfl)) (u17641.f (Or.inl (mAt.ne (A_152 hw) (A_110 hw) rfl)) (u17638.f (Or.inl (mAt.ne (A_151 hw) (A_110 hw) rfl)) q_f_e0)))))) (F33738.f (A_110 hw) rfl (F33607.f (A_110 hw) rfl (F31902.f (A_110 hw) rfl (u17644.f (Or.inl (mAt.ne (A_153 hw) (A_110 hw) rfl)) (u17641.f (Or.inl (mAt.ne (A_152 hw) (A_110 hw) rfl)) (u17638.f (Or.inl (mAt.ne (A_151 hw) (A_110 hw) rfl)) q_f_e1)))))) (F33738.f (A_106 hw) rfl (F33607.f (A_106 hw) rfl (F31902.f (A_106 hw) rfl (u17644.f (Or.inl (mAt.ne (A_153 hw) (A_106 hw) rfl)) (u17641.f (Or.inl (mAt.ne (A_152 hw) (A_106 hw) rfl)) (u17638.f (Or.inl (mAt.ne (A_151 hw) (A_106 hw) rfl)) q_f_ties)))))) (F33738.f (A_126 hw) rfl (F33607.f (A_126 hw) rfl q31909)) (vc_X12_tieWord_2 hq0 h2 hg1) (vc_X12_tieWord_3 hq1 ht_f_e0 ht_f_e1 hp3 hp4) (vc_X12_through_53 h31904 hq2 h3 h31912) (fun i a b => Or.inl (hR i a b)) hK (fun i a => Or.inl (h110 i a)) (fun i a => Or.inl (h111 i a)) (fun a x y => Or.inl (h132 a _ x (by omega) (by omega))) (Or.inl (h127 _ (by omega)).2) (fun i _ b => ⟨Or.inl (h143 i (by omega)).1, Or.inl (h143 i (by omega)).2⟩) (by rw [h31904]; exact ⟨Or.inl hx.1, Or.inl hx.2⟩) (Or.inl h17) (fun n z a b => by rw [h31904]; exact hJ z31895 _ n z T33737 (mF.call (mF.call (mF.call (mF.up (mF.up (mF.up mF.refl (A_151 hw) u17638 rfl) (A_152 hw) u17641 rfl) (A_153 hw) u17644 rfl) F31902 rfl) F33607 rfl) F33738 rfl) a b)) (gOk _ _ _ _ _) dX12_through_176 (tX12_isSo _ _ _ _ _) ⟨wV_X12_isSo, wL_X12_isSo⟩ wM_X12_397 (gCX12 _ _ _ _ _) rfl (A_106 hw) rfl ⟨le_t rfl, le_t rfl⟩ ⟨le_t rfl, le_t rfl⟩ rfl (le_t rfl) fun z33775 μ33771 T33772 F33773 h33774 => ?_
                  refine xmr_istore (pc := 179) (lv' := [(10, iv z33775), (0, .ref 106), (2, iv p2), (3, iv p3), (4, iv p4), (5, iv z31895), (6, iv z31894), (7, iv (z31895 - 1)), (8, iv z31916), (9, iv z33601), (11, iv z33731)]) dX12_through_179 (by decide) rfl ?_
                  refine xmr_iinc (pc := 181) (lv' := [(11, iv (z33731 + 1)), (10, iv z33775), (0, .ref 106), (2, iv p2), (3, iv p3), (4, iv p4), (5, iv z31895), (6, iv z31894), (7, iv (z31895 - 1)), (8, iv z31916), (9, iv z33601)]) dX12_through_181 rfl (by decide) rfl ?_
                  refine xsv_goto (pc := 184) (tgt := 135) dX12_through_184 (by decide) ?_
                  refine xmr_lvS (lv' := [(0, .ref 106), (2, iv p2), (3, iv p3), (4, iv p4), (5, iv z31895), (6, iv z31894), (7, iv (z31895 - 1)), (8, iv z31916), (9, iv z33601), (10, iv z33775), (11, iv (z33731 + 1))]) (List.forall_mem_cons.mpr ⟨rfl, List.forall_mem_cons.mpr ⟨rfl, List.forall_mem_cons.mpr ⟨rfl, List.forall_mem_cons.mpr ⟨rfl, List.forall_mem_cons.mpr ⟨rfl, List.forall_mem_cons.mpr ⟨rfl, List.forall_mem_cons.mpr ⟨rfl, List.forall_mem_cons.mpr ⟨rfl, List.forall_mem_cons.mpr ⟨rfl, List.forall_mem_cons.mpr ⟨rfl, List.forall_mem_cons.mpr ⟨rfl, fun _ h => absurd h List.not_mem_nil⟩⟩⟩⟩⟩⟩⟩⟩⟩⟩⟩) ?_
                  exact ih33742 z33775 (z33731 + 1) μ33771 T33772 (mF.call (mF.call mF.refl F33738 rfl) F33773 rfl) h33774.1 (rW (c := 0) (d := 300) (rAdd (e := 1) (f := 300) h33759 (rR (x := 1)) rfl) rfl) (PK.keep I33740 hw ((mF.call mF.refl F33773 rfl) : mF [106026, 106027, 106028, 106029, 106030, 106031] w μ33733 μ33771) rfl) (vc_X12_through_54 (nS h33741) h33755 h33759 h33760)
              refine xmr_lvS (lv' := [(0, .ref 106), (2, iv p2), (3, iv p3), (4, iv p4), (5, iv z31895), (6, iv z31894), (7, iv (z31895 - 1)), (8, iv z31916), (9, iv z33601), (10, iv 1), (11, iv z33681)]) (List.forall_mem_cons.mpr ⟨rfl, List.forall_mem_cons.mpr ⟨rfl, List.forall_mem_cons.mpr ⟨rfl, List.forall_mem_cons.mpr ⟨rfl, List.forall_mem_cons.mpr ⟨rfl, List.forall_mem_cons.mpr ⟨rfl, List.forall_mem_cons.mpr ⟨rfl, List.forall_mem_cons.mpr ⟨rfl, List.forall_mem_cons.mpr ⟨rfl, List.forall_mem_cons.mpr ⟨rfl, List.forall_mem_cons.mpr ⟨rfl, fun _ h => absurd h List.not_mem_nil⟩⟩⟩⟩⟩⟩⟩⟩⟩⟩⟩) ?_
              exact L33734 302 1 z33681 μ33602 T33606 mF.refl (rW (c := 0) (d := 1) (rR (x := 1)) rfl) h33683 I33611 (vc_X12_through_55 h33683)
          refine xmr_lvS (lv' := [(0, .ref 106), (2, iv p2), (3, iv p3), (4, iv p4), (5, iv z31895), (6, iv z31894), (7, iv (z31895 - 1)), (8, iv z31916), (9, iv (z31920 + 1)), (10, iv 0)]) (List.forall_mem_cons.mpr ⟨rfl, List.forall_mem_cons.mpr ⟨rfl, List.forall_mem_cons.mpr ⟨rfl, List.forall_mem_cons.mpr ⟨rfl, List.forall_mem_cons.mpr ⟨rfl, List.forall_mem_cons.mpr ⟨rfl, List.forall_mem_cons.mpr ⟨rfl, List.forall_mem_cons.mpr ⟨rfl, List.forall_mem_cons.mpr ⟨rfl, List.forall_mem_cons.mpr ⟨rfl, fun _ h => absurd h List.not_mem_nil⟩⟩⟩⟩⟩⟩⟩⟩⟩⟩) ?_
          exact L33603 71 (z31920 + 1) 0 μ31896 T31901 mF.refl (rW (c := 0) (d := 30) (rAdd (e := 0) (f := 0) h31932 (rR (x := 1)) rfl) rfl) (rW (c := 0) (d := 1) (rR (x := 0)) rfl) (vc_X12_through_56 h31929 h31929.1 h31931 h31900 h31932 h31925) (vc_X12_through_57 h31929 h31929.1 h31931 h31900 h31932 h31925) I31905 (vc_X12_through_58 h31929 h31929.1 h31931 h31900 h31932 h31925)
        have h33776 : 0 ≤ z31920 ∧ z31920 ≤ 29 := (vc_X12_through_59 h31931 h31929 h31929.1 h31900 h31930 h31925)
        refine xsv_aload_n (pc := 69) dX12_through_69 rfl rfl ?_
        refine xgf_X12_69 (pc := 70) dX12_through_70 wF_X12_394 (A_106 hw) T31901 ?_
        refine xmr_iload (pc := 73) (z := (z31895 - 1)) dX12_through_73 rfl ?_
        refine xla_153 (hS := Or.inr ⟨Or.inr (Or.inr rfl), by omega⟩) (pc := 75) dX12_through_75 (A_153 hw) T31901 (rIx (n := 14) (rSub (e := 0) (f := 11) h31915 (rR (x := 1)) rfl) rfl) fun z33777 q33778 h33779 => ?_
        refine xsv_aload_n (pc := 76) dX12_through_76 rfl rfl ?_
        refine xgf_X12_42 (pc := 77) dX12_through_77 wF_X12_364 (A_106 hw) T31901 ?_
        refine xmr_bipush (pc := 80) (z := 31) dX12_through_80 (by decide) ?_
        refine xmr_iload (pc := 82) (z := z31916) dX12_through_82 rfl ?_
        refine xmr_imul (pc := 84) (x := 31) (y := z31916) dX12_through_84 ?_
        refine xmr_iload (pc := 85) (z := z31920) dX12_through_85 rfl ?_
        refine xmr_iadd (pc := 87) (x := (31 * z31916)) (y := z31920) dX12_through_87 ?_
        refine xmr_iconst (pc := 88) (z := 1) dX12_through_88 ?_
        refine xmr_iadd (pc := 89) (x := ((31 * z31916) + z31920)) (y := 1) dX12_through_89 ?_
        refine xla_129 (hS := Or.inl (h128 _ (by omega)).2) (pc := 90) dX12_through_90 (A_129 hw) T31901 (rIx (n := 403) (rAdd (e := 1) (f := 371) (rAdd (e := 0) (f := 370) (rMulL (n := 31) (e := 0) (f := 341) h31918 rfl) h33776 rfl) (rR (x := 1)) rfl) rfl) fun z33780 q33781 h33782 => ?_
        have h33783 : z33777 ≤ z33780 ∧ z33780 ≤ z31926 := ⟨lvOK.a R31906 (vc_X12_through_15 h31913 h31919 hq3 ht_f_pol hp1 h31915 h31918) q31917 q31921 q33778 (vc_X12_through_61 h31919 hq3 h31913 ht_f_pol hp1 h31915 h31918) (vc_X12_through_62 h31929 h31929.1 h31931 h31900 h33776 h31925) (vc_X12_through_60 h31919 h31929 h31929.1 h31931 hq3 h31913 h31900 ht_f_pol hp1 h31915 h31918 h33776 h31925) q33781, PK.act I31905 (vc_X12_through_22 hq3 h31919 h17636 h31913 ht_f_pol hp1 h31915 h31918) (F31902.f (A_106 hw) rfl (u17644.f (Or.inl (mAt.ne (A_153 hw) (A_106 hw) rfl)) (u17641.f (Or.inl (mAt.ne (A_152 hw) (A_106 hw) rfl)) (u17638.f (Or.inl (mAt.ne (A_151 hw) (A_106 hw) rfl)) q_f_pol)))) (vc_X12_through_63 h31929 h31929.1 h31931 h31900 h33776 h31925) q31924 (vc_X12_through_60 h31919 h31929 h31929.1 h31931 hq3 h31913 h31900 ht_f_pol hp1 h31915 h31918 h33776 h31925) q33781 q31927⟩
        refine xmr_icmp_ne (pc := 91) (tgt := 241) dX12_through_91 (by decide) (r32 h33779 rfl) (r32 h33782 rfl) (fun h33784 => ?_) (fun h33784 => ?_)
        · refine xmr_sipush (pc := 241) (z := 300) dX12_through_241 (by decide) ?_
          refine xmr_iload (pc := 244) (z := z31916) dX12_through_244 rfl ?_
          refine xmr_imul (pc := 246) (x := 300) (y := z31916) dX12_through_246 ?_
          refine xsv_aload_n (pc := 247) dX12_through_247 rfl rfl ?_
          refine xgf_X12_69 (pc := 248) dX12_through_248 wF_X12_394 (A_106 hw) T31901 ?_
          refine xmr_iload (pc := 251) (z := (z31895 - 1)) dX12_through_251 rfl ?_
          refine xlk_153 (hS := Or.inr ⟨Or.inr (Or.inr rfl), by omega⟩) (pc := 253) dX12_through_253 (A_153 hw) (rIx (n := 14) (rSub (e := 0) (f := 11) h31915 (rR (x := 1)) rfl) rfl) q33778 ?_
          refine xmr_iadd (pc := 254) (x := (300 * z31916)) (y := z33777) dX12_through_254 ?_
          refine xmr_istore (pc := 255) (lv' := [(10, iv ((300 * z31916) + z33777)), (9, iv z31920), (8, iv z31916), (7, iv (z31895 - 1)), (0, .ref 106), (2, iv p2), (3, iv p3), (4, iv p4), (5, iv z31895), (6, iv z31894)]) dX12_through_255 (by decide) rfl ?_
          refine xsv_aload_n (pc := 257) dX12_through_257 rfl rfl ?_
          refine xgf_X12_69 (pc := 258) dX12_through_258 wF_X12_394 (A_106 hw) T31901 ?_
          refine xmr_iload (pc := 261) (z := (z31895 - 1)) dX12_through_261 rfl ?_
          refine xsv_dup2 (pc := 263) dX12_through_263 rfl rfl ?_
          refine xlk_153 (hS := Or.inr ⟨Or.inr (Or.inr rfl), by omega⟩) (pc := 264) dX12_through_264 (A_153 hw) (rIx (n := 14) (rSub (e := 0) (f := 11) h31915 (rR (x := 1)) rfl) rfl) q33778 ?_
          refine xmr_iconst (pc := 265) (z := 1) dX12_through_265 ?_
          refine xmr_iadd (pc := 266) (x := z33777) (y := 1) dX12_through_266 ?_
          refine xss_153 (hW := hG _ _ (by decide) (by decide)) (pc := 267) dX12_through_267 (A_153 hw) T31901 (rIx (n := 14) (rSub (e := 0) (f := 11) h31915 (rR (x := 1)) rfl) rfl) (vc_X12_through_64 h33783 h33784 h31928 h33779 h33782) fun μ33785 u33786 T33787 => ?_
          have I33788 : lvOK μ33785 z31895 := lvOK.act R31906 (vc_X12_through_15 h31913 h31919 hq3 ht_f_pol hp1 h31915 h31918) u33786 (u33786.f (Or.inl (mAt.ne (A_153 hw) (A_151 hw) rfl)) q31917) (u33786.f (Or.inl (mAt.ne (A_153 hw) (A_152 hw) rfl)) q31921) (vc_X12_through_61 h31919 hq3 h31913 ht_f_pol hp1 h31915 h31918) (vc_X12_through_62 h31929 h31929.1 h31931 h31900 h33776 h31925) (vc_X12_through_60 h31919 h31929 h31929.1 h31931 hq3 h31913 h31900 ht_f_pol hp1 h31915 h31918 h33776 h31925) (u33786.f (Or.inl (mAt.ne (A_153 hw) (A_129 hw) rfl)) q33781) (vc_X12_through_65 h33783 h33784 h31928 h33779 h33782)
          refine xmr_iinc (pc := 268) (lv' := [(6, iv (z31894 + 1)), (10, iv ((300 * z31916) + z33777)), (9, iv z31920), (8, iv z31916), (7, iv (z31895 - 1)), (0, .ref 106), (2, iv p2), (3, iv p3), (4, iv p4), (5, iv z31895)]) dX12_through_268 rfl (by decide) rfl ?_
          refine xmr_iload (pc := 271) (z := (z31894 + 1)) dX12_through_271 rfl ?_
          refine xmr_sipush (pc := 273) (z := 500) dX12_through_273 (by decide) ?_
          refine xmr_icmp_le (pc := 276) (tgt := 281) dX12_through_276 (by decide) (r32 (rAdd (e := 1) (f := 501) h31899 (rR (x := 1)) rfl) rfl) (r32 (rR (x := 500)) rfl) (fun h33789 => ?_) (fun h33789 => ?_)
          · have h33790 : 0 ≤ z31894 ∧ z31894 ≤ 499 := (vc_X12_through_66 h33789 h31899)
            refine xsv_aload_n (pc := 281) dX12_through_281 rfl rfl ?_
            refine xgf_X12_53 (pc := 282) dX12_through_282 wF_X12_349 (A_106 hw) T33787 ?_
            refine xmr_iload (pc := 285) (z := ((300 * z31916) + z33777)) dX12_through_285 rfl ?_
            refine xla_140 (hS := Or.inl (h132 _ _ (by decide) (by decide) (by omega))) (pc := 287) dX12_through_287 (A_140 hw) T33787 (rIx (n := 3900) (rAdd (e := 0) (f := 3600) (rMulL (n := 300) (e := 0) (f := 3300) h31918 rfl) h33779 rfl) rfl) fun z33791 q33792 h33793 => ?_
            refine xmr_istore (pc := 288) (lv' := [(11, iv z33791), (6, iv (z31894 + 1)), (10, iv ((300 * z31916) + z33777)), (9, iv z31920), (8, iv z31916), (7, iv (z31895 - 1)), (0, .ref 106), (2, iv p2), (3, iv p3), (4, iv p4), (5, iv z31895)]) dX12_through_288 (by decide) rfl ?_
            refine xmr_iload (pc := 290) (z := z33791) dX12_through_290 rfl ?_
            refine xmr_bipush (pc := 292) (z := 23) dX12_through_292 (by decide) ?_
            refine xmr_icmp_ne (pc := 294) (tgt := 299) dX12_through_294 (by decide) h33793 (r32 (rR (x := 23)) rfl) (fun h33794 => ?_) (fun h33794 => ?_)
            · refine xmr_iload (pc := 299) (z := z33791) dX12_through_299 rfl ?_
              refine xmr_bipush (pc := 301) (z := 24) dX12_through_301 (by decide) ?_
              refine xmr_icmp_ne (pc := 303) (tgt := 308) dX12_through_303 (by decide) h33793 (r32 (rR (x := 24)) rfl) (fun h33795 => ?_) (fun h33795 => ?_)
              · refine xmr_iload (pc := 308) (z := z33791) dX12_through_308 rfl ?_
                refine xmr_bipush (pc := 310) (z := 25) dX12_through_310 (by decide) ?_
                have J33809 : ∀ (μ33804 : mM), (mT w μ33804) → (mF [126999] w μ33785 μ33804) → (mG [(((40 * p2) + 1), ((40 * p2) + 40))] μ33785 μ33804) → (PK μ33804) → VS l D c H0 sa K W (Slev S z31895) S mX12_through (sRm 6 0 0) ((xqI w [106026, 106027, 106028, 106029, 106030, 106031, 126999, 151999, 152999, 153999] μ (fun z μ1 => ∃ o_x : Int, μ1 126 ((40 * p2).toNat) = o_x ∧ (0 ≤ z ∧ z ≤ 1) ∧ mG [(((40 * p2) + 1), ((40 * p2) + 40))] μ μ1 ∧ (o_x = f_x) ∧ True))) 327 [(0, .ref 106), (2, iv p2), (3, iv p3), (4, iv p4), (5, iv z31895), (6, iv (z31894 + 1)), (10, iv ((300 * z31916) + z33777)), (11, iv z33791)] [] μ33804 := by
                  intro μ33804 T33805 F33806 G33807 I33808
                  refine xmr_iload (pc := 327) (z := z33791) dX12_through_327 rfl ?_
                  refine xmr_bipush (pc := 329) (z := 26) dX12_through_329 (by decide) ?_
                  have J33823 : ∀ (μ33818 : mM), (mT w μ33818) → (mF [126999] w μ33804 μ33818) → (mG [(((40 * p2) + 1), ((40 * p2) + 40))] μ33804 μ33818) → (PK μ33818) → VS l D c H0 sa K W (Slev S z31895) S mX12_through (sRm 6 0 0) ((xqI w [106026, 106027, 106028, 106029, 106030, 106031, 126999, 151999, 152999, 153999] μ (fun z μ1 => ∃ o_x : Int, μ1 126 ((40 * p2).toNat) = o_x ∧ (0 ≤ z ∧ z ≤ 1) ∧ mG [(((40 * p2) + 1), ((40 * p2) + 40))] μ μ1 ∧ (o_x = f_x) ∧ True))) 346 [(0, .ref 106), (2, iv p2), (3, iv p3), (4, iv p4), (5, iv z31895), (6, iv (z31894 + 1)), (10, iv ((300 * z31916) + z33777)), (11, iv z33791)] [] μ33818 := by
                    intro μ33818 T33819 F33820 G33821 I33822
                    refine xmr_iload (pc := 346) (z := z33791) dX12_through_346 rfl ?_
                    refine xmr_bipush (pc := 348) (z := 12) dX12_through_348 (by decide) ?_
                    have J33836 : ∀ (μ33831 : mM), (mT w μ33831) → (mF [126999] w μ33818 μ33831) → (mG [(((40 * p2) + 1), ((40 * p2) + 40))] μ33818 μ33831) → (PK μ33831) → VS l D c H0 sa K W (Slev S z31895) S mX12_through (sRm 6 0 0) ((xqI w [106026, 106027, 106028, 106029, 106030, 106031, 126999, 151999, 152999, 153999] μ (fun z μ1 => ∃ o_x : Int, μ1 126 ((40 * p2).toNat) = o_x ∧ (0 ≤ z ∧ z ≤ 1) ∧ mG [(((40 * p2) + 1), ((40 * p2) + 40))] μ μ1 ∧ (o_x = f_x) ∧ True))) 371 [(0, .ref 106), (2, iv p2), (3, iv p3), (4, iv p4), (5, iv z31895), (6, iv (z31894 + 1)), (10, iv ((300 * z31916) + z33777)), (11, iv z33791)] [] μ33831 := by
                      intro μ33831 T33832 F33833 G33834 I33835
                      refine xmr_iload (pc := 371) (z := z33791) dX12_through_371 rfl ?_
                      refine xmr_bipush (pc := 373) (z := 13) dX12_through_373 (by decide) ?_
                      have J33849 : ∀ (μ33844 : mM), (mT w μ33844) → (mF [126999] w μ33831 μ33844) → (mG [(((40 * p2) + 1), ((40 * p2) + 40))] μ33831 μ33844) → (PK μ33844) → VS l D c H0 sa K W (Slev S z31895) S mX12_through (sRm 6 0 0) ((xqI w [106026, 106027, 106028, 106029, 106030, 106031, 126999, 151999, 152999, 153999] μ (fun z μ1 => ∃ o_x : Int, μ1 126 ((40 * p2).toNat) = o_x ∧ (0 ≤ z ∧ z ≤ 1) ∧ mG [(((40 * p2) + 1), ((40 * p2) + 40))] μ μ1 ∧ (o_x = f_x) ∧ True))) 396 [(0, .ref 106), (2, iv p2), (3, iv p3), (4, iv p4), (5, iv z31895), (6, iv (z31894 + 1)), (10, iv ((300 * z31916) + z33777)), (11, iv z33791)] [] μ33844 := by
                        intro μ33844 T33845 F33846 G33847 I33848
                        refine xmr_iload (pc := 396) (z := z33791) dX12_through_396 rfl ?_
                        refine xmr_bipush (pc := 398) (z := 27) dX12_through_398 (by decide) ?_
                        refine xmr_icmp_ne (pc := 400) (tgt := 486) dX12_through_400 (by decide) h33793 (r32 (rR (x := 27)) rfl) (fun h33850 => ?_) (fun h33850 => ?_)
                        · refine xmr_iload (pc := 486) (z := z33791) dX12_through_486 rfl ?_
                          refine xmr_bipush (pc := 488) (z := 28) dX12_through_488 (by decide) ?_
                          refine xmr_icmp_ne (pc := 490) (tgt := 526) dX12_through_490 (by decide) h33793 (r32 (rR (x := 28)) rfl) (fun h33864 => ?_) (fun h33864 => ?_)
                          · refine xsv_goto (pc := 526) (tgt := 35) dX12_through_526 (by decide) ?_
                            refine xmr_lvS (lv' := [(0, .ref 106), (2, iv p2), (3, iv p3), (4, iv p4), (5, iv z31895), (6, iv (z31894 + 1))]) (List.forall_mem_cons.mpr ⟨rfl, List.forall_mem_cons.mpr ⟨rfl, List.forall_mem_cons.mpr ⟨rfl, List.forall_mem_cons.mpr ⟨rfl, List.forall_mem_cons.mpr ⟨rfl, List.forall_mem_cons.mpr ⟨rfl, fun _ h => absurd h List.not_mem_nil⟩⟩⟩⟩⟩⟩) ?_
                            exact ih31910 z31895 (z31894 + 1) z31920 μ33844 f_y T33845 (mF.call (mF.call (mF.call (mF.call (mF.up (mF.call mF.refl F31902 rfl) (A_153 hw) u33786 rfl) F33806 rfl) F33820 rfl) F33833 rfl) F33846 rfl) (mG.call (mG.call (mG.call (mG.call (mG.upO (mG.call mG.refl G31903 (List.forall_mem_cons.mpr ⟨⟨_, List.mem_cons_self, (vc_X12_dropMark_5 hp2)⟩, (fun _ h => absurd h List.not_mem_nil)⟩)) u33786 rfl) G33807 (List.forall_mem_cons.mpr ⟨⟨_, List.mem_cons_self, (vc_X12_dropMark_5 hp2)⟩, (fun _ h => absurd h List.not_mem_nil)⟩)) G33821 (List.forall_mem_cons.mpr ⟨⟨_, List.mem_cons_self, (vc_X12_dropMark_5 hp2)⟩, (fun _ h => absurd h List.not_mem_nil)⟩)) G33834 (List.forall_mem_cons.mpr ⟨⟨_, List.mem_cons_self, (vc_X12_dropMark_5 hp2)⟩, (fun _ h => absurd h List.not_mem_nil)⟩)) G33847 (List.forall_mem_cons.mpr ⟨⟨_, List.mem_cons_self, (vc_X12_dropMark_5 hp2)⟩, (fun _ h => absurd h List.not_mem_nil)⟩)) (G33847.f (vc_X12_copy_1 hp2) (List.forall_mem_cons.mpr ⟨(vc_X12_through_67 hp2), (fun _ h => absurd h List.not_mem_nil)⟩) (G33834.f (vc_X12_copy_1 hp2) (List.forall_mem_cons.mpr ⟨(vc_X12_through_67 hp2), (fun _ h => absurd h List.not_mem_nil)⟩) (G33821.f (vc_X12_copy_1 hp2) (List.forall_mem_cons.mpr ⟨(vc_X12_through_67 hp2), (fun _ h => absurd h List.not_mem_nil)⟩) (G33807.f (vc_X12_copy_1 hp2) (List.forall_mem_cons.mpr ⟨(vc_X12_through_67 hp2), (fun _ h => absurd h List.not_mem_nil)⟩) (u33786.f (Or.inl (mAt.ne (A_153 hw) (A_126 hw) rfl)) q31909))))) (rW (c := 0) (d := 12) h31915 rfl) (rW (c := 0) (d := 500) (rAdd (e := 1) (f := 500) h33790 (rR (x := 1)) rfl) rfl) (rW (c := (-1)) (d := 30) h33776 rfl) (vc_X12_through_12 hq2 h31904 h3 h31912) I33848 (lvOK.pred (lvOK.keep I33788 hw ((mF.call (mF.call (mF.call (mF.call mF.refl F33806 rfl) F33820 rfl) F33833 rfl) F33846 rfl) : mF [126999] w μ33785 μ33844) rfl) (vc_X12_through_26 h31913 h31919 hq3 ht_f_pol hp1 h31915 h31918)) (Or.inr (F33846.f (A_152 hw) rfl (F33833.f (A_152 hw) rfl (F33820.f (A_152 hw) rfl (F33806.f (A_152 hw) rfl (u33786.f (Or.inl (mAt.ne (A_153 hw) (A_152 hw) rfl)) q31921)))))) (vc_X12_through_68 (nS h31908) h31913 h31919 h31929 h31929.1 h31931 h33789 hq3 h31900 ht_f_pol hp1 h33790 h31915 h31918 h33776 h31925)
                          have h33865 : 28 ≤ z33791 ∧ z33791 ≤ 28 := (vc_X12_through_69 h33864 h33794 h33795 h33850 h33793)
                          refine xsv_aload_n (pc := 493) dX12_through_493 rfl rfl ?_
                          refine xgf_X12_67 (pc := 494) dX12_through_494 wF_X12_388 (A_106 hw) T33845 ?_
                          refine xmr_iload (pc := 497) (z := z31895) dX12_through_497 rfl ?_
                          refine xsv_aload_n (pc := 499) dX12_through_499 rfl rfl ?_
                          refine xgf_X12_54 (pc := 500) dX12_through_500 wF_X12_352 (A_106 hw) T33845 ?_
                          refine xmr_iload (pc := 503) (z := ((300 * z31916) + z33777)) dX12_through_503 rfl ?_
                          refine xla_141 (hS := Or.inl (h132 _ _ (by decide) (by decide) (by omega))) (pc := 505) dX12_through_505 (A_141 hw) T33845 (rIx (n := 3900) (rAdd (e := 0) (f := 3600) (rMulL (n := 300) (e := 0) (f := 3300) h31918 rfl) h33779 rfl) rfl) fun z33866 q33867 h33868 => ?_
                          have h33869 : 0 ≤ z33866 ∧ z33866 < z31916 := PK.call I33848 (vc_X12_through_22 hq3 h31919 h17636 h31913 ht_f_pol hp1 h31915 h31918) (F33846.f (A_106 hw) rfl (F33833.f (A_106 hw) rfl (F33820.f (A_106 hw) rfl (F33806.f (A_106 hw) rfl (u33786.f (Or.inl (mAt.ne (A_153 hw) (A_106 hw) rfl)) (F31902.f (A_106 hw) rfl (u17644.f (Or.inl (mAt.ne (A_153 hw) (A_106 hw) rfl)) (u17641.f (Or.inl (mAt.ne (A_152 hw) (A_106 hw) rfl)) (u17638.f (Or.inl (mAt.ne (A_151 hw) (A_106 hw) rfl)) q_f_pol))))))))) (a := (((300 * z31916) + z33777) - (300 * z31916))) (vc_X12_through_70 h31919 h33783 h33784 hq3 h31913 ht_f_pol hp1 h31915 h31918 h31928 h33779 h33782) (F33846.f (A_131 hw) rfl (F33833.f (A_131 hw) rfl (F33820.f (A_131 hw) rfl (F33806.f (A_131 hw) rfl (u33786.f (Or.inl (mAt.ne (A_153 hw) (A_131 hw) rfl)) q31927))))) (vc_X12_through_71 h31919 h33783 h33784 hq3 h31913 ht_f_pol hp1 h31915 h31918 h31928 h33779 h33782) (F33846.f (A_140 hw) rfl (F33833.f (A_140 hw) rfl (F33820.f (A_140 hw) rfl (F33806.f (A_140 hw) rfl q33792)))) (vc_X12_through_72 h33794 h33795 h33850 h33864 h33865) q33867
                          have h33870 : 0 ≤ z33866 ∧ z33866 ≤ 10 := (vc_X12_through_73 h33869 h31919 ht_f_pol h31915 h31918 h33868)
                          refine xss_151i (hW := hG _ _ (by decide) (by decide)) (pc := 506) dX12_through_506 (A_151 hw) T33845 (rIx (n := 14) h31915 rfl) (rW (c := 0) (d := 11) h33870 rfl) fun μ33871 u33872 T33873 => ?_
                          refine xsv_aload_n (pc := 507) dX12_through_507 rfl rfl ?_
                          refine xgf_X12_68 (pc := 508) dX12_through_508 wF_X12_391 (A_106 hw) T33873 ?_
                          refine xmr_iload (pc := 511) (z := z31895) dX12_through_511 rfl ?_
                          refine xmr_iconst (pc := 513) (z := (-1)) dX12_through_513 ?_
                          refine xss_152i (hW := hG _ _ (by decide) (by decide)) (pc := 514) dX12_through_514 (A_152 hw) T33873 (rIx (n := 14) h31915 rfl) (rW (c := (-1)) (d := 30) (rR (x := (-1))) rfl) fun μ33874 u33875 T33876 => ?_
                          refine xsv_aload_n (pc := 515) dX12_through_515 rfl rfl ?_
                          refine xgf_X12_69 (pc := 516) dX12_through_516 wF_X12_394 (A_106 hw) T33876 ?_
                          refine xmr_iload (pc := 519) (z := z31895) dX12_through_519 rfl ?_
                          refine xmr_iconst (pc := 521) (z := 0) dX12_through_521 ?_
                          refine xss_153i (hW := hG _ _ (by decide) (by decide)) (pc := 522) dX12_through_522 (A_153 hw) T33876 (rIx (n := 14) h31915 rfl) (rW (c := 0) (d := 300) (rR (x := 0)) rfl) fun μ33877 u33878 T33879 => ?_
                          obtain ⟨z33880, q33881⟩ : ∃ z, μ33877 127 (z33866.toNat) = z := ⟨_, rfl⟩
                          have h33882 : (0 ≤ z33880 ∧ z33880 ≤ 30) := by rw [← q33881]; exact T33879 127 127 (A_127 hw) (z33866.toNat)
                          have I33883 : lvOK μ33877 (z31895 + 1) := lvOK.push (lvOK.keep I33788 hw ((mF.call (mF.call (mF.call (mF.call mF.refl F33806 rfl) F33820 rfl) F33833 rfl) F33846 rfl) : mF [126999] w μ33785 _) rfl) (vc_X12_through_74 h31913 h31919 hq3 h33869 ht_f_pol hp1 h31915 h31918 h33870) u33872 u33875 u33878 (u33878.f (Or.inl (mAt.ne (A_153 hw) (A_106 hw) rfl)) (u33875.f (Or.inl (mAt.ne (A_152 hw) (A_106 hw) rfl)) (u33872.f (Or.inl (mAt.ne (A_151 hw) (A_106 hw) rfl)) (F33846.f (A_106 hw) rfl (F33833.f (A_106 hw) rfl (F33820.f (A_106 hw) rfl (F33806.f (A_106 hw) rfl (u33786.f (Or.inl (mAt.ne (A_153 hw) (A_106 hw) rfl)) (F31902.f (A_106 hw) rfl (u17644.f (Or.inl (mAt.ne (A_153 hw) (A_106 hw) rfl)) (u17641.f (Or.inl (mAt.ne (A_152 hw) (A_106 hw) rfl)) (u17638.f (Or.inl (mAt.ne (A_151 hw) (A_106 hw) rfl)) q_f_pol)))))))))))) (vc_X12_through_75 hq3 h31913 h31919 h33869 h17636 ht_f_pol hp1 h31915 h31918 h33870) q33881 (vc_X12_through_8 h33882)
                          refine xmr_iinc (pc := 523) (lv' := [(5, iv (z31895 + 1)), (0, .ref 106), (2, iv p2), (3, iv p3), (4, iv p4), (6, iv (z31894 + 1)), (10, iv ((300 * z31916) + z33777)), (11, iv z33791)]) dX12_through_523 rfl (by decide) rfl ?_
                          refine xsv_goto (pc := 526) (tgt := 35) dX12_through_526 (by decide) ?_
                          refine xmr_lvS (lv' := [(0, .ref 106), (2, iv p2), (3, iv p3), (4, iv p4), (5, iv (z31895 + 1)), (6, iv (z31894 + 1))]) (List.forall_mem_cons.mpr ⟨rfl, List.forall_mem_cons.mpr ⟨rfl, List.forall_mem_cons.mpr ⟨rfl, List.forall_mem_cons.mpr ⟨rfl, List.forall_mem_cons.mpr ⟨rfl, List.forall_mem_cons.mpr ⟨rfl, fun _ h => absurd h List.not_mem_nil⟩⟩⟩⟩⟩⟩) ?_
                          refine VS.mono (Slev.ins (by omega)) ?_; exact ih31910 (z31895 + 1) (z31894 + 1) (-1) μ33877 f_y T33879 (mF.up (mF.up (mF.up (mF.call (mF.call (mF.call (mF.call (mF.up (mF.call mF.refl F31902 rfl) (A_153 hw) u33786 rfl) F33806 rfl) F33820 rfl) F33833 rfl) F33846 rfl) (A_151 hw) u33872 rfl) (A_152 hw) u33875 rfl) (A_153 hw) u33878 rfl) (mG.upO (mG.upO (mG.upO (mG.call (mG.call (mG.call (mG.call (mG.upO (mG.call mG.refl G31903 (List.forall_mem_cons.mpr ⟨⟨_, List.mem_cons_self, (vc_X12_dropMark_5 hp2)⟩, (fun _ h => absurd h List.not_mem_nil)⟩)) u33786 rfl) G33807 (List.forall_mem_cons.mpr ⟨⟨_, List.mem_cons_self, (vc_X12_dropMark_5 hp2)⟩, (fun _ h => absurd h List.not_mem_nil)⟩)) G33821 (List.forall_mem_cons.mpr ⟨⟨_, List.mem_cons_self, (vc_X12_dropMark_5 hp2)⟩, (fun _ h => absurd h List.not_mem_nil)⟩)) G33834 (List.forall_mem_cons.mpr ⟨⟨_, List.mem_cons_self, (vc_X12_dropMark_5 hp2)⟩, (fun _ h => absurd h List.not_mem_nil)⟩)) G33847 (List.forall_mem_cons.mpr ⟨⟨_, List.mem_cons_self, (vc_X12_dropMark_5 hp2)⟩, (fun _ h => absurd h List.not_mem_nil)⟩)) u33872 rfl) u33875 rfl) u33878 rfl) (u33878.f (Or.inl (mAt.ne (A_153 hw) (A_126 hw) rfl)) (u33875.f (Or.inl (mAt.ne (A_152 hw) (A_126 hw) rfl)) (u33872.f (Or.inl (mAt.ne (A_151 hw) (A_126 hw) rfl)) (G33847.f (vc_X12_copy_1 hp2) (List.forall_mem_cons.mpr ⟨(vc_X12_through_67 hp2), (fun _ h => absurd h List.not_mem_nil)⟩) (G33834.f (vc_X12_copy_1 hp2) (List.forall_mem_cons.mpr ⟨(vc_X12_through_67 hp2), (fun _ h => absurd h List.not_mem_nil)⟩) (G33821.f (vc_X12_copy_1 hp2) (List.forall_mem_cons.mpr ⟨(vc_X12_through_67 hp2), (fun _ h => absurd h List.not_mem_nil)⟩) (G33807.f (vc_X12_copy_1 hp2) (List.forall_mem_cons.mpr ⟨(vc_X12_through_67 hp2), (fun _ h => absurd h List.not_mem_nil)⟩) (u33786.f (Or.inl (mAt.ne (A_153 hw) (A_126 hw) rfl)) q31909)))))))) (vc_X12_through_78 h31913 h31919 hq3 h33869 ht_f_pol hp1 h31915 h31918 h33870) (rW (c := 0) (d := 500) (rAdd (e := 1) (f := 500) h33790 (rR (x := 1)) rfl) rfl) (rW (c := (-1)) (d := 30) (rR (x := (-1))) rfl) (vc_X12_through_12 hq2 h31904 h3 h31912) (PK.keep I33848 hw ((mF.up (mF.up (mF.up mF.refl (A_151 hw) u33872 rfl) (A_152 hw) u33875 rfl) (A_153 hw) u33878 rfl) : mF [151999, 152999, 153999] w μ33844 μ33877) rfl) (lvOK.pred I33883 (vc_X12_through_80 h31913 h31919 hq3 h33869 ht_f_pol hp1 h31915 h31918 h33870)) (Or.inr (eqIx (vc_X12_through_77 h31915) (u33878.f (Or.inl (mAt.ne (A_153 hw) (A_152 hw) rfl)) u33875.1))) (vc_X12_through_79 (nS h31908) h31913 h31919 h31929 h33789 hq3 h31929.1 h31931 h33869 h31900 ht_f_pol hp1 h33790 h31915 h31918 h33776 h31925 h33870)
                        have h33884 : 27 ≤ z33791 ∧ z33791 ≤ 27 := (vc_X12_through_81 h33850 h33794 h33795 h33793)
                        refine xsv_aload_n (pc := 403) dX12_through_403 rfl rfl ?_
                        refine xgf_X12_32 (pc := 404) dX12_through_404 wF_X12_148 (A_106 hw) T33845 ?_
                        refine xmr_bipush (pc := 407) (z := 40) dX12_through_407 (by decide) ?_
                        refine xmr_iload_n (pc := 409) (z := p2) dX12_through_409 rfl rfl ?_
                        refine xmr_imul (pc := 410) (x := 40) (y := p2) dX12_through_410 ?_
                        refine xmr_iconst (pc := 411) (z := 4) dX12_through_411 ?_
                        refine xmr_iadd (pc := 412) (x := (40 * p2)) (y := 4) dX12_through_412 ?_
                        refine xla_126 (hS := Or.inl (hR _ (by omega) (by omega))) (pc := 413) dX12_through_413 (A_126 hw) T33845 (rIx (n := 84000) (rAdd (e := 4) (f := 83964) (rMulL (n := 40) (e := 0) (f := 83960) hp2 rfl) (rR (x := 4)) rfl) rfl) fun z33885 q33886 h33887 => ?_
                        have h33888 : 0 ≤ z33885 ∧ z33885 ≤ 20 := h33887.2.2.1 (vc_X12_front_1 hp2)
                        refine xmr_if_le (pc := 414) (tgt := 486) dX12_through_414 (by decide) (r32 h33888 rfl) (fun h33889 => ?_) (fun h33889 => ?_)
                        · have h33890 : 0 ≤ z33885 ∧ z33885 ≤ 0 := (vc_X12_write_57 h33889 h33888)
                          refine xmr_iload (pc := 486) (z := z33791) dX12_through_486 rfl ?_
                          refine xmr_bipush (pc := 488) (z := 28) dX12_through_488 (by decide) ?_
                          refine xmr_icmp_ne (pc := 490) (tgt := 526) dX12_through_490 (by decide) (r32 h33884 rfl) (r32 (rR (x := 28)) rfl) (fun _ => ?_) (fun h => ((vc_X12_through_84 h h33884)).elim)
                          refine xsv_goto (pc := 526) (tgt := 35) dX12_through_526 (by decide) ?_
                          refine xmr_lvS (lv' := [(0, .ref 106), (2, iv p2), (3, iv p3), (4, iv p4), (5, iv z31895), (6, iv (z31894 + 1))]) (List.forall_mem_cons.mpr ⟨rfl, List.forall_mem_cons.mpr ⟨rfl, List.forall_mem_cons.mpr ⟨rfl, List.forall_mem_cons.mpr ⟨rfl, List.forall_mem_cons.mpr ⟨rfl, List.forall_mem_cons.mpr ⟨rfl, fun _ h => absurd h List.not_mem_nil⟩⟩⟩⟩⟩⟩) ?_
                          exact ih31910 z31895 (z31894 + 1) z31920 μ33844 f_y T33845 (mF.call (mF.call (mF.call (mF.call (mF.up (mF.call mF.refl F31902 rfl) (A_153 hw) u33786 rfl) F33806 rfl) F33820 rfl) F33833 rfl) F33846 rfl) (mG.call (mG.call (mG.call (mG.call (mG.upO (mG.call mG.refl G31903 (List.forall_mem_cons.mpr ⟨⟨_, List.mem_cons_self, (vc_X12_dropMark_5 hp2)⟩, (fun _ h => absurd h List.not_mem_nil)⟩)) u33786 rfl) G33807 (List.forall_mem_cons.mpr ⟨⟨_, List.mem_cons_self, (vc_X12_dropMark_5 hp2)⟩, (fun _ h => absurd h List.not_mem_nil)⟩)) G33821 (List.forall_mem_cons.mpr ⟨⟨_, List.mem_cons_self, (vc_X12_dropMark_5 hp2)⟩, (fun _ h => absurd h List.not_mem_nil)⟩)) G33834 (List.forall_mem_cons.mpr ⟨⟨_, List.mem_cons_self, (vc_X12_dropMark_5 hp2)⟩, (fun _ h => absurd h List.not_mem_nil)⟩)) G33847 (List.forall_mem_cons.mpr ⟨⟨_, List.mem_cons_self, (vc_X12_dropMark_5 hp2)⟩, (fun _ h => absurd h List.not_mem_nil)⟩)) (G33847.f (vc_X12_copy_1 hp2) (List.forall_mem_cons.mpr ⟨(vc_X12_through_67 hp2), (fun _ h => absurd h List.not_mem_nil)⟩) (G33834.f (vc_X12_copy_1 hp2) (List.forall_mem_cons.mpr ⟨(vc_X12_through_67 hp2), (fun _ h => absurd h List.not_mem_nil)⟩) (G33821.f (vc_X12_copy_1 hp2) (List.forall_mem_cons.mpr ⟨(vc_X12_through_67 hp2), (fun _ h => absurd h List.not_mem_nil)⟩) (G33807.f (vc_X12_copy_1 hp2) (List.forall_mem_cons.mpr ⟨(vc_X12_through_67 hp2), (fun _ h => absurd h List.not_mem_nil)⟩) (u33786.f (Or.inl (mAt.ne (A_153 hw) (A_126 hw) rfl)) q31909))))) (rW (c := 0) (d := 12) h31915 rfl) (rW (c := 0) (d := 500) (rAdd (e := 1) (f := 500) h33790 (rR (x := 1)) rfl) rfl) (rW (c := (-1)) (d := 30) h33776 rfl) (vc_X12_through_12 hq2 h31904 h3 h31912) I33848 (lvOK.pred (lvOK.keep I33788 hw ((mF.call (mF.call (mF.call (mF.call mF.refl F33806 rfl) F33820 rfl) F33833 rfl) F33846 rfl) : mF [126999] w μ33785 μ33844) rfl) (vc_X12_through_26 h31913 h31919 hq3 ht_f_pol hp1 h31915 h31918)) (Or.inr (F33846.f (A_152 hw) rfl (F33833.f (A_152 hw) rfl (F33820.f (A_152 hw) rfl (F33806.f (A_152 hw) rfl (u33786.f (Or.inl (mAt.ne (A_153 hw) (A_152 hw) rfl)) q31921)))))) (vc_X12_through_68 (nS h31908) h31913 h31919 h31929 h31929.1 h31931 h33789 hq3 h31900 ht_f_pol hp1 h33790 h31915 h31918 h33776 h31925)
                        have h33891 : 1 ≤ z33885 ∧ z33885 ≤ 20 := (vc_X12_write_59 h33889 h33888)
                        refine xsv_aload_n (pc := 417) dX12_through_417 rfl rfl ?_
                        refine xgf_X12_32 (pc := 418) dX12_through_418 wF_X12_148 (A_106 hw) T33845 ?_
                        refine xmr_bipush (pc := 421) (z := 40) dX12_through_421 (by decide) ?_
                        refine xmr_iload_n (pc := 423) (z := p2) dX12_through_423 rfl rfl ?_
                        refine xmr_imul (pc := 424) (x := 40) (y := p2) dX12_through_424 ?_
                        refine xmr_bipush (pc := 425) (z := 6) dX12_through_425 (by decide) ?_
                        refine xmr_iadd (pc := 427) (x := (40 * p2)) (y := 6) dX12_through_427 ?_
                        refine xla_126 (hS := Or.inl (hR _ (by omega) (by omega))) (pc := 428) dX12_through_428 (A_126 hw) T33845 (rIx (n := 84000) (rAdd (e := 6) (f := 83966) (rMulL (n := 40) (e := 0) (f := 83960) hp2 rfl) (rR (x := 6)) rfl) rfl) fun z33892 q33893 h33894 => ?_
                        refine xmr_istore (pc := 429) (lv' := [(12, iv z33892), (0, .ref 106), (2, iv p2), (3, iv p3), (4, iv p4), (5, iv z31895), (6, iv (z31894 + 1)), (10, iv ((300 * z31916) + z33777)), (11, iv z33791)]) dX12_through_429 (by decide) rfl ?_
                        refine xsv_aload_n (pc := 431) dX12_through_431 rfl rfl ?_
                        refine xgf_X12_32 (pc := 432) dX12_through_432 wF_X12_148 (A_106 hw) T33845 ?_
                        refine xmr_bipush (pc := 435) (z := 40) dX12_through_435 (by decide) ?_
                        refine xmr_iload_n (pc := 437) (z := p2) dX12_through_437 rfl rfl ?_
                        refine xmr_imul (pc := 438) (x := 40) (y := p2) dX12_through_438 ?_
                        refine xmr_iconst (pc := 439) (z := 4) dX12_through_439 ?_
                        refine xmr_iadd (pc := 440) (x := (40 * p2)) (y := 4) dX12_through_440 ?_
                        refine xlk_126 (hS := Or.inl (hR _ (by omega) (by omega))) (pc := 441) dX12_through_441 (A_126 hw) (rIx (n := 84000) (rAdd (e := 4) (f := 83964) (rMulL (n := 40) (e := 0) (f := 83960) hp2 rfl) (rR (x := 4)) rfl) rfl) q33886 ?_
                        refine xsv_aload_n (pc := 442) dX12_through_442 rfl rfl ?_
                        refine xgf_X12_54 (pc := 443) dX12_through_443 wF_X12_352 (A_106 hw) T33845 ?_
                        refine xmr_iload (pc := 446) (z := ((300 * z31916) + z33777)) dX12_through_446 rfl ?_
                        refine xla_141 (hS := Or.inl (h132 _ _ (by decide) (by decide) (by omega))) (pc := 448) dX12_through_448 (A_141 hw) T33845 (rIx (n := 3900) (rAdd (e := 0) (f := 3600) (rMulL (n := 300) (e := 0) (f := 3300) h31918 rfl) h33779 rfl) rfl) fun z33895 q33896 h33897 => ?_
                        refine xmr_iadd (pc := 449) (x := z33885) (y := z33895) dX12_through_449 ?_
                        refine xmr_wrap fun z33898 h33899 => ?_
                        refine xmr_bipush (pc := 450) (z := 20) dX12_through_450 (by decide) ?_
                        refine xmr_icmp_le (pc := 452) (tgt := 457) dX12_through_452 (by decide) h33899 (r32 (rR (x := 20)) rfl) (fun h33900 => ?_) (fun h33900 => ?_)
                        · have h33901 : (-2147483648) ≤ z33898 ∧ z33898 ≤ 20 := (vc_X12_through_86 h33900 h33899)
                          refine xmr_iconst (pc := 457) (z := 0) dX12_through_457 ?_
                          refine xmr_istore (pc := 458) (lv' := [(13, iv 0), (12, iv z33892), (0, .ref 106), (2, iv p2), (3, iv p3), (4, iv p4), (5, iv z31895), (6, iv (z31894 + 1)), (10, iv ((300 * z31916) + z33777)), (11, iv z33791)]) dX12_through_458 (by decide) rfl ?_
                          have L34264 : ∀ (nL34264 : Nat) (z34262 : Int) (μ34263 : mM), mT w μ34263 → mF [126999] w μ33844 μ34263 → mG [(((40 * p2) + 1), ((40 * p2) + 40))] μ33844 μ34263 → (0 ≤ z34262 ∧ z34262 ≤ 2147483647) → PK μ34263 → ((z33895 - z34262) + 4294967296) < (nL34264 : Int) → VS l D c H0 sa K W (Slev S z31895) S mX12_through (sRm 6 0 0) ((xqI w [106026, 106027, 106028, 106029, 106030, 106031, 126999, 151999, 152999, 153999] μ (fun z μ1 => ∃ o_x : Int, μ1 126 ((40 * p2).toNat) = o_x ∧ (0 ≤ z ∧ z ≤ 1) ∧ mG [(((40 * p2) + 1), ((40 * p2) + 40))] μ μ1 ∧ (o_x = f_x) ∧ True))) 460 [(0, .ref 106), (2, iv p2), (3, iv p3), (4, iv p4), (5, iv z31895), (6, iv (z31894 + 1)), (10, iv ((300 * z31916) + z33777)), (11, iv z33791), (12, iv z33892), (13, iv z34262)] [] μ34263 := by
                            intro nL34264
                            induction nL34264 with
                            | zero => intro z34262 μ34263 T34266 F34267 G34268 h34265 I34269 h34270; exact ((vc_X12_through_87 h34270 h33897 h34265)).elim
                            | succ nL34264 ih34271 =>
                              intro z34262 μ34263 T34266 F34267 G34268 h34265 I34269 h34270
                              refine xmr_iload (pc := 460) (z := z34262) dX12_through_460 rfl ?_
                              refine xsv_aload_n (pc := 462) dX12_through_462 rfl rfl ?_
                              refine xgf_X12_54 (pc := 463) dX12_through_463 wF_X12_352 (A_106 hw) T34266 ?_
                              refine xmr_iload (pc := 466) (z := ((300 * z31916) + z33777)) dX12_through_466 rfl ?_
                              refine xlk_141 (hS := Or.inl (h132 _ _ (by decide) (by decide) (by omega))) (pc := 468) dX12_through_468 (A_141 hw) (rIx (n := 3900) (rAdd (e := 0) (f := 3600) (rMulL (n := 300) (e := 0) (f := 3300) h31918 rfl) h33779 rfl) rfl) (F34267.f (A_141 hw) rfl q33896) ?_
                              refine xmr_icmp_ge (pc := 469) (tgt := 486) dX12_through_469 (by decide) (r32 h34265 rfl) h33897 (fun h34279 => ?_) (fun h34279 => ?_)
                              · refine xmr_iload (pc := 486) (z := z33791) dX12_through_486 rfl ?_
                                refine xmr_bipush (pc := 488) (z := 28) dX12_through_488 (by decide) ?_
                                refine xmr_icmp_ne (pc := 490) (tgt := 526) dX12_through_490 (by decide) (r32 h33884 rfl) (r32 (rR (x := 28)) rfl) (fun _ => ?_) (fun h => ((vc_X12_through_84 h h33884)).elim)
                                refine xsv_goto (pc := 526) (tgt := 35) dX12_through_526 (by decide) ?_
                                refine xmr_lvS (lv' := [(0, .ref 106), (2, iv p2), (3, iv p3), (4, iv p4), (5, iv z31895), (6, iv (z31894 + 1))]) (List.forall_mem_cons.mpr ⟨rfl, List.forall_mem_cons.mpr ⟨rfl, List.forall_mem_cons.mpr ⟨rfl, List.forall_mem_cons.mpr ⟨rfl, List.forall_mem_cons.mpr ⟨rfl, List.forall_mem_cons.mpr ⟨rfl, fun _ h => absurd h List.not_mem_nil⟩⟩⟩⟩⟩⟩) ?_
                                exact ih31910 z31895 (z31894 + 1) z31920 μ34263 f_y T34266 (mF.call (mF.call (mF.call (mF.call (mF.call (mF.up (mF.call mF.refl F31902 rfl) (A_153 hw) u33786 rfl) F33806 rfl) F33820 rfl) F33833 rfl) F33846 rfl) F34267 rfl) (mG.call (mG.call (mG.call (mG.call (mG.call (mG.upO (mG.call mG.refl G31903 (List.forall_mem_cons.mpr ⟨⟨_, List.mem_cons_self, (vc_X12_dropMark_5 hp2)⟩, (fun _ h => absurd h List.not_mem_nil)⟩)) u33786 rfl) G33807 (List.forall_mem_cons.mpr ⟨⟨_, List.mem_cons_self, (vc_X12_dropMark_5 hp2)⟩, (fun _ h => absurd h List.not_mem_nil)⟩)) G33821 (List.forall_mem_cons.mpr ⟨⟨_, List.mem_cons_self, (vc_X12_dropMark_5 hp2)⟩, (fun _ h => absurd h List.not_mem_nil)⟩)) G33834 (List.forall_mem_cons.mpr ⟨⟨_, List.mem_cons_self, (vc_X12_dropMark_5 hp2)⟩, (fun _ h => absurd h List.not_mem_nil)⟩)) G33847 (List.forall_mem_cons.mpr ⟨⟨_, List.mem_cons_self, (vc_X12_dropMark_5 hp2)⟩, (fun _ h => absurd h List.not_mem_nil)⟩)) G34268 (List.forall_mem_cons.mpr ⟨⟨_, List.mem_cons_self, (vc_X12_dropMark_5 hp2)⟩, (fun _ h => absurd h List.not_mem_nil)⟩)) (G34268.f (vc_X12_copy_1 hp2) (List.forall_mem_cons.mpr ⟨(vc_X12_through_67 hp2), (fun _ h => absurd h List.not_mem_nil)⟩) (G33847.f (vc_X12_copy_1 hp2) (List.forall_mem_cons.mpr ⟨(vc_X12_through_67 hp2), (fun _ h => absurd h List.not_mem_nil)⟩) (G33834.f (vc_X12_copy_1 hp2) (List.forall_mem_cons.mpr ⟨(vc_X12_through_67 hp2), (fun _ h => absurd h List.not_mem_nil)⟩) (G33821.f (vc_X12_copy_1 hp2) (List.forall_mem_cons.mpr ⟨(vc_X12_through_67 hp2), (fun _ h => absurd h List.not_mem_nil)⟩) (G33807.f (vc_X12_copy_1 hp2) (List.forall_mem_cons.mpr ⟨(vc_X12_through_67 hp2), (fun _ h => absurd h List.not_mem_nil)⟩) (u33786.f (Or.inl (mAt.ne (A_153 hw) (A_126 hw) rfl)) q31909)))))) (rW (c := 0) (d := 12) h31915 rfl) (rW (c := 0) (d := 500) (rAdd (e := 1) (f := 500) h33790 (rR (x := 1)) rfl) rfl) (rW (c := (-1)) (d := 30) h33776 rfl) (vc_X12_through_12 hq2 h31904 h3 h31912) I34269 (lvOK.pred (lvOK.keep I33788 hw ((mF.call (mF.call (mF.call (mF.call (mF.call mF.refl F33806 rfl) F33820 rfl) F33833 rfl) F33846 rfl) F34267 rfl) : mF [126999] w μ33785 μ34263) rfl) (vc_X12_through_26 h31913 h31919 hq3 ht_f_pol hp1 h31915 h31918)) (Or.inr (F34267.f (A_152 hw) rfl (F33846.f (A_152 hw) rfl (F33833.f (A_152 hw) rfl (F33820.f (A_152 hw) rfl (F33806.f (A_152 hw) rfl (u33786.f (Or.inl (mAt.ne (A_153 hw) (A_152 hw) rfl)) q31921))))))) (vc_X12_through_68 (nS h31908) h31913 h31919 h31929 h31929.1 h31931 h33789 hq3 h31900 ht_f_pol hp1 h33790 h31915 h31918 h33776 h31925)
                              have h34280 : 0 ≤ z34262 ∧ z34262 ≤ 2147483646 := (vc_X12_through_88 h34279 h33897 h34265)
                              have h34281 : 1 ≤ z33895 ∧ z33895 ≤ 2147483647 := (vc_X12_through_89 h34279 h33897 h34280)
                              refine xsv_aload_n (pc := 472) dX12_through_472 rfl rfl ?_
                              refine xmr_iload_n (pc := 473) (z := p2) dX12_through_473 rfl rfl ?_
                              refine xmr_iload (pc := 474) (z := z33892) dX12_through_474 rfl ?_
                              refine xmr_cVI (pc := 476) (cx_X12_front hw T34266 hp2 h33894.1 (fun i a b => Or.inl (hR i a b)) hW) (gOk _ _ _ _ _) dX12_through_476 (tX12_front _ _ _ _ _) ⟨wV_X12_front, wL_X12_front⟩ wM_X12_408 (gCX12 _ _ _ _ _) rfl (A_106 hw) rfl ⟨le_t rfl, le_t rfl⟩ ⟨le_t rfl, le_t rfl⟩ rfl (le_t rfl) fun z34286 μ34282 T34283 F34284 h34285 => ?_
                              refine xsv_pop (pc := 479) dX12_through_479 rfl ?_
                              refine xmr_iinc (pc := 480) (lv' := [(13, iv (z34262 + 1)), (0, .ref 106), (2, iv p2), (3, iv p3), (4, iv p4), (5, iv z31895), (6, iv (z31894 + 1)), (10, iv ((300 * z31916) + z33777)), (11, iv z33791), (12, iv z33892)]) dX12_through_480 rfl (by decide) rfl ?_
                              refine xsv_goto (pc := 483) (tgt := 460) dX12_through_483 (by decide) ?_
                              refine xmr_lvS (lv' := [(0, .ref 106), (2, iv p2), (3, iv p3), (4, iv p4), (5, iv z31895), (6, iv (z31894 + 1)), (10, iv ((300 * z31916) + z33777)), (11, iv z33791), (12, iv z33892), (13, iv (z34262 + 1))]) (List.forall_mem_cons.mpr ⟨rfl, List.forall_mem_cons.mpr ⟨rfl, List.forall_mem_cons.mpr ⟨rfl, List.forall_mem_cons.mpr ⟨rfl, List.forall_mem_cons.mpr ⟨rfl, List.forall_mem_cons.mpr ⟨rfl, List.forall_mem_cons.mpr ⟨rfl, List.forall_mem_cons.mpr ⟨rfl, List.forall_mem_cons.mpr ⟨rfl, List.forall_mem_cons.mpr ⟨rfl, fun _ h => absurd h List.not_mem_nil⟩⟩⟩⟩⟩⟩⟩⟩⟩⟩) ?_
                              exact ih34271 (z34262 + 1) μ34282 T34283 (mF.call (mF.call mF.refl F34267 rfl) F34284 rfl) (mG.call (mG.call mG.refl G34268 (List.forall_mem_cons.mpr ⟨⟨_, List.mem_cons_self, (vc_X12_dropMark_5 hp2)⟩, (fun _ h => absurd h List.not_mem_nil)⟩)) h34285.2.1 (List.forall_mem_cons.mpr ⟨⟨_, List.mem_cons_self, (vc_X12_dropMark_5 hp2)⟩, (fun _ h => absurd h List.not_mem_nil)⟩)) (rW (c := 0) (d := 2147483647) (rAdd (e := 1) (f := 2147483647) h34280 (rR (x := 1)) rfl) rfl) (PK.keep I34269 hw ((mF.call mF.refl F34284 rfl) : mF [126999] w μ34263 μ34282) rfl) (vc_X12_through_90 (nS h34270) h34279 h34281 h34280)
                          refine xmr_lvS (lv' := [(0, .ref 106), (2, iv p2), (3, iv p3), (4, iv p4), (5, iv z31895), (6, iv (z31894 + 1)), (10, iv ((300 * z31916) + z33777)), (11, iv z33791), (12, iv z33892), (13, iv 0)]) (List.forall_mem_cons.mpr ⟨rfl, List.forall_mem_cons.mpr ⟨rfl, List.forall_mem_cons.mpr ⟨rfl, List.forall_mem_cons.mpr ⟨rfl, List.forall_mem_cons.mpr ⟨rfl, List.forall_mem_cons.mpr ⟨rfl, List.forall_mem_cons.mpr ⟨rfl, List.forall_mem_cons.mpr ⟨rfl, List.forall_mem_cons.mpr ⟨rfl, List.forall_mem_cons.mpr ⟨rfl, fun _ h => absurd h List.not_mem_nil⟩⟩⟩⟩⟩⟩⟩⟩⟩⟩) ?_
                          exact L34264 6442450944 0 μ33844 T33845 mF.refl mG.refl (rW (c := 0) (d := 2147483647) (rR (x := 0)) rfl) I33848 (vc_X12_through_91 h33897)
                        have h34287 : 21 ≤ z33898 ∧ z33898 ≤ 2147483647 := (vc_X12_through_92 h33900 h33899)
                        refine xmr_iconst (pc := 455) (z := 0) dX12_through_455 ?_
                        exact xmr_zret dX12_through_456 rfl (rW (c := 0) (d := 1) (rR (x := 0)) rfl) (le_t rfl) (le_t rfl) T33845 (mF.call (mF.call (mF.call (mF.call (mF.up (mF.call (mF.up (mF.up (mF.up mF.refl (A_151 hw) u17638 rfl) (A_152 hw) u17641 rfl) (A_153 hw) u17644 rfl) F31902 rfl) (A_153 hw) u33786 rfl) F33806 rfl) F33820 rfl) F33833 rfl) F33846 rfl) ⟨f_y, (G33847.f (vc_X12_copy_1 hp2) (List.forall_mem_cons.mpr ⟨(vc_X12_through_67 hp2), (fun _ h => absurd h List.not_mem_nil)⟩) (G33834.f (vc_X12_copy_1 hp2) (List.forall_mem_cons.mpr ⟨(vc_X12_through_67 hp2), (fun _ h => absurd h List.not_mem_nil)⟩) (G33821.f (vc_X12_copy_1 hp2) (List.forall_mem_cons.mpr ⟨(vc_X12_through_67 hp2), (fun _ h => absurd h List.not_mem_nil)⟩) (G33807.f (vc_X12_copy_1 hp2) (List.forall_mem_cons.mpr ⟨(vc_X12_through_67 hp2), (fun _ h => absurd h List.not_mem_nil)⟩) (u33786.f (Or.inl (mAt.ne (A_153 hw) (A_126 hw) rfl)) q31909))))), (rW (c := 0) (d := 1) (rR (x := 0)) rfl), (mG.call (mG.call (mG.call (mG.call (mG.upO (mG.call (mG.upO (mG.upO (mG.upO mG.refl u17638 rfl) u17641 rfl) u17644 rfl) G31903 (List.forall_mem_cons.mpr ⟨⟨_, List.mem_cons_self, (vc_X12_dropMark_5 hp2)⟩, (fun _ h => absurd h List.not_mem_nil)⟩)) u33786 rfl) G33807 (List.forall_mem_cons.mpr ⟨⟨_, List.mem_cons_self, (vc_X12_dropMark_5 hp2)⟩, (fun _ h => absurd h List.not_mem_nil)⟩)) G33821 (List.forall_mem_cons.mpr ⟨⟨_, List.mem_cons_self, (vc_X12_dropMark_5 hp2)⟩, (fun _ h => absurd h List.not_mem_nil)⟩)) G33834 (List.forall_mem_cons.mpr ⟨⟨_, List.mem_cons_self, (vc_X12_dropMark_5 hp2)⟩, (fun _ h => absurd h List.not_mem_nil)⟩)) G33847 (List.forall_mem_cons.mpr ⟨⟨_, List.mem_cons_self, (vc_X12_dropMark_5 hp2)⟩, (fun _ h => absurd h List.not_mem_nil)⟩)), (vc_X12_through_12 hq2 h31904 h3 h31912), trivial⟩
                      refine xmr_icmp_ne (pc := 375) (tgt := 396) dX12_through_375 (by decide) h33793 (r32 (rR (x := 13)) rfl) (fun h34288 => ?_) (fun h34288 => ?_)
                      · exact J33849 μ33831 T33832 mF.refl mG.refl I33835
                      have h34289 : 13 ≤ z33791 ∧ z33791 ≤ 13 := (vc_X12_through_93 h34288 h33794 h33795 h33793)
                      refine xsv_aload_n (pc := 378) dX12_through_378 rfl rfl ?_
                      refine xgf_X12_32 (pc := 379) dX12_through_379 wF_X12_148 (A_106 hw) T33832 ?_
                      refine xmr_bipush (pc := 382) (z := 40) dX12_through_382 (by decide) ?_
                      refine xmr_iload_n (pc := 384) (z := p2) dX12_through_384 rfl rfl ?_
                      refine xmr_imul (pc := 385) (x := 40) (y := p2) dX12_through_385 ?_
                      refine xmr_iconst (pc := 386) (z := 3) dX12_through_386 ?_
                      refine xmr_iadd (pc := 387) (x := (40 * p2)) (y := 3) dX12_through_387 ?_
                      refine xsv_aload_n (pc := 388) dX12_through_388 rfl rfl ?_
                      refine xgf_X12_54 (pc := 389) dX12_through_389 wF_X12_352 (A_106 hw) T33832 ?_
                      refine xmr_iload (pc := 392) (z := ((300 * z31916) + z33777)) dX12_through_392 rfl ?_
                      refine xla_141 (hS := Or.inl (h132 _ _ (by decide) (by decide) (by omega))) (pc := 394) dX12_through_394 (A_141 hw) T33832 (rIx (n := 3900) (rAdd (e := 0) (f := 3600) (rMulL (n := 300) (e := 0) (f := 3300) h31918 rfl) h33779 rfl) rfl) fun z34290 q34291 h34292 => ?_
                      refine xss_126 (hW := hW _ (by omega) (by omega)) (pc := 395) dX12_through_395 (A_126 hw) T33832 (rIx (n := 84000) (rAdd (e := 3) (f := 83963) (rMulL (n := 40) (e := 0) (f := 83960) hp2 rfl) (rR (x := 3)) rfl) rfl) (vc_X12_through_94 hp2 h34292) fun μ34293 u34294 T34295 => ?_
                      exact J33849 μ34293 T34295 (mF.up mF.refl (A_126 hw) u34294 rfl) (mG.up mG.refl u34294 List.mem_cons_self (vc_X12_through_95 hp2)) (PK.keep I33835 hw ((mF.up mF.refl (A_126 hw) u34294 rfl) : mF [126999] w μ33831 μ34293) rfl)
                    refine xmr_icmp_ne (pc := 350) (tgt := 371) dX12_through_350 (by decide) h33793 (r32 (rR (x := 12)) rfl) (fun h34296 => ?_) (fun h34296 => ?_)
                    · exact J33836 μ33818 T33819 mF.refl mG.refl I33822
                    have h34297 : 12 ≤ z33791 ∧ z33791 ≤ 12 := (vc_X12_through_96 h34296 h33794 h33795 h33793)
                    refine xsv_aload_n (pc := 353) dX12_through_353 rfl rfl ?_
                    refine xgf_X12_32 (pc := 354) dX12_through_354 wF_X12_148 (A_106 hw) T33819 ?_
                    refine xmr_bipush (pc := 357) (z := 40) dX12_through_357 (by decide) ?_
                    refine xmr_iload_n (pc := 359) (z := p2) dX12_through_359 rfl rfl ?_
                    refine xmr_imul (pc := 360) (x := 40) (y := p2) dX12_through_360 ?_
                    refine xmr_iconst (pc := 361) (z := 1) dX12_through_361 ?_
                    refine xmr_iadd (pc := 362) (x := (40 * p2)) (y := 1) dX12_through_362 ?_
                    refine xsv_aload_n (pc := 363) dX12_through_363 rfl rfl ?_
                    refine xgf_X12_54 (pc := 364) dX12_through_364 wF_X12_352 (A_106 hw) T33819 ?_
                    refine xmr_iload (pc := 367) (z := ((300 * z31916) + z33777)) dX12_through_367 rfl ?_
                    refine xla_141 (hS := Or.inl (h132 _ _ (by decide) (by decide) (by omega))) (pc := 369) dX12_through_369 (A_141 hw) T33819 (rIx (n := 3900) (rAdd (e := 0) (f := 3600) (rMulL (n := 300) (e := 0) (f := 3300) h31918 rfl) h33779 rfl) rfl) fun z34298 q34299 h34300 => ?_
                    refine xss_126 (hW := hW _ (by omega) (by omega)) (pc := 370) dX12_through_370 (A_126 hw) T33819 (rIx (n := 84000) (rAdd (e := 1) (f := 83961) (rMulL (n := 40) (e := 0) (f := 83960) hp2 rfl) (rR (x := 1)) rfl) rfl) (vc_X12_through_97 hp2 h34300) fun μ34301 u34302 T34303 => ?_
                    exact J33836 μ34301 T34303 (mF.up mF.refl (A_126 hw) u34302 rfl) (mG.up mG.refl u34302 List.mem_cons_self (vc_X12_through_98 hp2)) (PK.keep I33822 hw ((mF.up mF.refl (A_126 hw) u34302 rfl) : mF [126999] w μ33818 μ34301) rfl)
                  refine xmr_icmp_ne (pc := 331) (tgt := 346) dX12_through_331 (by decide) h33793 (r32 (rR (x := 26)) rfl) (fun h34304 => ?_) (fun h34304 => ?_)
                  · exact J33823 μ33804 T33805 mF.refl mG.refl I33808
                  have h34305 : 26 ≤ z33791 ∧ z33791 ≤ 26 := (vc_X12_through_99 h34304 h33794 h33795 h33793)
                  refine xsv_aload_n (pc := 334) dX12_through_334 rfl rfl ?_
                  refine xmr_iload_n (pc := 335) (z := p2) dX12_through_335 rfl rfl ?_
                  refine xsv_aload_n (pc := 336) dX12_through_336 rfl rfl ?_
                  refine xgf_X12_54 (pc := 337) dX12_through_337 wF_X12_352 (A_106 hw) T33805 ?_
                  refine xmr_iload (pc := 340) (z := ((300 * z31916) + z33777)) dX12_through_340 rfl ?_
                  refine xla_141 (hS := Or.inl (h132 _ _ (by decide) (by decide) (by omega))) (pc := 342) dX12_through_342 (A_141 hw) T33805 (rIx (n := 3900) (rAdd (e := 0) (f := 3600) (rMulL (n := 300) (e := 0) (f := 3300) h31918 rfl) h33779 rfl) rfl) fun z34306 q34307 h34308 => ?_
                  refine xmr_cVV (pc := 343) (cx_X12_dropMark hw T33805 hp2 h34308 (fun i a b => Or.inl (hR i a b)) hW) (gOk _ _ _ _ _) dX12_through_343 (tX12_dropMark _ _ _ _ _) ⟨wV_X12_dropMark, wL_X12_dropMark⟩ wM_X12_405 (gCX12 _ _ _ _ _) rfl (A_106 hw) rfl ⟨le_t rfl, le_t rfl⟩ ⟨le_t rfl, le_t rfl⟩ rfl (le_t rfl) fun μ34309 T34310 F34311 h34312 => ?_
                  exact J33823 μ34309 T34310 (mF.call mF.refl F34311 rfl) (mG.call mG.refl h34312.1 (List.forall_mem_cons.mpr ⟨⟨_, List.mem_cons_self, (vc_X12_dropMark_5 hp2)⟩, (fun _ h => absurd h List.not_mem_nil)⟩)) (PK.keep I33808 hw ((mF.call mF.refl F34311 rfl) : mF [126999] w μ33804 μ34309) rfl)
                refine xmr_icmp_ne (pc := 312) (tgt := 327) dX12_through_312 (by decide) h33793 (r32 (rR (x := 25)) rfl) (fun h34313 => ?_) (fun h34313 => ?_)
                · refine xmr_lvS (lv' := [(0, .ref 106), (2, iv p2), (3, iv p3), (4, iv p4), (5, iv z31895), (6, iv (z31894 + 1)), (10, iv ((300 * z31916) + z33777)), (11, iv z33791)]) (List.forall_mem_cons.mpr ⟨rfl, List.forall_mem_cons.mpr ⟨rfl, List.forall_mem_cons.mpr ⟨rfl, List.forall_mem_cons.mpr ⟨rfl, List.forall_mem_cons.mpr ⟨rfl, List.forall_mem_cons.mpr ⟨rfl, List.forall_mem_cons.mpr ⟨rfl, List.forall_mem_cons.mpr ⟨rfl, fun _ h => absurd h List.not_mem_nil⟩⟩⟩⟩⟩⟩⟩⟩) ?_
                  exact J33809 μ33785 T33787 mF.refl mG.refl (PK.keep I31905 hw ((mF.up mF.refl (A_153 hw) u33786 rfl) : mF [153999] w μ31896 μ33785) rfl)
                have h34314 : 25 ≤ z33791 ∧ z33791 ≤ 25 := (vc_X12_through_100 h34313 h33794 h33795 h33793)
                refine xsv_aload_n (pc := 315) dX12_through_315 rfl rfl ?_
                refine xmr_iload_n (pc := 316) (z := p2) dX12_through_316 rfl rfl ?_
                refine xsv_aload_n (pc := 317) dX12_through_317 rfl rfl ?_
                refine xgf_X12_54 (pc := 318) dX12_through_318 wF_X12_352 (A_106 hw) T33787 ?_
                refine xmr_iload (pc := 321) (z := ((300 * z31916) + z33777)) dX12_through_321 rfl ?_
                refine xla_141 (hS := Or.inl (h132 _ _ (by decide) (by decide) (by omega))) (pc := 323) dX12_through_323 (A_141 hw) T33787 (rIx (n := 3900) (rAdd (e := 0) (f := 3600) (rMulL (n := 300) (e := 0) (f := 3300) h31918 rfl) h33779 rfl) rfl) fun z34315 q34316 h34317 => ?_
                refine xmr_cVV (pc := 324) (cx_X12_addMark hw T33787 hp2 h34317 (fun i a b => Or.inl (hR i a b)) hW) (gOk _ _ _ _ _) dX12_through_324 (tX12_addMark _ _ _ _ _) ⟨wV_X12_addMark, wL_X12_addMark⟩ wM_X12_401 (gCX12 _ _ _ _ _) rfl (A_106 hw) rfl ⟨le_t rfl, le_t rfl⟩ ⟨le_t rfl, le_t rfl⟩ rfl (le_t rfl) fun μ34318 T34319 F34320 h34321 => ?_
                refine xmr_lvS (lv' := [(0, .ref 106), (2, iv p2), (3, iv p3), (4, iv p4), (5, iv z31895), (6, iv (z31894 + 1)), (10, iv ((300 * z31916) + z33777)), (11, iv z33791)]) (List.forall_mem_cons.mpr ⟨rfl, List.forall_mem_cons.mpr ⟨rfl, List.forall_mem_cons.mpr ⟨rfl, List.forall_mem_cons.mpr ⟨rfl, List.forall_mem_cons.mpr ⟨rfl, List.forall_mem_cons.mpr ⟨rfl, List.forall_mem_cons.mpr ⟨rfl, List.forall_mem_cons.mpr ⟨rfl, fun _ h => absurd h List.not_mem_nil⟩⟩⟩⟩⟩⟩⟩⟩) ?_
                exact J33809 μ34318 T34319 (mF.call mF.refl F34320 rfl) (mG.call mG.refl h34321.1 (List.forall_mem_cons.mpr ⟨⟨_, List.mem_cons_self, (vc_X12_dropMark_5 hp2)⟩, (fun _ h => absurd h List.not_mem_nil)⟩)) (PK.keep I31905 hw ((mF.call (mF.up mF.refl (A_153 hw) u33786 rfl) F34320 rfl) : mF [126999, 153999] w μ31896 μ34318) rfl)
              have h34322 : 24 ≤ z33791 ∧ z33791 ≤ 24 := (vc_X12_through_101 h33795 h33794 h33793)
              refine xmr_iconst (pc := 306) (z := 0) dX12_through_306 ?_
              exact xmr_zret dX12_through_307 rfl (rW (c := 0) (d := 1) (rR (x := 0)) rfl) (le_t rfl) (le_t rfl) T33787 (mF.up (mF.call (mF.up (mF.up (mF.up mF.refl (A_151 hw) u17638 rfl) (A_152 hw) u17641 rfl) (A_153 hw) u17644 rfl) F31902 rfl) (A_153 hw) u33786 rfl) ⟨f_y, (u33786.f (Or.inl (mAt.ne (A_153 hw) (A_126 hw) rfl)) q31909), (rW (c := 0) (d := 1) (rR (x := 0)) rfl), (mG.upO (mG.call (mG.upO (mG.upO (mG.upO mG.refl u17638 rfl) u17641 rfl) u17644 rfl) G31903 (List.forall_mem_cons.mpr ⟨⟨_, List.mem_cons_self, (vc_X12_dropMark_5 hp2)⟩, (fun _ h => absurd h List.not_mem_nil)⟩)) u33786 rfl), (vc_X12_through_12 hq2 h31904 h3 h31912), trivial⟩
            have h34323 : 23 ≤ z33791 ∧ z33791 ≤ 23 := (vc_X12_through_102 h33794 h33793)
            refine xmr_iconst (pc := 297) (z := 1) dX12_through_297 ?_
            exact xmr_zret dX12_through_298 rfl (rW (c := 0) (d := 1) (rR (x := 1)) rfl) (le_t rfl) (le_t rfl) T33787 (mF.up (mF.call (mF.up (mF.up (mF.up mF.refl (A_151 hw) u17638 rfl) (A_152 hw) u17641 rfl) (A_153 hw) u17644 rfl) F31902 rfl) (A_153 hw) u33786 rfl) ⟨f_y, (u33786.f (Or.inl (mAt.ne (A_153 hw) (A_126 hw) rfl)) q31909), (rW (c := 0) (d := 1) (rR (x := 1)) rfl), (mG.upO (mG.call (mG.upO (mG.upO (mG.upO mG.refl u17638 rfl) u17641 rfl) u17644 rfl) G31903 (List.forall_mem_cons.mpr ⟨⟨_, List.mem_cons_self, (vc_X12_dropMark_5 hp2)⟩, (fun _ h => absurd h List.not_mem_nil)⟩)) u33786 rfl), (vc_X12_through_12 hq2 h31904 h3 h31912), trivial⟩
          have h34324 : 500 ≤ z31894 ∧ z31894 ≤ 500 := (vc_X12_through_103 h33789 h31899)
          refine xmr_iconst (pc := 279) (z := 0) dX12_through_279 ?_
          exact xmr_zret dX12_through_280 rfl (rW (c := 0) (d := 1) (rR (x := 0)) rfl) (le_t rfl) (le_t rfl) T33787 (mF.up (mF.call (mF.up (mF.up (mF.up mF.refl (A_151 hw) u17638 rfl) (A_152 hw) u17641 rfl) (A_153 hw) u17644 rfl) F31902 rfl) (A_153 hw) u33786 rfl) ⟨f_y, (u33786.f (Or.inl (mAt.ne (A_153 hw) (A_126 hw) rfl)) q31909), (rW (c := 0) (d := 1) (rR (x := 0)) rfl), (mG.upO (mG.call (mG.upO (mG.upO (mG.upO mG.refl u17638 rfl) u17641 rfl) u17644 rfl) G31903 (List.forall_mem_cons.mpr ⟨⟨_, List.mem_cons_self, (vc_X12_dropMark_5 hp2)⟩, (fun _ h => absurd h List.not_mem_nil)⟩)) u33786 rfl), (vc_X12_through_12 hq2 h31904 h3 h31912), trivial⟩
        refine xmr_iinc (pc := 94) (lv' := [(9, iv (z31920 + 1)), (8, iv z31916), (7, iv (z31895 - 1)), (0, .ref 106), (2, iv p2), (3, iv p3), (4, iv p4), (5, iv z31895), (6, iv z31894)]) dX12_through_94 rfl (by decide) rfl ?_
        refine xmr_iconst (pc := 97) (z := 0) dX12_through_97 ?_
        refine xmr_istore (pc := 98) (lv' := [(10, iv 0), (9, iv (z31920 + 1)), (8, iv z31916), (7, iv (z31895 - 1)), (0, .ref 106), (2, iv p2), (3, iv p3), (4, iv p4), (5, iv z31895), (6, iv z31894)]) dX12_through_98 (by decide) rfl ?_
        have L34495 : ∀ (nL34495 : Nat) (z34493 z34492 : Int) (μ34494 : mM), mT w μ34494 → mF [106026, 106027, 106028, 106029, 106030, 106031] w μ31896 μ34494 → (1 ≤ z34493 ∧ z34493 ≤ 30) → (0 ≤ z34492 ∧ z34492 ≤ 1) → (z34492 = 0 ∨ z34493 < z31923) → (f_R < z34493) → PK μ34494 → (70 - ((2 * z34493) + z34492)) < (nL34495 : Int) → VS l D c H0 sa K W (Slev S z31895) S mX12_through (sRm 6 0 0) ((xqI w [106026, 106027, 106028, 106029, 106030, 106031, 126999, 151999, 152999, 153999] μ (fun z μ1 => ∃ o_x : Int, μ1 126 ((40 * p2).toNat) = o_x ∧ (0 ≤ z ∧ z ≤ 1) ∧ mG [(((40 * p2) + 1), ((40 * p2) + 40))] μ μ1 ∧ (o_x = f_x) ∧ True))) 100 [(0, .ref 106), (2, iv p2), (3, iv p3), (4, iv p4), (5, iv z31895), (6, iv z31894), (7, iv (z31895 - 1)), (8, iv z31916), (9, iv z34493), (10, iv z34492)] [] μ34494 := by
          intro nL34495
          induction nL34495 with
          | zero => intro z34493 z34492 μ34494 T34498 F34499 h34496 h34497 h34501 h34502 I34503 h34504; exact ((vc_X12_through_104 h34504 h34501 h34502 h31929 h31929.1 h31900 h33776 h31925 h34497 h34496)).elim
          | succ nL34495 ih34505 =>
            intro z34493 z34492 μ34494 T34498 F34499 h34496 h34497 h34501 h34502 I34503 h34504
            refine xmr_iload (pc := 100) (z := z34493) dX12_through_100 rfl ?_
            refine xsv_aload_n (pc := 102) dX12_through_102 rfl rfl ?_
            refine xgf_X12_40 (pc := 103) dX12_through_103 wF_X12_358 (A_106 hw) T34498 ?_
            refine xmr_iload (pc := 106) (z := z31916) dX12_through_106 rfl ?_
            refine xlk_127 (hS := Or.inl (h127 _ (by omega)).1) (pc := 108) dX12_through_108 (A_127 hw) (rIx (n := 13) h31918 rfl) (F34499.f (A_127 hw) rfl q31924) ?_
            have J34547 : VS l D c H0 sa K W (Slev S z31895) S mX12_through (sRm 6 0 0) ((xqI w [106026, 106027, 106028, 106029, 106030, 106031, 126999, 151999, 152999, 153999] μ (fun z μ1 => ∃ o_x : Int, μ1 126 ((40 * p2).toNat) = o_x ∧ (0 ≤ z ∧ z ≤ 1) ∧ mG [(((40 * p2) + 1), ((40 * p2) + 40))] μ μ1 ∧ (o_x = f_x) ∧ True))) 198 [(0, .ref 106), (2, iv p2), (3, iv p3), (4, iv p4), (5, iv z31895), (6, iv z31894), (7, iv (z31895 - 1)), (8, iv z31916), (9, iv z34493), (10, iv z34492)] [] μ34494 := by
              refine xmr_iload (pc := 198) (z := z34492) dX12_through_198 rfl ?_
              refine xmr_if_ne (pc := 200) (tgt := 209) dX12_through_200 (by decide) (r32 h34497 rfl) (fun h34548 => ?_) (fun h34548 => ?_)
              · have h34549 : 1 ≤ z34492 ∧ z34492 ≤ 1 := (vc_X12_through_105 h34548 h34501 h31925 h34497 h34496)
                refine xsv_aload_n (pc := 209) dX12_through_209 rfl rfl ?_
                refine xgf_X12_68 (pc := 210) dX12_through_210 wF_X12_391 (A_106 hw) T34498 ?_
                refine xmr_iload (pc := 213) (z := (z31895 - 1)) dX12_through_213 rfl ?_
                refine xmr_iload (pc := 215) (z := z34493) dX12_through_215 rfl ?_
                refine xss_152 (hW := hG _ _ (by decide) (by decide)) (pc := 217) dX12_through_217 (A_152 hw) T34498 (rIx (n := 14) (rSub (e := 0) (f := 11) h31915 (rR (x := 1)) rfl) rfl) (rW (c := (-1)) (d := 30) h34496 rfl) fun μ34550 u34551 T34552 => ?_
                refine xsv_aload_n (pc := 218) dX12_through_218 rfl rfl ?_
                refine xgf_X12_69 (pc := 219) dX12_through_219 wF_X12_394 (A_106 hw) T34552 ?_
                refine xmr_iload (pc := 222) (z := (z31895 - 1)) dX12_through_222 rfl ?_
                refine xsv_aload_n (pc := 224) dX12_through_224 rfl rfl ?_
                refine xgf_X12_42 (pc := 225) dX12_through_225 wF_X12_364 (A_106 hw) T34552 ?_
                refine xmr_bipush (pc := 228) (z := 31) dX12_through_228 (by decide) ?_
                refine xmr_iload (pc := 230) (z := z31916) dX12_through_230 rfl ?_
                refine xmr_imul (pc := 232) (x := 31) (y := z31916) dX12_through_232 ?_
                refine xmr_iload (pc := 233) (z := z34493) dX12_through_233 rfl ?_
                refine xmr_iadd (pc := 235) (x := (31 * z31916)) (y := z34493) dX12_through_235 ?_
                refine xla_129 (hS := Or.inl (h128 _ (by omega)).2) (pc := 236) dX12_through_236 (A_129 hw) T34552 (rIx (n := 403) (rAdd (e := 1) (f := 371) (rMulL (n := 31) (e := 0) (f := 341) h31918 rfl) h34496 rfl) rfl) fun z34553 q34554 h34555 => ?_
                refine xss_153 (hW := hG _ _ (by decide) (by decide)) (pc := 237) dX12_through_237 (A_153 hw) T34552 (rIx (n := 14) (rSub (e := 0) (f := 11) h31915 (rR (x := 1)) rfl) rfl) h34555 fun μ34556 u34557 T34558 => ?_
                have I34559 : lvOK μ34556 z31895 := lvOK.row (lvOK.keep R31906 hw ((mF.call mF.refl F34499 rfl) : mF [106026, 106027, 106028, 106029, 106030, 106031] w μ31896 _) rfl) (PK.keep I34503 hw ((mF.up (mF.up mF.refl (A_152 hw) u34551 rfl) (A_153 hw) u34557 rfl) : mF [152999, 153999] w μ34494 μ34556) rfl) (vc_X12_through_15 h31913 h31919 hq3 ht_f_pol hp1 h31915 h31918) u34551 u34557 (u34557.f (Or.inl (mAt.ne (A_153 hw) (A_151 hw) rfl)) (u34551.f (Or.inl (mAt.ne (A_152 hw) (A_151 hw) rfl)) (F34499.f (A_151 hw) rfl q31917))) (vc_X12_through_22 hq3 h31919 h17636 h31913 ht_f_pol hp1 h31915 h31918) (u34557.f (Or.inl (mAt.ne (A_153 hw) (A_106 hw) rfl)) (u34551.f (Or.inl (mAt.ne (A_152 hw) (A_106 hw) rfl)) (F34499.f (A_106 hw) rfl (F31902.f (A_106 hw) rfl (u17644.f (Or.inl (mAt.ne (A_153 hw) (A_106 hw) rfl)) (u17641.f (Or.inl (mAt.ne (A_152 hw) (A_106 hw) rfl)) (u17638.f (Or.inl (mAt.ne (A_151 hw) (A_106 hw) rfl)) q_f_pol))))))) (vc_X12_through_106 h31929 h31929.1 h34501 h34502 h31931 h34548 h31900 h33776 h31925 h34549 h34496) (u34557.f (Or.inl (mAt.ne (A_153 hw) (A_127 hw) rfl)) (u34551.f (Or.inl (mAt.ne (A_152 hw) (A_127 hw) rfl)) (F34499.f (A_127 hw) rfl q31924))) (vc_X12_through_107 h31919 h34501 h34502 hq3 h31913 h31929 h31929.1 h34548 h31900 ht_f_pol hp1 h31915 h31918 h33776 h31925 h34549 h34496) (u34557.f (Or.inl (mAt.ne (A_153 hw) (A_129 hw) rfl)) q34554)
                refine xsv_goto (pc := 238) (tgt := 35) dX12_through_238 (by decide) ?_
                refine xmr_lvS (lv' := [(0, .ref 106), (2, iv p2), (3, iv p3), (4, iv p4), (5, iv z31895), (6, iv z31894)]) (List.forall_mem_cons.mpr ⟨rfl, List.forall_mem_cons.mpr ⟨rfl, List.forall_mem_cons.mpr ⟨rfl, List.forall_mem_cons.mpr ⟨rfl, List.forall_mem_cons.mpr ⟨rfl, List.forall_mem_cons.mpr ⟨rfl, fun _ h => absurd h List.not_mem_nil⟩⟩⟩⟩⟩⟩) ?_
                exact ih31910 z31895 z31894 z34493 μ34556 f_y T34558 (mF.up (mF.up (mF.call (mF.call mF.refl F31902 rfl) F34499 rfl) (A_152 hw) u34551 rfl) (A_153 hw) u34557 rfl) (mG.upO (mG.upO (mG.fr (mG.call mG.refl G31903 (List.forall_mem_cons.mpr ⟨⟨_, List.mem_cons_self, (vc_X12_dropMark_5 hp2)⟩, (fun _ h => absurd h List.not_mem_nil)⟩)) F34499 (A_126 hw) rfl) u34551 rfl) u34557 rfl) (u34557.f (Or.inl (mAt.ne (A_153 hw) (A_126 hw) rfl)) (u34551.f (Or.inl (mAt.ne (A_152 hw) (A_126 hw) rfl)) (F34499.f (A_126 hw) rfl q31909))) (rW (c := 0) (d := 12) h31915 rfl) h31899 (rW (c := (-1)) (d := 30) h34496 rfl) (vc_X12_through_12 hq2 h31904 h3 h31912) (PK.keep I34503 hw ((mF.up (mF.up mF.refl (A_152 hw) u34551 rfl) (A_153 hw) u34557 rfl) : mF [152999, 153999] w μ34494 μ34556) rfl) (lvOK.pred I34559 (vc_X12_through_26 h31913 h31919 hq3 ht_f_pol hp1 h31915 h31918)) (Or.inr (u34557.f (Or.inl (mAt.ne (A_153 hw) (A_152 hw) rfl)) u34551.1)) (vc_X12_through_108 (nS h31908) h31913 h31919 h31929 h34501 h34502 hq3 h31929.1 h31931 h34548 h31900 ht_f_pol hp1 h31899 h31915 h31918 h33776 h31925 h34549 h34496)
              have h34560 : 0 ≤ z34492 ∧ z34492 ≤ 0 := (vc_X12_through_109 h34548 h34501 h31925 h34497 h34496)
              refine xmr_iinc (pc := 203) (lv' := [(5, iv (z31895 + (-1))), (0, .ref 106), (2, iv p2), (3, iv p3), (4, iv p4), (6, iv z31894), (7, iv (z31895 - 1)), (8, iv z31916), (9, iv z34493), (10, iv z34492)]) dX12_through_203 rfl (by decide) rfl ?_
              by_cases h34561 : (z31895 + (-1)) = 0
              · have h34562 : 1 ≤ z31895 ∧ z31895 ≤ 1 := (vc_X12_through_28 h34561 h31913 h31919 ht_f_pol h31915 h31918)
                refine xsv_goto (pc := 206) (tgt := 35) dX12_through_206 (by decide) ?_
                refine xmr_lvS (lv' := [(0, .ref 106), (2, iv p2), (3, iv p3), (4, iv p4), (5, iv (z31895 + (-1))), (6, iv z31894)]) (List.forall_mem_cons.mpr ⟨rfl, List.forall_mem_cons.mpr ⟨rfl, List.forall_mem_cons.mpr ⟨rfl, List.forall_mem_cons.mpr ⟨rfl, List.forall_mem_cons.mpr ⟨rfl, List.forall_mem_cons.mpr ⟨rfl, fun _ h => absurd h List.not_mem_nil⟩⟩⟩⟩⟩⟩) ?_
                refine VS.mono (Slev.le (m := z31895 + (-1)) (n := z31895) (by omega)) ?_; exact ih31910 (z31895 + (-1)) z31894 0 μ34494 f_y T34498 (mF.call (mF.call mF.refl F31902 rfl) F34499 rfl) (mG.fr (mG.call mG.refl G31903 (List.forall_mem_cons.mpr ⟨⟨_, List.mem_cons_self, (vc_X12_dropMark_5 hp2)⟩, (fun _ h => absurd h List.not_mem_nil)⟩)) F34499 (A_126 hw) rfl) (F34499.f (A_126 hw) rfl q31909) (rW (c := 0) (d := 12) (rAdd (e := 0) (f := 0) h34562 (rR (x := (-1))) rfl) rfl) h31899 (rW (c := (-1)) (d := 30) (rR (x := 0)) rfl) (vc_X12_through_12 hq2 h31904 h3 h31912) I34503 (lvOK.pred (lvOK.keep R31906 hw ((mF.call mF.refl F34499 rfl) : mF [106026, 106027, 106028, 106029, 106030, 106031] w μ31896 μ34494) rfl) (vc_X12_through_30 h31913 h31919 h34561 hq3 ht_f_pol hp1 h34562 h31918)) (Or.inl (vc_X12_through_31 h31913 h31919 h34561 hq3 ht_f_pol hp1 h34562 h31918)) (vc_X12_through_110 (nS h31908) h31913 h31919 h31929 h34502 h34561 hq3 h31929.1 h31931 h34501 h31900 ht_f_pol hp1 h31899 h34562 h31918 h33776 h31925 h34560 h34496)
              have h34563 : 2 ≤ z31895 ∧ z31895 ≤ 12 := (vc_X12_through_32 h34561 h31913 h31919 ht_f_pol h31915 h31918)
              refine xsv_goto (pc := 206) (tgt := 35) dX12_through_206 (by decide) ?_
              obtain ⟨z34564, q34565⟩ : ∃ z, μ34494 152 (((z31895 + (-1)) - 1).toNat) = z := ⟨_, rfl⟩
              have h34566 : ((-1) ≤ z34564 ∧ z34564 ≤ 30) := by rw [← q34565]; exact T34498 152 152 (A_152 hw) (((z31895 + (-1)) - 1).toNat)
              refine xmr_lvS (lv' := [(0, .ref 106), (2, iv p2), (3, iv p3), (4, iv p4), (5, iv (z31895 + (-1))), (6, iv z31894)]) (List.forall_mem_cons.mpr ⟨rfl, List.forall_mem_cons.mpr ⟨rfl, List.forall_mem_cons.mpr ⟨rfl, List.forall_mem_cons.mpr ⟨rfl, List.forall_mem_cons.mpr ⟨rfl, List.forall_mem_cons.mpr ⟨rfl, fun _ h => absurd h List.not_mem_nil⟩⟩⟩⟩⟩⟩) ?_
              refine VS.mono (Slev.le (m := z31895 + (-1)) (n := z31895) (by omega)) ?_; exact ih31910 (z31895 + (-1)) z31894 z34564 μ34494 f_y T34498 (mF.call (mF.call mF.refl F31902 rfl) F34499 rfl) (mG.fr (mG.call mG.refl G31903 (List.forall_mem_cons.mpr ⟨⟨_, List.mem_cons_self, (vc_X12_dropMark_5 hp2)⟩, (fun _ h => absurd h List.not_mem_nil)⟩)) F34499 (A_126 hw) rfl) (F34499.f (A_126 hw) rfl q31909) (rW (c := 0) (d := 12) (rAdd (e := 1) (f := 11) h34563 (rR (x := (-1))) rfl) rfl) h31899 h34566 (vc_X12_through_12 hq2 h31904 h3 h31912) I34503 (lvOK.pred (lvOK.keep R31906 hw ((mF.call mF.refl F34499 rfl) : mF [106026, 106027, 106028, 106029, 106030, 106031] w μ31896 μ34494) rfl) (vc_X12_through_34 h31913 h31919 h34561 hq3 ht_f_pol hp1 h34563 h31918)) (Or.inr q34565) (vc_X12_through_111 (nS h31908) h31913 h31919 h31929 h34502 h34561 hq3 h31929.1 h31931 h34501 h31900 ht_f_pol hp1 h31899 h34563 h31918 h33776 h31925 h34560 h34496 h34566)
            refine xmr_icmp_ge (pc := 109) (tgt := 198) dX12_through_109 (by decide) (r32 h34496 rfl) (r32 h31925 rfl) (fun h34567 => ?_) (fun h34567 => ?_)
            · exact J34547 
            have h34568 : 1 ≤ z34493 ∧ z34493 ≤ 29 := (vc_X12_through_112 h34567 h31929 h31929.1 h34501 h34502 h31900 h33776 h31925 h34497 h34496)
            have h34569 : 2 ≤ z31923 ∧ z31923 ≤ 30 := (vc_X12_through_113 h34567 h31929 h31929.1 h34501 h34502 h31900 h33776 h31925 h34497 h34568)
            refine xmr_iload (pc := 112) (z := z34492) dX12_through_112 rfl ?_
            refine xmr_if_ne (pc := 114) (tgt := 198) dX12_through_114 (by decide) (r32 h34497 rfl) (fun h34570 => ?_) (fun h34570 => ?_)
            · have h34571 : 1 ≤ z34492 ∧ z34492 ≤ 1 := (vc_X12_through_114 h34570 h34501 h34569 h34497 h34568)
              exact J34547 
            have h34572 : 0 ≤ z34492 ∧ z34492 ≤ 0 := (vc_X12_through_115 h34570 h34501 h34569 h34497 h34568)
            refine xmr_iconst (pc := 117) (z := 1) dX12_through_117 ?_
            refine xmr_istore (pc := 118) (lv' := [(10, iv 1), (0, .ref 106), (2, iv p2), (3, iv p3), (4, iv p4), (5, iv z31895), (6, iv z31894), (7, iv (z31895 - 1)), (8, iv z31916), (9, iv z34493)]) dX12_through_118 (by decide) rfl ?_
            refine xsv_aload_n (pc := 120) dX12_through_120 rfl rfl ?_
            refine xgf_X12_41 (pc := 121) dX12_through_121 wF_X12_361 (A_106 hw) T34498 ?_
            refine xmr_bipush (pc := 124) (z := 31) dX12_through_124 (by decide) ?_
            refine xmr_iload (pc := 126) (z := z31916) dX12_through_126 rfl ?_
            refine xmr_imul (pc := 128) (x := 31) (y := z31916) dX12_through_128 ?_
            refine xmr_iload (pc := 129) (z := z34493) dX12_through_129 rfl ?_
            refine xmr_iadd (pc := 131) (x := (31 * z31916)) (y := z34493) dX12_through_131 ?_
            refine xla_128 (hS := Or.inl (h128 _ (by omega)).1) (pc := 132) dX12_through_132 (A_128 hw) T34498 (rIx (n := 403) (rAdd (e := 1) (f := 370) (rMulL (n := 31) (e := 0) (f := 341) h31918 rfl) h34568 rfl) rfl) fun z34573 q34574 h34575 => ?_
            refine xmr_istore (pc := 133) (lv' := [(11, iv z34573), (10, iv 1), (0, .ref 106), (2, iv p2), (3, iv p3), (4, iv p4), (5, iv z31895), (6, iv z31894), (7, iv (z31895 - 1)), (8, iv z31916), (9, iv z34493)]) dX12_through_133 (by decide) rfl ?_
            have L34626 : ∀ (nL34626 : Nat) (z34624 z34623 : Int) (μ34625 : mM), mT w μ34625 → mF [106026, 106027, 106028, 106029, 106030, 106031] w μ34494 μ34625 → (0 ≤ z34624 ∧ z34624 ≤ 1) → (0 ≤ z34623 ∧ z34623 ≤ 300) → PK μ34625 → (301 - z34623) < (nL34626 : Int) → VS l D c H0 sa K W (Slev S z31895) S mX12_through (sRm 6 0 0) ((xqI w [106026, 106027, 106028, 106029, 106030, 106031, 126999, 151999, 152999, 153999] μ (fun z μ1 => ∃ o_x : Int, μ1 126 ((40 * p2).toNat) = o_x ∧ (0 ≤ z ∧ z ≤ 1) ∧ mG [(((40 * p2) + 1), ((40 * p2) + 40))] μ μ1 ∧ (o_x = f_x) ∧ True))) 135 [(0, .ref 106), (2, iv p2), (3, iv p3), (4, iv p4), (5, iv z31895), (6, iv z31894), (7, iv (z31895 - 1)), (8, iv z31916), (9, iv z34493), (10, iv z34624), (11, iv z34623)] [] μ34625 := by
              intro nL34626
              induction nL34626 with
              | zero => intro z34624 z34623 μ34625 T34629 F34630 h34627 h34628 I34632 h34633; exact ((vc_X12_through_39 h34633 h34628)).elim
              | succ nL34626 ih34634 =>
                intro z34624 z34623 μ34625 T34629 F34630 h34627 h34628 I34632 h34633
                refine xmr_iload (pc := 135) (z := z34623) dX12_through_135 rfl ?_
                refine xsv_aload_n (pc := 137) dX12_through_137 rfl rfl ?_
                refine xgf_X12_41 (pc := 138) dX12_through_138 wF_X12_361 (A_106 hw) T34629 ?_
                refine xmr_bipush (pc := 141) (z := 31) dX12_through_141 (by decide) ?_
                refine xmr_iload (pc := 143) (z := z31916) dX12_through_143 rfl ?_
                refine xmr_imul (pc := 145) (x := 31) (y := z31916) dX12_through_145 ?_
                refine xmr_iload (pc := 146) (z := z34493) dX12_through_146 rfl ?_
                refine xmr_iadd (pc := 148) (x := (31 * z31916)) (y := z34493) dX12_through_148 ?_
                refine xmr_iconst (pc := 149) (z := 1) dX12_through_149 ?_
                refine xmr_iadd (pc := 150) (x := ((31 * z31916) + z34493)) (y := 1) dX12_through_150 ?_
                refine xla_128 (hS := Or.inl (h128 _ (by omega)).1) (pc := 151) dX12_through_151 (A_128 hw) T34629 (rIx (n := 403) (rAdd (e := 2) (f := 371) (rAdd (e := 1) (f := 370) (rMulL (n := 31) (e := 0) (f := 341) h31918 rfl) h34568 rfl) (rR (x := 1)) rfl) rfl) fun z34635 q34636 h34637 => ?_
                refine xmr_icmp_ge (pc := 152) (tgt := 187) dX12_through_152 (by decide) (r32 h34628 rfl) (r32 h34637 rfl) (fun h34647 => ?_) (fun h34647 => ?_)
                · refine xmr_iload (pc := 187) (z := z34624) dX12_through_187 rfl ?_
                  refine xmr_if_ne (pc := 189) (tgt := 100) dX12_through_189 (by decide) (r32 h34627 rfl) (fun h34648 => ?_) (fun h34648 => ?_)
                  · have h34649 : 1 ≤ z34624 ∧ z34624 ≤ 1 := (vc_X12_ring_24 h34648 h34627)
                    refine xmr_lvS (lv' := [(0, .ref 106), (2, iv p2), (3, iv p3), (4, iv p4), (5, iv z31895), (6, iv z31894), (7, iv (z31895 - 1)), (8, iv z31916), (9, iv z34493), (10, iv z34624)]) (List.forall_mem_cons.mpr ⟨rfl, List.forall_mem_cons.mpr ⟨rfl, List.forall_mem_cons.mpr ⟨rfl, List.forall_mem_cons.mpr ⟨rfl, List.forall_mem_cons.mpr ⟨rfl, List.forall_mem_cons.mpr ⟨rfl, List.forall_mem_cons.mpr ⟨rfl, List.forall_mem_cons.mpr ⟨rfl, List.forall_mem_cons.mpr ⟨rfl, List.forall_mem_cons.mpr ⟨rfl, fun _ h => absurd h List.not_mem_nil⟩⟩⟩⟩⟩⟩⟩⟩⟩⟩) ?_
                    exact ih34505 z34493 z34624 μ34625 T34629 (mF.call (mF.call mF.refl F34499 rfl) F34630 rfl) (rW (c := 1) (d := 30) h34568 rfl) (rW (c := 0) (d := 1) h34649 rfl) (vc_X12_through_118 h31929 h31929.1 h34501 h34502 h34567 h34648 h31931 h34570 h31900 h33776 h34569 h34572 h34568 h34649) (vc_X12_through_119 h31929 h34501 h34502 h34567 h31929.1 h31931 h34570 h31900 h33776 h34569 h34572 h34568) I34632 (vc_X12_through_120 (nS h34504) h34501 h34502 h34567 h34570 h34648 h31929 h31929.1 h31900 h33776 h34569 h34572 h34568 h34649)
                  have h34650 : 0 ≤ z34624 ∧ z34624 ≤ 0 := (vc_X12_ring_22 h34648 h34627)
                  refine xmr_iinc (pc := 192) (lv' := [(9, iv (z34493 + 1)), (0, .ref 106), (2, iv p2), (3, iv p3), (4, iv p4), (5, iv z31895), (6, iv z31894), (7, iv (z31895 - 1)), (8, iv z31916), (10, iv z34624), (11, iv z34623)]) dX12_through_192 rfl (by decide) rfl ?_
                  refine xsv_goto (pc := 195) (tgt := 100) dX12_through_195 (by decide) ?_
                  refine xmr_lvS (lv' := [(0, .ref 106), (2, iv p2), (3, iv p3), (4, iv p4), (5, iv z31895), (6, iv z31894), (7, iv (z31895 - 1)), (8, iv z31916), (9, iv (z34493 + 1)), (10, iv z34624)]) (List.forall_mem_cons.mpr ⟨rfl, List.forall_mem_cons.mpr ⟨rfl, List.forall_mem_cons.mpr ⟨rfl, List.forall_mem_cons.mpr ⟨rfl, List.forall_mem_cons.mpr ⟨rfl, List.forall_mem_cons.mpr ⟨rfl, List.forall_mem_cons.mpr ⟨rfl, List.forall_mem_cons.mpr ⟨rfl, List.forall_mem_cons.mpr ⟨rfl, List.forall_mem_cons.mpr ⟨rfl, fun _ h => absurd h List.not_mem_nil⟩⟩⟩⟩⟩⟩⟩⟩⟩⟩) ?_
                  exact ih34505 (z34493 + 1) z34624 μ34625 T34629 (mF.call (mF.call mF.refl F34499 rfl) F34630 rfl) (rW (c := 1) (d := 30) (rAdd (e := 2) (f := 30) h34568 (rR (x := 1)) rfl) rfl) (rW (c := 0) (d := 1) h34650 rfl) (vc_X12_through_122 h31929 h31929.1 h34501 h34502 h34567 h34648 h31931 h34570 h31900 h33776 h34569 h34572 h34568 h34650) (vc_X12_through_123 h31929 h34501 h34502 h34567 h31929.1 h31931 h34570 h31900 h33776 h34569 h34572 h34568) I34632 (vc_X12_through_124 (nS h34504) h34501 h34502 h34567 h34570 h34648 h31929 h31929.1 h31900 h33776 h34569 h34572 h34568 h34650)
                have h34651 : 0 ≤ z34623 ∧ z34623 ≤ 299 := (vc_X12_through_48 h34647 h34628 h34637)
                have h34652 : 1 ≤ z34635 ∧ z34635 ≤ 300 := (vc_X12_through_49 h34647 h34651 h34637)
                refine xmr_iload (pc := 155) (z := z34624) dX12_through_155 rfl ?_
                refine xmr_if_eq (pc := 157) (tgt := 187) dX12_through_157 (by decide) (r32 h34627 rfl) (fun h34660 => ?_) (fun h34660 => ?_)
                · have h34661 : 0 ≤ z34624 ∧ z34624 ≤ 0 := (vc_X12_ring_22 h34660 h34627)
                  refine xmr_iload (pc := 187) (z := z34624) dX12_through_187 rfl ?_
                  refine xmr_if_ne (pc := 189) (tgt := 100) dX12_through_189 (by decide) (r32 h34661 rfl) (fun h => ((vc_X10_firstWrongStep_7 h h34661)).elim) (fun _ => ?_)
                  refine xmr_iinc (pc := 192) (lv' := [(9, iv (z34493 + 1)), (0, .ref 106), (2, iv p2), (3, iv p3), (4, iv p4), (5, iv z31895), (6, iv z31894), (7, iv (z31895 - 1)), (8, iv z31916), (10, iv z34624), (11, iv z34623)]) dX12_through_192 rfl (by decide) rfl ?_
                  refine xsv_goto (pc := 195) (tgt := 100) dX12_through_195 (by decide) ?_
                  refine xmr_lvS (lv' := [(0, .ref 106), (2, iv p2), (3, iv p3), (4, iv p4), (5, iv z31895), (6, iv z31894), (7, iv (z31895 - 1)), (8, iv z31916), (9, iv (z34493 + 1)), (10, iv z34624)]) (List.forall_mem_cons.mpr ⟨rfl, List.forall_mem_cons.mpr ⟨rfl, List.forall_mem_cons.mpr ⟨rfl, List.forall_mem_cons.mpr ⟨rfl, List.forall_mem_cons.mpr ⟨rfl, List.forall_mem_cons.mpr ⟨rfl, List.forall_mem_cons.mpr ⟨rfl, List.forall_mem_cons.mpr ⟨rfl, List.forall_mem_cons.mpr ⟨rfl, List.forall_mem_cons.mpr ⟨rfl, fun _ h => absurd h List.not_mem_nil⟩⟩⟩⟩⟩⟩⟩⟩⟩⟩) ?_
                  exact ih34505 (z34493 + 1) z34624 μ34625 T34629 (mF.call (mF.call mF.refl F34499 rfl) F34630 rfl) (rW (c := 1) (d := 30) (rAdd (e := 2) (f := 30) h34568 (rR (x := 1)) rfl) rfl) (rW (c := 0) (d := 1) h34661 rfl) (vc_X12_through_122 h31929 h31929.1 h34501 h34502 h34567 h34660 h31931 h34570 h31900 h33776 h34569 h34572 h34568 h34661) (vc_X12_through_123 h31929 h34501 h34502 h34567 h31929.1 h31931 h34570 h31900 h33776 h34569 h34572 h34568) I34632 (vc_X12_through_124 (nS h34504) h34501 h34502 h34567 h34570 h34660 h31929 h31929.1 h31900 h33776 h34569 h34572 h34568 h34661)
                have h34662 : 1 ≤ z34624 ∧ z34624 ≤ 1 := (vc_X12_ring_24 h34660 h34627)
                refine xsv_aload_n (pc := 160) dX12_through_160 rfl rfl ?_
                refine xmr_iload (pc := 161) (z := z31916) dX12_through_161 rfl ?_
                refine xmr_sipush (pc := 163) (z := 300) dX12_through_163 (by decide) ?_
                refine xmr_iload (pc := 166) (z := z31916) dX12_through_166 rfl ?_
                refine xmr_imul (pc := 168) (x := 300) (y := z31916) dX12_through_168 ?_
                refine xmr_iload (pc := 169) (z := z34623) dX12_through_169 rfl ?_
                refine xmr_iadd (pc := 171) (x := (300 * z31916)) (y := z34623) dX12_through_171 ?_
                refine xmr_iload_n (pc := 172) (z := p2) dX12_through_172 rfl rfl ?_
                refine xmr_iload_n (pc := 173) (z := p3) dX12_through_173 rfl rfl ?_
                refine xmr_iload (pc := 174) (z := p4) dX12_through_174 rfl ?_
                refine xmr_cVI (pc := 176) (cx_X12_isSo hw T34629 h31918 (rW (c := 0) (d := 3899) (rAdd (e := 0) (f := 3599) (rMulL (n := 300) (e := 0) (f := 3300) h31918 rfl) h34651 rfl) rfl) hp2 hp3 hp4 hg1 (F34630.f (A_110 hw) rfl (F34499.f (A_110 hw) rfl (F31902.f (A_110 hw) rfl (u17644.f (Or.inl (mAt.ne (A_153 hw) (A_110 hw) rfl)) (u17641.f (Or.inl (mAt.ne (A_152 hw) (A_110 hw) rfl)) (u17638.f (Or.inl (mAt.ne (A_151 hw) (A_110 hw) rfl)) q_f_e0)))))) (F34630.f (A_110 hw) rfl (F34499.f (A_110 hw) rfl (F31902.f (A_110 hw) rfl (u17644.f (Or.inl (mAt.ne (A_153 hw) (A_110 hw) rfl)) (u17641.f (Or.inl (mAt.ne (A_152 hw) (A_110 hw) rfl)) (u17638.f (Or.inl (mAt.ne (A_151 hw) (A_110 hw) rfl)) q_f_e1)))))) (F34630.f (A_106 hw) rfl (F34499.f (A_106 hw) rfl (F31902.f (A_106 hw) rfl (u17644.f (Or.inl (mAt.ne (A_153 hw) (A_106 hw) rfl)) (u17641.f (Or.inl (mAt.ne (A_152 hw) (A_106 hw) rfl)) (u17638.f (Or.inl (mAt.ne (A_151 hw) (A_106 hw) rfl)) q_f_ties)))))) (F34630.f (A_126 hw) rfl (F34499.f (A_126 hw) rfl q31909)) (vc_X12_tieWord_2 hq0 h2 hg1) (vc_X12_tieWord_3 hq1 ht_f_e0 ht_f_e1 hp3 hp4) (vc_X12_through_53 h31904 hq2 h3 h31912) (fun i a b => Or.inl (hR i a b)) hK (fun i a => Or.inl (h110 i a)) (fun i a => Or.inl (h111 i a)) (fun a x y => Or.inl (h132 a _ x (by omega) (by omega))) (Or.inl (h127 _ (by omega)).2) (fun i _ b => ⟨Or.inl (h143 i (by omega)).1, Or.inl (h143 i (by omega)).2⟩) (by rw [h31904]; exact ⟨Or.inl hx.1, Or.inl hx.2⟩) (Or.inl h17) (fun n z a b => by rw [h31904]; exact hJ z31895 _ n z T34629 (mF.call (mF.call (mF.call (mF.up (mF.up (mF.up mF.refl (A_151 hw) u17638 rfl) (A_152 hw) u17641 rfl) (A_153 hw) u17644 rfl) F31902 rfl) F34499 rfl) F34630 rfl) a b)) (gOk _ _ _ _ _) dX12_through_176 (tX12_isSo _ _ _ _ _) ⟨wV_X12_isSo, wL_X12_isSo⟩ wM_X12_397 (gCX12 _ _ _ _ _) rfl (A_106 hw) rfl ⟨le_t rfl, le_t rfl⟩ ⟨le_t rfl, le_t rfl⟩ rfl (le_t rfl) fun z34667 μ34663 T34664 F34665 h34666 => ?_
                refine xmr_istore (pc := 179) (lv' := [(10, iv z34667), (0, .ref 106), (2, iv p2), (3, iv p3), (4, iv p4), (5, iv z31895), (6, iv z31894), (7, iv (z31895 - 1)), (8, iv z31916), (9, iv z34493), (11, iv z34623)]) dX12_through_179 (by decide) rfl ?_
                refine xmr_iinc (pc := 181) (lv' := [(11, iv (z34623 + 1)), (10, iv z34667), (0, .ref 106), (2, iv p2), (3, iv p3), (4, iv p4), (5, iv z31895), (6, iv z31894), (7, iv (z31895 - 1)), (8, iv z31916), (9, iv z34493)]) dX12_through_181 rfl (by decide) rfl ?_
                refine xsv_goto (pc := 184) (tgt := 135) dX12_through_184 (by decide) ?_
                refine xmr_lvS (lv' := [(0, .ref 106), (2, iv p2), (3, iv p3), (4, iv p4), (5, iv z31895), (6, iv z31894), (7, iv (z31895 - 1)), (8, iv z31916), (9, iv z34493), (10, iv z34667), (11, iv (z34623 + 1))]) (List.forall_mem_cons.mpr ⟨rfl, List.forall_mem_cons.mpr ⟨rfl, List.forall_mem_cons.mpr ⟨rfl, List.forall_mem_cons.mpr ⟨rfl, List.forall_mem_cons.mpr ⟨rfl, List.forall_mem_cons.mpr ⟨rfl, List.forall_mem_cons.mpr ⟨rfl, List.forall_mem_cons.mpr ⟨rfl, List.forall_mem_cons.mpr ⟨rfl, List.forall_mem_cons.mpr ⟨rfl, List.forall_mem_cons.mpr ⟨rfl, fun _ h => absurd h List.not_mem_nil⟩⟩⟩⟩⟩⟩⟩⟩⟩⟩⟩) ?_
                exact ih34634 z34667 (z34623 + 1) μ34663 T34664 (mF.call (mF.call mF.refl F34630 rfl) F34665 rfl) h34666.1 (rW (c := 0) (d := 300) (rAdd (e := 1) (f := 300) h34651 (rR (x := 1)) rfl) rfl) (PK.keep I34632 hw ((mF.call mF.refl F34665 rfl) : mF [106026, 106027, 106028, 106029, 106030, 106031] w μ34625 μ34663) rfl) (vc_X12_through_54 (nS h34633) h34647 h34651 h34652)
            refine xmr_lvS (lv' := [(0, .ref 106), (2, iv p2), (3, iv p3), (4, iv p4), (5, iv z31895), (6, iv z31894), (7, iv (z31895 - 1)), (8, iv z31916), (9, iv z34493), (10, iv 1), (11, iv z34573)]) (List.forall_mem_cons.mpr ⟨rfl, List.forall_mem_cons.mpr ⟨rfl, List.forall_mem_cons.mpr ⟨rfl, List.forall_mem_cons.mpr ⟨rfl, List.forall_mem_cons.mpr ⟨rfl, List.forall_mem_cons.mpr ⟨rfl, List.forall_mem_cons.mpr ⟨rfl, List.forall_mem_cons.mpr ⟨rfl, List.forall_mem_cons.mpr ⟨rfl, List.forall_mem_cons.mpr ⟨rfl, List.forall_mem_cons.mpr ⟨rfl, fun _ h => absurd h List.not_mem_nil⟩⟩⟩⟩⟩⟩⟩⟩⟩⟩⟩) ?_
            exact L34626 302 1 z34573 μ34494 T34498 mF.refl (rW (c := 0) (d := 1) (rR (x := 1)) rfl) h34575 I34503 (vc_X12_through_55 h34575)
        refine xmr_lvS (lv' := [(0, .ref 106), (2, iv p2), (3, iv p3), (4, iv p4), (5, iv z31895), (6, iv z31894), (7, iv (z31895 - 1)), (8, iv z31916), (9, iv (z31920 + 1)), (10, iv 0)]) (List.forall_mem_cons.mpr ⟨rfl, List.forall_mem_cons.mpr ⟨rfl, List.forall_mem_cons.mpr ⟨rfl, List.forall_mem_cons.mpr ⟨rfl, List.forall_mem_cons.mpr ⟨rfl, List.forall_mem_cons.mpr ⟨rfl, List.forall_mem_cons.mpr ⟨rfl, List.forall_mem_cons.mpr ⟨rfl, List.forall_mem_cons.mpr ⟨rfl, List.forall_mem_cons.mpr ⟨rfl, fun _ h => absurd h List.not_mem_nil⟩⟩⟩⟩⟩⟩⟩⟩⟩⟩) ?_
        exact L34495 69 (z31920 + 1) 0 μ31896 T31901 mF.refl (rAdd (e := 1) (f := 30) h33776 (rR (x := 1)) rfl) (rW (c := 0) (d := 1) (rR (x := 0)) rfl) (vc_X12_through_130 h31929 h31929.1 h31931 h31900 h33776 h31925) (vc_X12_through_131 h31929 h31929.1 h31931 h31900 h33776 h31925) I31905 (vc_X12_through_132 h31929 h31929.1 h31931 h31900 h33776 h31925)
    refine xmr_lvS (lv' := [(0, .ref 106), (2, iv p2), (3, iv p3), (4, iv p4), (5, iv 1), (6, iv 0)]) (List.forall_mem_cons.mpr ⟨rfl, List.forall_mem_cons.mpr ⟨rfl, List.forall_mem_cons.mpr ⟨rfl, List.forall_mem_cons.mpr ⟨rfl, List.forall_mem_cons.mpr ⟨rfl, List.forall_mem_cons.mpr ⟨rfl, fun _ h => absurd h List.not_mem_nil⟩⟩⟩⟩⟩⟩) ?_
    refine VS.mono (Slev.ins (n := 0) (by omega)) ?_; exact L31897 50136 1 0 (-1) μ17643 f_x T17645 mF.refl mG.refl (u17644.f (Or.inl (mAt.ne (A_153 hw) (A_126 hw) rfl)) (u17641.f (Or.inl (mAt.ne (A_152 hw) (A_126 hw) rfl)) (u17638.f (Or.inl (mAt.ne (A_151 hw) (A_126 hw) rfl)) q_f_x))) (rW (c := 0) (d := 12) (rR (x := 1)) rfl) (rW (c := 0) (d := 500) (rR (x := 0)) rfl) (rW (c := (-1)) (d := 30) (rR (x := (-1))) rfl) (vc_X12_through_134 hq2 h3) (PK.keep hIPK hw ((mF.up (mF.up (mF.up mF.refl (A_151 hw) u17638 rfl) (A_152 hw) u17641 rfl) (A_153 hw) u17644 rfl) : mF [151999, 152999, 153999] w μ μ17643) rfl) (lvOK.pred I17649 vc_X12_through_136) (Or.inr (eqIx vc_X12_through_133 (u17644.f (Or.inl (mAt.ne (A_153 hw) (A_152 hw) rfl)) u17641.1))) vc_X12_through_135
  have h34668 : (-99999999) ≤ p1 ∧ p1 ≤ (-99999999) := (vc_X12_through_137 h17636 hq3 ht_f_pol hp1)
  refine xmr_iconst (pc := 6) (z := 1) dX12_through_6 ?_
  exact xmr_zret dX12_through_7 rfl (rW (c := 0) (d := 1) (rR (x := 1)) rfl) (le_t rfl) (le_t rfl) hT mF.refl ⟨f_x, q_f_x, (rW (c := 0) (d := 1) (rR (x := 1)) rfl), mG.refl, (vc_X12_through_134 hq2 h3), trivial⟩
end
section
/-- the cache of judged behind it -/
def jE (μ : mM) (a b c d z : Int) : mM := if μ 106 26 ≠ 0 ∧ μ 106 27 = a ∧ μ 106 28 = b ∧ μ 106 29 = c ∧ μ 106 30 = d then μ else mUp (mUp (mUp (mUp (mUp (mUp μ 106 31 z) 106 27 a) 106 28 b) 106 29 c) 106 30 d) 106 26 1
theorem jE.hit {μ : mM} {a b c d z : Int} (h : μ 106 26 ≠ 0 ∧ μ 106 27 = a ∧ μ 106 28 = b ∧ μ 106 29 = c ∧ μ 106 30 = d) : jE μ a b c d z = μ := if_pos h
theorem jE.miss {μ m1 m2 m3 m4 m5 m6 : mM} {a b c d z : Int} (h : ¬ (μ 106 26 ≠ 0 ∧ μ 106 27 = a ∧ μ 106 28 = b ∧ μ 106 29 = c ∧ μ 106 30 = d)) (u1 : mU μ 106 31 z m1) (u2 : mU m1 106 27 a m2) (u3 : mU m2 106 28 b m3) (u4 : mU m3 106 29 c m4) (u5 : mU m4 106 30 d m5) (u6 : mU m5 106 26 1 m6) : m6 106 31 = z ∧ m6 = jE μ a b c d z := by
  refine ⟨?_, ?_⟩
  · rw [u6.2 106 31 (Or.inr (by decide)), u5.2 106 31 (Or.inr (by decide)), u4.2 106 31 (Or.inr (by decide)), u3.2 106 31 (Or.inr (by decide)), u2.2 106 31 (Or.inr (by decide)), u1.1]
  · rw [u6.eq, u5.eq, u4.eq, u3.eq, u2.eq, u1.eq, jE, if_neg h]
set_option maxRecDepth 4000 in
set_option maxHeartbeats 4000000 in
theorem c_X12_judged_f {l : Launch} {D : va_G} {c : Nat → ClassId} {H0 : Heap} {sa : Nat × Nat × (Nat → Int32)} {w : mW} {μ : mM} (hw : mWF w) (hT : mT w μ) {p1 : Int} (hp1 : 0 ≤ p1 ∧ p1 ≤ 9) {p2 : Int} (hp2 : (-2147483648) ≤ p2 ∧ p2 ≤ 2147483647) {p3 : Int} (hp3 : (-2147483648) ≤ p3 ∧ p3 ≤ 2147483647) {p4 : Int} (hp4 : (-2147483648) ≤ p4 ∧ p4 ≤ 2147483647) {z0 : Int} (hz0 : 0 ≤ z0 ∧ z0 ≤ 2) (hA : sC (gG l D c H0 sa) mX12_judgedAnew 3 0 0 [.ref 106, iv p1, iv p2, iv p3, iv p4] (mk w μ) (qP w μ (fun z => z = z0))) (hC : μ 106 26 ≠ 0 → μ 106 27 = p1 → μ 106 28 = p2 → μ 106 29 = p3 → μ 106 30 = p4 → μ 106 31 = z0) : sC (gG l D c H0 sa) mX12_judged 4 0 0 [.ref 106, iv p1, iv p2, iv p3, iv p4] (mk w μ) (qI w [106026, 106027, 106028, 106029, 106030, 106031] μ (fun z μ1 => z = z0 ∧ μ1 = jE μ p1 p2 p3 p4 z0)) := by
  refine sC.of rfl (by decide) (le_t rfl) ?_
  refine mr_lvE (lv' := [(0, .ref 106), (1, iv p1), (2, iv p2), (3, iv p3), (4, iv p4)]) rfl ?_
  refine sv_aload_n (pc := 0) dX12_judged_0 rfl rfl ?_
  refine gf_X12_26 (pc := 1) dX12_judged_1 wF_X12_119 (A_106 hw) hT fun z1 q2 h3 => ?_
  have J138 : ∀ (μ134 : mM), (mT w μ134) → (mF [106026, 106027, 106028, 106029, 106030, 106031] w μ μ134) → (μ134 106 31 = z0 ∧ μ134 = jE μ p1 p2 p3 p4 z0) → sV (gG l D c H0 sa) mX12_judged (sRm 4 0 0) (sZ (gG l D c H0 sa) 0 0 (qI w [106026, 106027, 106028, 106029, 106030, 106031] μ (fun z μ1 => z = z0 ∧ μ1 = jE μ p1 p2 p3 p4 z0))) 79 [(0, .ref 106)] [] (mk w μ134) 0 0 := by
    intro μ134 T135 F136 hE
    refine sv_aload_n (pc := 79) dX12_judged_79 rfl rfl ?_
    refine gf_X12_31 (pc := 80) dX12_judged_80 wF_X12_139 (A_106 hw) T135 fun z139 q140 h141 => ?_
    exact mr_iret dX12_judged_83 rfl (le_t rfl) (le_t rfl) T135 (mF.call mF.refl F136 rfl) ⟨q140.symm.trans hE.1, hE.2⟩
  refine mr_if_eq (pc := 4) (tgt := 40) dX12_judged_4 (by decide) (r32 h3 rfl) (fun h142 => ?_) (fun h142 => ?_)
  · have h143 : 0 ≤ z1 ∧ z1 ≤ 0 := (vc_X12_ring_22 h142 h3)
    refine sv_aload_n (pc := 40) dX12_judged_40 rfl rfl ?_
    refine sv_aload_n (pc := 41) dX12_judged_41 rfl rfl ?_
    refine mr_iload_n (pc := 42) (z := p1) dX12_judged_42 rfl rfl ?_
    refine mr_iload_n (pc := 43) (z := p2) dX12_judged_43 rfl rfl ?_
    refine mr_iload_n (pc := 44) (z := p3) dX12_judged_44 rfl rfl ?_
    refine mr_iload (pc := 45) (z := p4) dX12_judged_45 rfl ?_
    refine mr_cVP (pc := 47) hA (gOk _ _ _ _ _) dX12_judged_47 (tX12_judgedAnew _ _ _ _ _) ⟨wV_X12_judgedAnew, wL_X12_judgedAnew⟩ wM_X12_135 (gCX12 _ _ _ _ _) rfl (A_106 hw) rfl ⟨le_t rfl, le_t rfl⟩ ⟨le_t rfl, le_t rfl⟩ rfl (le_t rfl) fun z148 h147 => ?_
    refine pf_X12_31 (pc := 50) dX12_judged_50 wF_X12_139 (A_106 hw) hT (h147 ▸ hz0) fun μ149 u150 T151 => ?_
    refine sv_aload_n (pc := 53) dX12_judged_53 rfl rfl ?_
    refine mr_iload_n (pc := 54) (z := p1) dX12_judged_54 rfl rfl ?_
    refine pf_X12_27 (pc := 55) dX12_judged_55 wF_X12_123 (A_106 hw) T151 (rW (c := (-2147483648)) (d := 2147483647) hp1 rfl) fun μ152 u153 T154 => ?_
    refine sv_aload_n (pc := 58) dX12_judged_58 rfl rfl ?_
    refine mr_iload_n (pc := 59) (z := p2) dX12_judged_59 rfl rfl ?_
    refine pf_X12_28 (pc := 60) dX12_judged_60 wF_X12_126 (A_106 hw) T154 hp2 fun μ155 u156 T157 => ?_
    refine sv_aload_n (pc := 63) dX12_judged_63 rfl rfl ?_
    refine mr_iload_n (pc := 64) (z := p3) dX12_judged_64 rfl rfl ?_
    refine pf_X12_29 (pc := 65) dX12_judged_65 wF_X12_129 (A_106 hw) T157 hp3 fun μ158 u159 T160 => ?_
    refine sv_aload_n (pc := 68) dX12_judged_68 rfl rfl ?_
    refine mr_iload (pc := 69) (z := p4) dX12_judged_69 rfl ?_
    refine pf_X12_30 (pc := 71) dX12_judged_71 wF_X12_132 (A_106 hw) T160 hp4 fun μ161 u162 T163 => ?_
    refine sv_aload_n (pc := 74) dX12_judged_74 rfl rfl ?_
    refine mr_iconst (pc := 75) (z := 1) dX12_judged_75 ?_
    refine pf_X12_26 (pc := 76) dX12_judged_76 wF_X12_119 (A_106 hw) T163 (rW (c := 0) (d := 1) (rR (x := 1)) rfl) fun μ164 u165 T166 => ?_
    refine mr_lvS (lv' := [(0, .ref 106)]) (List.forall_mem_cons.mpr ⟨rfl, fun _ h => absurd h List.not_mem_nil⟩) ?_
    exact J138 μ164 T166 (mF.up (mF.up (mF.up (mF.up (mF.up (mF.up mF.refl (A_106 hw) u150 rfl) (A_106 hw) u153 rfl) (A_106 hw) u156 rfl) (A_106 hw) u159 rfl) (A_106 hw) u162 rfl) (A_106 hw) u165 rfl) (jE.miss (fun hh => by clear hC; omega) (h147 ▸ u150) u153 u156 u159 u162 u165)
  have h167 : 1 ≤ z1 ∧ z1 ≤ 1 := (vc_X12_ring_24 h142 h3)
  refine sv_aload_n (pc := 7) dX12_judged_7 rfl rfl ?_
  refine gf_X12_27 (pc := 8) dX12_judged_8 wF_X12_123 (A_106 hw) hT fun z168 q169 h170 => ?_
  refine mr_iload_n (pc := 11) (z := p1) dX12_judged_11 rfl rfl ?_
  refine mr_icmp_ne (pc := 12) (tgt := 40) dX12_judged_12 (by decide) h170 (r32 hp1 rfl) (fun h171 => ?_) (fun h171 => ?_)
  · refine sv_aload_n (pc := 40) dX12_judged_40 rfl rfl ?_
    refine sv_aload_n (pc := 41) dX12_judged_41 rfl rfl ?_
    refine mr_iload_n (pc := 42) (z := p1) dX12_judged_42 rfl rfl ?_
    refine mr_iload_n (pc := 43) (z := p2) dX12_judged_43 rfl rfl ?_
    refine mr_iload_n (pc := 44) (z := p3) dX12_judged_44 rfl rfl ?_
    refine mr_iload (pc := 45) (z := p4) dX12_judged_45 rfl ?_
    refine mr_cVP (pc := 47) hA (gOk _ _ _ _ _) dX12_judged_47 (tX12_judgedAnew _ _ _ _ _) ⟨wV_X12_judgedAnew, wL_X12_judgedAnew⟩ wM_X12_135 (gCX12 _ _ _ _ _) rfl (A_106 hw) rfl ⟨le_t rfl, le_t rfl⟩ ⟨le_t rfl, le_t rfl⟩ rfl (le_t rfl) fun z176 h175 => ?_
    refine pf_X12_31 (pc := 50) dX12_judged_50 wF_X12_139 (A_106 hw) hT (h175 ▸ hz0) fun μ177 u178 T179 => ?_
    refine sv_aload_n (pc := 53) dX12_judged_53 rfl rfl ?_
    refine mr_iload_n (pc := 54) (z := p1) dX12_judged_54 rfl rfl ?_
    refine pf_X12_27 (pc := 55) dX12_judged_55 wF_X12_123 (A_106 hw) T179 (rW (c := (-2147483648)) (d := 2147483647) hp1 rfl) fun μ180 u181 T182 => ?_
    refine sv_aload_n (pc := 58) dX12_judged_58 rfl rfl ?_
    refine mr_iload_n (pc := 59) (z := p2) dX12_judged_59 rfl rfl ?_
    refine pf_X12_28 (pc := 60) dX12_judged_60 wF_X12_126 (A_106 hw) T182 hp2 fun μ183 u184 T185 => ?_
    refine sv_aload_n (pc := 63) dX12_judged_63 rfl rfl ?_
    refine mr_iload_n (pc := 64) (z := p3) dX12_judged_64 rfl rfl ?_
    refine pf_X12_29 (pc := 65) dX12_judged_65 wF_X12_129 (A_106 hw) T185 hp3 fun μ186 u187 T188 => ?_
    refine sv_aload_n (pc := 68) dX12_judged_68 rfl rfl ?_
    refine mr_iload (pc := 69) (z := p4) dX12_judged_69 rfl ?_
    refine pf_X12_30 (pc := 71) dX12_judged_71 wF_X12_132 (A_106 hw) T188 hp4 fun μ189 u190 T191 => ?_
    refine sv_aload_n (pc := 74) dX12_judged_74 rfl rfl ?_
    refine mr_iconst (pc := 75) (z := 1) dX12_judged_75 ?_
    refine pf_X12_26 (pc := 76) dX12_judged_76 wF_X12_119 (A_106 hw) T191 (rW (c := 0) (d := 1) (rR (x := 1)) rfl) fun μ192 u193 T194 => ?_
    refine mr_lvS (lv' := [(0, .ref 106)]) (List.forall_mem_cons.mpr ⟨rfl, fun _ h => absurd h List.not_mem_nil⟩) ?_
    exact J138 μ192 T194 (mF.up (mF.up (mF.up (mF.up (mF.up (mF.up mF.refl (A_106 hw) u178 rfl) (A_106 hw) u181 rfl) (A_106 hw) u184 rfl) (A_106 hw) u187 rfl) (A_106 hw) u190 rfl) (A_106 hw) u193 rfl) (jE.miss (fun hh => by clear hC; omega) (h175 ▸ u178) u181 u184 u187 u190 u193)
  have h195 : 0 ≤ z168 ∧ z168 ≤ 9 := (vc_X12_judged_3 h171 hp1 h170)
  refine sv_aload_n (pc := 15) dX12_judged_15 rfl rfl ?_
  refine gf_X12_28 (pc := 16) dX12_judged_16 wF_X12_126 (A_106 hw) hT fun z196 q197 h198 => ?_
  refine mr_iload_n (pc := 19) (z := p2) dX12_judged_19 rfl rfl ?_
  refine mr_icmp_ne (pc := 20) (tgt := 40) dX12_judged_20 (by decide) h198 hp2 (fun h199 => ?_) (fun h199 => ?_)
  · refine sv_aload_n (pc := 40) dX12_judged_40 rfl rfl ?_
    refine sv_aload_n (pc := 41) dX12_judged_41 rfl rfl ?_
    refine mr_iload_n (pc := 42) (z := p1) dX12_judged_42 rfl rfl ?_
    refine mr_iload_n (pc := 43) (z := p2) dX12_judged_43 rfl rfl ?_
    refine mr_iload_n (pc := 44) (z := p3) dX12_judged_44 rfl rfl ?_
    refine mr_iload (pc := 45) (z := p4) dX12_judged_45 rfl ?_
    refine mr_cVP (pc := 47) hA (gOk _ _ _ _ _) dX12_judged_47 (tX12_judgedAnew _ _ _ _ _) ⟨wV_X12_judgedAnew, wL_X12_judgedAnew⟩ wM_X12_135 (gCX12 _ _ _ _ _) rfl (A_106 hw) rfl ⟨le_t rfl, le_t rfl⟩ ⟨le_t rfl, le_t rfl⟩ rfl (le_t rfl) fun z204 h203 => ?_
    refine pf_X12_31 (pc := 50) dX12_judged_50 wF_X12_139 (A_106 hw) hT (h203 ▸ hz0) fun μ205 u206 T207 => ?_
    refine sv_aload_n (pc := 53) dX12_judged_53 rfl rfl ?_
    refine mr_iload_n (pc := 54) (z := p1) dX12_judged_54 rfl rfl ?_
    refine pf_X12_27 (pc := 55) dX12_judged_55 wF_X12_123 (A_106 hw) T207 (rW (c := (-2147483648)) (d := 2147483647) hp1 rfl) fun μ208 u209 T210 => ?_
    refine sv_aload_n (pc := 58) dX12_judged_58 rfl rfl ?_
    refine mr_iload_n (pc := 59) (z := p2) dX12_judged_59 rfl rfl ?_
    refine pf_X12_28 (pc := 60) dX12_judged_60 wF_X12_126 (A_106 hw) T210 hp2 fun μ211 u212 T213 => ?_
    refine sv_aload_n (pc := 63) dX12_judged_63 rfl rfl ?_
    refine mr_iload_n (pc := 64) (z := p3) dX12_judged_64 rfl rfl ?_
    refine pf_X12_29 (pc := 65) dX12_judged_65 wF_X12_129 (A_106 hw) T213 hp3 fun μ214 u215 T216 => ?_
    refine sv_aload_n (pc := 68) dX12_judged_68 rfl rfl ?_
    refine mr_iload (pc := 69) (z := p4) dX12_judged_69 rfl ?_
    refine pf_X12_30 (pc := 71) dX12_judged_71 wF_X12_132 (A_106 hw) T216 hp4 fun μ217 u218 T219 => ?_
    refine sv_aload_n (pc := 74) dX12_judged_74 rfl rfl ?_
    refine mr_iconst (pc := 75) (z := 1) dX12_judged_75 ?_
    refine pf_X12_26 (pc := 76) dX12_judged_76 wF_X12_119 (A_106 hw) T219 (rW (c := 0) (d := 1) (rR (x := 1)) rfl) fun μ220 u221 T222 => ?_
    refine mr_lvS (lv' := [(0, .ref 106)]) (List.forall_mem_cons.mpr ⟨rfl, fun _ h => absurd h List.not_mem_nil⟩) ?_
    exact J138 μ220 T222 (mF.up (mF.up (mF.up (mF.up (mF.up (mF.up mF.refl (A_106 hw) u206 rfl) (A_106 hw) u209 rfl) (A_106 hw) u212 rfl) (A_106 hw) u215 rfl) (A_106 hw) u218 rfl) (A_106 hw) u221 rfl) (jE.miss (fun hh => by clear hC; omega) (h203 ▸ u206) u209 u212 u215 u218 u221)
  refine sv_aload_n (pc := 23) dX12_judged_23 rfl rfl ?_
  refine gf_X12_29 (pc := 24) dX12_judged_24 wF_X12_129 (A_106 hw) hT fun z223 q224 h225 => ?_
  refine mr_iload_n (pc := 27) (z := p3) dX12_judged_27 rfl rfl ?_
  refine mr_icmp_ne (pc := 28) (tgt := 40) dX12_judged_28 (by decide) h225 hp3 (fun h226 => ?_) (fun h226 => ?_)
  · refine sv_aload_n (pc := 40) dX12_judged_40 rfl rfl ?_
    refine sv_aload_n (pc := 41) dX12_judged_41 rfl rfl ?_
    refine mr_iload_n (pc := 42) (z := p1) dX12_judged_42 rfl rfl ?_
    refine mr_iload_n (pc := 43) (z := p2) dX12_judged_43 rfl rfl ?_
    refine mr_iload_n (pc := 44) (z := p3) dX12_judged_44 rfl rfl ?_
    refine mr_iload (pc := 45) (z := p4) dX12_judged_45 rfl ?_
    refine mr_cVP (pc := 47) hA (gOk _ _ _ _ _) dX12_judged_47 (tX12_judgedAnew _ _ _ _ _) ⟨wV_X12_judgedAnew, wL_X12_judgedAnew⟩ wM_X12_135 (gCX12 _ _ _ _ _) rfl (A_106 hw) rfl ⟨le_t rfl, le_t rfl⟩ ⟨le_t rfl, le_t rfl⟩ rfl (le_t rfl) fun z231 h230 => ?_
    refine pf_X12_31 (pc := 50) dX12_judged_50 wF_X12_139 (A_106 hw) hT (h230 ▸ hz0) fun μ232 u233 T234 => ?_
    refine sv_aload_n (pc := 53) dX12_judged_53 rfl rfl ?_
    refine mr_iload_n (pc := 54) (z := p1) dX12_judged_54 rfl rfl ?_
    refine pf_X12_27 (pc := 55) dX12_judged_55 wF_X12_123 (A_106 hw) T234 (rW (c := (-2147483648)) (d := 2147483647) hp1 rfl) fun μ235 u236 T237 => ?_
    refine sv_aload_n (pc := 58) dX12_judged_58 rfl rfl ?_
    refine mr_iload_n (pc := 59) (z := p2) dX12_judged_59 rfl rfl ?_
    refine pf_X12_28 (pc := 60) dX12_judged_60 wF_X12_126 (A_106 hw) T237 hp2 fun μ238 u239 T240 => ?_
    refine sv_aload_n (pc := 63) dX12_judged_63 rfl rfl ?_
    refine mr_iload_n (pc := 64) (z := p3) dX12_judged_64 rfl rfl ?_
    refine pf_X12_29 (pc := 65) dX12_judged_65 wF_X12_129 (A_106 hw) T240 hp3 fun μ241 u242 T243 => ?_
    refine sv_aload_n (pc := 68) dX12_judged_68 rfl rfl ?_
    refine mr_iload (pc := 69) (z := p4) dX12_judged_69 rfl ?_
    refine pf_X12_30 (pc := 71) dX12_judged_71 wF_X12_132 (A_106 hw) T243 hp4 fun μ244 u245 T246 => ?_
    refine sv_aload_n (pc := 74) dX12_judged_74 rfl rfl ?_
    refine mr_iconst (pc := 75) (z := 1) dX12_judged_75 ?_
    refine pf_X12_26 (pc := 76) dX12_judged_76 wF_X12_119 (A_106 hw) T246 (rW (c := 0) (d := 1) (rR (x := 1)) rfl) fun μ247 u248 T249 => ?_
    refine mr_lvS (lv' := [(0, .ref 106)]) (List.forall_mem_cons.mpr ⟨rfl, fun _ h => absurd h List.not_mem_nil⟩) ?_
    exact J138 μ247 T249 (mF.up (mF.up (mF.up (mF.up (mF.up (mF.up mF.refl (A_106 hw) u233 rfl) (A_106 hw) u236 rfl) (A_106 hw) u239 rfl) (A_106 hw) u242 rfl) (A_106 hw) u245 rfl) (A_106 hw) u248 rfl) (jE.miss (fun hh => by clear hC; omega) (h230 ▸ u233) u236 u239 u242 u245 u248)
  refine sv_aload_n (pc := 31) dX12_judged_31 rfl rfl ?_
  refine gf_X12_30 (pc := 32) dX12_judged_32 wF_X12_132 (A_106 hw) hT fun z250 q251 h252 => ?_
  refine mr_iload (pc := 35) (z := p4) dX12_judged_35 rfl ?_
  refine mr_icmp_eq (pc := 37) (tgt := 79) dX12_judged_37 (by decide) h252 hp4 (fun h253 => ?_) (fun h253 => ?_)
  · refine mr_lvS (lv' := [(0, .ref 106)]) (List.forall_mem_cons.mpr ⟨rfl, fun _ h => absurd h List.not_mem_nil⟩) ?_
    exact J138 μ hT mF.refl ⟨hC (by clear hC; omega) (by clear hC; omega) (by clear hC; omega) (by clear hC; omega) (by clear hC; omega), (jE.hit (by clear hC; omega)).symm⟩
  refine sv_aload_n (pc := 40) dX12_judged_40 rfl rfl ?_
  refine sv_aload_n (pc := 41) dX12_judged_41 rfl rfl ?_
  refine mr_iload_n (pc := 42) (z := p1) dX12_judged_42 rfl rfl ?_
  refine mr_iload_n (pc := 43) (z := p2) dX12_judged_43 rfl rfl ?_
  refine mr_iload_n (pc := 44) (z := p3) dX12_judged_44 rfl rfl ?_
  refine mr_iload (pc := 45) (z := p4) dX12_judged_45 rfl ?_
  refine mr_cVP (pc := 47) hA (gOk _ _ _ _ _) dX12_judged_47 (tX12_judgedAnew _ _ _ _ _) ⟨wV_X12_judgedAnew, wL_X12_judgedAnew⟩ wM_X12_135 (gCX12 _ _ _ _ _) rfl (A_106 hw) rfl ⟨le_t rfl, le_t rfl⟩ ⟨le_t rfl, le_t rfl⟩ rfl (le_t rfl) fun z258 h257 => ?_
  refine pf_X12_31 (pc := 50) dX12_judged_50 wF_X12_139 (A_106 hw) hT (h257 ▸ hz0) fun μ259 u260 T261 => ?_
  refine sv_aload_n (pc := 53) dX12_judged_53 rfl rfl ?_
  refine mr_iload_n (pc := 54) (z := p1) dX12_judged_54 rfl rfl ?_
  refine pf_X12_27 (pc := 55) dX12_judged_55 wF_X12_123 (A_106 hw) T261 (rW (c := (-2147483648)) (d := 2147483647) hp1 rfl) fun μ262 u263 T264 => ?_
  refine sv_aload_n (pc := 58) dX12_judged_58 rfl rfl ?_
  refine mr_iload_n (pc := 59) (z := p2) dX12_judged_59 rfl rfl ?_
  refine pf_X12_28 (pc := 60) dX12_judged_60 wF_X12_126 (A_106 hw) T264 hp2 fun μ265 u266 T267 => ?_
  refine sv_aload_n (pc := 63) dX12_judged_63 rfl rfl ?_
  refine mr_iload_n (pc := 64) (z := p3) dX12_judged_64 rfl rfl ?_
  refine pf_X12_29 (pc := 65) dX12_judged_65 wF_X12_129 (A_106 hw) T267 hp3 fun μ268 u269 T270 => ?_
  refine sv_aload_n (pc := 68) dX12_judged_68 rfl rfl ?_
  refine mr_iload (pc := 69) (z := p4) dX12_judged_69 rfl ?_
  refine pf_X12_30 (pc := 71) dX12_judged_71 wF_X12_132 (A_106 hw) T270 hp4 fun μ271 u272 T273 => ?_
  refine sv_aload_n (pc := 74) dX12_judged_74 rfl rfl ?_
  refine mr_iconst (pc := 75) (z := 1) dX12_judged_75 ?_
  refine pf_X12_26 (pc := 76) dX12_judged_76 wF_X12_119 (A_106 hw) T273 (rW (c := 0) (d := 1) (rR (x := 1)) rfl) fun μ274 u275 T276 => ?_
  refine mr_lvS (lv' := [(0, .ref 106)]) (List.forall_mem_cons.mpr ⟨rfl, fun _ h => absurd h List.not_mem_nil⟩) ?_
  exact J138 μ274 T276 (mF.up (mF.up (mF.up (mF.up (mF.up (mF.up mF.refl (A_106 hw) u260 rfl) (A_106 hw) u263 rfl) (A_106 hw) u266 rfl) (A_106 hw) u269 rfl) (A_106 hw) u272 rfl) (A_106 hw) u275 rfl) (jE.miss (fun hh => by clear hC; omega) (h257 ▸ u260) u263 u266 u269 u272 u275)
end
section
set_option maxRecDepth 4000 in
set_option maxHeartbeats 4000000 in
theorem cx_X12_candidate {l : Launch} {D : va_G} {c : Nat → ClassId} {H0 : Heap} {sa : Nat × Nat × (Nat → Int32)} {w : mW} {μ : mM} {K : (Nat → Int) → (Nat → Int) → Prop} {W S : Nat → Nat → Prop} (hw : mWF w) (hT : mT w μ) {p1 : Int} (hp1 : 0 ≤ p1 ∧ p1 ≤ 9) {p2 : Int} (hp2 : 0 ≤ p2 ∧ p2 ≤ 19) {p3 : Int} (hp3 : 0 ≤ p3 ∧ p3 ≤ 9) {f_e0 : Int} (q_f_e0 : μ 110 ((2 * p2).toNat) = f_e0) {f_e1 : Int} (q_f_e1 : μ 110 (((2 * p2) + 1).toNat) = f_e1) {f_ties : Int} (q_f_ties : μ 106 6 = f_ties) (hq0 : p2 < f_ties) (hq1 : f_e0 = p1 ∨ f_e1 = p1) (hIPK : PK μ) {sd : Int} (hsd : (f_e0 = p1 → sd = 0) ∧ (¬ f_e0 = p1 → sd = 1)) {x : Int} (q_x : μ 126 ((40 * (130 + ((2 * p2 + sd) * 10 + p3))).toNat) = x) {f_pol : Int} (q_pol : μ 106 39 = f_pol) (hH : ∀ i : Nat, 40 * (130 + ((2 * p2 + sd) * 10 + p3)) ≤ (i : Int) → (i : Int) < 40 * (130 + ((2 * p2 + sd) * 10 + p3)) + 40 → S 126 i) (hW : ∀ i : Nat, 40 * (4 + p2) ≤ (i : Int) → (i : Int) < 40 * (4 + p2) + 40 → W 126 i) (hK : ∀ γ f, K γ f → p2 < f 6) (h110 : ∀ i : Nat, (i : Int) ≤ 2 * p2 + 1 → S 110 i) (h111 : ∀ i : Nat, (i : Int) ≤ p2 → S 111 i) (h112 : S 112 p2.toNat) (h115 : S 115 (4 * p2 + 2 * sd).toNat) (h127 : ∀ i : Nat, (i : Int) < f_pol → S 127 i ∧ S 142 i) (h128 : ∀ i : Nat, (i : Int) < 31 * f_pol → S 128 i ∧ S 129 i) (h132 : ∀ a i : Nat, 132 ≤ a → a ≤ 141 → (i : Int) < 300 * f_pol → S a i) (h143 : ∀ i : Nat, (i : Int) < 41 * f_pol → S 143 i ∧ S 144 i) (hx : S 108 x.toNat ∧ S 109 x.toNat) (h17 : S 106 17) (hG : ∀ a i : Nat, 151 ≤ a → a ≤ 153 → W a i) (hN : ∀ i : Nat, 26 ≤ i → i ≤ 31 → ¬ S 106 i) (hJ : ∀ (S' : Nat → Nat → Prop) (μ' : mM) (n z : Int), (∀ a i, S a i → S' a i) → (∀ i : Nat, 26 ≤ i → i ≤ 31 → ¬ S' 106 i) → mT w μ' → mF [106026, 106027, 106028, 106029, 106030, 106031, 126999, 151999, 152999, 153999] w μ μ' → (-2147483648 ≤ n ∧ n ≤ 2147483647) → μ' 106 17 = z → (0 ≤ x ∧ x ≤ 9) → VC l D c H0 sa K W S' S' mX12_judged 4 [.ref 106, iv x, iv n, iv z, iv z] μ' (xqI w [106026, 106027, 106028, 106029, 106030, 106031] μ' (fun z _ => (0 ≤ z ∧ z ≤ 2) ∧ True))) : VC l D c H0 sa K W S (Sins S 126 (40 * (4 + p2)).toNat) mX12_candidate 7 [.ref 106, iv p1, iv p2, iv p3] μ (xqI w [106026, 106027, 106028, 106029, 106030, 106031, 126999, 151999, 152999, 153999] μ (fun z μ1 => ((-99999999) ≤ z ∧ z ≤ 10) ∧ mG [(((40 * p2) + 160), ((40 * p2) + 200))] μ μ1 ∧ (z = 0 → 0 ≤ μ1 126 (40 * (4 + p2)).toNat) ∧ (μ1 126 (40 * (4 + p2)).toNat < 0 ∨ μ1 126 (40 * (4 + p2)).toNat = x))) := by
  refine VC.of rfl (by decide) (le_t rfl) ?_
  have ht_f_e0 : (0 ≤ f_e0 ∧ f_e0 ≤ 9) := by rw [← q_f_e0]; exact hT 110 110 (A_110 hw) ((2 * p2).toNat)
  have ht_f_e1 : (0 ≤ f_e1 ∧ f_e1 ≤ 9) := by rw [← q_f_e1]; exact hT 110 110 (A_110 hw) (((2 * p2) + 1).toNat)
  have ht_f_ties : (0 ≤ f_ties ∧ f_ties ≤ 20) := by rw [← q_f_ties]; exact hT 106 106 (A_106 hw) 6
  have h1 : 1 ≤ f_ties ∧ f_ties ≤ 20 := (vc_X3_putAttributes_11 hq0 ht_f_ties hp2)
  refine xmr_lvE (lv' := [(0, .ref 106), (1, iv p1), (2, iv p2), (3, iv p3)]) rfl ?_
  refine xsv_aload_n (pc := 0) dX12_candidate_0 rfl rfl ?_
  refine xmr_iload_n (pc := 1) (z := p2) dX12_candidate_1 rfl rfl ?_
  refine xmr_iload_n (pc := 2) (z := p1) dX12_candidate_2 rfl rfl ?_
  refine xmr_cVP (pc := 3) (cx_X12_sideOf hw hT hp2 (rW (c := (-2147483648)) (d := 2147483647) hp1 rfl) q_f_e0 h110) (gOk _ _ _ _ _) dX12_candidate_3 (tX12_sideOf _ _ _ _ _) ⟨wV_X12_sideOf, wL_X12_sideOf⟩ wM_X12_542 (gCX12 _ _ _ _ _) rfl (A_106 hw) rfl ⟨le_t rfl, le_t rfl⟩ ⟨le_t rfl, le_t rfl⟩ rfl (le_t rfl) fun z297 h296 => ?_
  refine xmr_istore (pc := 6) (lv' := [(4, iv z297), (0, .ref 106), (1, iv p1), (2, iv p2), (3, iv p3)]) dX12_candidate_6 (by decide) rfl ?_
  refine xsv_aload_n (pc := 8) dX12_candidate_8 rfl rfl ?_
  refine xmr_iconst (pc := 9) (z := 4) dX12_candidate_9 ?_
  refine xmr_iload_n (pc := 10) (z := p2) dX12_candidate_10 rfl rfl ?_
  refine xmr_iadd (pc := 11) (x := 4) (y := p2) dX12_candidate_11 ?_
  refine xmr_cVV (pc := 12) (cx_X12_nothing hw hT (rW (c := 0) (d := 2099) (rAdd (e := 4) (f := 23) (rR (x := 4)) hp2 rfl) rfl) hW) (gOk _ _ _ _ _) dX12_candidate_12 (tX12_nothing _ _ _ _ _) ⟨wV_X12_nothing, wL_X12_nothing⟩ wM_X12_539 (gCX12 _ _ _ _ _) rfl (A_106 hw) rfl ⟨le_t rfl, le_t rfl⟩ ⟨le_t rfl, le_t rfl⟩ rfl (le_t rfl) fun μ298 T299 F300 h301 => ?_
  obtain ⟨z302, q303, h304⟩ := h301
  have h305 := rt7 T299 (A_126 hw) (vc_X12_candidate_2 hq0 h1 hp2) q303
  have h306 : (-1) ≤ z302 ∧ z302 ≤ 9 := h305.2.1 (vc_X12_candidate_3 hq0 h1 hp2)
  have q307 : μ298 126 ((40 * (4 + p2)).toNat) = (-1) := q303.trans h304.2.1
  have h308 : (-1) ≤ z302 ∧ z302 ≤ (-1) := (vc_X12_candidate_4 h304.2.1 h306)
  refine xmr_sipush (pc := 15) (z := 130) dX12_candidate_15 (by decide) ?_
  refine xmr_iload_n (pc := 18) (z := p2) dX12_candidate_18 rfl rfl ?_
  refine xmr_iload (pc := 19) (z := z297) dX12_candidate_19 rfl ?_
  refine xmr_iload_n (pc := 21) (z := p3) dX12_candidate_21 rfl rfl ?_
  refine xmr_cSP (pc := 22) (cx_X12_slot hw T299 (rW (c := 0) (d := 20) hp2 rfl) (rW (c := 0) (d := 2) h296.1 rfl) hp3) (gOk _ _ _ _ _) dX12_candidate_22 (tX12_slot _ _ _ _ _) wS_X12_slot wM_X12_545 ⟨le_t rfl, le_t rfl⟩ ⟨le_t rfl, le_t rfl⟩ rfl (le_t rfl) fun z313 h312 => ?_
  have h314 : 0 ≤ z313 ∧ z313 ≤ 399 := (vc_X12_candidate_5 h312.2.1 hq0 h296.2.1 h296.2.2.1 ht_f_e0 h1 hp1 hp2 hp3 h296.1 h312.1)
  refine xmr_iadd (pc := 25) (x := 130) (y := z313) dX12_candidate_25 ?_
  refine xmr_istore (pc := 26) (lv' := [(5, iv (130 + z313)), (4, iv z297), (0, .ref 106), (1, iv p1), (2, iv p2), (3, iv p3)]) dX12_candidate_26 (by decide) rfl ?_
  refine xsv_aload_n (pc := 28) dX12_candidate_28 rfl rfl ?_
  refine xgf_X12_9 (pc := 29) dX12_candidate_29 wF_X12_53 (A_106 hw) T299 ?_
  refine xmr_iload_n (pc := 32) (z := p2) dX12_candidate_32 rfl rfl ?_
  refine xla_112 (hS := Or.inl h112) (pc := 33) dX12_candidate_33 (A_112 hw) T299 (rIx (n := 20) hp2 rfl) fun z315 q316 h317 => ?_
  refine xmr_if_eq (pc := 34) (tgt := 46) dX12_candidate_34 (by decide) (r32 h317 rfl) (fun h318 => ?_) (fun h318 => ?_)
  · have h319 : 0 ≤ z315 ∧ z315 ≤ 0 := (vc_X12_ring_22 h318 h317)
    refine xmr_ldc (pc := 46) (z := (-99999999)) dX12_candidate_46 wG_X12_29 (by decide) ?_
    exact xmr_iret dX12_candidate_48 rfl (le_t rfl) (le_t rfl) T299 (mF.call mF.refl F300 rfl) ⟨(rW (c := (-99999999)) (d := 10) (rR (x := (-99999999))) rfl), (mG.call mG.refl h304.1 (List.forall_mem_cons.mpr ⟨⟨_, List.mem_cons_self, (vc_X12_candidate_7 hq0 h312.2.1 h296.2.1 h296.2.2.1 ht_f_e0 h1 hp1 hp2 hp3 h296.1 h314)⟩, (fun _ h => absurd h List.not_mem_nil)⟩)), fun h => absurd h (by decide), Or.inl (by rw [q307]; decide)⟩
  have h320 : 1 ≤ z315 ∧ z315 ≤ 1 := (vc_X12_ring_24 h318 h317)
  refine xsv_aload_n (pc := 37) dX12_candidate_37 rfl rfl ?_
  refine xmr_iload (pc := 38) (z := (130 + z313)) dX12_candidate_38 rfl ?_
  obtain ⟨z321, q322⟩ : ∃ z, μ298 126 ((40 * (130 + z313)).toNat) = z := ⟨_, rfl⟩
  have h323 := rt7 T299 (A_126 hw) (vc_X12_candidate_9 h312.2.1 hq0 h296.2.1 h296.2.2.1 ht_f_e0 h1 hp1 hp2 hp3 h296.1 h314) q322
  have h324 : (-1) ≤ z321 ∧ z321 ≤ 9 := h323.2.1 (vc_X12_candidate_10 h312.2.1 hq0 h296.2.1 h296.2.2.1 ht_f_e0 h1 hp1 hp2 hp3 h296.1 h314)
  have ex : z321 = x := q322.symm.trans (mG.f h304.1 (by omega) (List.forall_mem_cons.mpr ⟨Or.inr (show (40 * (4 + p2)) + 1 ≤ 40 * (130 + z313) by omega), fun _ h => absurd h List.not_mem_nil⟩) (by rw [show (40 * (130 + z313)) = 40 * (130 + ((2 * p2 + sd) * 10 + p3)) by omega]; exact q_x))
  have hH2 : ∀ i : Nat, 40 * (130 + z313) ≤ (i : Int) → (i : Int) < 40 * (130 + z313) + 40 → Sins S 126 (40 * (4 + p2)).toNat 126 i := fun i a b => Or.inl (hH i (by omega) (by omega))
  refine xmr_cVP (pc := 40) (cx_X12_isThere hw T299 (rW (c := 0) (d := 2099) (rAdd (e := 130) (f := 529) (rR (x := 130)) h314 rfl) rfl) q322 hH2) (gOk _ _ _ _ _) dX12_candidate_40 (tX12_isThere _ _ _ _ _) ⟨wV_X12_isThere, wL_X12_isThere⟩ wM_X12_151 (gCX12 _ _ _ _ _) rfl (A_106 hw) rfl ⟨le_t rfl, le_t rfl⟩ ⟨le_t rfl, le_t rfl⟩ rfl (le_t rfl) fun z329 h328 => ?_
  refine xmr_if_ne (pc := 43) (tgt := 49) dX12_candidate_43 (by decide) (r32 h328.1 rfl) (fun h330 => ?_) (fun h330 => ?_)
  · have h331 : 1 ≤ z329 ∧ z329 ≤ 1 := (vc_X12_candidate_11 h330 h328.2.1 h328.2.2.1 h324 h328.1)
    have h332 : 0 ≤ z321 := (h328.2.1 (vc_X12_candidate_12 h328.2.1 h328.2.2.1 h330 h324 h331))
    have h333 : 0 ≤ z321 ∧ z321 ≤ 9 := (vc_X12_candidate_13 h332 h328.2.1 h328.2.2.1 h324 h331)
    refine xsv_aload_n (pc := 49) dX12_candidate_49 rfl rfl ?_
    refine xmr_iload (pc := 50) (z := (130 + z313)) dX12_candidate_50 rfl ?_
    refine xmr_iload_n (pc := 52) (z := p1) dX12_candidate_52 rfl rfl ?_
    refine xmr_cVP (pc := 53) (cx_X12_isIn hw T299 (rW (c := 0) (d := 2099) (rAdd (e := 130) (f := 529) (rR (x := 130)) h314 rfl) rfl) (rW (c := (-2147483648)) (d := 2147483647) hp1 rfl) hH2) (gOk _ _ _ _ _) dX12_candidate_53 (tX12_isIn _ _ _ _ _) ⟨wV_X12_isIn, wL_X12_isIn⟩ wM_X12_556 (gCX12 _ _ _ _ _) rfl (A_106 hw) rfl ⟨le_t rfl, le_t rfl⟩ ⟨le_t rfl, le_t rfl⟩ rfl (le_t rfl) fun z338 h337 => ?_
    refine xmr_if_eq (pc := 56) (tgt := 62) dX12_candidate_56 (by decide) (r32 h337.1 rfl) (fun h339 => ?_) (fun h339 => ?_)
    · have h340 : 0 ≤ z338 ∧ z338 ≤ 0 := (vc_X12_ring_22 h339 h337.1)
      refine xsv_aload_n (pc := 62) dX12_candidate_62 rfl rfl ?_
      refine xmr_iload (pc := 63) (z := (130 + z313)) dX12_candidate_63 rfl ?_
      refine xmr_iconst (pc := 65) (z := 4) dX12_candidate_65 ?_
      refine xmr_iload_n (pc := 66) (z := p2) dX12_candidate_66 rfl rfl ?_
      refine xmr_iadd (pc := 67) (x := 4) (y := p2) dX12_candidate_67 ?_
      refine xmr_cVV (pc := 68) (cx_X12_copy hw T299 (rW (c := 0) (d := 2099) (rAdd (e := 130) (f := 529) (rR (x := 130)) h314 rfl) rfl) (rW (c := 0) (d := 2099) (rAdd (e := 4) (f := 23) (rR (x := 4)) hp2 rfl) rfl) q322 (vc_X12_candidate_15 hq0 h312.2.1 h296.2.1 h296.2.2.1 ht_f_e0 h1 hp1 hp2 hp3 h296.1 h314) hH2 hW) (gOk _ _ _ _ _) dX12_candidate_68 (tX12_copy _ _ _ _ _) ⟨wV_X12_copy, wL_X12_copy⟩ wM_X12_559 (gCX12 _ _ _ _ _) rfl (A_106 hw) rfl ⟨le_t rfl, le_t rfl⟩ ⟨le_t rfl, le_t rfl⟩ rfl (le_t rfl) fun μ341 T342 F343 h344 => ?_
      obtain ⟨z345, q346, h347⟩ := h344
      have h348 := rt7 T342 (A_126 hw) (vc_X12_candidate_16 hq0 h312.2.1 h296.2.1 h296.2.2.1 ht_f_e0 h1 hp1 hp2 hp3 h296.1 h314) q346
      have h349 : (-1) ≤ z345 ∧ z345 ≤ 9 := h348.2.1 (vc_X12_candidate_17 hq0 h312.2.1 h296.2.1 h296.2.2.1 ht_f_e0 h1 hp1 hp2 hp3 h296.1 h314)
      have q350 : μ341 126 ((40 * (4 + p2)).toNat) = z321 := q346.trans h347.2.1
      have h351 : 0 ≤ z345 ∧ z345 ≤ 9 := (vc_X12_candidate_18 h347.2.1 h328.2.1 h328.2.2.1 h332 h333 h331 h349)
      refine xsv_aload_n (pc := 71) dX12_candidate_71 rfl rfl ?_
      refine xsv_aload_n (pc := 72) dX12_candidate_72 rfl rfl ?_
      refine xgf_X12_12 (pc := 73) dX12_candidate_73 wF_X12_63 (A_106 hw) T342 ?_
      refine xmr_iconst (pc := 76) (z := 4) dX12_candidate_76 ?_
      refine xmr_iload_n (pc := 77) (z := p2) dX12_candidate_77 rfl rfl ?_
      refine xmr_imul (pc := 78) (x := 4) (y := p2) dX12_candidate_78 ?_
      refine xmr_iconst (pc := 79) (z := 2) dX12_candidate_79 ?_
      refine xmr_iload (pc := 80) (z := z297) dX12_candidate_80 rfl ?_
      refine xmr_imul (pc := 82) (x := 2) (y := z297) dX12_candidate_82 ?_
      refine xmr_iadd (pc := 83) (x := (4 * p2)) (y := (2 * z297)) dX12_candidate_83 ?_
      refine xla_115 (hS := (by rw [show z297 = sd by omega]; exact Or.inl (Or.inl h115))) (pc := 84) dX12_candidate_84 (A_115 hw) T342 (rIx (n := 80) (rAdd (e := 0) (f := 78) (rMulL (n := 4) (e := 0) (f := 76) hp2 rfl) (rMulL (n := 2) (e := 0) (f := 2) h296.1 rfl) rfl) rfl) fun z352 q353 h354 => ?_
      have h355 : (-99999999) ≤ z352 ∧ z352 ≤ 11 := (vc_X12_candidate_19 h354)
      obtain ⟨z356, q357⟩ : ∃ z, μ341 106 39 = z := ⟨_, rfl⟩
      have h358 : (0 ≤ z356 ∧ z356 ≤ 12) := by rw [← q357]; exact T342 106 106 (A_106 hw) 39
      have h359 : z352 = -99999999 ∨ (0 ≤ z352 ∧ z352 < z356) := PK.pol (PK.keep hIPK hw ((mF.call (mF.call mF.refl F300 rfl) F343 rfl) : mF [126999] w μ μ341) rfl) (rIx (n := 80) (rAdd (e := 0) (f := 78) (rMulL (n := 4) (e := 0) (f := 76) hp2 rfl) (rMulL (n := 2) (e := 0) (f := 2) h296.1 rfl) rfl) rfl) q353 q357 (F343.f (A_106 hw) rfl (F300.f (A_106 hw) rfl q_f_ties)) (vc_X12_candidate_20 hq0 h296.2.1 h296.2.2.1 h312.2.1 hq1 ht_f_e0 ht_f_e1 h1 hp1 hp2 hp3 h296.1 h314)
      have ep : z356 = f_pol := q357.symm.trans (F343.f (A_106 hw) rfl (F300.f (A_106 hw) rfl q_pol))
      refine xmr_iconst (pc := 85) (z := 4) dX12_candidate_85 ?_
      refine xmr_iload_n (pc := 86) (z := p2) dX12_candidate_86 rfl rfl ?_
      refine xmr_iadd (pc := 87) (x := 4) (y := p2) dX12_candidate_87 ?_
      refine xmr_iload_n (pc := 88) (z := p1) dX12_candidate_88 rfl rfl ?_
      refine xsv_aload_n (pc := 89) dX12_candidate_89 rfl rfl ?_
      refine xmr_iload_n (pc := 90) (z := p2) dX12_candidate_90 rfl rfl ?_
      refine xmr_iload_n (pc := 91) (z := p1) dX12_candidate_91 rfl rfl ?_
      refine xmr_cVP (pc := 92) (cx_X12_partnerOf_pt hw T342 hp2 (rW (c := (-2147483648)) (d := 2147483647) hp1 rfl) (F343.f (A_110 hw) rfl (F300.f (A_110 hw) rfl q_f_e0)) (F343.f (A_110 hw) rfl (F300.f (A_110 hw) rfl q_f_e1)) (fun i a => Or.inl (Or.inl (h110 i a)))) (gOk _ _ _ _ _) dX12_candidate_92 (tX12_partnerOf _ _ _ _ _) ⟨wV_X12_partnerOf, wL_X12_partnerOf⟩ wM_X12_553 (gCX12 _ _ _ _ _) rfl (A_106 hw) rfl ⟨le_t rfl, le_t rfl⟩ ⟨le_t rfl, le_t rfl⟩ rfl (le_t rfl) fun z364 h363 => ?_
      refine xmr_cVI (pc := 95) (cx_X12_through hw T342 (rW (c := (-2147483648)) (d := 2147483647) h355 rfl) (rW (c := 0) (d := 2099) (rAdd (e := 4) (f := 23) (rR (x := 4)) hp2 rfl) rfl) (rW (c := (-2147483648)) (d := 2147483647) hp1 rfl) (rW (c := (-2147483648)) (d := 2147483647) h363.1 rfl) hp2 (F343.f (A_110 hw) rfl (F300.f (A_110 hw) rfl q_f_e0)) (F343.f (A_110 hw) rfl (F300.f (A_110 hw) rfl q_f_e1)) (F343.f (A_106 hw) rfl (F300.f (A_106 hw) rfl q_f_ties)) q350 q357 (vc_X12_candidate_21 hq0 h312.2.1 h296.2.1 h296.2.2.1 ht_f_e0 h1 hp1 hp2 hp3 h296.1 h314) (vc_X12_candidate_22 hq1 h296.2.1 h296.2.2.1 h363.2.1 h312.2.1 ht_f_e0 ht_f_e1 hp1 hp2 hp3 h296.1 h314 h363.1) (vc_X12_candidate_23 h328.2.1 h328.2.2.1 h332 h347.2.1 h330 h333 h331 h351) (vc_X12_candidate_24 h359 h355 h354 h358) (PK.keep hIPK hw ((mF.call (mF.call mF.refl F300 rfl) F343 rfl) : mF [126999] w μ μ341) rfl) (fun i a b => Or.inr ⟨rfl, a, by omega⟩) hW hK (fun i a => Or.inl (Or.inl (h110 i a))) (fun i a => Or.inl (Or.inl (h111 i a))) (fun i a => ⟨Or.inl (Or.inl ((h127 i (by omega)).1)), Or.inl (Or.inl ((h127 i (by omega)).2))⟩) (fun i a => ⟨Or.inl (Or.inl ((h128 i (by omega)).1)), Or.inl (Or.inl ((h128 i (by omega)).2))⟩) (fun a i b d e => Or.inl (Or.inl (h132 a i b d (by omega)))) (fun i a => ⟨Or.inl (Or.inl ((h143 i (by omega)).1)), Or.inl (Or.inl ((h143 i (by omega)).2))⟩) (by rw [ex]; exact ⟨Or.inl (Or.inl (hx.1)), Or.inl (Or.inl (hx.2))⟩) (Or.inl (Or.inl (h17))) hG (fun m μ' n z T F a b => by rw [ex]; exact hJ (Slev (Srow (Sins S 126 (40 * (4 + p2)).toNat) (4 + p2) 40) m) μ' n z (fun a i q => Or.inl (Or.inl (Or.inl q))) (fun i a b q => q.elim (fun q => q.elim (fun q => q.elim (hN i a b) (fun q => absurd q.1 (by decide))) (fun q => absurd q.1 (by decide))) (fun q => by omega)) T (mF.call (mF.call (mF.call mF.refl F300 rfl) F343 rfl) F rfl) a b (by omega))) (gOk _ _ _ _ _) dX12_candidate_95 (tX12_through _ _ _ _ _) ⟨wV_X12_through, wL_X12_through⟩ wM_X12_414 (gCX12 _ _ _ _ _) rfl (A_106 hw) rfl ⟨le_t rfl, le_t rfl⟩ ⟨le_t rfl, le_t rfl⟩ rfl (le_t rfl) fun z369 μ365 T366 F367 h368 => ?_
      obtain ⟨z370, q371, h372⟩ := h368
      have h373 := rt7 T366 (A_126 hw) (vc_X12_candidate_16 hq0 h312.2.1 h296.2.1 h296.2.2.1 ht_f_e0 h1 hp1 hp2 hp3 h296.1 h314) q371
      have h374 : (-1) ≤ z370 ∧ z370 ≤ 9 := h373.2.1 (vc_X12_candidate_17 hq0 h312.2.1 h296.2.1 h296.2.2.1 ht_f_e0 h1 hp1 hp2 hp3 h296.1 h314)
      have q375 : μ365 126 ((40 * (4 + p2)).toNat) = z321 := q371.trans h372.2.2.1
      have h376 : 0 ≤ z370 ∧ z370 ≤ 9 := (vc_X12_candidate_25 h372.2.2.1 h328.2.1 h328.2.2.1 h332 h347.2.1 h333 h331 h351 h374)
      refine xmr_if_eq (pc := 98) (tgt := 103) dX12_candidate_98 (by decide) (r32 h372.1 rfl) (fun h377 => ?_) (fun h377 => ?_)
      · have h378 : 0 ≤ z369 ∧ z369 ≤ 0 := (vc_X12_ring_22 h377 h372.1)
        refine xsv_aload_n (pc := 103) dX12_candidate_103 rfl rfl ?_
        refine xmr_iconst (pc := 104) (z := 4) dX12_candidate_104 ?_
        refine xmr_iload_n (pc := 105) (z := p2) dX12_candidate_105 rfl rfl ?_
        refine xmr_iadd (pc := 106) (x := 4) (y := p2) dX12_candidate_106 ?_
        refine xmr_cVV (pc := 107) (cx_X12_nothing hw T366 (rW (c := 0) (d := 2099) (rAdd (e := 4) (f := 23) (rR (x := 4)) hp2 rfl) rfl) hW) (gOk _ _ _ _ _) dX12_candidate_107 (tX12_nothing _ _ _ _ _) ⟨wV_X12_nothing, wL_X12_nothing⟩ wM_X12_539 (gCX12 _ _ _ _ _) rfl (A_106 hw) rfl ⟨le_t rfl, le_t rfl⟩ ⟨le_t rfl, le_t rfl⟩ rfl (le_t rfl) fun μ379 T380 F381 h382 => ?_
        obtain ⟨z383, q384, h385⟩ := h382
        have h386 := rt7 T380 (A_126 hw) (vc_X12_candidate_16 hq0 h312.2.1 h296.2.1 h296.2.2.1 ht_f_e0 h1 hp1 hp2 hp3 h296.1 h314) q384
        have h387 : (-1) ≤ z383 ∧ z383 ≤ 9 := h386.2.1 (vc_X12_candidate_17 hq0 h312.2.1 h296.2.1 h296.2.2.1 ht_f_e0 h1 hp1 hp2 hp3 h296.1 h314)
        have q388 : μ379 126 ((40 * (4 + p2)).toNat) = (-1) := q384.trans h385.2.1
        have h389 : (-1) ≤ z383 ∧ z383 ≤ (-1) := (vc_X12_candidate_4 h385.2.1 h387)
        refine xmr_bipush (pc := 110) (z := 10) dX12_candidate_110 (by decide) ?_
        exact xmr_iret dX12_candidate_112 rfl (le_t rfl) (le_t rfl) T380 (mF.call (mF.call (mF.call (mF.call mF.refl F300 rfl) F343 rfl) F367 rfl) F381 rfl) ⟨(rW (c := (-99999999)) (d := 10) (rR (x := 10)) rfl), (mG.call (mG.call (mG.call (mG.call mG.refl h304.1 (List.forall_mem_cons.mpr ⟨⟨_, List.mem_cons_self, (vc_X12_candidate_7 hq0 h312.2.1 h296.2.1 h296.2.2.1 ht_f_e0 h1 hp1 hp2 hp3 h296.1 h314)⟩, (fun _ h => absurd h List.not_mem_nil)⟩)) h347.1 (List.forall_mem_cons.mpr ⟨⟨_, List.mem_cons_self, (vc_X12_candidate_28 hq0 h312.2.1 h296.2.1 h296.2.2.1 ht_f_e0 h1 hp1 hp2 hp3 h296.1 h314)⟩, (fun _ h => absurd h List.not_mem_nil)⟩)) h372.2.1 (List.forall_mem_cons.mpr ⟨⟨_, List.mem_cons_self, (vc_X12_candidate_29 hq0 h312.2.1 h296.2.1 h296.2.2.1 ht_f_e0 h1 hp1 hp2 hp3 h296.1 h314)⟩, (fun _ h => absurd h List.not_mem_nil)⟩)) h385.1 (List.forall_mem_cons.mpr ⟨⟨_, List.mem_cons_self, (vc_X12_candidate_7 hq0 h312.2.1 h296.2.1 h296.2.2.1 ht_f_e0 h1 hp1 hp2 hp3 h296.1 h314)⟩, (fun _ h => absurd h List.not_mem_nil)⟩)), fun h => absurd h (by decide), Or.inl (by rw [q388]; decide)⟩
      have h390 : 1 ≤ z369 ∧ z369 ≤ 1 := (vc_X12_ring_24 h377 h372.1)
      refine xmr_iconst (pc := 101) (z := 0) dX12_candidate_101 ?_
      exact xmr_iret dX12_candidate_102 rfl (le_t rfl) (le_t rfl) T366 (mF.call (mF.call (mF.call mF.refl F300 rfl) F343 rfl) F367 rfl) ⟨(rW (c := (-99999999)) (d := 10) (rR (x := 0)) rfl), (mG.call (mG.call (mG.call mG.refl h304.1 (List.forall_mem_cons.mpr ⟨⟨_, List.mem_cons_self, (vc_X12_candidate_7 hq0 h312.2.1 h296.2.1 h296.2.2.1 ht_f_e0 h1 hp1 hp2 hp3 h296.1 h314)⟩, (fun _ h => absurd h List.not_mem_nil)⟩)) h347.1 (List.forall_mem_cons.mpr ⟨⟨_, List.mem_cons_self, (vc_X12_candidate_28 hq0 h312.2.1 h296.2.1 h296.2.2.1 ht_f_e0 h1 hp1 hp2 hp3 h296.1 h314)⟩, (fun _ h => absurd h List.not_mem_nil)⟩)) h372.2.1 (List.forall_mem_cons.mpr ⟨⟨_, List.mem_cons_self, (vc_X12_candidate_29 hq0 h312.2.1 h296.2.1 h296.2.2.1 ht_f_e0 h1 hp1 hp2 hp3 h296.1 h314)⟩, (fun _ h => absurd h List.not_mem_nil)⟩)), fun _ => by rw [q375]; exact h333.1, Or.inr (q375.trans ex)⟩
    have h391 : 1 ≤ z338 ∧ z338 ≤ 1 := (vc_X12_ring_24 h339 h337.1)
    refine xmr_bipush (pc := 59) (z := 9) dX12_candidate_59 (by decide) ?_
    exact xmr_iret dX12_candidate_61 rfl (le_t rfl) (le_t rfl) T299 (mF.call mF.refl F300 rfl) ⟨(rW (c := (-99999999)) (d := 10) (rR (x := 9)) rfl), (mG.call mG.refl h304.1 (List.forall_mem_cons.mpr ⟨⟨_, List.mem_cons_self, (vc_X12_candidate_7 hq0 h312.2.1 h296.2.1 h296.2.2.1 ht_f_e0 h1 hp1 hp2 hp3 h296.1 h314)⟩, (fun _ h => absurd h List.not_mem_nil)⟩)), fun h => absurd h (by decide), Or.inl (by rw [q307]; decide)⟩
  have h392 : 0 ≤ z329 ∧ z329 ≤ 0 := (vc_X12_candidate_32 h330 h328.2.1 h328.2.2.1 h324 h328.1)
  have h393 : z321 < 0 := (h328.2.2.1 (vc_X12_candidate_33 h328.2.1 h328.2.2.1 h330 h324 h392))
  have h394 : (-1) ≤ z321 ∧ z321 ≤ (-1) := (vc_X12_candidate_34 h393 h328.2.1 h328.2.2.1 h324 h392)
  refine xmr_ldc (pc := 46) (z := (-99999999)) dX12_candidate_46 wG_X12_29 (by decide) ?_
  exact xmr_iret dX12_candidate_48 rfl (le_t rfl) (le_t rfl) T299 (mF.call mF.refl F300 rfl) ⟨(rW (c := (-99999999)) (d := 10) (rR (x := (-99999999))) rfl), (mG.call mG.refl h304.1 (List.forall_mem_cons.mpr ⟨⟨_, List.mem_cons_self, (vc_X12_candidate_7 hq0 h312.2.1 h296.2.1 h296.2.2.1 ht_f_e0 h1 hp1 hp2 hp3 h296.1 h314)⟩, (fun _ h => absurd h List.not_mem_nil)⟩)), fun h => absurd h (by decide), Or.inl (by rw [q307]; decide)⟩
end
section
/-! What judgedAnew reads; its answer, chosen for all memories that agree there; the cache that keeps it. -/
def SJ (μ : mM) (p : Int) : Nat → Nat → Prop := fun a i => (a = 106 ∧ i = 18) ∨ (119 ≤ a ∧ a ≤ 125 ∧ (i : Int) < μ 106 18) ∨ ((a = 108 ∨ a = 109) ∧ (i = p.toNat ∨ ∃ r : Int, 0 ≤ r ∧ r < μ 106 18 ∧ i = (μ 119 r.toNat).toNat))
theorem SJ.congr {μ ν : mM} {p : Int} (h : agr (SJ μ p) μ ν) : SJ ν p = SJ μ p := by
  have e18 : ν 106 18 = μ 106 18 := h 106 18 (Or.inl ⟨rfl, rfl⟩)
  have e119 : ∀ r : Int, 0 ≤ r → r < μ 106 18 → ν 119 r.toNat = μ 119 r.toNat := fun r a b => h 119 _ (Or.inr (Or.inl ⟨by decide, by decide, by omega⟩))
  funext a i
  refine propext ⟨fun q => ?_, fun q => ?_⟩
  · rcases q with q | ⟨q1, q2, q3⟩ | ⟨q1, q2 | ⟨r, r1, r2, r3⟩⟩
    · exact Or.inl q
    · exact Or.inr (Or.inl ⟨q1, q2, by rw [← e18]; exact q3⟩)
    · exact Or.inr (Or.inr ⟨q1, Or.inl q2⟩)
    · exact Or.inr (Or.inr ⟨q1, Or.inr ⟨r, r1, by rw [← e18]; exact r2, by rw [r3, e119 r r1 (by rw [← e18]; exact r2)]⟩⟩)
  · rcases q with q | ⟨q1, q2, q3⟩ | ⟨q1, q2 | ⟨r, r1, r2, r3⟩⟩
    · exact Or.inl q
    · exact Or.inr (Or.inl ⟨q1, q2, by rw [e18]; exact q3⟩)
    · exact Or.inr (Or.inr ⟨q1, Or.inl q2⟩)
    · exact Or.inr (Or.inr ⟨q1, Or.inr ⟨r, r1, by rw [e18]; exact r2, by rw [r3, e119 r r1 r2]⟩⟩)
section JUD
variable {l : Launch} {D : va_G} {c : Nat → ClassId} {H0 : Heap} {sa : Nat × Nat × (Nat → Int32)} {w : mW} {μ ν : mM}
def JAp (l : Launch) (D : va_G) (c : Nat → ClassId) (H0 : Heap) (sa : Nat × Nat × (Nat → Int32)) (S : Nat → Nat → Prop) (A : mM → Prop) (p n d k z : Int) : Prop := (0 ≤ z ∧ z ≤ 2) ∧ ∀ w ν, mWF w → mT w ν → A ν → sC (gG l D c H0 sa) mX12_judgedAnew 3 0 0 [.ref 106, iv p, iv n, iv d, iv k] (mk w ν) (qP w ν (fun y => y = z))
/-- z is the answer of judgedAnew -/
def JAz (l : Launch) (D : va_G) (c : Nat → ClassId) (H0 : Heap) (sa : Nat × Nat × (Nat → Int32)) (μ : mM) (p n d k z : Int) : Prop := z = Classical.epsilon (JAp l D c H0 sa (SJ μ p) (agr (SJ μ p) μ) p n d k)
theorem JAz.congr {p n d k z : Int} (h : agr (SJ μ p) μ ν) : JAz l D c H0 sa ν p n d k z = JAz l D c H0 sa μ p n d k z := by
  unfold JAz
  rw [SJ.congr h, ← h.cls]
theorem JAz.spec {p n d k z : Int} (hw : mWF w) (hT : mT w μ) (hp : 0 ≤ p ∧ p ≤ 9) (hn : -2147483648 ≤ n ∧ n ≤ 2147483647) (hd : -2147483648 ≤ d ∧ d ≤ 2147483647) (hk : -2147483648 ≤ k ∧ k ≤ 2147483647) (h : JAz l D c H0 sa μ p n d k z) : JAp l D c H0 sa (SJ μ p) (agr (SJ μ p) μ) p n d k z := by
  rw [h]
  refine Classical.epsilon_spec (p := JAp l D c H0 sa (SJ μ p) (agr (SJ μ p) μ) p n d k) ?_
  obtain ⟨r, μe, ⟨z, rfl, rfl, hz⟩, hh⟩ := cx_X12_judgedAnew (l := l) (D := D) (c := c) (H0 := H0) (sa := sa) (K := fun _ _ => True) (W := fun _ _ => False) (S := SJ μ p) hw hT hp hn hd hk (Or.inl ⟨rfl, rfl⟩) (fun a i x y q => Or.inr (Or.inl ⟨x, y, q⟩)) ⟨Or.inr (Or.inr ⟨Or.inl rfl, Or.inl rfl⟩), Or.inr (Or.inr ⟨Or.inr rfl, Or.inl rfl⟩)⟩ (fun r a b => ⟨Or.inr (Or.inr ⟨Or.inl rfl, Or.inr ⟨r, a, b, rfl⟩⟩), Or.inr (Or.inr ⟨Or.inr rfl, Or.inr ⟨r, a, b, rfl⟩⟩)⟩)
  refine ⟨z, hz.1, fun w' ν x T' dd => ?_⟩
  obtain ⟨νe, ⟨-, -, -, fr⟩, k⟩ := hh w' ν (fun _ => 0) x T' trivial dd
  have e : νe = ν := funext fun a => funext fun i => fr a i id
  subst e
  refine k.weak ?_
  rintro r hp' ⟨rfl, rfl⟩
  exact ⟨z, rfl, rfl, rfl⟩
/-- the cache keeps an answer of judgedAnew -/
def JC (l : Launch) (D : va_G) (c : Nat → ClassId) (H0 : Heap) (sa : Nat × Nat × (Nat → Int32)) (μ : mM) : Prop := μ 106 26 ≠ 0 → (0 ≤ μ 106 27 ∧ μ 106 27 < μ 106 2) ∧ JAz l D c H0 sa μ (μ 106 27) (μ 106 28) (μ 106 29) (μ 106 30) (μ 106 31)
/-- what a walk of candidate keeps: the cache at the prefix x; more than g ties; the cache as it was, or at x -/
def KC (l : Launch) (D : va_G) (c : Nat → ClassId) (H0 : Heap) (sa : Nat × Nat × (Nat → Int32)) (μ : mM) (x g : Int) (γ f : Nat → Int) : Prop := (f 26 ≠ 0 → f 27 = x → JAz l D c H0 sa μ x (f 28) (f 29) (f 30) (f 31)) ∧ g < f 6 ∧ ((∀ i : Nat, 26 ≤ i → i ≤ 31 → f i = γ i) ∨ (0 ≤ x ∧ f 27 = x))
theorem jE.out {a b d e z : Int} {s i : Nat} (h : s ≠ 106 ∨ i < 26 ∨ 31 < i) : jE ν a b d e z s i = ν s i := by
  unfold jE
  split
  · rfl
  · have q : ∀ {m : mM} {j : Nat} {y : Int}, 26 ≤ j → j ≤ 31 → mUp m 106 j y s i = m s i := fun {m j y} h1 h2 => mUp_ok.2 s i (h.imp id fun h => by omega)
    rw [q (by decide) (by decide), q (by decide) (by decide), q (by decide) (by decide), q (by decide) (by decide), q (by decide) (by decide), q (by decide) (by decide)]
theorem jE.ty {a b d e z : Int} (hw : mWF w) (hT : mT w ν) (ha : -2147483648 ≤ a ∧ a ≤ 2147483647) (hb : -2147483648 ≤ b ∧ b ≤ 2147483647) (hd : -2147483648 ≤ d ∧ d ≤ 2147483647) (he : -2147483648 ≤ e ∧ e ≤ 2147483647) (hz : 0 ≤ z ∧ z ≤ 2) : mT w (jE ν a b d e z) := by
  unfold jE
  split
  · exact hT
  · exact (((((hT.up (k := 31) (z := z) (A_106 hw) hz mUp_ok).up (k := 27) (z := a) (A_106 hw) ha mUp_ok).up (k := 28) (z := b) (A_106 hw) hb mUp_ok).up (k := 29) (z := d) (A_106 hw) hd mUp_ok).up (k := 30) (z := e) (A_106 hw) he mUp_ok).up (k := 26) (z := 1) (A_106 hw) (show (0 : Int) ≤ 1 ∧ (1 : Int) ≤ 1 by decide) mUp_ok
theorem jE.cache {a b d e z : Int} (h : ν 106 26 ≠ 0 → ν 106 27 = a → ν 106 28 = b → ν 106 29 = d → ν 106 30 = e → ν 106 31 = z) : (jE ν a b d e z = ν ∧ ν 106 26 ≠ 0 ∧ ν 106 27 = a ∧ ν 106 28 = b ∧ ν 106 29 = d ∧ ν 106 30 = e ∧ ν 106 31 = z) ∨ (jE ν a b d e z 106 27 = a ∧ jE ν a b d e z 106 28 = b ∧ jE ν a b d e z 106 29 = d ∧ jE ν a b d e z 106 30 = e ∧ jE ν a b d e z 106 31 = z) := by
  by_cases q : ν 106 26 ≠ 0 ∧ ν 106 27 = a ∧ ν 106 28 = b ∧ ν 106 29 = d ∧ ν 106 30 = e
  · exact Or.inl ⟨jE.hit q, q.1, q.2.1, q.2.2.1, q.2.2.2.1, q.2.2.2.2, h q.1 q.2.1 q.2.2.1 q.2.2.2.1 q.2.2.2.2⟩
  · refine Or.inr ?_
    rw [show jE ν a b d e z = _ from if_neg q]
    refine ⟨?_, ?_, ?_, ?_, ?_⟩
    · rw [mUp_ok.2 106 27 (Or.inr (by decide)), mUp_ok.2 106 27 (Or.inr (by decide)), mUp_ok.2 106 27 (Or.inr (by decide)), mUp_ok.2 106 27 (Or.inr (by decide)), mUp_ok.1]
    · rw [mUp_ok.2 106 28 (Or.inr (by decide)), mUp_ok.2 106 28 (Or.inr (by decide)), mUp_ok.2 106 28 (Or.inr (by decide)), mUp_ok.1]
    · rw [mUp_ok.2 106 29 (Or.inr (by decide)), mUp_ok.2 106 29 (Or.inr (by decide)), mUp_ok.1]
    · rw [mUp_ok.2 106 30 (Or.inr (by decide)), mUp_ok.1]
    · rw [mUp_ok.2 106 31 (Or.inr (by decide)), mUp_ok.2 106 31 (Or.inr (by decide)), mUp_ok.2 106 31 (Or.inr (by decide)), mUp_ok.2 106 31 (Or.inr (by decide)), mUp_ok.2 106 31 (Or.inr (by decide)), mUp_ok.1]
theorem cx_judged {W S' : Nat → Nat → Prop} {μ' : mM} {x g n z : Int} (hw : mWF w) (hT : mT w μ) (hT' : mT w μ') (hμ : agr (SJ μ x) μ μ') (hx : 0 ≤ x ∧ x ≤ 9) (hn : -2147483648 ≤ n ∧ n ≤ 2147483647) (hz : -2147483648 ≤ z ∧ z ≤ 2147483647) (hs : ∀ a i, SJ μ x a i → S' a i) (hN : ∀ i : Nat, 26 ≤ i → i ≤ 31 → ¬ S' 106 i) (hW : ∀ i : Nat, 26 ≤ i → i ≤ 31 → W 106 i) : VC l D c H0 sa (KC l D c H0 sa μ x g) W S' S' mX12_judged 4 [.ref 106, iv x, iv n, iv z, iv z] μ' (xqI w [106026, 106027, 106028, 106029, 106030, 106031] μ' (fun z _ => (0 ≤ z ∧ z ≤ 2) ∧ True)) := by
  obtain ⟨z0, e0⟩ : ∃ z0, JAz l D c H0 sa μ x n z z z0 := ⟨_, rfl⟩
  have sp := JAz.spec hw hT hx hn hz hz e0
  refine ⟨some (iv z0), μ', ⟨z0, rfl, hT', mF.refl, sp.1, trivial⟩, fun w' ν γ x' T' y dd => ?_⟩
  have dJ : agr (SJ μ x) μ ν := fun a i q => (dd a i (hs a i q)).trans (hμ a i q)
  have hC : ν 106 26 ≠ 0 → ν 106 27 = x → ν 106 28 = n → ν 106 29 = z → ν 106 30 = z → ν 106 31 = z0 := fun a b c' d e => by
    have h := y.1 a b
    rw [c', d, e] at h
    exact Eq.trans h (Eq.symm e0)
  refine ⟨jE ν x n z z z0, ⟨jE.ty x' T' (by omega) hn hz hz sp.1, ?_, ?_, ?_⟩, ?_⟩
  · rcases jE.cache hC with ⟨q, -⟩ | ⟨q1, q2, q3, q4, q5⟩
    · rw [q]; exact y
    · refine ⟨fun _ _ => ?_, ?_, Or.inr ⟨hx.1, q1⟩⟩
      · rw [q2, q3, q4, q5]; exact e0
      · rw [jE.out (Or.inr (Or.inl (by decide)))]; exact y.2.1
  · intro a i q
    refine (jE.out ?_).trans (dd a i q)
    by_cases h1 : a = 106
    · refine Or.inr (Classical.byContradiction fun h => hN i (by omega) (by omega) (by rw [← h1]; exact q))
    · exact Or.inl h1
  · intro a i q
    refine jE.out ?_
    by_cases h1 : a = 106
    · refine Or.inr (Classical.byContradiction fun h => q (by rw [h1]; exact hW i (by omega) (by omega)))
    · exact Or.inl h1
  · refine (c_X12_judged_f x' T' hx hn hz hz sp.1 (sp.2 w' ν x' T' dJ) hC).weak ?_
    rintro r hp' ⟨y, m1, rfl, rfl, -, -, rfl, rfl⟩
    exact ⟨rfl, rfl⟩
end JUD
end
section
/-! What candidate reads; 'candidate is not 0', for all memories that agree there. -/
def sdOf (μ : mM) (d t : Int) : Int := if μ 110 (2 * t).toNat = d then 0 else 1
def rwOf (μ : mM) (d t p : Int) : Int := 130 + ((2 * t + sdOf μ d t) * 10 + p)
def xOf (μ : mM) (d t p : Int) : Int := μ 126 (40 * rwOf μ d t p).toNat
def SC (μ : mM) (d t p : Int) : Nat → Nat → Prop := fun a i =>
  (a = 126 ∧ 40 * rwOf μ d t p ≤ (i : Int) ∧ (i : Int) < 40 * rwOf μ d t p + 40) ∨ (a = 110 ∧ (i : Int) ≤ 2 * t + 1) ∨ (a = 111 ∧ (i : Int) ≤ t) ∨ (a = 112 ∧ i = t.toNat) ∨ (a = 115 ∧ i = (4 * t + 2 * sdOf μ d t).toNat) ∨ ((a = 127 ∨ a = 142) ∧ (i : Int) < μ 106 39) ∨ ((a = 128 ∨ a = 129) ∧ (i : Int) < 31 * μ 106 39) ∨ ((132 ≤ a ∧ a ≤ 141) ∧ (i : Int) < 300 * μ 106 39) ∨ ((a = 143 ∨ a = 144) ∧ (i : Int) < 41 * μ 106 39) ∨ (a = 106 ∧ i = 17) ∨ SJ μ (xOf μ d t p) a i
def WC (t : Int) : Nat → Nat → Prop := fun a i => (a = 126 ∧ 40 * (4 + t) ≤ (i : Int) ∧ (i : Int) < 40 * (4 + t) + 40) ∨ (151 ≤ a ∧ a ≤ 153) ∨ (a = 106 ∧ 26 ≤ i ∧ i ≤ 31)
theorem SC.row {μ : mM} {d t p : Int} (i : Nat) (a : 40 * rwOf μ d t p ≤ (i : Int)) (b : (i : Int) < 40 * rwOf μ d t p + 40) : SC μ d t p 126 i := Or.inl ⟨rfl, a, b⟩
theorem SC.e {μ : mM} {d t p : Int} (i : Nat) (h : (i : Int) ≤ 2 * t + 1) : SC μ d t p 110 i := Or.inr (Or.inl ⟨rfl, h⟩)
theorem SC.k {μ : mM} {d t p : Int} (i : Nat) (h : (i : Int) ≤ t) : SC μ d t p 111 i := Or.inr (Or.inr (Or.inl ⟨rfl, h⟩))
theorem SC.u {μ : mM} {d t p : Int} : SC μ d t p 112 t.toNat := Or.inr (Or.inr (Or.inr (Or.inl ⟨rfl, rfl⟩)))
theorem SC.o {μ : mM} {d t p : Int} : SC μ d t p 115 (4 * t + 2 * sdOf μ d t).toNat := Or.inr (Or.inr (Or.inr (Or.inr (Or.inl ⟨rfl, rfl⟩))))
theorem SC.p1 {μ : mM} {d t p : Int} {a : Nat} (i : Nat) (ha : a = 127 ∨ a = 142) (h : (i : Int) < μ 106 39) : SC μ d t p a i := Or.inr (Or.inr (Or.inr (Or.inr (Or.inr (Or.inl ⟨ha, h⟩)))))
theorem SC.p2 {μ : mM} {d t p : Int} {a : Nat} (i : Nat) (ha : a = 128 ∨ a = 129) (h : (i : Int) < 31 * μ 106 39) : SC μ d t p a i := Or.inr (Or.inr (Or.inr (Or.inr (Or.inr (Or.inr (Or.inl ⟨ha, h⟩))))))
theorem SC.p3 {μ : mM} {d t p : Int} {a : Nat} (i : Nat) (ha : 132 ≤ a ∧ a ≤ 141) (h : (i : Int) < 300 * μ 106 39) : SC μ d t p a i := Or.inr (Or.inr (Or.inr (Or.inr (Or.inr (Or.inr (Or.inr (Or.inl ⟨ha, h⟩)))))))
theorem SC.p4 {μ : mM} {d t p : Int} {a : Nat} (i : Nat) (ha : a = 143 ∨ a = 144) (h : (i : Int) < 41 * μ 106 39) : SC μ d t p a i := Or.inr (Or.inr (Or.inr (Or.inr (Or.inr (Or.inr (Or.inr (Or.inr (Or.inl ⟨ha, h⟩))))))))
theorem SC.d {μ : mM} {d t p : Int} : SC μ d t p 106 17 := Or.inr (Or.inr (Or.inr (Or.inr (Or.inr (Or.inr (Or.inr (Or.inr (Or.inr (Or.inl ⟨rfl, rfl⟩)))))))))
theorem SC.j {μ : mM} {d t p : Int} {a i : Nat} (h : SJ μ (xOf μ d t p) a i) : SC μ d t p a i := Or.inr (Or.inr (Or.inr (Or.inr (Or.inr (Or.inr (Or.inr (Or.inr (Or.inr (Or.inr h)))))))))
/-- what is read grows with the policies alone -/
theorem SC.sub {μ ν : mM} {d t p : Int} (ht : 0 ≤ t) (hp : 0 ≤ p) (h : agr (SC μ d t p) μ ν) (hl : μ 106 39 ≤ ν 106 39) : ∀ a i, SC μ d t p a i → SC ν d t p a i := by
  have e0 : ν 110 (2 * t).toNat = μ 110 (2 * t).toNat := h _ _ (SC.e _ (by omega))
  have e1 : sdOf ν d t = sdOf μ d t := by unfold sdOf; rw [e0]
  have s0 : 0 ≤ sdOf μ d t := by unfold sdOf; split <;> decide
  have e2 : rwOf ν d t p = rwOf μ d t p := by unfold rwOf; rw [e1]
  have r0 : 0 ≤ rwOf μ d t p := by unfold rwOf; omega
  have e3 : xOf ν d t p = xOf μ d t p := by
    unfold xOf; rw [e2]
    exact h _ _ (SC.row _ (by omega) (by omega))
  have e4 : SJ ν (xOf μ d t p) = SJ μ (xOf μ d t p) := SJ.congr (h.mono fun a i q => SC.j q)
  intro a i q
  rcases q with ⟨rfl, q⟩ | ⟨rfl, q⟩ | ⟨rfl, q⟩ | ⟨rfl, q⟩ | ⟨rfl, q⟩ | ⟨q1, q⟩ | ⟨q1, q⟩ | ⟨q1, q⟩ | ⟨q1, q⟩ | ⟨rfl, q⟩ | q
  · exact SC.row _ (by rw [e2]; exact q.1) (by rw [e2]; exact q.2)
  · exact SC.e _ q
  · exact SC.k _ q
  · rw [q]; exact SC.u
  · rw [q, ← e1]; exact SC.o
  · exact SC.p1 _ q1 (by omega)
  · exact SC.p2 _ q1 (by omega)
  · exact SC.p3 _ q1 (by omega)
  · exact SC.p4 _ q1 (by omega)
  · rw [q]; exact SC.d
  · exact SC.j (by rw [e3, e4]; exact q)
theorem xOf.congr {μ ν : mM} {d t p : Int} (ht : 0 ≤ t) (hp : 0 ≤ p) (h : agr (SC μ d t p) μ ν) : xOf ν d t p = xOf μ d t p := by
  have e0 : ν 110 (2 * t).toNat = μ 110 (2 * t).toNat := h _ _ (SC.e _ (by omega))
  have e1 : sdOf ν d t = sdOf μ d t := by unfold sdOf; rw [e0]
  have s0 : 0 ≤ sdOf μ d t := by unfold sdOf; split <;> decide
  have e2 : rwOf ν d t p = rwOf μ d t p := by unfold rwOf; rw [e1]
  have r0 : 0 ≤ rwOf μ d t p := by unfold rwOf; omega
  unfold xOf; rw [e2]
  exact h _ _ (SC.row _ (by omega) (by omega))
section NZS
variable {l : Launch} {D : va_G} {c : Nat → ClassId} {H0 : Heap} {sa : Nat × Nat × (Nat → Int32)} {w : mW} {μ ν : mM}
/-- candidate's answer is z, and behind it stands what stood but for its scratch -/
def CA (l : Launch) (D : va_G) (c : Nat → ClassId) (H0 : Heap) (sa : Nat × Nat × (Nat → Int32)) (w : mW) (ν : mM) (d t p z : Int) (νe : mM) : Prop := (mT w νe ∧ JC l D c H0 sa νe ∧ (∀ a i, ¬ WC t a i → νe a i = ν a i)) ∧ sC (gG l D c H0 sa) mX12_candidate 7 0 0 [.ref 106, iv d, iv t, iv p] (mk w ν) (fun r hp => r = some (iv z) ∧ hp = mk w νe)
/-- candidate is not 0, in all memories that agree with μ on what it reads -/
def NZ (l : Launch) (D : va_G) (c : Nat → ClassId) (H0 : Heap) (sa : Nat × Nat × (Nat → Int32)) (μ : mM) (d t p : Int) : Prop := ∀ w ν, mWF w → mT w ν → JC l D c H0 sa ν → t < ν 106 6 → xOf μ d t p < ν 106 2 → agr (SC μ d t p) μ ν → ∃ z νe, z ≠ 0 ∧ (-99999999 ≤ z ∧ z ≤ 10) ∧ CA l D c H0 sa w ν d t p z νe ∧ (νe 126 (40 * (4 + t)).toNat < 0 ∨ νe 126 (40 * (4 + t)).toNat = xOf μ d t p)
theorem NZ.keep {d t p : Int} (ht : 0 ≤ t) (hp : 0 ≤ p) (h : NZ l D c H0 sa μ d t p) (ha : agr (SC μ d t p) μ ν) (hl : μ 106 39 ≤ ν 106 39) : NZ l D c H0 sa ν d t p := fun w ν' x T j q hx dd =>
  xOf.congr ht hp ha ▸ h w ν' x T j q (by rw [← xOf.congr ht hp ha]; exact hx) fun a i s => (dd a i (SC.sub ht hp ha hl a i s)).trans (ha a i s)
theorem JC.at {x g : Int} (h : JC l D c H0 sa ν) (hd : agr (SJ μ x) μ ν) (hg : g < ν 106 6) : KC l D c H0 sa μ x g (ν 106) (ν 106) :=
  ⟨fun a b => by have h := (h a).2; rw [b, JAz.congr hd] at h; exact h, hg, Or.inl fun _ _ _ => rfl⟩
theorem JC.back {x g : Int} {νe : mM} (h : JC l D c H0 sa ν) (hf : ∀ p, agr (SJ ν p) ν νe) (hd : agr (SJ μ x) μ ν) (e2 : νe 106 2 = ν 106 2) (hx : x < ν 106 2) (k : KC l D c H0 sa μ x g (ν 106) (νe 106)) : JC l D c H0 sa νe := fun a => by
  rcases k.2.2 with q | ⟨q0, q⟩
  · have h := h (by rw [← q 26 (by decide) (by decide)]; exact a)
    rw [← q 27 (by decide) (by decide), ← q 28 (by decide) (by decide), ← q 29 (by decide) (by decide), ← q 30 (by decide) (by decide), ← q 31 (by decide) (by decide)] at h
    rw [JAz.congr (hf _), e2]
    exact h
  · have h := k.1 a q
    rw [q, JAz.congr (hf x), JAz.congr hd, e2]
    exact ⟨⟨q0, hx⟩, h⟩
theorem WC.sj {t q : Int} {a i : Nat} (h : SJ ν q a i) : ¬ WC t a i := by
  intro k
  rcases h with ⟨h1, h2⟩ | ⟨h1, h2, -⟩ | ⟨h1, -⟩ <;> rcases k with ⟨k1, -⟩ | ⟨k1, k2⟩ | ⟨k1, k2, k3⟩ <;> omega
/-- one answer for all memories that agree; if it is 0, candidate's row is there -/
theorem cand_all {d t p e0 e1 ts : Int} (hw : mWF w) (hT : mT w μ) (hd : 0 ≤ d ∧ d ≤ 9) (ht : 0 ≤ t ∧ t ≤ 19) (hp : 0 ≤ p ∧ p ≤ 9) (q0 : μ 110 (2 * t).toNat = e0) (q1 : μ 110 (2 * t + 1).toNat = e1) (qt : μ 106 6 = ts) (h0 : t < ts) (h1 : e0 = d ∨ e1 = d) (hI : PK μ) : ∃ z, (-99999999 ≤ z ∧ z ≤ 10) ∧ ∀ w' ν, mWF w' → mT w' ν → JC l D c H0 sa ν → t < ν 106 6 → xOf μ d t p < ν 106 2 → agr (SC μ d t p) μ ν → ∃ νe, CA l D c H0 sa w' ν d t p z νe ∧ (z = 0 → 0 ≤ νe 126 (40 * (4 + t)).toNat) ∧ (νe 126 (40 * (4 + t)).toNat < 0 ∨ νe 126 (40 * (4 + t)).toNat = xOf μ d t p) := by
  have s0 : 0 ≤ sdOf μ d t ∧ sdOf μ d t ≤ 1 := by unfold sdOf; split <;> decide
  have r0 : 0 ≤ rwOf μ d t p := by unfold rwOf; omega
  have hx0 : xOf μ d t p = μ 126 (40 * rwOf μ d t p).toNat := rfl
  obtain ⟨r, μe, ⟨z, rfl, -, -, hz, -, hz0, hzx⟩, hh⟩ := cx_X12_candidate (l := l) (D := D) (c := c) (H0 := H0) (sa := sa) (K := KC l D c H0 sa μ (xOf μ d t p) t) (W := WC t) (S := SC μ d t p) hw hT hd ht hp q0 q1 qt h0 h1 hI
    (sd := sdOf μ d t) (by unfold sdOf; rw [q0]; exact ⟨fun h => if_pos h, fun h => if_neg h⟩) (x := xOf μ d t p) rfl (f_pol := μ 106 39) rfl SC.row (fun i a b => Or.inl ⟨rfl, a, b⟩) (fun γ f k => k.2.1) SC.e SC.k SC.u SC.o
    (fun i a => ⟨SC.p1 _ (Or.inl rfl) a, SC.p1 _ (Or.inr rfl) a⟩) (fun i a => ⟨SC.p2 _ (Or.inl rfl) a, SC.p2 _ (Or.inr rfl) a⟩) (fun a i x y z => SC.p3 _ ⟨x, y⟩ z) (fun i a => ⟨SC.p4 _ (Or.inl rfl) a, SC.p4 _ (Or.inr rfl) a⟩)
    ⟨SC.j (Or.inr (Or.inr ⟨Or.inl rfl, Or.inl rfl⟩)), SC.j (Or.inr (Or.inr ⟨Or.inr rfl, Or.inl rfl⟩))⟩ SC.d (fun a i x y => Or.inr (Or.inl ⟨x, y⟩))
    (fun i a b q => by
      rcases q with ⟨q, -⟩ | ⟨q, -⟩ | ⟨q, -⟩ | ⟨q, -⟩ | ⟨q, -⟩ | ⟨q, -⟩ | ⟨q, -⟩ | ⟨q, -⟩ | ⟨q, -⟩ | ⟨-, q⟩ | ⟨-, q⟩ | ⟨q, q', -⟩ | ⟨q, -⟩ <;> omega)
    (fun S' μ' n z hs hN T F hn q hx => cx_judged hw hT T (fun a i s => by
      refine F a i ?_
      rcases s with ⟨rfl, rfl⟩ | ⟨s1, s2, -⟩ | ⟨s1, -⟩
      · rw [show mRg w 106 18 = _ from by simp only [mRg, (A_106 hw).1]; rfl]; rfl
      · have : a = 119 ∨ a = 120 ∨ a = 121 ∨ a = 122 ∨ a = 123 ∨ a = 124 ∨ a = 125 := by omega
        rcases this with rfl | rfl | rfl | rfl | rfl | rfl | rfl
        · simp only [mRg, (A_119 hw).1]; rfl
        · simp only [mRg, (A_120 hw).1]; rfl
        · simp only [mRg, (A_121 hw).1]; rfl
        · simp only [mRg, (A_122 hw).1]; rfl
        · simp only [mRg, (A_123 hw).1]; rfl
        · simp only [mRg, (A_124 hw).1]; rfl
        · simp only [mRg, (A_125 hw).1]; rfl
      · rcases s1 with rfl | rfl
        · simp only [mRg, (A_108 hw).1]; rfl
        · simp only [mRg, (A_109 hw).1]; rfl) hx hn (by rw [← q]; have h := T 106 106 (A_106 hw) 17; exact ⟨Int.le_trans (by decide) h.1, Int.le_trans h.2 (by decide)⟩) (fun a i s => hs a i (SC.j s)) hN (fun i a b => Or.inr (Or.inr ⟨rfl, a, b⟩)))
  refine ⟨z, hz, fun w' ν x T j q hx2 dd => ?_⟩
  have dJ : agr (SJ μ (xOf μ d t p)) μ ν := dd.mono fun a i s => SC.j s
  obtain ⟨νe, ⟨g1, g2, g3, g4⟩, g5⟩ := hh w' ν (ν 106) x T (j.at dJ q) dd
  exact ⟨νe, ⟨⟨g1, j.back (fun p' a i s => g4 a i (WC.sj s)) dJ (g4 106 2 fun k => by rcases k with ⟨k, -⟩ | ⟨k, -⟩ | ⟨-, k, -⟩ <;> omega) hx2 g2, g4⟩, g5⟩, fun e => by rw [g3 126 _ (Or.inr ⟨rfl, rfl⟩)]; exact hz0 e, by rw [g3 126 _ (Or.inr ⟨rfl, rfl⟩)]; exact hzx⟩
/-- nothing was heard: no candidate -/
theorem NZ.nothing {d t p : Int} (hw : mWF w) (hT : mT w μ) (hd : 0 ≤ d ∧ d ≤ 9) (ht : 0 ≤ t ∧ t < μ 106 6) (hp : 0 ≤ p ∧ p ≤ 9) (h1 : μ 110 (2 * t).toNat = d ∨ μ 110 (2 * t + 1).toNat = d) (hI : PK μ) (hx : xOf μ d t p < 0) : NZ l D c H0 sa μ d t p := by
  have h20 : μ 106 6 ≤ 20 := (hT 106 106 (A_106 hw) 6).2
  obtain ⟨z, hz, h⟩ := cand_all (l := l) (D := D) (c := c) (H0 := H0) (sa := sa) hw hT hd ⟨ht.1, by omega⟩ hp rfl rfl rfl ht.2 h1 hI
  intro w' ν x T j q hx2 dd
  obtain ⟨νe, k, g1, g2⟩ := h w' ν x T j q hx2 dd
  refine ⟨z, νe, fun e => ?_, hz, k, g2⟩
  have := g1 e
  omega
end NZS
end
section
/-! What candidate reads stands where the frames say so. -/
def SCr : List Nat := [106017, 106018, 108999, 109999, 110999, 111999, 112999, 115999, 119999, 120999, 121999, 122999, 123999, 124999, 125999, 127999, 128999, 129999, 132999, 133999, 134999, 135999, 136999, 137999, 138999, 139999, 140999, 141999, 142999, 143999, 144999]
theorem SCr.no {lf : List Nat} {r : Nat} (h : (SCr.all fun r => !lf.elem r) = true) (hr : r ∈ SCr) : lf.elem r = false := by
  have := List.all_eq_true.mp h r hr
  simpa using this
theorem mF.arr {lf : List Nat} {w : mW} {μ μ1 : mM} (hw : mWF w) (F : mF lf w μ μ1) (h : (SCr.all fun r => !lf.elem r) = true) {a i : Nat} (ha : a = 108 ∨ a = 109 ∨ a = 110 ∨ a = 111 ∨ a = 112 ∨ a = 115 ∨ (119 ≤ a ∧ a ≤ 125) ∨ (127 ≤ a ∧ a ≤ 129) ∨ (132 ≤ a ∧ a ≤ 144)) : μ1 a i = μ a i := by
  refine F a i ?_
  have hh : a = 108 ∨ a = 109 ∨ a = 110 ∨ a = 111 ∨ a = 112 ∨ a = 115 ∨ a = 119 ∨ a = 120 ∨ a = 121 ∨ a = 122 ∨ a = 123 ∨ a = 124 ∨ a = 125 ∨ a = 127 ∨ a = 128 ∨ a = 129 ∨ a = 132 ∨ a = 133 ∨ a = 134 ∨ a = 135 ∨ a = 136 ∨ a = 137 ∨ a = 138 ∨ a = 139 ∨ a = 140 ∨ a = 141 ∨ a = 142 ∨ a = 143 ∨ a = 144 := by omega
  rcases hh with rfl | rfl | rfl | rfl | rfl | rfl | rfl | rfl | rfl | rfl | rfl | rfl | rfl | rfl | rfl | rfl | rfl | rfl | rfl | rfl | rfl | rfl | rfl | rfl | rfl | rfl | rfl | rfl | rfl
  · simp only [mRg, (A_108 hw).1]; exact SCr.no h (r := 108999) (by decide)
  · simp only [mRg, (A_109 hw).1]; exact SCr.no h (r := 109999) (by decide)
  · simp only [mRg, (A_110 hw).1]; exact SCr.no h (r := 110999) (by decide)
  · simp only [mRg, (A_111 hw).1]; exact SCr.no h (r := 111999) (by decide)
  · simp only [mRg, (A_112 hw).1]; exact SCr.no h (r := 112999) (by decide)
  · simp only [mRg, (A_115 hw).1]; exact SCr.no h (r := 115999) (by decide)
  · simp only [mRg, (A_119 hw).1]; exact SCr.no h (r := 119999) (by decide)
  · simp only [mRg, (A_120 hw).1]; exact SCr.no h (r := 120999) (by decide)
  · simp only [mRg, (A_121 hw).1]; exact SCr.no h (r := 121999) (by decide)
  · simp only [mRg, (A_122 hw).1]; exact SCr.no h (r := 122999) (by decide)
  · simp only [mRg, (A_123 hw).1]; exact SCr.no h (r := 123999) (by decide)
  · simp only [mRg, (A_124 hw).1]; exact SCr.no h (r := 124999) (by decide)
  · simp only [mRg, (A_125 hw).1]; exact SCr.no h (r := 125999) (by decide)
  · simp only [mRg, (A_127 hw).1]; exact SCr.no h (r := 127999) (by decide)
  · simp only [mRg, (A_128 hw).1]; exact SCr.no h (r := 128999) (by decide)
  · simp only [mRg, (A_129 hw).1]; exact SCr.no h (r := 129999) (by decide)
  · simp only [mRg, (A_132 hw).1]; exact SCr.no h (r := 132999) (by decide)
  · simp only [mRg, (A_133 hw).1]; exact SCr.no h (r := 133999) (by decide)
  · simp only [mRg, (A_134 hw).1]; exact SCr.no h (r := 134999) (by decide)
  · simp only [mRg, (A_135 hw).1]; exact SCr.no h (r := 135999) (by decide)
  · simp only [mRg, (A_136 hw).1]; exact SCr.no h (r := 136999) (by decide)
  · simp only [mRg, (A_137 hw).1]; exact SCr.no h (r := 137999) (by decide)
  · simp only [mRg, (A_138 hw).1]; exact SCr.no h (r := 138999) (by decide)
  · simp only [mRg, (A_139 hw).1]; exact SCr.no h (r := 139999) (by decide)
  · simp only [mRg, (A_140 hw).1]; exact SCr.no h (r := 140999) (by decide)
  · simp only [mRg, (A_141 hw).1]; exact SCr.no h (r := 141999) (by decide)
  · simp only [mRg, (A_142 hw).1]; exact SCr.no h (r := 142999) (by decide)
  · simp only [mRg, (A_143 hw).1]; exact SCr.no h (r := 143999) (by decide)
  · simp only [mRg, (A_144 hw).1]; exact SCr.no h (r := 144999) (by decide)
theorem SJ.fr {lf : List Nat} {w : mW} {μ μ1 : mM} {p : Int} (hw : mWF w) (F : mF lf w μ μ1) (h : (SCr.all fun r => !lf.elem r) = true) : agr (SJ μ p) μ μ1 := fun a i s => by
  rcases s with ⟨rfl, rfl⟩ | ⟨s1, s2, -⟩ | ⟨s1, -⟩
  · refine F 106 18 ?_
    simp only [mRg, (A_106 hw).1]; exact SCr.no h (by decide)
  · exact F.arr hw h (by omega)
  · exact F.arr hw h (by omega)
theorem SC.fr {lf : List Nat} {rs : List (Int × Int)} {w : mW} {μ μ1 : mM} {d t p : Int} (hw : mWF w) (F : mF lf w μ μ1) (h : (SCr.all fun r => !lf.elem r) = true) (G : mG rs μ μ1) (hr : ∀ r ∈ rs, r.2 ≤ 5200 ∨ 21200 ≤ r.1) (ht : 0 ≤ t ∧ t ≤ 19) (hp : 0 ≤ p ∧ p ≤ 9) : agr (SC μ d t p) μ μ1 := fun a i s => by
  have s0 : 0 ≤ sdOf μ d t ∧ sdOf μ d t ≤ 1 := by unfold sdOf; split <;> decide
  have r0 : 130 ≤ rwOf μ d t p ∧ rwOf μ d t p ≤ 529 := by unfold rwOf; omega
  rcases s with ⟨rfl, s⟩ | ⟨s, -⟩ | ⟨s, -⟩ | ⟨s, -⟩ | ⟨s, -⟩ | ⟨s, -⟩ | ⟨s, -⟩ | ⟨s, -⟩ | ⟨s, -⟩ | ⟨rfl, rfl⟩ | s
  · exact G i fun r hr' => by have := hr r hr'; omega
  · exact F.arr hw h (by omega)
  · exact F.arr hw h (by omega)
  · exact F.arr hw h (by omega)
  · exact F.arr hw h (by omega)
  · exact F.arr hw h (by omega)
  · exact F.arr hw h (by omega)
  · exact F.arr hw h (by omega)
  · exact F.arr hw h (by omega)
  · refine F 106 17 ?_
    simp only [mRg, (A_106 hw).1]; exact SCr.no h (by decide)
  · exact SJ.fr hw F h a i s
def CLF : List Nat := [106026, 106027, 106028, 106029, 106030, 106031, 126999, 151999, 152999, 153999]
theorem WC.mF {w : mW} {ν νe : mM} {t : Int} (hw : mWF w) (h : ∀ a i, ¬ WC t a i → νe a i = ν a i) : mF [106026, 106027, 106028, 106029, 106030, 106031, 126999, 151999, 152999, 153999] w ν νe := fun a i hl => by
  refine h a i fun k => ?_
  rcases k with ⟨rfl, -⟩ | ⟨k1, k2⟩ | ⟨rfl, k1, k2⟩
  · simp only [mRg, (A_126 hw).1] at hl; exact absurd (show List.elem 126999 ([106026, 106027, 106028, 106029, 106030, 106031, 126999, 151999, 152999, 153999] : List Nat) = false from hl) (by decide)
  · have : a = 151 ∨ a = 152 ∨ a = 153 := by omega
    rcases this with rfl | rfl | rfl
    · simp only [mRg, (A_151 hw).1] at hl; exact absurd (show List.elem 151999 ([106026, 106027, 106028, 106029, 106030, 106031, 126999, 151999, 152999, 153999] : List Nat) = false from hl) (by decide)
    · simp only [mRg, (A_152 hw).1] at hl; exact absurd (show List.elem 152999 ([106026, 106027, 106028, 106029, 106030, 106031, 126999, 151999, 152999, 153999] : List Nat) = false from hl) (by decide)
    · simp only [mRg, (A_153 hw).1] at hl; exact absurd (show List.elem 153999 ([106026, 106027, 106028, 106029, 106030, 106031, 126999, 151999, 152999, 153999] : List Nat) = false from hl) (by decide)
  · have : i = 26 ∨ i = 27 ∨ i = 28 ∨ i = 29 ∨ i = 30 ∨ i = 31 := by omega
    rcases this with rfl | rfl | rfl | rfl | rfl | rfl <;> (simp only [mRg, (A_106 hw).1] at hl; exact absurd hl (by decide))
theorem WC.mG {ν νe : mM} {t : Int} (h : ∀ a i, ¬ WC t a i → νe a i = ν a i) : mG [(((40 * t) + 160), ((40 * t) + 200))] ν νe := fun i hi => by
  refine h 126 i fun k => ?_
  have q : (i : Int) < 40 * t + 160 ∨ 40 * t + 200 ≤ (i : Int) := hi _ List.mem_cons_self
  rcases k with ⟨-, k⟩ | ⟨k1, k2⟩ | ⟨k, -⟩ <;> omega
/-- a route's prefix is there; the message's is 0 or none -/
def RP (μ : mM) : Prop := ∀ r : Int, 0 ≤ r → r ≤ 1399 → (r = 24 → μ 126 (40 * r).toNat ≤ 0) ∧ (¬ r = 24 → μ 126 (40 * r).toNat < μ 106 2)
theorem RP.keep {lf : List Nat} {w : mW} {μ μ1 : mM} {rs : List (Int × Int)} (h : RP μ) (hw : mWF w) (F : mF lf w μ μ1) (h2 : lf.elem 106002 = false) (G : mG rs μ μ1) (hr : ∀ r ∈ rs, 40 * ((r.2 - 1) / 40) < r.1) : RP μ1 := fun r a b => by
  have e2 : μ1 106 2 = μ 106 2 := F 106 2 (by simp only [mRg, (A_106 hw).1]; exact h2)
  have e : μ1 126 (40 * r).toNat = μ 126 (40 * r).toNat := G _ fun q hq => by have := hr q hq; omega
  rw [e, e2]; exact h r a b
theorem RP.row {lf : List Nat} {w : mW} {μ μ1 : mM} {p hi z : Int} (h : RP μ) (hw : mWF w) (F : mF lf w μ μ1) (h2 : lf.elem 106002 = false) (hp : 0 ≤ p) (G : mG [(40 * p, hi)] μ μ1) (hh : hi ≤ 40 * p + 40) (q : μ1 126 (40 * p).toNat = z) (hz : (p = 24 → z ≤ 0) ∧ (¬ p = 24 → z < μ 106 2)) : RP μ1 := fun r a b => by
  have e2 : μ1 106 2 = μ 106 2 := F 106 2 (by simp only [mRg, (A_106 hw).1]; exact h2)
  rw [e2]
  by_cases e : r = p
  · rw [e, q]; exact hz
  · rw [G _ (List.forall_mem_cons.mpr ⟨show ((40 * r).toNat : Int) < 40 * p ∨ hi ≤ ((40 * r).toNat : Int) by omega, fun _ h => absurd h List.not_mem_nil⟩)]
    exact h r a b
theorem RP.up {μ μ1 : mM} {e z n : Int} (h : RP μ) (hU : mU μ 126 e.toNat z μ1) (q : μ1 106 2 = n) (h0 : 0 ≤ e) (hz : ¬ e % 40 = 0 ∨ 56000 ≤ e ∨ (e = 960 ∧ z ≤ 0) ∨ (¬ e = 960 ∧ z < n)) : RP μ1 := fun r a b => by
  have e2 : μ 106 2 = n := (hU.2 106 2 (Or.inl (by decide))).symm.trans q
  rw [q]
  by_cases e1 : 40 * r = e
  · rw [e1, hU.1]; omega
  · rw [hU.2 126 _ (Or.inr (by omega)), ← e2]; exact h r a b
theorem RP.grow {μ μ1 : mM} {z o : Int} (h : RP μ) (q : μ 106 2 = o) (hU : mU μ 106 2 z μ1) (hz : o ≤ z) : RP μ1 := fun r a b => by
  have := h r a b
  rw [hU.1, hU.2 126 _ (Or.inl (by decide))]
  exact ⟨this.1, fun n => by have := this.2 n; omega⟩
theorem RP.at {μ : mM} {r e z n : Int} (h : RP μ) (h0 : 0 ≤ r ∧ r ≤ 1399) (he : e = 40 * r) (q : μ 126 e.toNat = z) (q2 : μ 106 2 = n) : (r = 24 → z ≤ 0) ∧ (¬ r = 24 → z < n) := by
  have := h r h0.1 h0.2
  rw [← he, q, q2] at this; exact this
section CNS
variable {l : Launch} {D : va_G} {c : Nat → ClassId} {H0 : Heap} {sa : Nat × Nat × (Nat → Int32)} {w : mW} {μ μ1 : mM}
theorem JC.keep {lf : List Nat} (h : JC l D c H0 sa μ) (hw : mWF w) (F : mF lf w μ μ1) (hl : (SCr.all fun r => !lf.elem r) = true) (hc : ([106002, 106026, 106027, 106028, 106029, 106030, 106031].all fun r => !lf.elem r) = true) : JC l D c H0 sa μ1 := by
  have e : ∀ i : Nat, 26 ≤ i → i ≤ 31 → μ1 106 i = μ 106 i := fun i a b => by
    refine F 106 i ?_
    have hh : i = 26 ∨ i = 27 ∨ i = 28 ∨ i = 29 ∨ i = 30 ∨ i = 31 := by omega
    have no : ∀ r ∈ [106002, 106026, 106027, 106028, 106029, 106030, 106031], lf.elem r = false := fun r hr => by simpa using List.all_eq_true.mp hc r hr
    rcases hh with rfl | rfl | rfl | rfl | rfl | rfl <;> (simp only [mRg, (A_106 hw).1]; exact no _ (by decide))
  have e2 : μ1 106 2 = μ 106 2 := by
    have no : lf.elem 106002 = false := by simpa using List.all_eq_true.mp hc 106002 (by decide)
    refine F 106 2 ?_
    simp only [mRg, (A_106 hw).1]; exact no
  intro a
  have k := h (by rw [← e 26 (by decide) (by decide)]; exact a)
  rw [← e 27 (by decide) (by decide), ← e 28 (by decide) (by decide), ← e 29 (by decide) (by decide), ← e 30 (by decide) (by decide), ← e 31 (by decide) (by decide), ← e2] at k
  rw [JAz.congr (SJ.fr hw F hl)]
  exact k
/-- ties below n at d whose row of candidates is nothing have no candidate -/
def CN (l : Launch) (D : va_G) (c : Nat → ClassId) (H0 : Heap) (sa : Nat × Nat × (Nat → Int32)) (μ : mM) (d p n : Int) : Prop := ∀ t : Int, 0 ≤ t → t < n → (μ 110 (2 * t).toNat = d ∨ μ 110 (2 * t + 1).toNat = d) → μ 126 (40 * (4 + t)).toNat < 0 → NZ l D c H0 sa μ d t p
theorem CN.zero {d p : Int} : CN l D c H0 sa μ d p 0 := fun t a b => by omega
theorem CN.step {d p n : Int} {rs : List (Int × Int)} (h : CN l D c H0 sa μ d p n) (hn : 0 ≤ n ∧ n ≤ 19) (hp : 0 ≤ p ∧ p ≤ 9) (hw : mWF w) (F : mF [106026, 106027, 106028, 106029, 106030, 106031, 126999, 151999, 152999, 153999] w μ μ1) (G : mG rs μ μ1) (hr : ∀ r ∈ rs, 40 * (4 + n) ≤ r.1 ∧ r.2 ≤ 40 * (4 + n) + 40) (hN : (μ1 110 (2 * n).toNat = d ∨ μ1 110 (2 * n + 1).toNat = d) → μ1 126 (40 * (4 + n)).toNat < 0 → NZ l D c H0 sa μ1 d n p) : CN l D c H0 sa μ1 d p (n + 1) := fun t a b q z => by
  by_cases e : t = n
  · subst e; exact hN q z
  · have e1 : ∀ i, μ1 110 i = μ 110 i := fun i => F.arr hw rfl (by omega)
    rw [e1, e1] at q
    have e2 : μ1 126 (40 * (4 + t)).toNat = μ 126 (40 * (4 + t)).toNat := G _ fun r hr' => by have := hr r hr'; omega
    rw [e2] at z
    refine (h t a (by omega) q z).keep a hp.1 (SC.fr hw F rfl G (fun r hr' => by have := hr r hr'; omega) ⟨a, by omega⟩ hp) (Int.le_of_eq ?_)
    refine (F 106 39 ?_).symm
    simp only [mRg, (A_106 hw).1]; rfl
end CNS
end
section
/-! no rows -/
end
section
/-! Nothing was picked: then no candidate is there. -/
def no0 (μ : mM) (n : Int) : Prop := ∀ i : Int, 0 ≤ i → i < n → 0 ≤ μ 126 (160 + 40 * i).toNat → 0 < μ 126 (164 + 40 * i).toNat
def noP (μ : mM) (n : Int) : Prop := ∀ i : Int, 0 ≤ i → i < n → 0 ≤ μ 126 (160 + 40 * i).toNat → μ 126 (164 + 40 * i).toNat ≤ 0
def allNo (μ : mM) (n : Int) : Prop := ∀ i : Int, 0 ≤ i → i < n → μ 126 (160 + 40 * i).toNat < 0
def leftC (μ : mM) (n : Int) : Prop := ∀ i : Int, 0 ≤ i → i < n → 0 ≤ μ 126 (160 + 40 * i).toNat → μ 165 i.toNat = 1
theorem no0.zero {μ : mM} : no0 μ 0 := fun i h0 h1 => by omega
theorem noP.zero {μ : mM} : noP μ 0 := fun i h0 h1 => by omega
theorem leftC.zero {μ : mM} : leftC μ 0 := fun i h0 h1 => by omega
theorem no0.put {μ : mM} {n f g x y : Int} (h : no0 μ n) (hf : f = 160 + 40 * n) (q : μ 126 f.toNat = x) (hg : g = 164 + 40 * n) (qg : μ 126 g.toNat = y) (hv : x < 0 ∨ 0 < y) : no0 μ (n + 1) := fun i h0 h1 hx => by
  by_cases e : i = n
  · subst e
    rw [← hf, q] at hx
    rw [← hg, qg]
    omega
  · exact h i h0 (by omega) hx
theorem noP.put {μ : mM} {n f g x y : Int} (h : noP μ n) (hf : f = 160 + 40 * n) (q : μ 126 f.toNat = x) (hg : g = 164 + 40 * n) (qg : μ 126 g.toNat = y) (hv : x < 0 ∨ y ≤ 0) : noP μ (n + 1) := fun i h0 h1 hx => by
  by_cases e : i = n
  · subst e
    rw [← hf, q] at hx
    rw [← hg, qg]
    omega
  · exact h i h0 (by omega) hx
theorem leftC.put {μ μ1 : mM} {n v f x : Int} (h : leftC μ n) (h0 : 0 ≤ n) (hU : mU μ 165 n.toNat v μ1) (hf : f = 160 + 40 * n) (q : μ1 126 f.toNat = x) (hv : v = 1 ∨ x < 0) : leftC μ1 (n + 1) := fun i hi hin hx => by
  by_cases e : i = n
  · subst e
    rw [← hf, q] at hx
    rw [hU.1]
    omega
  · rw [hU.2 165 i.toNat (Or.inr (by omega))]
    rw [hU.2 126 _ (Or.inl (by decide))] at hx
    exact h i hi (by omega) hx
theorem no0.le {μ : mM} {n m : Int} (h : no0 μ n) (hm : m ≤ n) : no0 μ m := fun i a b => h i a (by omega)
theorem noP.le {μ : mM} {n m : Int} (h : noP μ n) (hm : m ≤ n) : noP μ m := fun i a b => h i a (by omega)
theorem leftC.le {μ : mM} {n m : Int} (h : leftC μ n) (hm : m ≤ n) : leftC μ m := fun i a b => h i a (by omega)
theorem allNo.of {μ : mM} {n : Int} (h : no0 μ n) (k : noP μ n) : allNo μ n := fun i a b => by
  have h1 := h i a b
  have h2 := k i a b
  omega
theorem allNo.best {μ : mM} {n z : Int} (h : leftC μ n) (hb : bestOK μ n z) (hz : z = -99999999) : allNo μ n := fun i a b => by
  refine Int.not_le.mp fun q => ?_
  exact hb.2 hz i a b (h i a b q)
end
section
/-! judged keeps its cache's invariant; what stands where nothing of it was touched. -/
section JUS
variable {l : Launch} {D : va_G} {c : Nat → ClassId} {H0 : Heap} {sa : Nat × Nat × (Nat → Int32)} {w : mW} {μ μ1 : mM}
theorem CN.fr {lf : List Nat} {d p : Int} (h : CN l D c H0 sa μ d p (μ 106 6)) (hp : 0 ≤ p ∧ p ≤ 9) (hw : mWF w) (hT : mT w μ) (F : mF lf w μ μ1) (hl : (SCr.all fun r => !lf.elem r) = true) (h6 : lf.elem 106006 = false) (h39 : lf.elem 106039 = false) (h126 : lf.elem 126999 = false) : CN l D c H0 sa μ1 d p (μ1 106 6) := fun t a b q z => by
  have e6 : μ1 106 6 = μ 106 6 := F 106 6 (by simp only [mRg, (A_106 hw).1]; exact h6)
  have e39 : μ1 106 39 = μ 106 39 := F 106 39 (by simp only [mRg, (A_106 hw).1]; exact h39)
  have e126 : ∀ i, μ1 126 i = μ 126 i := fun i => F 126 i (by simp only [mRg, (A_126 hw).1]; exact h126)
  have e1 : ∀ i, μ1 110 i = μ 110 i := fun i => F.arr hw hl (by omega)
  rw [e1, e1] at q
  rw [e126] at z
  rw [e6] at b
  have h20 : μ 106 6 ≤ 20 := (hT 106 106 (A_106 hw) 6).2
  exact (h t a b q z).keep a hp.1 (SC.fr (rs := []) hw F hl (fun i _ => e126 i) (fun _ h => absurd h List.not_mem_nil) ⟨a, by omega⟩ hp) (Int.le_of_eq e39.symm)
/-- nothing was picked: no candidate -/
def NA (l : Launch) (D : va_G) (c : Nat → ClassId) (H0 : Heap) (sa : Nat × Nat × (Nat → Int32)) (μ : mM) (d p : Int) : Prop := ∀ t : Int, 0 ≤ t → t < μ 106 6 → (μ 110 (2 * t).toNat = d ∨ μ 110 (2 * t + 1).toNat = d) → NZ l D c H0 sa μ d t p
theorem NA.of {d p n : Int} (h : CN l D c H0 sa μ d p (μ 106 6)) (hn : μ 106 6 = n) (k : allNo μ n) : NA l D c H0 sa μ d p := fun t a b q =>
  h t a b q (by rw [show 40 * (4 + t) = 160 + 40 * t by omega]; exact k t a (by omega))
theorem NA.fr {lf : List Nat} {rs : List (Int × Int)} {d p : Int} (h : NA l D c H0 sa μ d p) (hp : 0 ≤ p ∧ p ≤ 9) (hw : mWF w) (hT : mT w μ) (F : mF lf w μ μ1) (hl : (SCr.all fun r => !lf.elem r) = true) (h6 : lf.elem 106006 = false) (h39 : lf.elem 106039 = false) (G : mG rs μ μ1) (hr : ∀ r ∈ rs, r.2 ≤ 5200 ∨ 21200 ≤ r.1) : NA l D c H0 sa μ1 d p := fun t a b q => by
  have e6 : μ1 106 6 = μ 106 6 := F 106 6 (by simp only [mRg, (A_106 hw).1]; exact h6)
  have e39 : μ1 106 39 = μ 106 39 := F 106 39 (by simp only [mRg, (A_106 hw).1]; exact h39)
  have e1 : ∀ i, μ1 110 i = μ 110 i := fun i => F.arr hw hl (by omega)
  rw [e1, e1] at q
  rw [e6] at b
  have h20 : μ 106 6 ≤ 20 := (hT 106 106 (A_106 hw) 6).2
  exact (h t a b q).keep a hp.1 (SC.fr hw F hl G hr ⟨a, by omega⟩ hp) (Int.le_of_eq e39.symm)
end JUS
/-- the slots of pickedTie but one stand -/
def PT (μ μ1 : mM) (k : Nat) : Prop := ∀ j : Nat, j ≠ k → μ1 161 j = μ 161 j
theorem PT.fr {lf : List Nat} {w : mW} {μ μ1 : mM} {k : Nat} (hw : mWF w) (F : mF lf w μ μ1) (hl : lf.elem 161999 = false) : PT μ μ1 k := fun j _ => F 161 j (by simp only [mRg, (A_161 hw).1]; exact hl)
theorem PT.up {μ μ1 : mM} {k : Nat} {z : Int} (u : mU μ 161 k z μ1) : PT μ μ1 k := fun j h => u.2 161 j (Or.inr h)
theorem PT.trans {μ μ1 μ2 : mM} {k : Nat} (h : PT μ μ1 k) (h' : PT μ1 μ2 k) : PT μ μ2 k := fun j q => (h' j q).trans (h j q)
end
section
/-! What was not picked has no candidate: for the prefixes below n. -/
section UPS
variable {l : Launch} {D : va_G} {c : Nat → ClassId} {H0 : Heap} {sa : Nat × Nat × (Nat → Int32)} {w : mW} {μ μ1 : mM}
def UPd (l : Launch) (D : va_G) (c : Nat → ClassId) (H0 : Heap) (sa : Nat × Nat × (Nat → Int32)) (μ : mM) (d n : Int) : Prop := ∀ p : Int, 0 ≤ p → p < n → μ 161 (10 * d + p).toNat = -99999999 → NA l D c H0 sa μ d p
theorem UPd.zero {d : Int} : UPd l D c H0 sa μ d 0 := fun p a b => by omega
theorem UPd.step {lf : List Nat} {rs : List (Int × Int)} {d n : Int} (h : UPd l D c H0 sa μ d n) (hd : 0 ≤ d ∧ d ≤ 9) (hn : 0 ≤ n ∧ n ≤ 9) (hw : mWF w) (hT : mT w μ) (F : mF lf w μ μ1) (hl : (SCr.all fun r => !lf.elem r) = true) (h6 : lf.elem 106006 = false) (h39 : lf.elem 106039 = false) (G : mG rs μ μ1) (hr : ∀ r ∈ rs, r.2 ≤ 5200 ∨ 21200 ≤ r.1) (pt : PT μ μ1 (10 * d + n).toNat) (na : μ1 161 (10 * d + n).toNat = -99999999 → NA l D c H0 sa μ1 d n) : UPd l D c H0 sa μ1 d (n + 1) := fun p a b q => by
  by_cases e : p = n
  · subst e; exact na q
  · rw [pt _ (by omega)] at q
    exact (h p a (by omega) q).fr ⟨a, by omega⟩ hw hT F hl h6 h39 G hr
/-- pickedTie stands but for the slots of d -/
def PD (μ μ1 : mM) (d : Int) : Prop := ∀ j : Nat, ((j : Int) < 10 * d ∨ 10 * d + 10 ≤ (j : Int)) → μ1 161 j = μ 161 j
theorem PD.refl {d : Int} : PD μ μ d := fun _ _ => rfl
theorem PD.step {μ2 : mM} {d n : Int} (h : PD μ μ1 d) (hd : 0 ≤ d) (hn : 0 ≤ n ∧ n ≤ 9) (pt : PT μ1 μ2 (10 * d + n).toNat) : PD μ μ2 d := fun j q => (pt j (by omega)).trans (h j q)
end UPS
end
section
/-! What stands between the calls: routes' prefixes, events, what was heard; nothing picked, no candidate. -/
section UIS
variable {l : Launch} {D : va_G} {c : Nat → ClassId} {H0 : Heap} {sa : Nat × Nat × (Nat → Int32)} {w : mW} {μ μ1 : mM}
theorem mU.same {a k : Nat} {z : Int} (u : mU μ a k z μ1) (q : μ a k = z) : μ1 = μ := funext fun b => funext fun i => by
  by_cases e : b = a ∧ i = k
  · rw [e.1, e.2, u.1, q]
  · exact u.2 b i (by omega)
theorem F106 {lf : List Nat} {i : Nat} (hw : mWF w) (F : mF lf w μ μ1) (h : lf.elem (106000 + i) = false) : μ1 106 i = μ 106 i := F 106 i (by simp only [mRg, (A_106 hw).1]; exact h)
/-! the cache of judged -/
def SJr : List Nat := [106002, 106018, 106026, 106027, 106028, 106029, 106030, 106031, 108999, 109999, 119999, 120999, 121999, 122999, 123999, 124999, 125999]
theorem SJr.no {lf : List Nat} {r : Nat} (h : (SJr.all fun r => !lf.elem r) = true) (hr : r ∈ SJr) : lf.elem r = false := by
  have := List.all_eq_true.mp h r hr
  simpa using this
theorem SJ.frJ {lf : List Nat} (hw : mWF w) (F : mF lf w μ μ1) (h : (SJr.all fun r => !lf.elem r) = true) {p : Int} : agr (SJ μ p) μ μ1 := fun a i s => by
  refine F a i ?_
  rcases s with ⟨rfl, rfl⟩ | ⟨s1, s2, -⟩ | ⟨s1, -⟩
  · simp only [mRg, (A_106 hw).1]; exact SJr.no h (r := 106018) (by decide)
  · have hh : a = 119 ∨ a = 120 ∨ a = 121 ∨ a = 122 ∨ a = 123 ∨ a = 124 ∨ a = 125 := by omega
    rcases hh with rfl | rfl | rfl | rfl | rfl | rfl | rfl
    · simp only [mRg, (A_119 hw).1]; exact SJr.no h (r := 119999) (by decide)
    · simp only [mRg, (A_120 hw).1]; exact SJr.no h (r := 120999) (by decide)
    · simp only [mRg, (A_121 hw).1]; exact SJr.no h (r := 121999) (by decide)
    · simp only [mRg, (A_122 hw).1]; exact SJr.no h (r := 122999) (by decide)
    · simp only [mRg, (A_123 hw).1]; exact SJr.no h (r := 123999) (by decide)
    · simp only [mRg, (A_124 hw).1]; exact SJr.no h (r := 124999) (by decide)
    · simp only [mRg, (A_125 hw).1]; exact SJr.no h (r := 125999) (by decide)
  · rcases s1 with rfl | rfl
    · simp only [mRg, (A_108 hw).1]; exact SJr.no h (r := 108999) (by decide)
    · simp only [mRg, (A_109 hw).1]; exact SJr.no h (r := 109999) (by decide)
theorem JC.of (h : JC l D c H0 sa μ) (e2 : μ 106 2 ≤ μ1 106 2) (e : ∀ i : Nat, 26 ≤ i → i ≤ 31 → μ1 106 i = μ 106 i) (hA : 0 ≤ μ 106 27 → μ 106 27 < μ 106 2 → agr (SJ μ (μ 106 27)) μ μ1) : JC l D c H0 sa μ1 := fun a => by
  have k := h (by rw [← e 26 (by decide) (by decide)]; exact a)
  rw [e 27 (by decide) (by decide), e 28 (by decide) (by decide), e 29 (by decide) (by decide), e 30 (by decide) (by decide), e 31 (by decide) (by decide), JAz.congr (hA k.1.1 k.1.2)]
  exact ⟨⟨k.1.1, Int.lt_of_lt_of_le k.1.2 e2⟩, k.2⟩
theorem JC.keepJ {lf : List Nat} (h : JC l D c H0 sa μ) (hw : mWF w) (F : mF lf w μ μ1) (hl : (SJr.all fun r => !lf.elem r) = true) : JC l D c H0 sa μ1 := by
  have e : ∀ i : Nat, 26 ≤ i → i ≤ 31 → μ1 106 i = μ 106 i := fun i a b => by
    refine F106 hw F ?_
    have hh : i = 26 ∨ i = 27 ∨ i = 28 ∨ i = 29 ∨ i = 30 ∨ i = 31 := by omega
    rcases hh with rfl | rfl | rfl | rfl | rfl | rfl <;> exact SJr.no hl (by decide)
  exact h.of (Int.le_of_eq (F106 hw F (SJr.no hl (r := 106002) (by decide))).symm) e fun _ _ => SJ.frJ hw F hl
theorem JC.zero (e : μ 106 26 = 0) : JC l D c H0 sa μ := fun h => absurd e h
theorem JC.sm (h : JC l D c H0 sa μ) (e1 : ∀ i : Nat, i < 1000 → μ1 106 i = μ 106 i) (e2 : ∀ a : Nat, 107 ≤ a → a < 192 → μ1 a = μ a) : JC l D c H0 sa μ1 :=
  h.of (Int.le_of_eq (e1 2 (by decide)).symm) (fun i _ b => e1 i (by omega)) fun _ _ a i s => by
    rcases s with ⟨rfl, rfl⟩ | ⟨s1, s2, -⟩ | ⟨s1, -⟩
    · exact e1 18 (by decide)
    · rw [e2 a (by omega) (by omega)]
    · rw [e2 a (by omega) (by omega)]
/-! events: of prefixes that are there, of ties that are up -/
def EP (μ : mM) : Prop := ∀ s : Int, 0 ≤ s → s ≤ 399 → (0 ≤ μ 157 s.toNat ∨ 0 ≤ μ 159 s.toNat) → s % 10 < μ 106 2 ∧ ¬ μ 112 (s / 20).toNat = 0
def epF (lf : List Nat) : Bool := !(lf.elem 106002) && (!(lf.elem 112999) && (!(lf.elem 157999) && !(lf.elem 159999)))
theorem EP.keep {lf : List Nat} (h : EP μ) (hw : mWF w) (F : mF lf w μ μ1) (hl : epF lf = true) : EP μ1 := by
  simp only [epF, Bool.and_eq_true, Bool.not_eq_true'] at hl
  intro s a b q
  have e1 : ∀ i, μ1 157 i = μ 157 i := fun i => F.f (A_157 hw) hl.2.2.1 rfl
  have e2 : ∀ i, μ1 159 i = μ 159 i := fun i => F.f (A_159 hw) hl.2.2.2 rfl
  have e3 : ∀ i, μ1 112 i = μ 112 i := fun i => F.f (A_112 hw) hl.2.1 rfl
  rw [e1, e2] at q
  rw [e3, F106 hw F hl.1]; exact h s a b q
theorem EP.neg1 {k : Nat} {z : Int} (h : EP μ) (u : mU μ 157 k z μ1) (hz : z < 0) : EP μ1 := fun s a b q => by
  rw [u.2 106 2 (Or.inl (by decide)), u.2 112 _ (Or.inl (by decide))]
  rw [u.2 159 _ (Or.inl (by decide))] at q
  by_cases e : s.toNat = k
  · rw [e, u.1] at q
    rw [← e] at q
    exact h s a b (Or.inr (q.resolve_left (by omega)))
  · rw [u.2 157 _ (Or.inr e)] at q; exact h s a b q
theorem EP.neg2 {k : Nat} {z : Int} (h : EP μ) (u : mU μ 159 k z μ1) (hz : z < 0) : EP μ1 := fun s a b q => by
  rw [u.2 106 2 (Or.inl (by decide)), u.2 112 _ (Or.inl (by decide))]
  rw [u.2 157 _ (Or.inl (by decide))] at q
  by_cases e : s.toNat = k
  · rw [e, u.1] at q
    rw [← e] at q
    exact h s a b (Or.inl (q.resolve_right (by omega)))
  · rw [u.2 159 _ (Or.inr e)] at q; exact h s a b q
theorem EP.up1 {e z n t v : Int} (h : EP μ) (u : mU μ 157 e.toNat z μ1) (h0 : 0 ≤ e) (qn : μ1 106 2 = n) (hn : e % 10 < n) (ht : e / 20 = t) (qt : μ1 112 t.toNat = v) (hv : ¬ v = 0) : EP μ1 := fun s a b q => by
  by_cases e1 : s = e
  · rw [e1, ht, qt, qn]; exact ⟨hn, hv⟩
  · rw [u.2 157 _ (Or.inr (by omega)), u.2 159 _ (Or.inl (by decide))] at q
    rw [u.2 106 2 (Or.inl (by decide)), u.2 112 _ (Or.inl (by decide))]; exact h s a b q
theorem EP.up2 {e z n t v : Int} (h : EP μ) (u : mU μ 159 e.toNat z μ1) (h0 : 0 ≤ e) (qn : μ1 106 2 = n) (hn : e % 10 < n) (ht : e / 20 = t) (qt : μ1 112 t.toNat = v) (hv : ¬ v = 0) : EP μ1 := fun s a b q => by
  by_cases e1 : s = e
  · rw [e1, ht, qt, qn]; exact ⟨hn, hv⟩
  · rw [u.2 159 _ (Or.inr (by omega)), u.2 157 _ (Or.inl (by decide))] at q
    rw [u.2 106 2 (Or.inl (by decide)), u.2 112 _ (Or.inl (by decide))]; exact h s a b q
theorem EP.tie {k : Nat} {z : Int} (h : EP μ) (u : mU μ 112 k z μ1) (hz : ¬ z = 0) : EP μ1 := fun s a b q => by
  rw [u.2 157 _ (Or.inl (by decide)), u.2 159 _ (Or.inl (by decide))] at q
  rw [u.2 106 2 (Or.inl (by decide))]
  refine ⟨(h s a b q).1, ?_⟩
  by_cases e : (s / 20).toNat = k
  · rw [e, u.1]; exact hz
  · rw [u.2 112 _ (Or.inr e)]; exact (h s a b q).2
theorem EP.grow {z o : Int} (h : EP μ) (q : μ 106 2 = o) (u : mU μ 106 2 z μ1) (hz : o ≤ z) : EP μ1 := fun s a b k => by
  rw [u.2 157 _ (Or.inl (by decide)), u.2 159 _ (Or.inl (by decide))] at k
  rw [u.1, u.2 112 _ (Or.inl (by decide))]
  have := h s a b k
  exact ⟨by omega, this.2⟩
theorem EP.at {s n t v : Int} (h : EP μ) (h0 : 0 ≤ s ∧ s ≤ 399) (hv : 0 ≤ μ 157 s.toNat ∨ 0 ≤ μ 159 s.toNat) (q : μ 106 2 = n) (ht : s / 20 = t) (qt : μ 112 t.toNat = v) : s % 10 < n ∧ ¬ v = 0 := by
  have := h s h0.1 h0.2 hv
  rw [ht, qt, q] at this; exact this
theorem EP.ev {e s n t v : Int} (h : EP μ) (he : 0 ≤ e ∧ e ≤ 799) (hv : 0 ≤ evF μ e) (hs : e % 400 = s) (q : μ 106 2 = n) (ht : s / 20 = t) (qt : μ 112 t.toNat = v) : s % 10 < n ∧ ¬ v = 0 := by
  refine EP.at h ⟨by omega, by omega⟩ ?_ q ht qt
  by_cases hl : e < 400
  · rw [evF, if_pos hl] at hv
    rw [show s = e by omega]; exact Or.inl hv
  · rw [evF, if_neg hl] at hv
    rw [show s = e - 400 by omega]; exact Or.inr hv
/-! what was heard: from ties that are up, of prefixes that are there -/
def HP (μ : mM) : Prop := ∀ s : Int, 0 ≤ s → s ≤ 399 → 0 ≤ μ 126 (40 * (130 + s)).toNat → s < 20 * μ 106 6 ∧ s % 10 < μ 106 2 ∧ ¬ μ 112 (s / 20).toNat = 0
def hpF (lf : List Nat) : Bool := !(lf.elem 106002) && (!(lf.elem 106006) && !(lf.elem 112999))
theorem HP.keep {lf : List Nat} {rs : List (Int × Int)} (h : HP μ) (hw : mWF w) (F : mF lf w μ μ1) (hl : hpF lf = true) (G : mG rs μ μ1) (hr : ∀ r ∈ rs, r.2 ≤ 5200 ∨ 21200 ≤ r.1) : HP μ1 := by
  simp only [hpF, Bool.and_eq_true, Bool.not_eq_true'] at hl
  intro s a b q
  have e3 : ∀ i, μ1 112 i = μ 112 i := fun i => F.f (A_112 hw) hl.2.2 rfl
  rw [G _ fun r hr' => by have := hr r hr'; omega] at q
  rw [e3, F106 hw F (i := 2) hl.1, F106 hw F (i := 6) hl.2.1]; exact h s a b q
theorem HP.row {lf : List Nat} {rs : List (Int × Int)} {e n m t v : Int} (h : HP μ) (hw : mWF w) (F : mF lf w μ μ1) (hl : hpF lf = true) (G : mG rs μ μ1) (hr : ∀ r ∈ rs, 40 * (130 + e) ≤ r.1 ∧ r.2 ≤ 40 * (130 + e) + 40) (q6 : μ 106 6 = n) (h6 : e < 20 * n) (q2 : μ 106 2 = m) (h2 : e % 10 < m) (ht : e / 20 = t) (qt : μ 112 t.toNat = v) (hv : ¬ v = 0) : HP μ1 := by
  simp only [hpF, Bool.and_eq_true, Bool.not_eq_true'] at hl
  intro s a b q
  have e3 : ∀ i, μ1 112 i = μ 112 i := fun i => F.f (A_112 hw) hl.2.2 rfl
  rw [e3, F106 hw F (i := 2) hl.1, F106 hw F (i := 6) hl.2.1]
  by_cases e1 : s = e
  · rw [e1, q6, q2, ht, qt]; exact ⟨h6, h2, hv⟩
  · rw [G _ fun r hr' => by have := hr r hr'; omega] at q
    exact h s a b q
theorem HP.tie {k : Nat} {z : Int} (h : HP μ) (u : mU μ 112 k z μ1) (hz : ¬ z = 0) : HP μ1 := fun s a b q => by
  rw [u.2 126 _ (Or.inl (by decide))] at q
  rw [u.2 106 2 (Or.inl (by decide)), u.2 106 6 (Or.inl (by decide))]
  refine ⟨(h s a b q).1, (h s a b q).2.1, ?_⟩
  by_cases e : (s / 20).toNat = k
  · rw [e, u.1]; exact hz
  · rw [u.2 112 _ (Or.inr e)]; exact (h s a b q).2.2
theorem HP.grow2 {z o : Int} (h : HP μ) (q : μ 106 2 = o) (u : mU μ 106 2 z μ1) (hz : o ≤ z) : HP μ1 := fun s a b k => by
  rw [u.2 126 _ (Or.inl (by decide))] at k
  rw [u.1, u.2 112 _ (Or.inl (by decide)), u.2 106 6 (Or.inr (by decide))]
  have := h s a b k
  exact ⟨this.1, by omega, this.2.2⟩
theorem HP.grow6 {z o : Int} (h : HP μ) (q : μ 106 6 = o) (u : mU μ 106 6 z μ1) (hz : o ≤ z) : HP μ1 := fun s a b k => by
  rw [u.2 126 _ (Or.inl (by decide))] at k
  rw [u.1, u.2 112 _ (Or.inl (by decide)), u.2 106 2 (Or.inr (by decide))]
  have := h s a b k
  exact ⟨by omega, this.2.1, this.2.2⟩
/-! ends of ties, prefixes of rights -/
def TE (μ : mM) : Prop := ∀ i : Nat, (i : Int) < 2 * μ 106 6 → μ 110 i < μ 106 5
def RR (μ : mM) : Prop := ∀ r : Nat, (r : Int) < μ 106 18 → μ 119 r < μ 106 2
theorem TE.keep {lf : List Nat} (h : TE μ) (hw : mWF w) (F : mF lf w μ μ1) (h1 : lf.elem 106005 = false) (h2 : lf.elem 106006 = false) (h3 : lf.elem 110999 = false) : TE μ1 := fun i a => by
  rw [F106 hw F h2] at a
  rw [F106 hw F h1, show μ1 110 i = μ 110 i from F.f (A_110 hw) h3 rfl]; exact h i a
theorem RR.keep {lf : List Nat} (h : RR μ) (hw : mWF w) (F : mF lf w μ μ1) (h1 : lf.elem 106002 = false) (h2 : lf.elem 106018 = false) (h3 : lf.elem 119999 = false) : RR μ1 := fun i a => by
  rw [F106 hw F h2] at a
  rw [F106 hw F h1, show μ1 119 i = μ 119 i from F.f (A_119 hw) h3 rfl]; exact h i a
def RRn (μ : mM) (n : Int) : Prop := ∀ r : Nat, (r : Int) < n → μ 119 r < μ 106 2
theorem RRn.put {e z n m : Int} (h : RR μ) (u : mU μ 119 e.toNat z μ1) (qn : μ1 106 18 = n) (he : e = n ∧ 0 ≤ e) (qm : μ1 106 2 = m) (hz : z < m) : RRn μ1 (n + 1) := fun r a => by
  by_cases k : r = e.toNat
  · rw [k, u.1, qm]; exact hz
  · rw [u.2 119 r (Or.inr k), u.2 106 2 (Or.inl (by decide))]
    exact h r (by rw [← u.2 106 18 (Or.inl (by decide)), qn]; omega)
theorem RRn.fin {lf : List Nat} {n : Int} (h : RRn μ n) (hw : mWF w) (F : mF lf w μ μ1) (h1 : lf.elem 106002 = false) (h3 : lf.elem 119999 = false) (hn : μ1 106 18 ≤ n) : RR μ1 := fun i a => by
  rw [F106 hw F h1, show μ1 119 i = μ 119 i from F.f (A_119 hw) h3 rfl]; exact h i (by omega)
/-! nothing picked, no candidate -/
theorem SC.frR {lf : List Nat} {rs : List (Int × Int)} {d t p : Int} (hw : mWF w) (F : mF lf w μ μ1) (h : (SCr.all fun r => !lf.elem r) = true) (G : mG rs μ μ1) (hr : ∀ r ∈ rs, r.2 ≤ 40 * rwOf μ d t p ∨ 40 * rwOf μ d t p + 40 ≤ r.1) : agr (SC μ d t p) μ μ1 := fun a i s => by
  rcases s with ⟨rfl, s1, s2⟩ | ⟨rfl, -⟩ | ⟨rfl, -⟩ | ⟨rfl, -⟩ | ⟨rfl, -⟩ | ⟨s, -⟩ | ⟨s, -⟩ | ⟨s, -⟩ | ⟨s, -⟩ | ⟨rfl, rfl⟩ | s
  · exact G i fun r hr' => by have := hr r hr'; omega
  · exact F.arr hw h (by omega)
  · exact F.arr hw h (by omega)
  · exact F.arr hw h (by omega)
  · exact F.arr hw h (by omega)
  · exact F.arr hw h (by omega)
  · exact F.arr hw h (by omega)
  · exact F.arr hw h (by omega)
  · exact F.arr hw h (by omega)
  · refine F 106 17 ?_
    simp only [mRg, (A_106 hw).1]; exact SCr.no h (by decide)
  · exact SJ.fr hw F h a i s
theorem SC.up {a k : Nat} {z d t p : Int} (u : mU μ a k z μ1) (h : ¬ SC μ d t p a k) : agr (SC μ d t p) μ μ1 := fun b i s => by
  refine u.2 b i ?_
  by_cases e : b = a
  · right; intro e'; rw [e, e'] at s; exact h s
  · exact Or.inl e
def UPg (l : Launch) (D : va_G) (c : Nat → ClassId) (H0 : Heap) (sa : Nat × Nat × (Nat → Int32)) (μ : mM) (E : Int → Int → Prop) : Prop := ∀ d p : Int, 0 ≤ d → d < μ 106 5 → 0 ≤ p → p < μ 106 2 → ¬ E d p → μ 161 (10 * d + p).toNat = -99999999 → NA l D c H0 sa μ d p
def UP (l : Launch) (D : va_G) (c : Nat → ClassId) (H0 : Heap) (sa : Nat × Nat × (Nat → Int32)) (μ : mM) : Prop := UPg l D c H0 sa μ fun _ _ => False
theorem UP.weak {E : Int → Int → Prop} (h : UP l D c H0 sa μ) : UPg l D c H0 sa μ E := fun d p a b x y _ q => h d p a b x y id q
theorem mD {w : mW} {μ : mM} (hw : mWF w) (hT : mT w μ) : (0 ≤ μ 106 2 ∧ μ 106 2 ≤ 10) ∧ (0 ≤ μ 106 5 ∧ μ 106 5 ≤ 10) ∧ (0 ≤ μ 106 6 ∧ μ 106 6 ≤ 20) := ⟨hT 106 106 (A_106 hw) 2, hT 106 106 (A_106 hw) 5, hT 106 106 (A_106 hw) 6⟩
def upF (lf : List Nat) : Bool := !(lf.elem 106002) && (!(lf.elem 106005) && !(lf.elem 161999))
theorem NA.frB {lf : List Nat} {rs : List (Int × Int)} {d p : Int} (h : NA l D c H0 sa μ d p) (hp : 0 ≤ p ∧ p ≤ 9) (hw : mWF w) (h20 : μ 106 6 ≤ 20) (F : mF lf w μ μ1) (hl : (SCr.all fun r => !lf.elem r) = true) (h6 : lf.elem 106006 = false) (h39 : lf.elem 106039 = false) (G : mG rs μ μ1) (hr : ∀ r ∈ rs, r.2 ≤ 5200 ∨ 21200 ≤ r.1) : NA l D c H0 sa μ1 d p := fun t a b q => by
  have e1 : ∀ i, μ1 110 i = μ 110 i := fun i => F.arr hw hl (by omega)
  rw [e1, e1] at q
  rw [F106 hw F h6] at b
  exact (h t a b q).keep a hp.1 (SC.fr hw F hl G hr ⟨a, by omega⟩ hp) (Int.le_of_eq (F106 hw F h39).symm)
theorem UPg.fr {lf : List Nat} {rs : List (Int × Int)} {E : Int → Int → Prop} (h : UPg l D c H0 sa μ E) (hw : mWF w) (hT : mT w μ1) (hu : upF lf = true) (F : mF lf w μ μ1) (hl : (SCr.all fun r => !lf.elem r) = true) (h6 : lf.elem 106006 = false) (h39 : lf.elem 106039 = false) (G : mG rs μ μ1) (hr : ∀ r ∈ rs, r.2 ≤ 5200 ∨ 21200 ≤ r.1) : UPg l D c H0 sa μ1 E := by
  simp only [upF, Bool.and_eq_true, Bool.not_eq_true'] at hu
  intro d p a b x y e q
  rw [F106 hw F hu.2.1] at b
  rw [F106 hw F hu.1] at y
  rw [show μ1 161 (10 * d + p).toNat = μ 161 (10 * d + p).toNat from F.f (A_161 hw) hu.2.2 rfl] at q
  have hm := mD hw hT
  rw [F106 hw F (i := 6) h6, F106 hw F (i := 2) hu.1] at hm
  exact (h d p a b x y e q).frB ⟨x, by omega⟩ hw (by omega) F hl h6 h39 G hr
theorem UPg.look {lf : List Nat} {rs : List (Int × Int)} {E : Int → Int → Prop} {d p : Int} (h : UPg l D c H0 sa μ E) (hE : ∀ d' p', E d' p' → d' = d ∧ p' = p) (hd : 0 ≤ d ∧ d ≤ 9) (hp : 0 ≤ p ∧ p ≤ 9) (hw : mWF w) (hT : mT w μ) (h2 : lf.elem 106002 = false) (h5 : lf.elem 106005 = false) (F : mF lf w μ μ1) (hl : (SCr.all fun r => !lf.elem r) = true) (h6 : lf.elem 106006 = false) (h39 : lf.elem 106039 = false) (G : mG rs μ μ1) (hr : ∀ r ∈ rs, r.2 ≤ 5200 ∨ 21200 ≤ r.1) (pt : PT μ μ1 (10 * d + p).toNat) (na : μ1 161 (10 * d + p).toNat = -99999999 → NA l D c H0 sa μ1 d p) : UP l D c H0 sa μ1 := fun d' p' a b x y _ q => by
  have hm := mD hw hT
  rw [F106 hw F h5] at b
  rw [F106 hw F h2] at y
  by_cases e : d' = d ∧ p' = p
  · rw [e.1, e.2] at q ⊢; exact na q
  · rw [pt _ (by omega)] at q
    exact (h d' p' a b x y (fun k => e (hE _ _ k)) q).fr ⟨x, by omega⟩ hw hT F hl h6 h39 G hr
theorem UPg.lookAll {lf : List Nat} {rs : List (Int × Int)} {E : Int → Int → Prop} {d n : Int} (h : UPg l D c H0 sa μ E) (hE : ∀ d' p', E d' p' → d' = d) (hd : 0 ≤ d ∧ d ≤ 9) (qn : μ 106 2 = n) (hw : mWF w) (hT : mT w μ) (h2 : lf.elem 106002 = false) (h5 : lf.elem 106005 = false) (F : mF lf w μ μ1) (hl : (SCr.all fun r => !lf.elem r) = true) (h6 : lf.elem 106006 = false) (h39 : lf.elem 106039 = false) (G : mG rs μ μ1) (hr : ∀ r ∈ rs, r.2 ≤ 5200 ∨ 21200 ≤ r.1) (pd : PD μ μ1 d) (up : UPd l D c H0 sa μ1 d n) : UP l D c H0 sa μ1 := fun d' p' a b x y _ q => by
  have hm := mD hw hT
  rw [F106 hw F h5] at b
  rw [F106 hw F h2] at y
  by_cases e : d' = d
  · rw [e] at q ⊢; exact up p' x (by omega) q
  · rw [pd _ (by omega)] at q
    exact (h d' p' a b x y (fun k => e (hE _ _ k)) q).fr ⟨x, by omega⟩ hw hT F hl h6 h39 G hr
/-- for the domains below n -/
def UPn (l : Launch) (D : va_G) (c : Nat → ClassId) (H0 : Heap) (sa : Nat × Nat × (Nat → Int32)) (μ : mM) (n m : Int) : Prop := ∀ d : Int, 0 ≤ d → d < n → UPd l D c H0 sa μ d m
theorem UPn.zero {m : Int} : UPn l D c H0 sa μ 0 m := fun d a b => by omega
theorem UPn.step {lf : List Nat} {rs : List (Int × Int)} {d n : Int} (h : UPn l D c H0 sa μ d n) (hn : n ≤ 10) (hd : 0 ≤ d) (hw : mWF w) (hT : mT w μ) (F : mF lf w μ μ1) (hl : (SCr.all fun r => !lf.elem r) = true) (h6 : lf.elem 106006 = false) (h39 : lf.elem 106039 = false) (G : mG rs μ μ1) (hr : ∀ r ∈ rs, r.2 ≤ 5200 ∨ 21200 ≤ r.1) (pd : PD μ μ1 d) (up : UPd l D c H0 sa μ1 d n) : UPn l D c H0 sa μ1 (d + 1) n := fun d' a b p x y q => by
  by_cases e : d' = d
  · rw [e] at q ⊢; exact up p x y q
  · rw [pd _ (by omega)] at q
    exact (h d' a (by omega) p x y q).fr ⟨x, by omega⟩ hw hT F hl h6 h39 G hr
theorem UPn.up {d n : Int} (h : UPn l D c H0 sa μ d n) (hd : μ 106 5 ≤ d) (hn : μ 106 2 ≤ n) : UP l D c H0 sa μ := fun d' p a b x y _ q => h d' a (by omega) p x (by omega) q
/-- a row of what was heard changes -/
theorem UP.hear {lf : List Nat} {rs : List (Int × Int)} {t sd p s : Int} (h : UP l D c H0 sa μ) (hw : mWF w) (hT : mT w μ) (hu : upF lf = true) (F : mF lf w μ μ1) (hl : (SCr.all fun r => !lf.elem r) = true) (h6 : lf.elem 106006 = false) (h39 : lf.elem 106039 = false) (G : mG rs μ μ1) (hr : ∀ r ∈ rs, 40 * (130 + s) ≤ r.1 ∧ r.2 ≤ 40 * (130 + s) + 40) (hs : s = (2 * t + sd) * 10 + p) (ht : 0 ≤ t) (hp : 0 ≤ p ∧ p ≤ 9) (hsd : sd = 0 ∨ sd = 1) : UPg l D c H0 sa μ1 fun d' p' => d' = μ 110 (2 * t + sd).toNat ∧ p' = p := by
  simp only [upF, Bool.and_eq_true, Bool.not_eq_true'] at hu
  intro d' p' a b x y ne q t' ta tb tq
  have hm := mD hw hT
  rw [F106 hw F hu.2.1] at b
  rw [F106 hw F hu.1] at y
  rw [show μ1 161 (10 * d' + p').toNat = μ 161 (10 * d' + p').toNat from F.f (A_161 hw) hu.2.2 rfl] at q
  rw [F106 hw F h6] at tb
  have e1 : ∀ i, μ1 110 i = μ 110 i := fun i => F.arr hw hl (by omega)
  rw [e1, e1] at tq
  refine (h d' p' a b x y id q t' ta tb tq).keep ta x (SC.frR hw F hl G fun r hr' => ?_) (Int.le_of_eq (F106 hw F h39).symm)
  have k := hr r hr'
  have ns : ¬ rwOf μ d' t' p' = 130 + s := by
    intro ee
    unfold rwOf sdOf at ee
    split at ee
    · rename_i e0
      have e2 : t' = t ∧ sd = 0 ∧ p' = p := by omega
      obtain ⟨rfl, rfl, rfl⟩ := e2
      exact ne ⟨by rw [show 2 * t' + 0 = 2 * t' by omega]; exact e0.symm, rfl⟩
    · rename_i e0
      have e2 : t' = t ∧ sd = 1 ∧ p' = p := by omega
      obtain ⟨rfl, rfl, rfl⟩ := e2
      exact ne ⟨(tq.resolve_left e0).symm, rfl⟩
  omega
/-- a tie's policy changes -/
theorem UP.use {e z t sd way d : Int} (h : UP l D c H0 sa μ) (u : mU μ 115 e.toNat z μ1) (he : e = 4 * t + 2 * sd + way) (ht : 0 ≤ t) (hsd : sd = 0 ∨ sd = 1) (hway : way = 0 ∨ way = 1) (qd' : μ1 110 (2 * t + sd).toNat = d) : UPg l D c H0 sa μ1 fun d' _ => way = 0 ∧ d' = d := by
  have qd : μ 110 (2 * t + sd).toNat = d := (u.2 110 _ (Or.inl (by decide))).symm.trans qd'
  intro d' p' a b x y ne q t' ta tb tq
  rw [u.2 106 _ (Or.inl (by decide))] at b y tb
  rw [u.2 161 _ (Or.inl (by decide))] at q
  rw [u.2 110 _ (Or.inl (by decide)), u.2 110 _ (Or.inl (by decide))] at tq
  refine (h d' p' a b x y id q t' ta tb tq).keep ta x (SC.up u ?_) (Int.le_of_eq (u.2 106 39 (Or.inl (by decide))).symm)
  intro k
  have hh : e.toNat = (4 * t' + 2 * sdOf μ d' t').toNat := by
    rcases k with ⟨k, -⟩ | ⟨k, -⟩ | ⟨k, -⟩ | ⟨k, -⟩ | ⟨-, k⟩ | ⟨k, -⟩ | ⟨k, -⟩ | ⟨k, -⟩ | ⟨k, -⟩ | ⟨k, -⟩ | ⟨k, -⟩ | ⟨k, k', -⟩ | ⟨k, -⟩
    all_goals first | exact k | omega
  unfold sdOf at hh
  split at hh
  · rename_i e0
    have e2 : t' = t ∧ sd = 0 ∧ way = 0 := by omega
    obtain ⟨rfl, rfl, rfl⟩ := e2
    exact ne ⟨rfl, by rw [show 2 * t' + 0 = 2 * t' by omega] at qd; rw [← e0, qd]⟩
  · rename_i e0
    have e2 : t' = t ∧ sd = 1 ∧ way = 0 := by omega
    obtain ⟨rfl, rfl, rfl⟩ := e2
    exact ne ⟨rfl, by rw [← qd]; exact (tq.resolve_left e0).symm⟩
theorem UPg.none {E : Int → Int → Prop} (h : UPg l D c H0 sa μ E) (hE : ∀ d p, ¬ E d p) : UP l D c H0 sa μ := fun d p a b x y _ q => h d p a b x y (hE d p) q
/-! but for one tie -/
def UPx (l : Launch) (D : va_G) (c : Nat → ClassId) (H0 : Heap) (sa : Nat × Nat × (Nat → Int32)) (μ : mM) (t : Int) : Prop := ∀ d p : Int, 0 ≤ d → d < μ 106 5 → 0 ≤ p → p < μ 106 2 → μ 161 (10 * d + p).toNat = -99999999 → ∀ t' : Int, 0 ≤ t' → t' < μ 106 6 → ¬ t' = t → (μ 110 (2 * t').toNat = d ∨ μ 110 (2 * t' + 1).toNat = d) → NZ l D c H0 sa μ d t' p
theorem UP.x {t : Int} (h : UP l D c H0 sa μ) : UPx l D c H0 sa μ t := fun d p a b x y q t' ta tb _ tq => h d p a b x y id q t' ta tb tq
theorem UPx.tie {t z : Int} (h : UPx l D c H0 sa μ t) (u : mU μ 112 t.toNat z μ1) (ht : 0 ≤ t) : UPx l D c H0 sa μ1 t := fun d p a b x y q t' ta tb tn tq => by
  rw [u.2 106 _ (Or.inl (by decide))] at b y tb
  rw [u.2 161 _ (Or.inl (by decide))] at q
  rw [u.2 110 _ (Or.inl (by decide)), u.2 110 _ (Or.inl (by decide))] at tq
  refine (h d p a b x y q t' ta tb tn tq).keep ta x (SC.up u ?_) (Int.le_of_eq (u.2 106 39 (Or.inl (by decide))).symm)
  intro k
  rcases k with ⟨k, -⟩ | ⟨k, -⟩ | ⟨k, -⟩ | ⟨-, k⟩ | ⟨k, -⟩ | ⟨k, -⟩ | ⟨k, -⟩ | ⟨k, -⟩ | ⟨k, -⟩ | ⟨k, -⟩ | ⟨k, -⟩ | ⟨k, k', -⟩ | ⟨k, -⟩ <;> omega
theorem UPx.fr {lf : List Nat} {rs : List (Int × Int)} {t : Int} (h : UPx l D c H0 sa μ t) (hw : mWF w) (hT : mT w μ1) (ht : 0 ≤ t) (hu : upF lf = true) (F : mF lf w μ μ1) (hl : (SCr.all fun r => !lf.elem r) = true) (h6 : lf.elem 106006 = false) (h39 : lf.elem 106039 = false) (G : mG rs μ μ1) (hr : ∀ r ∈ rs, r.2 ≤ 5200 ∨ 21200 ≤ r.1 ∨ (40 * (130 + 20 * t) ≤ r.1 ∧ r.2 ≤ 40 * (130 + 20 * t) + 800)) : UPx l D c H0 sa μ1 t := by
  simp only [upF, Bool.and_eq_true, Bool.not_eq_true'] at hu
  intro d p a b x y q t' ta tb tn tq
  have hm := mD hw hT
  rw [F106 hw F (i := 6) h6, F106 hw F (i := 2) hu.1] at hm
  rw [F106 hw F hu.2.1] at b
  rw [F106 hw F hu.1] at y
  rw [show μ1 161 (10 * d + p).toNat = μ 161 (10 * d + p).toNat from F.f (A_161 hw) hu.2.2 rfl] at q
  rw [F106 hw F h6] at tb
  have e1 : ∀ i, μ1 110 i = μ 110 i := fun i => F.arr hw hl (by omega)
  rw [e1, e1] at tq
  refine (h d p a b x y q t' ta tb tn tq).keep ta x (SC.frR hw F hl G fun r hr' => ?_) (Int.le_of_eq (F106 hw F h39).symm)
  have k := hr r hr'
  have s0 : 0 ≤ sdOf μ d t' ∧ sdOf μ d t' ≤ 1 := by unfold sdOf; split <;> decide
  unfold rwOf
  omega
theorem UPx.all {t : Int} (h : UPx l D c H0 sa μ t) (hw : mWF w) (hT : mT w μ) (hI : PK μ) (hn : ∀ s : Int, 20 * t ≤ s → s < 20 * t + 20 → μ 126 (40 * (130 + s)).toNat < 0) : UP l D c H0 sa μ := fun d p a b x y _ q t' ta tb tq => by
  have hm := mD hw hT
  by_cases e : t' = t
  · have s0 : 0 ≤ sdOf μ d t' ∧ sdOf μ d t' ≤ 1 := by unfold sdOf; split <;> decide
    refine NZ.nothing hw hT ⟨a, by omega⟩ ⟨ta, tb⟩ ⟨x, by omega⟩ tq hI ?_
    unfold xOf rwOf
    exact hn _ (by omega) (by omega)
  · exact h d p a b x y q t' ta tb e tq
/-! a tie falls -/
def RD (μ : mM) (t n : Int) : Prop := (∀ s : Int, 0 ≤ s → s ≤ 399 → ¬ s / 20 = t → (0 ≤ μ 157 s.toNat ∨ 0 ≤ μ 159 s.toNat → s % 10 < μ 106 2 ∧ ¬ μ 112 (s / 20).toNat = 0) ∧ (0 ≤ μ 126 (40 * (130 + s)).toNat → s < 20 * μ 106 6 ∧ s % 10 < μ 106 2 ∧ ¬ μ 112 (s / 20).toNat = 0)) ∧ ∀ s : Int, 20 * t ≤ s → s < n → μ 157 s.toNat < 0 ∧ μ 159 s.toNat < 0 ∧ μ 126 (40 * (130 + s)).toNat < 0
theorem RD.begin {t z : Int} (h : EP μ) (k : HP μ) (ht : 0 ≤ t) (u : mU μ 112 t.toNat z μ1) : RD μ1 t (20 * t) := by
  refine ⟨fun s a b n => ?_, fun s a b => by omega⟩
  rw [u.2 157 _ (Or.inl (by decide)), u.2 159 _ (Or.inl (by decide)), u.2 126 _ (Or.inl (by decide)), u.2 106 2 (Or.inl (by decide)), u.2 106 6 (Or.inl (by decide)), u.2 112 _ (Or.inr (by omega))]
  exact ⟨h s a b, k s a b⟩
def one (μ μ1 : mM) (a : Nat) (k : Int) : Prop := ∀ j : Nat, ¬ (j : Int) = k → μ1 a j = μ a j
theorem one.refl {a : Nat} {k : Int} : one μ μ a k := fun _ _ => rfl
theorem one.up {μ2 : mM} {a : Nat} {k z : Int} (h : one μ μ1 a k) (h0 : 0 ≤ k) (u : mU μ1 a k.toNat z μ2) : one μ μ2 a k := fun j q => (u.2 a j (Or.inr (by omega))).trans (h j q)
theorem one.oth {μ2 : mM} {a b i : Nat} {k z : Int} (h : one μ μ1 a k) (u : mU μ1 b i z μ2) (hb : Nat.beq a b = false) : one μ μ2 a k := fun j q => (u.2 a j (Or.inl (fun e => by rw [e, Nat.beq_refl] at hb; cases hb))).trans (h j q)
theorem one.fr {μ2 : mM} {lf : List Nat} {a : Nat} {k : Int} (h : one μ μ1 a k) (F : mF lf w μ1 μ2) (hA : mAt w a a) (hl : lf.elem (1000 * a + 999) = false) (hm : mArr a = true) : one μ μ2 a k := fun j q => by
  refine (F a j ?_).trans (h j q)
  unfold mRg; rw [hA.1, hm]; exact hl
theorem RD.eq {t n m : Int} (h : RD μ t n) (e : n = m) : RD μ t m := by rw [← e]; exact h
theorem RD.step {lf : List Nat} {rs : List (Int × Int)} {t n x y v : Int} (h : RD μ t n) (hw : mWF w) (F : mF lf w μ μ1) (hl : hpF lf = true) (h0 : 0 ≤ t ∧ t ≤ 19) (hn : 20 * t ≤ n ∧ n < 20 * t + 20) (G : mG rs μ μ1) (hr : ∀ r ∈ rs, r.2 ≤ 5200 ∨ 21200 ≤ r.1 ∨ (40 * (130 + n) ≤ r.1 ∧ r.2 ≤ 40 * (130 + n) + 40)) (o1 : one μ μ1 157 n) (o2 : one μ μ1 159 n) (q1 : μ1 157 n.toNat = x) (hx : x < 0) (q2 : μ1 159 n.toNat = y) (hy : y < 0) (q3 : μ1 126 (40 * (130 + n)).toNat = v) (hv : v < 0) : RD μ1 t (n + 1) := by
  simp only [hpF, Bool.and_eq_true, Bool.not_eq_true'] at hl
  have e3 : ∀ i, μ1 112 i = μ 112 i := fun i => F.f (A_112 hw) hl.2.2 rfl
  refine ⟨fun s a b ne => ?_, fun s a b => ?_⟩
  · rw [o1 _ (by omega), o2 _ (by omega), G _ fun r hr' => by have := hr r hr'; omega, F106 hw F hl.1, F106 hw F hl.2.1, e3]
    exact h.1 s a b ne
  · by_cases e : s = n
    · rw [e, q1, q2, q3]; exact ⟨hx, hy, hv⟩
    · rw [o1 _ (by omega), o2 _ (by omega), G _ fun r hr' => by have := hr r hr'; omega]
      exact h.2 s a (by omega)
theorem RD.ep {t n : Int} (h : RD μ t n) (hn : 20 * t + 20 ≤ n) : EP μ := fun s a b q => by
  by_cases e : s / 20 = t
  · have := h.2 s (by omega) (by omega)
    omega
  · exact (h.1 s a b e).1 q
theorem RD.hp {t n : Int} (h : RD μ t n) (hn : 20 * t + 20 ≤ n) : HP μ := fun s a b q => by
  by_cases e : s / 20 = t
  · have := h.2 s (by omega) (by omega)
    omega
  · exact (h.1 s a b e).2 q
theorem RD.no {t n : Int} (h : RD μ t n) (hn : 20 * t + 20 ≤ n) : ∀ s : Int, 20 * t ≤ s → s < 20 * t + 20 → μ 126 (40 * (130 + s)).toNat < 0 := fun s a b => (h.2 s a (by omega)).2.2
/-- a tie that is down comes up: nothing was heard of it -/
theorem UP.rise {t z : Int} (h : UP l D c H0 sa μ) (k : HP μ) (hw : mWF w) (hT1 : mT w μ1) (hI : PK μ1) (ht : 0 ≤ t ∧ t ≤ 19) (u : mU μ 112 t.toNat z μ1) (hz : μ 112 t.toNat = 0 ∨ μ 112 t.toNat = z) : UP l D c H0 sa μ1 := by
  rcases hz with q | q
  · refine (h.x.tie u ht.1).all hw hT1 hI fun s a b => ?_
    rw [u.2 126 _ (Or.inl (by decide))]
    refine Int.not_le.mp fun x => ?_
    have := (k s (by omega) (by omega) x).2.2
    rw [show s / 20 = t by omega] at this
    exact this q
  · rw [u.same q]; exact h
/-! a new prefix -/
section PXS
variable {μa μb μc : mM} {n x y z : Int}
theorem PX.jc (h : JC l D c H0 sa μ) (rr : RR μ) (hw : mWF w) (hT : mT w μ) (q : μ 106 2 = n) (u1 : mU μ 108 n.toNat x μa) (u2 : mU μa 109 n.toNat y μb) (u3 : mU μb 106 2 z μc) (hz : n ≤ z) : JC l D c H0 sa μc := by
  have hn : 0 ≤ n := by rw [← q]; exact (mD hw hT).1.1
  have e : ∀ a i : Nat, ¬ (a = 106 ∧ i = 2) → ¬ (a = 108 ∧ i = n.toNat) → ¬ (a = 109 ∧ i = n.toNat) → μc a i = μ a i := fun a i k1 k2 k3 => by
    rw [u3.2 a i (by omega), u2.2 a i (by omega), u1.2 a i (by omega)]
  refine h.of (by rw [u3.1, q]; exact hz) (fun i _ _ => e 106 i (by omega) (by omega) (by omega)) fun p0 p1 a i s => ?_
  rcases s with ⟨rfl, rfl⟩ | ⟨s1, s2, -⟩ | ⟨s1, s2 | ⟨r, r0, r1, s2⟩⟩
  · exact e _ _ (by omega) (by omega) (by omega)
  · exact e _ _ (by omega) (by omega) (by omega)
  · exact e _ _ (by omega) (by omega) (by omega)
  · have h1 := rr r.toNat (by omega)
    have h2 : 0 ≤ μ 119 r.toNat := (hT 119 119 (A_119 hw) r.toNat).1
    exact e _ _ (by omega) (by omega) (by omega)
theorem PX.up (h : UP l D c H0 sa μ) (hp : HP μ) (rp : RP μ) (rr : RR μ) (hw : mWF w) (hT : mT w μ) (hTc : mT w μc) (pk : PK μc) (q : μ 106 2 = n) (u1 : mU μ 108 n.toNat x μa) (u2 : mU μa 109 n.toNat y μb) (u3 : mU μb 106 2 z μc) (hz : z = n + 1) : UP l D c H0 sa μc := fun d p a b x' y' _ k t ta tb tq => by
  have hm := mD hw hT
  have hmc := mD hw hTc
  have e : ∀ a i : Nat, ¬ (a = 106 ∧ i = 2) → ¬ (a = 108 ∧ i = n.toNat) → ¬ (a = 109 ∧ i = n.toNat) → μc a i = μ a i := fun a i k1 k2 k3 => by
    rw [u3.2 a i (by omega), u2.2 a i (by omega), u1.2 a i (by omega)]
  have e' : ∀ a i : Nat, ¬ a = 106 → ¬ a = 108 → ¬ a = 109 → μc a i = μ a i := fun a i k1 k2 k3 => e a i (by omega) (by omega) (by omega)
  have e6 : μc 106 6 = μ 106 6 := e _ _ (by omega) (by omega) (by omega)
  have s0 : 0 ≤ sdOf μ d t ∧ sdOf μ d t ≤ 1 := by unfold sdOf; split <;> decide
  rw [e 106 5 (by omega) (by omega) (by omega)] at b
  have hz' : μc 106 2 = n + 1 := by rw [u3.1, hz]
  rw [hz'] at y' hmc
  rw [e' 161 _ (by decide) (by decide) (by decide)] at k
  by_cases hpn : p = n
  · refine NZ.nothing hw hTc ⟨a, by omega⟩ ⟨ta, tb⟩ ⟨x', by omega⟩ tq pk ?_
    have s1 : 0 ≤ sdOf μc d t ∧ sdOf μc d t ≤ 1 := by unfold sdOf; split <;> decide
    unfold xOf rwOf
    rw [e' 126 _ (by decide) (by decide) (by decide)]
    refine Int.not_le.mp fun g => ?_
    have := (hp ((2 * t + sdOf μc d t) * 10 + p) (by omega) (by omega) g).2.1
    omega
  · rw [e' 110 _ (by decide) (by decide) (by decide), e' 110 _ (by decide) (by decide) (by decide)] at tq
    rw [e6] at tb
    have hx : xOf μ d t p < n := by
      have := (rp (rwOf μ d t p) (by unfold rwOf; omega) (by unfold rwOf; omega)).2 (by unfold rwOf; omega)
      rw [q] at this; exact this
    refine (h d p a b x' (by omega) id k t ta tb tq).keep ta x' (fun a' i s => ?_) (Int.le_of_eq (e 106 39 (by omega) (by omega) (by omega)).symm)
    rcases s with ⟨rfl, -⟩ | ⟨rfl, -⟩ | ⟨rfl, -⟩ | ⟨rfl, -⟩ | ⟨rfl, -⟩ | ⟨s, -⟩ | ⟨s, -⟩ | ⟨s, -⟩ | ⟨s, -⟩ | ⟨rfl, rfl⟩ | ⟨rfl, rfl⟩ | ⟨s1, s2, -⟩ | ⟨s1, s2 | ⟨r, r0, r1, s2⟩⟩
    · exact e' _ _ (by decide) (by decide) (by decide)
    · exact e' _ _ (by decide) (by decide) (by decide)
    · exact e' _ _ (by decide) (by decide) (by decide)
    · exact e' _ _ (by decide) (by decide) (by decide)
    · exact e' _ _ (by decide) (by decide) (by decide)
    · exact e' _ _ (by omega) (by omega) (by omega)
    · exact e' _ _ (by omega) (by omega) (by omega)
    · exact e' _ _ (by omega) (by omega) (by omega)
    · exact e' _ _ (by omega) (by omega) (by omega)
    · exact e _ _ (by omega) (by omega) (by omega)
    · exact e _ _ (by omega) (by omega) (by omega)
    · exact e' _ _ (by omega) (by omega) (by omega)
    · exact e _ _ (by omega) (by omega) (by omega)
    · have h1 := rr r.toNat (by omega)
      have h2 : 0 ≤ μ 119 r.toNat := (hT 119 119 (A_119 hw) r.toNat).1
      exact e _ _ (by omega) (by omega) (by omega)
theorem RR.grow {o : Int} (h : RR μ) (q : μ 106 2 = o) (u : mU μ 106 2 z μ1) (hz : o ≤ z) : RR μ1 := fun r a => by
  rw [u.2 106 18 (Or.inr (by decide))] at a
  rw [u.1, u.2 119 _ (Or.inl (by decide))]
  have := h r a; omega
theorem RR.oth {a k : Nat} (h : RR μ) (u : mU μ a k z μ1) (ha : a = 108 ∨ a = 109) : RR μ1 := fun r b => by
  rw [u.2 106 18 (Or.inl (by omega))] at b
  rw [u.2 106 2 (Or.inl (by omega)), u.2 119 _ (Or.inl (by omega))]; exact h r b
end PXS
/-! a new tie -/
def TI (μ μ1 : mM) (t : Int) : Prop := ∀ a i : Nat, ¬ ((a = 110 ∧ 2 * t ≤ (i : Int)) ∨ (a = 111 ∧ t ≤ (i : Int)) ∨ (a = 112 ∧ t ≤ (i : Int)) ∨ a = 113 ∨ a = 114 ∨ (a = 115 ∧ 4 * t ≤ (i : Int))) → μ1 a i = μ a i
theorem TI.refl {t : Int} : TI μ μ t := fun _ _ _ => rfl
theorem TI.up {μ2 : mM} {a k : Nat} {z t : Int} (h : TI μ μ1 t) (u : mU μ1 a k z μ2) (hk : (a = 110 ∧ 2 * t ≤ (k : Int)) ∨ (a = 111 ∧ t ≤ (k : Int)) ∨ (a = 112 ∧ t ≤ (k : Int)) ∨ a = 113 ∨ a = 114 ∨ (a = 115 ∧ 4 * t ≤ (k : Int))) : TI μ μ2 t := fun b i n => by
  rw [u.2 b i (by omega)]; exact h b i n
section TIS
variable {μa : mM} {t z : Int}
theorem TI.hp (h : HP μ) (ti : TI μ μa t) (q : μ 106 6 = t) (u : mU μa 106 6 z μ1) (hz : z = t + 1) : HP μ1 := fun s a b k => by
  have e : ∀ a i : Nat, ¬ a = 106 → ¬ ((a = 110 ∧ 2 * t ≤ (i : Int)) ∨ (a = 111 ∧ t ≤ (i : Int)) ∨ (a = 112 ∧ t ≤ (i : Int)) ∨ a = 113 ∨ a = 114 ∨ (a = 115 ∧ 4 * t ≤ (i : Int))) → μ1 a i = μ a i := fun a i n m => by rw [u.2 a i (Or.inl n)]; exact ti a i m
  rw [e 126 _ (by decide) (by omega)] at k
  have g := h s a b k
  rw [q] at g
  rw [u.1, u.2 106 2 (Or.inr (by decide)), ti 106 2 (by omega), e 112 _ (by decide) (by omega)]
  exact ⟨by omega, g.2⟩
theorem TI.ep (h : EP μ) (ev : EV μ) (ti : TI μ μa t) (q : μ 106 6 = t) (u : mU μa 106 6 z μ1) : EP μ1 := fun s a b k => by
  have e : ∀ a i : Nat, ¬ a = 106 → ¬ ((a = 110 ∧ 2 * t ≤ (i : Int)) ∨ (a = 111 ∧ t ≤ (i : Int)) ∨ (a = 112 ∧ t ≤ (i : Int)) ∨ a = 113 ∨ a = 114 ∨ (a = 115 ∧ 4 * t ≤ (i : Int))) → μ1 a i = μ a i := fun a i n m => by rw [u.2 a i (Or.inl n)]; exact ti a i m
  rw [e 157 _ (by decide) (by omega), e 159 _ (by decide) (by omega)] at k
  have g := h s a b k
  have g2 := ev s.toNat (by omega) k
  rw [q] at g2
  rw [u.2 106 2 (Or.inr (by decide)), ti 106 2 (by omega), e 112 _ (by decide) (by omega)]
  exact g
theorem TI.te {x y n : Int} (h : TE μ) (ti : TI μ μa t) (q : μ 106 6 = t) (ht : 0 ≤ t) (u : mU μa 106 6 z μ1) (hz : z = t + 1) (q0 : μ1 110 (2 * t).toNat = x) (q1 : μ1 110 (2 * t + 1).toNat = y) (qn : μ1 106 5 = n) (hx : x < n ∧ y < n) : TE μ1 := fun i a => by
  rw [u.1, hz] at a
  by_cases e0 : (i : Int) = 2 * t
  · rw [show i = (2 * t).toNat by omega, q0, qn]; exact hx.1
  · by_cases e1 : (i : Int) = 2 * t + 1
    · rw [show i = (2 * t + 1).toNat by omega, q1, qn]; exact hx.2
    · rw [u.2 110 i (Or.inl (by decide)), ti 110 i (by omega), u.2 106 5 (Or.inr (by decide)), ti 106 5 (by omega)]
      exact h i (by rw [q]; omega)
theorem TI.upx (h : UP l D c H0 sa μ) (hp : HP μ) (ti : TI μ μa t) (hw : mWF w) (hT1 : mT w μ1) (pk : PK μ1) (q : μ 106 6 = t) (ht : 0 ≤ t) (u : mU μa 106 6 z μ1) (hz : z = t + 1) : UP l D c H0 sa μ1 := fun d p a b x y _ k t' ta tb tq => by
  have hm := mD hw hT1
  have e : ∀ a i : Nat, ¬ (a = 106 ∧ i = 6) → ¬ ((a = 110 ∧ 2 * t ≤ (i : Int)) ∨ (a = 111 ∧ t ≤ (i : Int)) ∨ (a = 112 ∧ t ≤ (i : Int)) ∨ a = 113 ∨ a = 114 ∨ (a = 115 ∧ 4 * t ≤ (i : Int))) → μ1 a i = μ a i := fun a i n m => by rw [u.2 a i (by omega)]; exact ti a i m
  by_cases e1 : t' = t
  · refine NZ.nothing hw hT1 ⟨a, by omega⟩ ⟨ta, tb⟩ ⟨x, by omega⟩ tq pk ?_
    have s1 : 0 ≤ sdOf μ1 d t' ∧ sdOf μ1 d t' ≤ 1 := by unfold sdOf; split <;> decide
    unfold xOf rwOf
    rw [e 126 _ (by omega) (by omega)]
    refine Int.not_le.mp fun g => ?_
    have := (hp ((2 * t' + sdOf μ1 d t') * 10 + p) (by omega) (by omega) g).1
    omega
  · rw [u.1, hz] at tb
    rw [e 110 _ (by omega) (by omega), e 110 _ (by omega) (by omega)] at tq
    rw [e 161 _ (by omega) (by omega)] at k
    rw [e 106 5 (by omega) (by omega)] at b
    rw [e 106 2 (by omega) (by omega)] at y
    have s0 : 0 ≤ sdOf μ d t' ∧ sdOf μ d t' ≤ 1 := by unfold sdOf; split <;> decide
    refine (h d p a b x y id k t' ta (by omega) tq).keep ta x (fun a' i s => ?_) (Int.le_of_eq (e 106 39 (by omega) (by omega)).symm)
    rcases s with ⟨rfl, -⟩ | ⟨rfl, s⟩ | ⟨rfl, s⟩ | ⟨rfl, s⟩ | ⟨rfl, s⟩ | ⟨s, -⟩ | ⟨s, -⟩ | ⟨s, -⟩ | ⟨s, -⟩ | ⟨rfl, rfl⟩ | ⟨rfl, rfl⟩ | ⟨s1, s2, -⟩ | ⟨s1, -⟩
    all_goals exact e _ _ (by omega) (by omega)
end TIS
/-- a new domain -/
theorem UP.dom (h : UP l D c H0 sa μ) (te : TE μ) (hw : mWF w) (hT1 : mT w μ1) (F : mF [106005] w μ μ1) (hd : μ 106 5 ≤ μ1 106 5) : UP l D c H0 sa μ1 := fun d p a b x y _ k => by
  have hm := mD hw hT1
  have e6 : μ1 106 6 = μ 106 6 := F106 hw F rfl
  rw [F106 hw F (i := 2) rfl] at y
  rw [show μ1 161 (10 * d + p).toNat = μ 161 (10 * d + p).toNat from F.f (A_161 hw) rfl rfl] at k
  by_cases e : d < μ 106 5
  · have e2 : μ1 106 2 = μ 106 2 := F106 hw F rfl
    exact (h d p a e x y id k).frB (rs := []) ⟨x, by omega⟩ hw (by omega) F rfl rfl rfl (fun i _ => F.f (A_126 hw) rfl rfl) (fun _ h => absurd h List.not_mem_nil)
  · intro t ta tb tq
    rw [e6] at tb
    have e1 : ∀ i, μ1 110 i = μ 110 i := fun i => F.f (A_110 hw) rfl rfl
    rw [e1, e1] at tq
    have g0 := te (2 * t).toNat (by omega)
    have g1 := te (2 * t + 1).toNat (by omega)
    omega
theorem TE.dom (te : TE μ) (hw : mWF w) (F : mF [106005] w μ μ1) (hd : μ 106 5 ≤ μ1 106 5) : TE μ1 := fun i a => by
  have e6 : μ1 106 6 = μ 106 6 := F106 hw F rfl
  rw [e6] at a
  rw [show μ1 110 i = μ 110 i from F.f (A_110 hw) rfl rfl]
  have := te i a; omega
/-- tables of policies: above those that are there -/
theorem UP.tab {a k : Nat} {z n : Int} (h : UP l D c H0 sa μ) (u : mU μ a k z μ1) (q : μ1 106 39 = n) (ha : 127 ≤ a ∧ a ≤ 150) (hk : ((a = 127 ∨ a = 142) → n ≤ (k : Int)) ∧ ((a = 128 ∨ a = 129) → 31 * n ≤ (k : Int)) ∧ (132 ≤ a ∧ a ≤ 141 → 300 * n ≤ (k : Int)) ∧ ((a = 143 ∨ a = 144) → 41 * n ≤ (k : Int))) : UP l D c H0 sa μ1 := fun d p x b y y' _ g t ta tb tq => by
  have e39 : μ 106 39 = n := (u.2 106 39 (Or.inl (by omega))).symm.trans q
  rw [u.2 106 _ (Or.inl (by omega))] at b y' tb
  rw [u.2 161 _ (Or.inl (by omega))] at g
  rw [u.2 110 _ (Or.inl (by omega)), u.2 110 _ (Or.inl (by omega))] at tq
  refine (h d p x b y y' id g t ta tb tq).keep ta y (SC.up u ?_) (Int.le_of_eq (e39.trans q.symm))
  intro s
  rcases s with ⟨s, -⟩ | ⟨s, -⟩ | ⟨s, -⟩ | ⟨s, -⟩ | ⟨s, -⟩ | ⟨s, s'⟩ | ⟨s, s'⟩ | ⟨s, s'⟩ | ⟨s, s'⟩ | ⟨s, -⟩ | ⟨s, -⟩ | ⟨s, s', -⟩ | ⟨s, -⟩
  all_goals first | omega | (rw [e39] at s'; omega)
theorem UP.pol {z n : Int} (h : UP l D c H0 sa μ) (q : μ 106 39 = n) (u : mU μ 106 39 z μ1) (hz : n ≤ z) : UP l D c H0 sa μ1 := fun d p x b y y' _ g t ta tb tq => by
  rw [u.2 106 5 (Or.inr (by decide))] at b
  rw [u.2 106 2 (Or.inr (by decide))] at y'
  rw [u.2 106 6 (Or.inr (by decide))] at tb
  rw [u.2 161 _ (Or.inl (by decide))] at g
  rw [u.2 110 _ (Or.inl (by decide)), u.2 110 _ (Or.inl (by decide))] at tq
  refine (h d p x b y y' id g t ta tb tq).keep ta y (SC.up u ?_) (by rw [q, u.1]; exact hz)
  intro s
  rcases s with ⟨s, -⟩ | ⟨s, -⟩ | ⟨s, -⟩ | ⟨s, -⟩ | ⟨s, -⟩ | ⟨s, s'⟩ | ⟨s, s'⟩ | ⟨s, s'⟩ | ⟨s, s'⟩ | ⟨-, s⟩ | ⟨-, s⟩ | ⟨s, s', -⟩ | ⟨s, -⟩ <;> omega
theorem UP.tabE {a : Nat} {e z n : Int} (h : UP l D c H0 sa μ) (u : mU μ a e.toNat z μ1) (q : μ1 106 39 = n) (ha : 127 ≤ a ∧ a ≤ 150) (he : 0 ≤ e) (hk : ((a = 127 ∨ a = 142) → n ≤ e) ∧ ((a = 128 ∨ a = 129) → 31 * n ≤ e) ∧ (132 ≤ a ∧ a ≤ 141 → 300 * n ≤ e) ∧ ((a = 143 ∨ a = 144) → 41 * n ≤ e)) : UP l D c H0 sa μ1 :=
  h.tab u q ha ⟨fun k => by have := hk.1 k; omega, fun k => by have := hk.2.1 k; omega, fun k => by have := hk.2.2.1 k; omega, fun k => by have := hk.2.2.2 k; omega⟩
/-! why -/
theorem UP.nz {t p d n m v e0 e1 k : Int} (h : UP l D c H0 sa μ) (te : TE μ) (ht : 0 ≤ t) (q6 : μ 106 6 = n) (htn : t < n) (q0 : μ 110 (2 * t).toNat = e0) (q1 : μ 110 (2 * t + 1).toNat = e1) (he : e0 = d ∨ e1 = d) (hd : 0 ≤ d) (hp : 0 ≤ p) (q2 : μ 106 2 = m) (hpm : p < m) (qk : μ 161 k.toNat = v) (hk : k = 10 * d + p) (hv : v = -99999999) : NZ l D c H0 sa μ d t p := by
  have g0 := te (2 * t).toNat (by omega)
  have g1 := te (2 * t + 1).toNat (by omega)
  rw [q0] at g0
  rw [q1] at g1
  refine h d p hd (by omega) hp (by omega) id (by rw [← hk, qk]; exact hv) t ht (by omega) ?_
  rw [q0, q1]; exact he
end UIS
end
section
/-! All that stands between the calls, of the reference. -/
section UIT
variable {l : Launch} {D : va_G} {c : Nat → ClassId} {H0 : Heap} {sa : Nat × Nat × (Nat → Int32)} {w : mW} {μ μ1 : mM}
def UI (l : Launch) (D : va_G) (c : Nat → ClassId) (H0 : Heap) (sa : Nat × Nat × (Nat → Int32)) (μ : mM) : Prop := JC l D c H0 sa μ ∧ RP μ ∧ EP μ ∧ HP μ ∧ UP l D c H0 sa μ ∧ TE μ ∧ RR μ
def uiA (a : Nat) : Bool := (Nat.ble 108 a && Nat.ble a 112) || (Nat.beq a 115 || ((Nat.ble 119 a && Nat.ble a 129) || ((Nat.ble 132 a && Nat.ble a 144) || (Nat.beq a 157 || (Nat.beq a 159 || Nat.beq a 161)))))
def uiI (i : Nat) : Bool := Nat.beq i 2 || (Nat.beq i 5 || (Nat.beq i 6 || (Nat.beq i 17 || (Nat.beq i 18 || ((Nat.ble 26 i && Nat.ble i 31) || Nat.beq i 39)))))
theorem UI.eq (h : UI l D c H0 sa μ) (e1 : ∀ i : Nat, uiI i = true → μ1 106 i = μ 106 i) (e2 : ∀ a i : Nat, uiA a = true → μ1 a i = μ a i) : UI l D c H0 sa μ1 := by
  obtain ⟨h1, h2, h3, h4, h5, h6, h7⟩ := h
  have eA : ∀ a i : Nat, ((108 ≤ a ∧ a ≤ 112) ∨ a = 115 ∨ (119 ≤ a ∧ a ≤ 129) ∨ (132 ≤ a ∧ a ≤ 144) ∨ a = 157 ∨ a = 159 ∨ a = 161) → μ1 a i = μ a i := fun a i k => e2 a i (by
    simp only [uiA, Bool.or_eq_true, Bool.and_eq_true, Nat.ble_eq, Nat.beq_eq]; exact k)
  have a2 := e1 2 rfl
  have a5 := e1 5 rfl
  have a6 := e1 6 rfl
  have a17 := e1 17 rfl
  have a18 := e1 18 rfl
  have a39 := e1 39 rfl
  have aJ : ∀ i : Nat, 26 ≤ i → i ≤ 31 → μ1 106 i = μ 106 i := fun i x y => e1 i (by
    simp only [uiI, Bool.or_eq_true, Bool.and_eq_true, Nat.ble_eq, Nat.beq_eq]; omega)
  have sj : ∀ p : Int, agr (SJ μ p) μ μ1 := fun p a i s => by
    rcases s with ⟨rfl, rfl⟩ | ⟨s1, s2, -⟩ | ⟨s1, -⟩
    · exact a18
    · exact eA a i (by omega)
    · exact eA a i (by omega)
  refine ⟨h1.of (Int.le_of_eq a2.symm) aJ fun _ _ => sj _, fun r x y => ?_, fun s x y q => ?_, fun s x y q => ?_, fun d p x y x' y' _ q t ta tb tq => ?_, fun i x => ?_, fun i x => ?_⟩
  · rw [eA 126 _ (by omega), a2]; exact h2 r x y
  · rw [eA 157 _ (by omega), eA 159 _ (by omega)] at q
    rw [a2, eA 112 _ (by omega)]; exact h3 s x y q
  · rw [eA 126 _ (by omega)] at q
    rw [a2, a6, eA 112 _ (by omega)]; exact h4 s x y q
  · rw [a5] at y
    rw [a2] at y'
    rw [eA 161 _ (by omega)] at q
    rw [a6] at tb
    rw [eA 110 _ (by omega), eA 110 _ (by omega)] at tq
    refine (h5 d p x y x' y' id q t ta tb tq).keep ta x' (fun a i s => ?_) (Int.le_of_eq a39.symm)
    rcases s with ⟨rfl, -⟩ | ⟨rfl, -⟩ | ⟨rfl, -⟩ | ⟨rfl, -⟩ | ⟨rfl, -⟩ | ⟨s, -⟩ | ⟨s, -⟩ | ⟨s, -⟩ | ⟨s, -⟩ | ⟨rfl, rfl⟩ | s
    · exact eA _ i (by omega)
    · exact eA _ i (by omega)
    · exact eA _ i (by omega)
    · exact eA _ i (by omega)
    · exact eA _ i (by omega)
    · exact eA _ i (by omega)
    · exact eA _ i (by omega)
    · exact eA _ i (by omega)
    · exact eA _ i (by omega)
    · exact a17
    · exact sj _ a i s
  · rw [a6] at x
    rw [eA 110 _ (by omega), a5]; exact h6 i x
  · rw [a18] at x
    rw [eA 119 _ (by omega), a2]; exact h7 i x
theorem UI.sm (h : UI l D c H0 sa μ) (s : sM_ μ μ1) : UI l D c H0 sa μ1 := by
  refine h.eq (fun i k => s.1 i ?_) (fun a i k => ?_)
  · simp only [uiI, Bool.or_eq_true, Bool.and_eq_true, Nat.ble_eq, Nat.beq_eq] at k; omega
  · simp only [uiA, Bool.or_eq_true, Bool.and_eq_true, Nat.ble_eq, Nat.beq_eq] at k
    rw [s.2 a (by omega) (by omega)]
theorem sM_.ofF {lf : List Nat} (hw : mWF w) (F : mF lf w μ μ1) (h : isC lf = true) : sM_ μ μ1 := sM_.of hw (mX.fr (l := lf) mX.refl F (List.all_eq_true.mpr fun x hx => List.elem_iff.mpr hx)) h
/-- a step of the reference that touches nothing of it -/
def uiF (lf : List Nat) : Bool := lf.all fun x => !(Nat.ble 106000 x && Nat.blt x 107000 && uiI (x - 106000)) && !(uiA (x / 1000))
theorem UI.fr {lf : List Nat} (h : UI l D c H0 sa μ) (hw : mWF w) (F : mF lf w μ μ1) (hl : uiF lf = true) : UI l D c H0 sa μ1 := by
  have hall : ((List.range 192).all fun a => !(uiA a) || (Nat.beq (mSh0 a) a && mArr a)) = true := by decide +kernel
  have no : ∀ x : Nat, (Nat.ble 106000 x && Nat.blt x 107000 && uiI (x - 106000)) = true ∨ uiA (x / 1000) = true → lf.elem x = false := fun x hx => by
    cases hq : lf.elem x with
    | false => rfl
    | true =>
      have g := List.all_eq_true.mp hl x (List.elem_iff.mp hq)
      simp only [Bool.and_eq_true, Bool.not_eq_true'] at g
      rcases hx with hx | hx
      · rw [g.1] at hx; cases hx
      · rw [g.2] at hx; cases hx
  refine h.eq (fun i k => ?_) (fun a i k => ?_)
  · refine F 106 i ?_
    have e : mRg w 106 i = 106000 + i := by simp only [mRg, (A_106 hw).1]; rfl
    rw [e]
    have hi : i < 1000 := by simp only [uiI, Bool.or_eq_true, Bool.and_eq_true, Nat.ble_eq, Nat.beq_eq] at k; omega
    refine no _ (Or.inl ?_)
    rw [show 106000 + i - 106000 = i by omega, k, Nat.ble_eq_true_of_le (by omega), show Nat.blt (106000 + i) 107000 = true from Nat.ble_eq_true_of_le (by omega)]; rfl
  · have ha : a < 192 := by simp only [uiA, Bool.or_eq_true, Bool.and_eq_true, Nat.ble_eq, Nat.beq_eq] at k; omega
    have g := List.all_eq_true.mp hall a (List.mem_range.mpr ha)
    rw [k] at g
    simp only [Bool.not_true, Bool.false_or, Bool.and_eq_true] at g
    have es : w.2.1 a = a := (hw.1 a ha).trans (Nat.eq_of_beq_eq_true g.1)
    refine F a i ?_
    unfold mRg; rw [es, g.2]
    refine no _ (Or.inr ?_)
    show uiA ((1000 * a + 999) / 1000) = true
    rw [show (1000 * a + 999) / 1000 = a by omega]; exact k
theorem UI.dom (h : UI l D c H0 sa μ) (hw : mWF w) (hT1 : mT w μ1) (F : mF [106005] w μ μ1) (hd : μ 106 5 ≤ μ1 106 5) : UI l D c H0 sa μ1 := by
  obtain ⟨h1, h2, h3, h4, h5, h6, h7⟩ := h
  exact ⟨h1.keepJ hw F rfl, h2.keep (rs := []) hw F rfl (fun i _ => F.f (A_126 hw) rfl rfl) (fun _ h => absurd h List.not_mem_nil), h3.keep hw F rfl, h4.keep (rs := []) hw F rfl (fun i _ => F.f (A_126 hw) rfl rfl) (fun _ h => absurd h List.not_mem_nil), h5.dom h6 hw hT1 F hd, h6.dom hw F hd, h7.keep hw F rfl rfl rfl⟩
end UIT
end
