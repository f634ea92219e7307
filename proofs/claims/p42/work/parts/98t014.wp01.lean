def WP_X12_slot_W (w : mW) (μ : mM) (p1 : Int) (p2 : Int) (p3 : Int) (Q : Int → mM → Prop) : Prop := Q ((((2 * p1) + p2) * 10) + p3) μ
set_option maxRecDepth 4000 in
set_option maxHeartbeats 4000000 in
theorem c_X12_slot_W {l : Launch} {D : va_G} {c : Nat → ClassId} {H0 : Heap} {sa : Nat × Nat × (Nat → Int32)} {w : mW} {μ : mM} (hw : mWF w) (hT : mT w μ) {p1 : Int} (hp1 : 0 ≤ p1 ∧ p1 ≤ 20) {p2 : Int} (hp2 : 0 ≤ p2 ∧ p2 ≤ 2) {p3 : Int} (hp3 : 0 ≤ p3 ∧ p3 ≤ 9) {Q : Int → mM → Prop} (hQ : WP_X12_slot_W w μ p1 p2 p3 Q) : sC (gG l D c H0 sa) mX12_slot 1 0 0 [iv p1, iv p2, iv p3] (mk w μ) (qP w μ (fun z => (0 ≤ z ∧ z ≤ 449) ∧ (z = 20 * p1 + 10 * p2 + p3) ∧ Q z μ ∧ True)) := by
  refine sC.of rfl (by decide) (le_t rfl) ?_
  refine mr_lvE (lv' := [(0, iv p1), (1, iv p2), (2, iv p3)]) rfl ?_
  refine mr_iconst (pc := 0) (z := 2) dX12_slot_0 ?_
  refine mr_iload_n (pc := 1) (z := p1) dX12_slot_1 rfl rfl ?_
  refine mr_imul (pc := 2) (x := 2) (y := p1) dX12_slot_2 ?_
  refine mr_iload_n (pc := 3) (z := p2) dX12_slot_3 rfl rfl ?_
  refine mr_iadd (pc := 4) (x := (2 * p1)) (y := p2) dX12_slot_4 ?_
  refine mr_bipush (pc := 5) (z := 10) dX12_slot_5 (by decide) ?_
  refine mr_imul (pc := 7) (x := ((2 * p1) + p2)) (y := 10) dX12_slot_7 ?_
  refine mr_iload_n (pc := 8) (z := p3) dX12_slot_8 rfl rfl ?_
  refine mr_iadd (pc := 9) (x := (((2 * p1) + p2) * 10)) (y := p3) dX12_slot_9 ?_
  exact mr_iretP dX12_slot_10 rfl (le_t rfl) (le_t rfl) ⟨(rW (c := 0) (d := 449) (rAdd (e := 0) (f := 429) (rMulR (n := 10) (e := 0) (f := 420) (rAdd (e := 0) (f := 42) (rMulL (n := 2) (e := 0) (f := 40) hp1 rfl) hp2 rfl) rfl) hp3 rfl) rfl), (vc_X12_slot_1 hp1 hp2 hp3), hQ, trivial⟩
def WP_X12_partnerOf_Wpt (w : mW) (μ : mM) (p1 : Int) (p2 : Int) (Q : Int → mM → Prop) : Prop := ∀ f_e0 : Int, μ 110 ((2 * p1).toNat) = f_e0 → (0 ≤ f_e0 ∧ f_e0 ≤ 9) → ∀ f_e1 : Int, μ 110 (((2 * p1) + 1).toNat) = f_e1 → (0 ≤ f_e1 ∧ f_e1 ≤ 9) → WP_X12_sideOf_W w μ p1 p2 (fun z29 _ => (0 ≤ z29 ∧ z29 ≤ 1) → ∀ z30 : Int, μ 110 ((((2 * p1) + 1) - z29).toNat) = z30 → (0 ≤ z30 ∧ z30 ≤ 9) → Q z30 μ)
set_option maxRecDepth 4000 in
set_option maxHeartbeats 4000000 in
theorem c_X12_partnerOf_Wpt {l : Launch} {D : va_G} {c : Nat → ClassId} {H0 : Heap} {sa : Nat × Nat × (Nat → Int32)} {w : mW} {μ : mM} (hw : mWF w) (hT : mT w μ) {p1 : Int} (hp1 : 0 ≤ p1 ∧ p1 ≤ 19) {p2 : Int} (hp2 : (-2147483648) ≤ p2 ∧ p2 ≤ 2147483647) {f_e0 : Int} (q_f_e0 : μ 110 ((2 * p1).toNat) = f_e0) {f_e1 : Int} (q_f_e1 : μ 110 (((2 * p1) + 1).toNat) = f_e1) {Q : Int → mM → Prop} (hQ : WP_X12_partnerOf_Wpt w μ p1 p2 Q) : sC (gG l D c H0 sa) mX12_partnerOf 2 0 0 [.ref 106, iv p1, iv p2] (mk w μ) (qP w μ (fun z => (0 ≤ z ∧ z ≤ 9) ∧ ((f_e0 = p2 → z = f_e1) ∧ (¬ f_e0 = p2 → z = f_e0)) ∧ Q z μ ∧ True)) := by
  refine sC.of rfl (by decide) (le_t rfl) ?_
  have ht_f_e0 : (0 ≤ f_e0 ∧ f_e0 ≤ 9) := by rw [← q_f_e0]; exact hT 110 110 (A_110 hw) ((2 * p1).toNat)
  have ht_f_e1 : (0 ≤ f_e1 ∧ f_e1 ≤ 9) := by rw [← q_f_e1]; exact hT 110 110 (A_110 hw) (((2 * p1) + 1).toNat)
  refine mr_lvE (lv' := [(0, .ref 106), (1, iv p1), (2, iv p2)]) rfl ?_
  refine sv_aload_n (pc := 0) dX12_partnerOf_0 rfl rfl ?_
  refine gf_X12_7 (pc := 1) dX12_partnerOf_1 wF_X12_40 (A_106 hw) hT ?_
  refine mr_iconst (pc := 4) (z := 2) dX12_partnerOf_4 ?_
  refine mr_iload_n (pc := 5) (z := p1) dX12_partnerOf_5 rfl rfl ?_
  refine mr_imul (pc := 6) (x := 2) (y := p1) dX12_partnerOf_6 ?_
  refine mr_iconst (pc := 7) (z := 1) dX12_partnerOf_7 ?_
  refine mr_iadd (pc := 8) (x := (2 * p1)) (y := 1) dX12_partnerOf_8 ?_
  refine sv_aload_n (pc := 9) dX12_partnerOf_9 rfl rfl ?_
  refine mr_iload_n (pc := 10) (z := p1) dX12_partnerOf_10 rfl rfl ?_
  refine mr_iload_n (pc := 11) (z := p2) dX12_partnerOf_11 rfl rfl ?_
  refine mr_cVP (pc := 12) (c_X12_sideOf_W hw hT hp1 hp2 q_f_e0 ((hQ f_e0 q_f_e0 ht_f_e0) f_e1 q_f_e1 ht_f_e1)) (gOk _ _ _ _ _) dX12_partnerOf_12 (tX12_sideOf _ _ _ _ _) ⟨wV_X12_sideOf, wL_X12_sideOf⟩ wM_X12_542 (gCX12 _ _ _ _ _) rfl (A_106 hw) rfl ⟨le_t rfl, le_t rfl⟩ ⟨le_t rfl, le_t rfl⟩ rfl (le_t rfl) fun z29 h28 => ?_
  refine mr_isub (pc := 15) (x := ((2 * p1) + 1)) (y := z29) dX12_partnerOf_15 ?_
  refine la_110 (pc := 16) dX12_partnerOf_16 (A_110 hw) hT (rIx (n := 40) (rSub (e := 0) (f := 39) (rAdd (e := 1) (f := 39) (rMulL (n := 2) (e := 0) (f := 38) hp1 rfl) (rR (x := 1)) rfl) h28.1 rfl) rfl) fun z30 q31 h32 => ?_
  exact mr_iretP dX12_partnerOf_17 rfl (le_t rfl) (le_t rfl) ⟨h32, (vc_X12_partnerOf_pt_1 h28.2.1 h28.2.2.1 (cgr q31 q_f_e0) (cgr q31 q_f_e1) ht_f_e0 ht_f_e1 hp1 hp2 h28.1 h32), ((h28.2.2.2.1 h28.1) z30 q31 h32), trivial⟩
def WP_X12_mask_W (w : mW) (μ : mM) (p1 : Int) (Q : Int → mM → Prop) : Prop := ((¬ p1 = 0) → ∀ z9 : Int, (-2147483648 ≤ z9 ∧ z9 ≤ 2147483647) → (z9 - (32 - p1)) % 4294967296 = 0 → ∀ z12 : Int, bShl ((-1) : Int) z9 = z12 → Q z12 μ) ∧ ((p1 = 0) → Q (0 : Int) μ)
set_option maxRecDepth 4000 in
set_option maxHeartbeats 4000000 in
theorem c_X12_mask_W {l : Launch} {D : va_G} {c : Nat → ClassId} {H0 : Heap} {sa : Nat × Nat × (Nat → Int32)} {w : mW} {μ : mM} (hw : mWF w) (hT : mT w μ) {p1 : Int} (hp1 : (-2147483648) ≤ p1 ∧ p1 ≤ 2147483647) {Q : Int → mM → Prop} (hQ : WP_X12_mask_W w μ p1 Q) : sC (gG l D c H0 sa) mX12_mask 1 0 0 [iv p1] (mk w μ) (qP w μ (fun z => ((-2147483648) ≤ z ∧ z ≤ 2147483647) ∧ Q z μ ∧ True)) := by
  refine sC.of rfl (by decide) (le_t rfl) ?_
  refine mr_lvE (lv' := [(0, iv p1)]) rfl ?_
  refine mr_iload_n (pc := 0) (z := p1) dX12_mask_0 rfl rfl ?_
  refine mr_if_ne (pc := 1) (tgt := 8) dX12_mask_1 (by decide) hp1 (fun h8 => ?_) (fun h8 => ?_)
  · refine mr_iconst (pc := 8) (z := (-1)) dX12_mask_8 ?_
    refine mr_bipush (pc := 9) (z := 32) dX12_mask_9 (by decide) ?_
    refine mr_iload_n (pc := 11) (z := p1) dX12_mask_11 rfl rfl ?_
    refine mr_isub (pc := 12) (x := 32) (y := p1) dX12_mask_12 ?_
    refine mr_wrapF fun z9 h10 h11 => ?_
    refine mr_ishl (pc := 13) (x := (-1)) (y := z9) dX12_mask_13 ?_
    refine mr_gen (P := fun z => (-2147483648) ≤ z ∧ z ≤ 2147483647) (r32i _) fun z12 q13 h14 => ?_
    exact mr_iretP dX12_mask_14 rfl (le_t rfl) (le_t rfl) ⟨h14, (((hQ.1 h8) z9 h10 h11) z12 q13), trivial⟩
  have h15 : 0 ≤ p1 ∧ p1 ≤ 0 := (vc_X12_mask_1 h8 hp1)
  refine mr_iconst (pc := 4) (z := 0) dX12_mask_4 ?_
  refine sv_goto (pc := 5) (tgt := 14) dX12_mask_5 (by decide) ?_
  exact mr_iretP dX12_mask_14 rfl (le_t rfl) (le_t rfl) ⟨(rW (c := (-2147483648)) (d := 2147483647) (rR (x := 0)) rfl), (hQ.2 h8), trivial⟩
def WP_X12_holds_W (w : mW) (μ : mM) (p1 : Int) (p2 : Int) (p3 : Int) (Q : Int → mM → Prop) : Prop := ∀ z1 : Int, bXor p1 p3 = z1 → WP_X12_mask_W w μ p2 (fun z8 _ => ((-2147483648) ≤ z8 ∧ z8 ≤ 2147483647) → ∀ z9 : Int, bAnd z1 z8 = z9 → ((¬ z9 = 0) → Q (0 : Int) μ) ∧ ((z9 = 0) → Q (1 : Int) μ))
set_option maxRecDepth 4000 in
set_option maxHeartbeats 4000000 in
theorem c_X12_holds_W {l : Launch} {D : va_G} {c : Nat → ClassId} {H0 : Heap} {sa : Nat × Nat × (Nat → Int32)} {w : mW} {μ : mM} (hw : mWF w) (hT : mT w μ) {p1 : Int} (hp1 : (-2147483648) ≤ p1 ∧ p1 ≤ 2147483647) {p2 : Int} (hp2 : (-2147483648) ≤ p2 ∧ p2 ≤ 2147483647) {p3 : Int} (hp3 : (-2147483648) ≤ p3 ∧ p3 ≤ 2147483647) {Q : Int → mM → Prop} (hQ : WP_X12_holds_W w μ p1 p2 p3 Q) : sC (gG l D c H0 sa) mX12_holds 2 0 0 [iv p1, iv p2, iv p3] (mk w μ) (qP w μ (fun z => (0 ≤ z ∧ z ≤ 1) ∧ Q z μ ∧ True)) := by
  refine sC.of rfl (by decide) (le_t rfl) ?_
  refine mr_lvE (lv' := [(0, iv p1), (1, iv p2), (2, iv p3)]) rfl ?_
  refine mr_iload_n (pc := 0) (z := p1) dX12_holds_0 rfl rfl ?_
  refine mr_iload_n (pc := 1) (z := p3) dX12_holds_1 rfl rfl ?_
  refine mr_ixor (pc := 2) (x := p1) (y := p3) dX12_holds_2 ?_
  refine mr_gen (P := fun z => (-2147483648) ≤ z ∧ z ≤ 2147483647) (r32i _) fun z1 q2 h3 => ?_
  refine mr_iload_n (pc := 3) (z := p2) dX12_holds_3 rfl rfl ?_
  refine mr_cSP (pc := 4) (c_X12_mask_W hw hT hp2 (hQ z1 q2)) (gOk _ _ _ _ _) dX12_holds_4 (tX12_mask _ _ _ _ _) wS_X12_mask wM_X12_11 ⟨le_t rfl, le_t rfl⟩ ⟨le_t rfl, le_t rfl⟩ rfl (le_t rfl) fun z8 h7 => ?_
  refine mr_iand (pc := 7) (x := z1) (y := z8) dX12_holds_7 ?_
  refine mr_gen (P := fun z => (-2147483648) ≤ z ∧ z ≤ 2147483647) (r32i _) fun z9 q10 h11 => ?_
  refine mr_if_ne (pc := 8) (tgt := 15) dX12_holds_8 (by decide) h11 (fun h13 => ?_) (fun h13 => ?_)
  · refine mr_iconst (pc := 15) (z := 0) dX12_holds_15 ?_
    exact mr_zretP dX12_holds_16 rfl (rW (c := 0) (d := 1) (rR (x := 0)) rfl) (le_t rfl) (le_t rfl) ⟨(rW (c := 0) (d := 1) (rR (x := 0)) rfl), (((h7.2.1 h7.1) z9 q10).1 h13), trivial⟩
  have h14 : 0 ≤ z9 ∧ z9 ≤ 0 := (vc_X12_mask_1 h13 h11)
  refine mr_iconst (pc := 11) (z := 1) dX12_holds_11 ?_
  refine sv_goto (pc := 12) (tgt := 16) dX12_holds_12 (by decide) ?_
  exact mr_zretP dX12_holds_16 rfl (rW (c := 0) (d := 1) (rR (x := 1)) rfl) (le_t rfl) (le_t rfl) ⟨(rW (c := 0) (d := 1) (rR (x := 1)) rfl), (((h7.2.1 h7.1) z9 q10).2 h13), trivial⟩
def WL_X12_waysMatch_W_3 (μ : mM) (p1 : Int) (rec1 : (Int × Int × Int) → Prop) (z2392 : Int) (z4111 : Int) (z4121 : Int) (rec3 : (Int × Int) → Prop) (s : (Int × Int)) : Prop := ∀ z4479 : Int, ∀ z4478 : Int, s = (z4479, z4478) → ((-9223372036854775808) ≤ z4479 ∧ z4479 ≤ 9223372036854775807) → (0 ≤ z4478 ∧ z4478 ≤ 40) → ((z4121 ≤ z4478) → rec1 (z4479, z4111, (z2392 + 1))) ∧ ((z4478 < z4121) → ∀ z4510 : Int, lShr z4111 z4478 = z4510 → ∀ z4513 : Int, lAnd z4510 (1 : Int) = z4513 → ∀ z4516 : Int, lCmp z4513 (1 : Int) = z4516 → ((¬ z4516 = 0) → rec3 (z4479, (z4478 + 1))) ∧ ((z4516 = 0) → ∀ z4528 : Int, μ 144 (((41 * p1) + z4478).toNat) = z4528 → ((-9223372036854775808) ≤ z4528 ∧ z4528 ≤ 9223372036854775807) → ∀ z4531 : Int, lOr z4479 z4528 = z4531 → rec3 (z4531, (z4478 + 1))))
def WL_X12_waysMatch_W_2 (μ : mM) (p1 : Int) (p3 : Int) (rec1 : (Int × Int × Int) → Prop) (z2394 : Int) (z2392 : Int) (rec2 : (Int × Int) → Prop) (s : (Int × Int)) : Prop := ∀ z4111 : Int, ∀ z4110 : Int, s = (z4111, z4110) → ((-9223372036854775808) ≤ z4111 ∧ z4111 ≤ 9223372036854775807) → (0 ≤ z4110 ∧ z4110 ≤ 40) → ∀ z4121 : Int, μ 142 (p1.toNat) = z4121 → (0 ≤ z4121 ∧ z4121 ≤ 40) → ((z4121 ≤ z4110) → loopF (WL_X12_waysMatch_W_3 μ p1 rec1 z2392 z4111 z4121) False 42 ((0 : Int), (0 : Int))) ∧ ((z4110 < z4121) → ∀ z4536 : Int, lShr z2394 z4110 = z4536 → ∀ z4539 : Int, lAnd z4536 (1 : Int) = z4539 → ∀ z4542 : Int, lCmp z4539 (1 : Int) = z4542 → ((¬ z4542 = 0) → rec2 (z4111, (z4110 + 1))) ∧ ((z4542 = 0) → ∀ z4569 : Int, μ 143 (((41 * p1) + z4110).toNat) = z4569 → ((-2147483648) ≤ z4569 ∧ z4569 ≤ 2147483647) → ((z4569 < 0) → ∀ z4592 : Int, lShl (1 : Int) z4110 = z4592 → ∀ z4595 : Int, lOr z4111 z4592 = z4595 → rec2 (z4595, (z4110 + 1))) ∧ ((0 ≤ z4569) → ∀ z4599 : Int, μ 126 ((((40 * p3) + 6) + z2392).toNat) = z4599 → ((-2147483648 ≤ z4599 ∧ z4599 ≤ 2147483647) ∧ ((((40 * p3) + 6) + z2392) % 40 = 0 → -1 ≤ z4599 ∧ z4599 ≤ 9) ∧ ((((40 * p3) + 6) + z2392) % 40 = 4 → 0 ≤ z4599 ∧ z4599 ≤ 20) ∧ ((((40 * p3) + 6) + z2392) % 40 = 5 → 0 ≤ z4599 ∧ z4599 ≤ 8)) → ((¬ z4569 = z4599) → rec2 (z4111, (z4110 + 1))) ∧ ((z4569 = z4599) → ∀ z4612 : Int, lShl (1 : Int) z4110 = z4612 → ∀ z4615 : Int, lOr z4111 z4612 = z4615 → rec2 (z4615, (z4110 + 1))))))
def WL_X12_waysMatch_W_1 (μ : mM) (p1 : Int) (p2 : Int) (p3 : Int) (Q : Int → mM → Prop) (z4 : Int) (rec1 : (Int × Int × Int) → Prop) (s : (Int × Int × Int)) : Prop := ∀ z2394 : Int, ∀ z2393 : Int, ∀ z2392 : Int, s = (z2394, z2393, z2392) → ((-9223372036854775808) ≤ z2394 ∧ z2394 ≤ 9223372036854775807) → ((-9223372036854775808) ≤ z2393 ∧ z2393 ≤ 9223372036854775807) → (0 ≤ z2392 ∧ z2392 ≤ 20) → ((z4 ≤ z2392) → ∀ z2565 : Int, μ 138 (p2.toNat) = z2565 → ((-9223372036854775808) ≤ z2565 ∧ z2565 ≤ 9223372036854775807) → ∀ z2568 : Int, lAnd z2393 z2565 = z2568 → ∀ z2571 : Int, lCmp z2568 (0 : Int) = z2571 → ((z2571 = 0) → Q (0 : Int) μ) ∧ ((¬ z2571 = 0) → Q (1 : Int) μ)) ∧ ((z2392 < z4) → loopF (WL_X12_waysMatch_W_2 μ p1 p3 rec1 z2394 z2392) False 42 ((0 : Int), (0 : Int)))
def WP_X12_waysMatch_W (w : mW) (μ : mM) (p1 : Int) (p2 : Int) (p3 : Int) (Q : Int → mM → Prop) : Prop := ∀ z1 : Int, μ 137 (p2.toNat) = z1 → ((-9223372036854775808) ≤ z1 ∧ z1 ≤ 9223372036854775807) → ∀ z4 : Int, μ 126 (((40 * p3) + 4).toNat) = z4 → ((-2147483648 ≤ z4 ∧ z4 ≤ 2147483647) ∧ (((40 * p3) + 4) % 40 = 0 → -1 ≤ z4 ∧ z4 ≤ 9) ∧ (((40 * p3) + 4) % 40 = 4 → 0 ≤ z4 ∧ z4 ≤ 20) ∧ (((40 * p3) + 4) % 40 = 5 → 0 ≤ z4 ∧ z4 ≤ 8)) → ((¬ z4 = 0) → loopF (WL_X12_waysMatch_W_1 μ p1 p2 p3 Q z4) False 22 (z1, (0 : Int), (0 : Int))) ∧ ((z4 = 0) → ∀ z4619 : Int, μ 139 (p2.toNat) = z4619 → (0 ≤ z4619 ∧ z4619 ≤ 1) → Q z4619 μ)
set_option maxRecDepth 4000 in
set_option maxHeartbeats 4000000 in
theorem c_X12_waysMatch_W {l : Launch} {D : va_G} {c : Nat → ClassId} {H0 : Heap} {sa : Nat × Nat × (Nat → Int32)} {w : mW} {μ : mM} (hw : mWF w) (hT : mT w μ) {p1 : Int} (hp1 : 0 ≤ p1 ∧ p1 ≤ 11) {p2 : Int} (hp2 : 0 ≤ p2 ∧ p2 ≤ 3899) {p3 : Int} (hp3 : 0 ≤ p3 ∧ p3 ≤ 2099) {Q : Int → mM → Prop} (hQ : WP_X12_waysMatch_W w μ p1 p2 p3 Q) : sC (gG l D c H0 sa) mX12_waysMatch 1 0 0 [.ref 106, iv p1, iv p2, iv p3] (mk w μ) (qP w μ (fun z => (0 ≤ z ∧ z ≤ 1) ∧ Q z μ ∧ True)) := by
  refine sC.of rfl (by decide) (le_t rfl) ?_
  refine mr_lvE (lv' := [(0, .ref 106), (1, iv p1), (2, iv p2), (3, iv p3)]) rfl ?_
  refine sv_aload_n (pc := 0) dX12_waysMatch_0 rfl rfl ?_
  refine gf_X12_50 (pc := 1) dX12_waysMatch_1 wF_X12_305 (A_106 hw) hT ?_
  refine mr_iload_n (pc := 4) (z := p2) dX12_waysMatch_4 rfl rfl ?_
  refine la_137 (pc := 5) dX12_waysMatch_5 (A_137 hw) hT (rIx (n := 3900) hp2 rfl) fun z1 q2 h3 => ?_
  refine mr_lstore (pc := 6) (lv' := [(4, jv z1), (0, .ref 106), (1, iv p1), (2, iv p2), (3, iv p3)]) dX12_waysMatch_6 (by decide) rfl ?_
  refine sv_aload_n (pc := 8) dX12_waysMatch_8 rfl rfl ?_
  refine gf_X12_32 (pc := 9) dX12_waysMatch_9 wF_X12_148 (A_106 hw) hT ?_
  refine mr_bipush (pc := 12) (z := 40) dX12_waysMatch_12 (by decide) ?_
  refine mr_iload_n (pc := 14) (z := p3) dX12_waysMatch_14 rfl rfl ?_
  refine mr_imul (pc := 15) (x := 40) (y := p3) dX12_waysMatch_15 ?_
  refine mr_iconst (pc := 16) (z := 4) dX12_waysMatch_16 ?_
  refine mr_iadd (pc := 17) (x := (40 * p3)) (y := 4) dX12_waysMatch_17 ?_
  refine la_126 (pc := 18) dX12_waysMatch_18 (A_126 hw) hT (rIx (n := 84000) (rAdd (e := 4) (f := 83964) (rMulL (n := 40) (e := 0) (f := 83960) hp3 rfl) (rR (x := 4)) rfl) rfl) fun z4 q5 h6 => ?_
  have h7 : 0 ≤ z4 ∧ z4 ≤ 20 := h6.2.2.1 (vc_X12_front_1 hp3)
  refine mr_istore (pc := 19) (lv' := [(6, iv z4), (4, jv z1), (0, .ref 106), (1, iv p1), (2, iv p2), (3, iv p3)]) dX12_waysMatch_19 (by decide) rfl ?_
  refine mr_iload (pc := 21) (z := z4) dX12_waysMatch_21 rfl ?_
  refine mr_if_ne (pc := 23) (tgt := 33) dX12_waysMatch_23 (by decide) (r32 h7 rfl) (fun h8 => ?_) (fun h8 => ?_)
  · have h9 : 1 ≤ z4 ∧ z4 ≤ 20 := (vc_X12_waysMatch_2 h8 h7)
    refine mr_lconst (pc := 33) (z := 0) dX12_waysMatch_33 (by decide) ?_
    refine mr_lstore (pc := 34) (lv' := [(7, jv 0), (6, iv z4), (4, jv z1), (0, .ref 106), (1, iv p1), (2, iv p2), (3, iv p3)]) dX12_waysMatch_34 (by decide) rfl ?_
    refine mr_iconst (pc := 36) (z := 0) dX12_waysMatch_36 ?_
    refine mr_istore (pc := 37) (lv' := [(9, iv 0), (7, jv 0), (6, iv z4), (4, jv z1), (0, .ref 106), (1, iv p1), (2, iv p2), (3, iv p3)]) dX12_waysMatch_37 (by decide) rfl ?_
    have L2395 : ∀ (nL2395 : Nat) (z2394 z2393 z2392 : Int), True → ((-9223372036854775808) ≤ z2394 ∧ z2394 ≤ 9223372036854775807) → ((-9223372036854775808) ≤ z2393 ∧ z2393 ≤ 9223372036854775807) → (0 ≤ z2392 ∧ z2392 ≤ 20) → (21 - z2392) < (nL2395 : Int) → loopF (WL_X12_waysMatch_W_1 μ p1 p2 p3 Q z4) False nL2395 (z2394, z2393, z2392) → sV (gG l D c H0 sa) mX12_waysMatch (sRm 1 0 0) (sZ (gG l D c H0 sa) 0 0 (qP w μ (fun z => (0 ≤ z ∧ z ≤ 1) ∧ Q z μ ∧ True))) 39 [(0, .ref 106), (1, iv p1), (2, iv p2), (3, iv p3), (4, jv z2394), (6, iv z4), (7, jv z2393), (9, iv z2392)] [] (mk w μ) 0 0 := by
      intro nL2395
      induction nL2395 with
      | zero => intro z2394 z2393 z2392 _ h2396 h2397 h2398 h2402 W2403; exact ((vc_X12_tieOf_1 h2402 h2398)).elim
      | succ nL2395 ih2404 =>
        intro z2394 z2393 z2392 _ h2396 h2397 h2398 h2402 W2403
        refine mr_iload (pc := 39) (z := z2392) dX12_waysMatch_39 rfl ?_
        refine mr_iload (pc := 41) (z := z4) dX12_waysMatch_41 rfl ?_
        refine mr_icmp_ge (pc := 43) (tgt := 193) dX12_waysMatch_43 (by decide) (r32 h2398 rfl) (r32 h9 rfl) (fun h2563 => ?_) (fun h2563 => ?_)
        · have h2564 : 1 ≤ z2392 ∧ z2392 ≤ 20 := (vc_X12_waysMatch_4 h2563 h8 h2398 h9)
          refine mr_lload (pc := 193) (z := z2393) dX12_waysMatch_193 rfl ?_
          refine sv_aload_n (pc := 195) dX12_waysMatch_195 rfl rfl ?_
          refine gf_X12_51 (pc := 196) dX12_waysMatch_196 wF_X12_308 (A_106 hw) hT ?_
          refine mr_iload_n (pc := 199) (z := p2) dX12_waysMatch_199 rfl rfl ?_
          refine la_138 (pc := 200) dX12_waysMatch_200 (A_138 hw) hT (rIx (n := 3900) hp2 rfl) fun z2565 q2566 h2567 => ?_
          refine mr_land (pc := 201) dX12_waysMatch_201 ?_
          refine mr_genL (r64i _) fun z2568 q2569 h2570 => ?_
          refine mr_lconst (pc := 202) (z := 0) dX12_waysMatch_202 (by decide) ?_
          refine mr_lcmp (pc := 203) dX12_waysMatch_203 ?_
          refine mr_gen (P := fun z => (-1) ≤ z ∧ z ≤ 1) (lg_cmp_r _ _) fun z2571 q2572 h2573 => ?_
          refine mr_if_eq (pc := 204) (tgt := 211) dX12_waysMatch_204 (by decide) (r32 h2573 rfl) (fun h2575 => ?_) (fun h2575 => ?_)
          · have h2576 : 0 ≤ z2571 ∧ z2571 ≤ 0 := (vc_X12_waysMatch_5 h2575 h2573)
            refine mr_iconst (pc := 211) (z := 0) dX12_waysMatch_211 ?_
            exact mr_zretP dX12_waysMatch_212 rfl (rW (c := 0) (d := 1) (rR (x := 0)) rfl) (le_t rfl) (le_t rfl) ⟨(rW (c := 0) (d := 1) (rR (x := 0)) rfl), ((((((W2403 z2394 z2393 z2392 rfl h2396 h2397 h2398).1 h2563) z2565 q2566 h2567) z2568 q2569) z2571 q2572).1 h2575), trivial⟩
          refine mr_iconst (pc := 207) (z := 1) dX12_waysMatch_207 ?_
          refine sv_goto (pc := 208) (tgt := 212) dX12_waysMatch_208 (by decide) ?_
          exact mr_zretP dX12_waysMatch_212 rfl (rW (c := 0) (d := 1) (rR (x := 1)) rfl) (le_t rfl) (le_t rfl) ⟨(rW (c := 0) (d := 1) (rR (x := 1)) rfl), ((((((W2403 z2394 z2393 z2392 rfl h2396 h2397 h2398).1 h2563) z2565 q2566 h2567) z2568 q2569) z2571 q2572).2 h2575), trivial⟩
        have h2577 : 0 ≤ z2392 ∧ z2392 ≤ 19 := (vc_X12_waysMatch_6 h2563 h8 h2398 h9)
        refine mr_lconst (pc := 46) (z := 0) dX12_waysMatch_46 (by decide) ?_
        refine mr_lstore (pc := 47) (lv' := [(7, jv 0), (0, .ref 106), (1, iv p1), (2, iv p2), (3, iv p3), (4, jv z2394), (6, iv z4), (9, iv z2392)]) dX12_waysMatch_47 (by decide) rfl ?_
        refine mr_iconst (pc := 49) (z := 0) dX12_waysMatch_49 ?_
        refine mr_istore (pc := 50) (lv' := [(10, iv 0), (7, jv 0), (0, .ref 106), (1, iv p1), (2, iv p2), (3, iv p3), (4, jv z2394), (6, iv z4), (9, iv z2392)]) dX12_waysMatch_50 (by decide) rfl ?_
        have L4112 : ∀ (nL4112 : Nat) (z4111 z4110 : Int), True → ((-9223372036854775808) ≤ z4111 ∧ z4111 ≤ 9223372036854775807) → (0 ≤ z4110 ∧ z4110 ≤ 40) → (41 - z4110) < (nL4112 : Int) → loopF (WL_X12_waysMatch_W_2 μ p1 p3 (loopF (WL_X12_waysMatch_W_1 μ p1 p2 p3 Q z4) False nL2395) z2394 z2392) False nL4112 (z4111, z4110) → sV (gG l D c H0 sa) mX12_waysMatch (sRm 1 0 0) (sZ (gG l D c H0 sa) 0 0 (qP w μ (fun z => (0 ≤ z ∧ z ≤ 1) ∧ Q z μ ∧ True))) 52 [(0, .ref 106), (1, iv p1), (2, iv p2), (3, iv p3), (4, jv z2394), (6, iv z4), (7, jv z4111), (9, iv z2392), (10, iv z4110)] [] (mk w μ) 0 0 := by
          intro nL4112
          induction nL4112 with
          | zero => intro z4111 z4110 _ h4113 h4114 h4118 W4119; exact ((vc_X12_waysMatch_7 h4118 h4114)).elim
          | succ nL4112 ih4120 =>
            intro z4111 z4110 _ h4113 h4114 h4118 W4119
            refine mr_iload (pc := 52) (z := z4110) dX12_waysMatch_52 rfl ?_
            refine sv_aload_n (pc := 54) dX12_waysMatch_54 rfl rfl ?_
            refine gf_X12_55 (pc := 55) dX12_waysMatch_55 wF_X12_292 (A_106 hw) hT ?_
            refine mr_iload_n (pc := 58) (z := p1) dX12_waysMatch_58 rfl rfl ?_
            refine la_142 (pc := 59) dX12_waysMatch_59 (A_142 hw) hT (rIx (n := 13) hp1 rfl) fun z4121 q4122 h4123 => ?_
            refine mr_icmp_ge (pc := 60) (tgt := 135) dX12_waysMatch_60 (by decide) (r32 h4114 rfl) (r32 h4123 rfl) (fun h4157 => ?_) (fun h4157 => ?_)
            · refine mr_lconst (pc := 135) (z := 0) dX12_waysMatch_135 (by decide) ?_
              refine mr_lstore (pc := 136) (lv' := [(4, jv 0), (0, .ref 106), (1, iv p1), (2, iv p2), (3, iv p3), (6, iv z4), (7, jv z4111), (9, iv z2392), (10, iv z4110)]) dX12_waysMatch_136 (by decide) rfl ?_
              refine mr_iconst (pc := 138) (z := 0) dX12_waysMatch_138 ?_
              refine mr_istore (pc := 139) (lv' := [(10, iv 0), (4, jv 0), (0, .ref 106), (1, iv p1), (2, iv p2), (3, iv p3), (6, iv z4), (7, jv z4111), (9, iv z2392)]) dX12_waysMatch_139 (by decide) rfl ?_
              have L4480 : ∀ (nL4480 : Nat) (z4479 z4478 : Int), True → ((-9223372036854775808) ≤ z4479 ∧ z4479 ≤ 9223372036854775807) → (0 ≤ z4478 ∧ z4478 ≤ 40) → (41 - z4478) < (nL4480 : Int) → loopF (WL_X12_waysMatch_W_3 μ p1 (loopF (WL_X12_waysMatch_W_1 μ p1 p2 p3 Q z4) False nL2395) z2392 z4111 z4121) False nL4480 (z4479, z4478) → sV (gG l D c H0 sa) mX12_waysMatch (sRm 1 0 0) (sZ (gG l D c H0 sa) 0 0 (qP w μ (fun z => (0 ≤ z ∧ z ≤ 1) ∧ Q z μ ∧ True))) 141 [(0, .ref 106), (1, iv p1), (2, iv p2), (3, iv p3), (4, jv z4479), (6, iv z4), (7, jv z4111), (9, iv z2392), (10, iv z4478)] [] (mk w μ) 0 0 := by
                intro nL4480
                induction nL4480 with
                | zero => intro z4479 z4478 _ h4481 h4482 h4486 W4487; exact ((vc_X12_waysMatch_7 h4486 h4482)).elim
                | succ nL4480 ih4488 =>
                  intro z4479 z4478 _ h4481 h4482 h4486 W4487
                  refine mr_iload (pc := 141) (z := z4478) dX12_waysMatch_141 rfl ?_
                  refine sv_aload_n (pc := 143) dX12_waysMatch_143 rfl rfl ?_
                  refine gf_X12_55 (pc := 144) dX12_waysMatch_144 wF_X12_292 (A_106 hw) hT ?_
                  refine mr_iload_n (pc := 147) (z := p1) dX12_waysMatch_147 rfl rfl ?_
                  refine lk_142 (pc := 148) dX12_waysMatch_148 (A_142 hw) (rIx (n := 13) hp1 rfl) q4122 ?_
                  refine mr_icmp_ge (pc := 149) (tgt := 187) dX12_waysMatch_149 (by decide) (r32 h4482 rfl) (r32 h4123 rfl) (fun h4507 => ?_) (fun h4507 => ?_)
                  · refine mr_iinc (pc := 187) (lv' := [(9, iv (z2392 + 1)), (0, .ref 106), (1, iv p1), (2, iv p2), (3, iv p3), (4, jv z4479), (6, iv z4), (7, jv z4111), (10, iv z4478)]) dX12_waysMatch_187 rfl (by decide) rfl ?_
                    refine sv_goto (pc := 190) (tgt := 39) dX12_waysMatch_190 (by decide) ?_
                    refine mr_lvS (lv' := [(0, .ref 106), (1, iv p1), (2, iv p2), (3, iv p3), (4, jv z4479), (6, iv z4), (7, jv z4111), (9, iv (z2392 + 1))]) (List.forall_mem_cons.mpr ⟨rfl, List.forall_mem_cons.mpr ⟨rfl, List.forall_mem_cons.mpr ⟨rfl, List.forall_mem_cons.mpr ⟨rfl, List.forall_mem_cons.mpr ⟨rfl, List.forall_mem_cons.mpr ⟨rfl, List.forall_mem_cons.mpr ⟨rfl, List.forall_mem_cons.mpr ⟨rfl, fun _ h => absurd h List.not_mem_nil⟩⟩⟩⟩⟩⟩⟩⟩) ?_
                    exact ih2404 z4479 z4111 (z2392 + 1) trivial h4481 h4113 (rW (c := 0) (d := 20) (rAdd (e := 1) (f := 20) h2577 (rR (x := 1)) rfl) rfl) (vc_X12_waysMatch_9 (nS h2402) h2563 h8 h2577 h9) ((W4487 z4479 z4478 rfl h4481 h4482).1 h4507)
                  have h4508 : 0 ≤ z4478 ∧ z4478 ≤ 39 := (vc_X12_waysMatch_10 h4507 h4157 h4114 h4123 h4482)
                  have h4509 : 1 ≤ z4121 ∧ z4121 ≤ 40 := (vc_X12_waysMatch_11 h4507 h4157 h4114 h4123 h4508)
                  refine mr_lload (pc := 152) (z := z4111) dX12_waysMatch_152 rfl ?_
                  refine mr_iload (pc := 154) (z := z4478) dX12_waysMatch_154 rfl ?_
                  refine mr_lshr (pc := 156) dX12_waysMatch_156 ?_
                  refine mr_genL (r64i _) fun z4510 q4511 h4512 => ?_
                  refine mr_lconst (pc := 157) (z := 1) dX12_waysMatch_157 (by decide) ?_
                  refine mr_land (pc := 158) dX12_waysMatch_158 ?_
                  refine mr_genL (r64i _) fun z4513 q4514 h4515 => ?_
                  refine mr_lconst (pc := 159) (z := 1) dX12_waysMatch_159 (by decide) ?_
                  refine mr_lcmp (pc := 160) dX12_waysMatch_160 ?_
                  refine mr_gen (P := fun z => (-1) ≤ z ∧ z ≤ 1) (lg_cmp_r _ _) fun z4516 q4517 h4518 => ?_
                  refine mr_if_ne (pc := 161) (tgt := 181) dX12_waysMatch_161 (by decide) (r32 h4518 rfl) (fun h4526 => ?_) (fun h4526 => ?_)
                  · refine mr_iinc (pc := 181) (lv' := [(10, iv (z4478 + 1)), (0, .ref 106), (1, iv p1), (2, iv p2), (3, iv p3), (4, jv z4479), (6, iv z4), (7, jv z4111), (9, iv z2392)]) dX12_waysMatch_181 rfl (by decide) rfl ?_
                    refine sv_goto (pc := 184) (tgt := 141) dX12_waysMatch_184 (by decide) ?_
                    refine mr_lvS (lv' := [(0, .ref 106), (1, iv p1), (2, iv p2), (3, iv p3), (4, jv z4479), (6, iv z4), (7, jv z4111), (9, iv z2392), (10, iv (z4478 + 1))]) (List.forall_mem_cons.mpr ⟨rfl, List.forall_mem_cons.mpr ⟨rfl, List.forall_mem_cons.mpr ⟨rfl, List.forall_mem_cons.mpr ⟨rfl, List.forall_mem_cons.mpr ⟨rfl, List.forall_mem_cons.mpr ⟨rfl, List.forall_mem_cons.mpr ⟨rfl, List.forall_mem_cons.mpr ⟨rfl, List.forall_mem_cons.mpr ⟨rfl, fun _ h => absurd h List.not_mem_nil⟩⟩⟩⟩⟩⟩⟩⟩⟩) ?_
                    exact ih4488 z4479 (z4478 + 1) trivial h4481 (rW (c := 0) (d := 40) (rAdd (e := 1) (f := 40) h4508 (rR (x := 1)) rfl) rfl) (vc_X12_waysMatch_12 (nS h4486) h4507 h4157 h4114 h4509 h4508) ((((((W4487 z4479 z4478 rfl h4481 h4482).2 h4507) z4510 q4511) z4513 q4514) z4516 q4517).1 h4526)
                  have h4527 : 0 ≤ z4516 ∧ z4516 ≤ 0 := (vc_X12_waysMatch_5 h4526 h4518)
                  refine mr_lload (pc := 164) (z := z4479) dX12_waysMatch_164 rfl ?_
                  refine sv_aload_n (pc := 166) dX12_waysMatch_166 rfl rfl ?_
                  refine gf_X12_57 (pc := 167) dX12_waysMatch_167 wF_X12_275 (A_106 hw) hT ?_
                  refine mr_bipush (pc := 170) (z := 41) dX12_waysMatch_170 (by decide) ?_
                  refine mr_iload_n (pc := 172) (z := p1) dX12_waysMatch_172 rfl rfl ?_
                  refine mr_imul (pc := 173) (x := 41) (y := p1) dX12_waysMatch_173 ?_
                  refine mr_iload (pc := 174) (z := z4478) dX12_waysMatch_174 rfl ?_
                  refine mr_iadd (pc := 176) (x := (41 * p1)) (y := z4478) dX12_waysMatch_176 ?_
                  refine la_144 (pc := 177) dX12_waysMatch_177 (A_144 hw) hT (rIx (n := 533) (rAdd (e := 0) (f := 490) (rMulL (n := 41) (e := 0) (f := 451) hp1 rfl) h4508 rfl) rfl) fun z4528 q4529 h4530 => ?_
                  refine mr_lor (pc := 178) dX12_waysMatch_178 ?_
                  refine mr_genL (r64i _) fun z4531 q4532 h4533 => ?_
                  refine mr_lstore (pc := 179) (lv' := [(4, jv z4531), (0, .ref 106), (1, iv p1), (2, iv p2), (3, iv p3), (6, iv z4), (7, jv z4111), (9, iv z2392), (10, iv z4478)]) dX12_waysMatch_179 (by decide) rfl ?_
                  refine mr_iinc (pc := 181) (lv' := [(10, iv (z4478 + 1)), (4, jv z4531), (0, .ref 106), (1, iv p1), (2, iv p2), (3, iv p3), (6, iv z4), (7, jv z4111), (9, iv z2392)]) dX12_waysMatch_181 rfl (by decide) rfl ?_
                  refine sv_goto (pc := 184) (tgt := 141) dX12_waysMatch_184 (by decide) ?_
                  refine mr_lvS (lv' := [(0, .ref 106), (1, iv p1), (2, iv p2), (3, iv p3), (4, jv z4531), (6, iv z4), (7, jv z4111), (9, iv z2392), (10, iv (z4478 + 1))]) (List.forall_mem_cons.mpr ⟨rfl, List.forall_mem_cons.mpr ⟨rfl, List.forall_mem_cons.mpr ⟨rfl, List.forall_mem_cons.mpr ⟨rfl, List.forall_mem_cons.mpr ⟨rfl, List.forall_mem_cons.mpr ⟨rfl, List.forall_mem_cons.mpr ⟨rfl, List.forall_mem_cons.mpr ⟨rfl, List.forall_mem_cons.mpr ⟨rfl, fun _ h => absurd h List.not_mem_nil⟩⟩⟩⟩⟩⟩⟩⟩⟩) ?_
                  exact ih4488 z4531 (z4478 + 1) trivial h4533 (rW (c := 0) (d := 40) (rAdd (e := 1) (f := 40) h4508 (rR (x := 1)) rfl) rfl) (vc_X12_waysMatch_12 (nS h4486) h4507 h4157 h4114 h4509 h4508) ((((((((W4487 z4479 z4478 rfl h4481 h4482).2 h4507) z4510 q4511) z4513 q4514) z4516 q4517).2 h4526) z4528 q4529 h4530) z4531 q4532)
              refine mr_lvS (lv' := [(0, .ref 106), (1, iv p1), (2, iv p2), (3, iv p3), (4, jv 0), (6, iv z4), (7, jv z4111), (9, iv z2392), (10, iv 0)]) (List.forall_mem_cons.mpr ⟨rfl, List.forall_mem_cons.mpr ⟨rfl, List.forall_mem_cons.mpr ⟨rfl, List.forall_mem_cons.mpr ⟨rfl, List.forall_mem_cons.mpr ⟨rfl, List.forall_mem_cons.mpr ⟨rfl, List.forall_mem_cons.mpr ⟨rfl, List.forall_mem_cons.mpr ⟨rfl, List.forall_mem_cons.mpr ⟨rfl, fun _ h => absurd h List.not_mem_nil⟩⟩⟩⟩⟩⟩⟩⟩⟩) ?_
              exact L4480 42 0 0 trivial (rW (c := -9223372036854775808) (d := 9223372036854775807) (rR (x := 0)) rfl) (rW (c := 0) (d := 40) (rR (x := 0)) rfl) vc_X12_waysMatch_14 (((W4119 z4111 z4110 rfl h4113 h4114) z4121 q4122 h4123).1 h4157)
            have h4534 : 0 ≤ z4110 ∧ z4110 ≤ 39 := (vc_X12_waysMatch_15 h4157 h4114 h4123)
            have h4535 : 1 ≤ z4121 ∧ z4121 ≤ 40 := (vc_X12_waysMatch_16 h4157 h4534 h4123)
            refine mr_lload (pc := 63) (z := z2394) dX12_waysMatch_63 rfl ?_
            refine mr_iload (pc := 65) (z := z4110) dX12_waysMatch_65 rfl ?_
            refine mr_lshr (pc := 67) dX12_waysMatch_67 ?_
            refine mr_genL (r64i _) fun z4536 q4537 h4538 => ?_
            refine mr_lconst (pc := 68) (z := 1) dX12_waysMatch_68 (by decide) ?_
            refine mr_land (pc := 69) dX12_waysMatch_69 ?_
            refine mr_genL (r64i _) fun z4539 q4540 h4541 => ?_
            refine mr_lconst (pc := 70) (z := 1) dX12_waysMatch_70 (by decide) ?_
            refine mr_lcmp (pc := 71) dX12_waysMatch_71 ?_
            refine mr_gen (P := fun z => (-1) ≤ z ∧ z ≤ 1) (lg_cmp_r _ _) fun z4542 q4543 h4544 => ?_
            refine mr_if_ne (pc := 72) (tgt := 129) dX12_waysMatch_72 (by decide) (r32 h4544 rfl) (fun h4567 => ?_) (fun h4567 => ?_)
            · refine mr_iinc (pc := 129) (lv' := [(10, iv (z4110 + 1)), (0, .ref 106), (1, iv p1), (2, iv p2), (3, iv p3), (4, jv z2394), (6, iv z4), (7, jv z4111), (9, iv z2392)]) dX12_waysMatch_129 rfl (by decide) rfl ?_
              refine sv_goto (pc := 132) (tgt := 52) dX12_waysMatch_132 (by decide) ?_
              refine mr_lvS (lv' := [(0, .ref 106), (1, iv p1), (2, iv p2), (3, iv p3), (4, jv z2394), (6, iv z4), (7, jv z4111), (9, iv z2392), (10, iv (z4110 + 1))]) (List.forall_mem_cons.mpr ⟨rfl, List.forall_mem_cons.mpr ⟨rfl, List.forall_mem_cons.mpr ⟨rfl, List.forall_mem_cons.mpr ⟨rfl, List.forall_mem_cons.mpr ⟨rfl, List.forall_mem_cons.mpr ⟨rfl, List.forall_mem_cons.mpr ⟨rfl, List.forall_mem_cons.mpr ⟨rfl, List.forall_mem_cons.mpr ⟨rfl, fun _ h => absurd h List.not_mem_nil⟩⟩⟩⟩⟩⟩⟩⟩⟩) ?_
              exact ih4120 z4111 (z4110 + 1) trivial h4113 (rW (c := 0) (d := 40) (rAdd (e := 1) (f := 40) h4534 (rR (x := 1)) rfl) rfl) (vc_X12_waysMatch_17 (nS h4118) h4157 h4534 h4535) (((((((W4119 z4111 z4110 rfl h4113 h4114) z4121 q4122 h4123).2 h4157) z4536 q4537) z4539 q4540) z4542 q4543).1 h4567)
            have h4568 : 0 ≤ z4542 ∧ z4542 ≤ 0 := (vc_X12_waysMatch_5 h4567 h4544)
            refine sv_aload_n (pc := 75) dX12_waysMatch_75 rfl rfl ?_
            refine gf_X12_56 (pc := 76) dX12_waysMatch_76 wF_X12_295 (A_106 hw) hT ?_
            refine mr_bipush (pc := 79) (z := 41) dX12_waysMatch_79 (by decide) ?_
            refine mr_iload_n (pc := 81) (z := p1) dX12_waysMatch_81 rfl rfl ?_
            refine mr_imul (pc := 82) (x := 41) (y := p1) dX12_waysMatch_82 ?_
            refine mr_iload (pc := 83) (z := z4110) dX12_waysMatch_83 rfl ?_
            refine mr_iadd (pc := 85) (x := (41 * p1)) (y := z4110) dX12_waysMatch_85 ?_
            refine la_143 (pc := 86) dX12_waysMatch_86 (A_143 hw) hT (rIx (n := 533) (rAdd (e := 0) (f := 490) (rMulL (n := 41) (e := 0) (f := 451) hp1 rfl) h4534 rfl) rfl) fun z4569 q4570 h4571 => ?_
            refine mr_if_lt (pc := 87) (tgt := 120) dX12_waysMatch_87 (by decide) h4571 (fun h4590 => ?_) (fun h4590 => ?_)
            · have h4591 : (-2147483648) ≤ z4569 ∧ z4569 ≤ (-1) := (vc_X12_ring_60 h4590 h4571)
              refine mr_lload (pc := 120) (z := z4111) dX12_waysMatch_120 rfl ?_
              refine mr_lconst (pc := 122) (z := 1) dX12_waysMatch_122 (by decide) ?_
              refine mr_iload (pc := 123) (z := z4110) dX12_waysMatch_123 rfl ?_
              refine mr_lshl (pc := 125) dX12_waysMatch_125 ?_
              refine mr_genL (r64i _) fun z4592 q4593 h4594 => ?_
              refine mr_lor (pc := 126) dX12_waysMatch_126 ?_
              refine mr_genL (r64i _) fun z4595 q4596 h4597 => ?_
              refine mr_lstore (pc := 127) (lv' := [(7, jv z4595), (0, .ref 106), (1, iv p1), (2, iv p2), (3, iv p3), (4, jv z2394), (6, iv z4), (9, iv z2392), (10, iv z4110)]) dX12_waysMatch_127 (by decide) rfl ?_
              refine mr_iinc (pc := 129) (lv' := [(10, iv (z4110 + 1)), (7, jv z4595), (0, .ref 106), (1, iv p1), (2, iv p2), (3, iv p3), (4, jv z2394), (6, iv z4), (9, iv z2392)]) dX12_waysMatch_129 rfl (by decide) rfl ?_
              refine sv_goto (pc := 132) (tgt := 52) dX12_waysMatch_132 (by decide) ?_
              refine mr_lvS (lv' := [(0, .ref 106), (1, iv p1), (2, iv p2), (3, iv p3), (4, jv z2394), (6, iv z4), (7, jv z4595), (9, iv z2392), (10, iv (z4110 + 1))]) (List.forall_mem_cons.mpr ⟨rfl, List.forall_mem_cons.mpr ⟨rfl, List.forall_mem_cons.mpr ⟨rfl, List.forall_mem_cons.mpr ⟨rfl, List.forall_mem_cons.mpr ⟨rfl, List.forall_mem_cons.mpr ⟨rfl, List.forall_mem_cons.mpr ⟨rfl, List.forall_mem_cons.mpr ⟨rfl, List.forall_mem_cons.mpr ⟨rfl, fun _ h => absurd h List.not_mem_nil⟩⟩⟩⟩⟩⟩⟩⟩⟩) ?_
              exact ih4120 z4595 (z4110 + 1) trivial h4597 (rW (c := 0) (d := 40) (rAdd (e := 1) (f := 40) h4534 (rR (x := 1)) rfl) rfl) (vc_X12_waysMatch_17 (nS h4118) h4157 h4534 h4535) (((((((((((W4119 z4111 z4110 rfl h4113 h4114) z4121 q4122 h4123).2 h4157) z4536 q4537) z4539 q4540) z4542 q4543).2 h4567) z4569 q4570 h4571).1 h4590) z4592 q4593) z4595 q4596)
            have h4598 : 0 ≤ z4569 ∧ z4569 ≤ 2147483647 := (vc_X12_ring_1 h4590 h4571)
            refine sv_aload_n (pc := 90) dX12_waysMatch_90 rfl rfl ?_
            refine gf_X12_56 (pc := 91) dX12_waysMatch_91 wF_X12_295 (A_106 hw) hT ?_
            refine mr_bipush (pc := 94) (z := 41) dX12_waysMatch_94 (by decide) ?_
            refine mr_iload_n (pc := 96) (z := p1) dX12_waysMatch_96 rfl rfl ?_
            refine mr_imul (pc := 97) (x := 41) (y := p1) dX12_waysMatch_97 ?_
            refine mr_iload (pc := 98) (z := z4110) dX12_waysMatch_98 rfl ?_
            refine mr_iadd (pc := 100) (x := (41 * p1)) (y := z4110) dX12_waysMatch_100 ?_
            refine lk_143 (pc := 101) dX12_waysMatch_101 (A_143 hw) (rIx (n := 533) (rAdd (e := 0) (f := 490) (rMulL (n := 41) (e := 0) (f := 451) hp1 rfl) h4534 rfl) rfl) q4570 ?_
            refine sv_aload_n (pc := 102) dX12_waysMatch_102 rfl rfl ?_
            refine gf_X12_32 (pc := 103) dX12_waysMatch_103 wF_X12_148 (A_106 hw) hT ?_
            refine mr_bipush (pc := 106) (z := 40) dX12_waysMatch_106 (by decide) ?_
            refine mr_iload_n (pc := 108) (z := p3) dX12_waysMatch_108 rfl rfl ?_
            refine mr_imul (pc := 109) (x := 40) (y := p3) dX12_waysMatch_109 ?_
            refine mr_bipush (pc := 110) (z := 6) dX12_waysMatch_110 (by decide) ?_
            refine mr_iadd (pc := 112) (x := (40 * p3)) (y := 6) dX12_waysMatch_112 ?_
            refine mr_iload (pc := 113) (z := z2392) dX12_waysMatch_113 rfl ?_
            refine mr_iadd (pc := 115) (x := ((40 * p3) + 6)) (y := z2392) dX12_waysMatch_115 ?_
            refine la_126 (pc := 116) dX12_waysMatch_116 (A_126 hw) hT (rIx (n := 84000) (rAdd (e := 6) (f := 83985) (rAdd (e := 6) (f := 83966) (rMulL (n := 40) (e := 0) (f := 83960) hp3 rfl) (rR (x := 6)) rfl) h2577 rfl) rfl) fun z4599 q4600 h4601 => ?_
            have W4602 := ((((((((((W4119 z4111 z4110 rfl h4113 h4114) z4121 q4122 h4123).2 h4157) z4536 q4537) z4539 q4540) z4542 q4543).2 h4567) z4569 q4570 h4571).2 h4590) z4599 q4600 h4601)
            refine mr_icmp_ne (pc := 117) (tgt := 129) dX12_waysMatch_117 (by decide) (r32 h4598 rfl) h4601.1 (fun h4610 => ?_) (fun h4610 => ?_)
            · refine mr_iinc (pc := 129) (lv' := [(10, iv (z4110 + 1)), (0, .ref 106), (1, iv p1), (2, iv p2), (3, iv p3), (4, jv z2394), (6, iv z4), (7, jv z4111), (9, iv z2392)]) dX12_waysMatch_129 rfl (by decide) rfl ?_
              refine sv_goto (pc := 132) (tgt := 52) dX12_waysMatch_132 (by decide) ?_
              refine mr_lvS (lv' := [(0, .ref 106), (1, iv p1), (2, iv p2), (3, iv p3), (4, jv z2394), (6, iv z4), (7, jv z4111), (9, iv z2392), (10, iv (z4110 + 1))]) (List.forall_mem_cons.mpr ⟨rfl, List.forall_mem_cons.mpr ⟨rfl, List.forall_mem_cons.mpr ⟨rfl, List.forall_mem_cons.mpr ⟨rfl, List.forall_mem_cons.mpr ⟨rfl, List.forall_mem_cons.mpr ⟨rfl, List.forall_mem_cons.mpr ⟨rfl, List.forall_mem_cons.mpr ⟨rfl, List.forall_mem_cons.mpr ⟨rfl, fun _ h => absurd h List.not_mem_nil⟩⟩⟩⟩⟩⟩⟩⟩⟩) ?_
              exact ih4120 z4111 (z4110 + 1) trivial h4113 (rW (c := 0) (d := 40) (rAdd (e := 1) (f := 40) h4534 (rR (x := 1)) rfl) rfl) (vc_X12_waysMatch_17 (nS h4118) h4157 h4534 h4535) (W4602.1 h4610)
            have h4611 : 0 ≤ z4599 ∧ z4599 ≤ 2147483647 := (vc_X12_waysMatch_21 h4610 h4590 h4601.2.1 h4601.2.2.1 h4601.2.2.2 hp3 h2577 h4598 h4601.1)
            refine mr_lload (pc := 120) (z := z4111) dX12_waysMatch_120 rfl ?_
            refine mr_lconst (pc := 122) (z := 1) dX12_waysMatch_122 (by decide) ?_
            refine mr_iload (pc := 123) (z := z4110) dX12_waysMatch_123 rfl ?_
            refine mr_lshl (pc := 125) dX12_waysMatch_125 ?_
            refine mr_genL (r64i _) fun z4612 q4613 h4614 => ?_
            refine mr_lor (pc := 126) dX12_waysMatch_126 ?_
            refine mr_genL (r64i _) fun z4615 q4616 h4617 => ?_
            refine mr_lstore (pc := 127) (lv' := [(7, jv z4615), (0, .ref 106), (1, iv p1), (2, iv p2), (3, iv p3), (4, jv z2394), (6, iv z4), (9, iv z2392), (10, iv z4110)]) dX12_waysMatch_127 (by decide) rfl ?_
            refine mr_iinc (pc := 129) (lv' := [(10, iv (z4110 + 1)), (7, jv z4615), (0, .ref 106), (1, iv p1), (2, iv p2), (3, iv p3), (4, jv z2394), (6, iv z4), (9, iv z2392)]) dX12_waysMatch_129 rfl (by decide) rfl ?_
            refine sv_goto (pc := 132) (tgt := 52) dX12_waysMatch_132 (by decide) ?_
            refine mr_lvS (lv' := [(0, .ref 106), (1, iv p1), (2, iv p2), (3, iv p3), (4, jv z2394), (6, iv z4), (7, jv z4615), (9, iv z2392), (10, iv (z4110 + 1))]) (List.forall_mem_cons.mpr ⟨rfl, List.forall_mem_cons.mpr ⟨rfl, List.forall_mem_cons.mpr ⟨rfl, List.forall_mem_cons.mpr ⟨rfl, List.forall_mem_cons.mpr ⟨rfl, List.forall_mem_cons.mpr ⟨rfl, List.forall_mem_cons.mpr ⟨rfl, List.forall_mem_cons.mpr ⟨rfl, List.forall_mem_cons.mpr ⟨rfl, fun _ h => absurd h List.not_mem_nil⟩⟩⟩⟩⟩⟩⟩⟩⟩) ?_
            exact ih4120 z4615 (z4110 + 1) trivial h4617 (rW (c := 0) (d := 40) (rAdd (e := 1) (f := 40) h4534 (rR (x := 1)) rfl) rfl) (vc_X12_waysMatch_17 (nS h4118) h4157 h4534 h4535) (((W4602.2 h4610) z4612 q4613) z4615 q4616)
        refine mr_lvS (lv' := [(0, .ref 106), (1, iv p1), (2, iv p2), (3, iv p3), (4, jv z2394), (6, iv z4), (7, jv 0), (9, iv z2392), (10, iv 0)]) (List.forall_mem_cons.mpr ⟨rfl, List.forall_mem_cons.mpr ⟨rfl, List.forall_mem_cons.mpr ⟨rfl, List.forall_mem_cons.mpr ⟨rfl, List.forall_mem_cons.mpr ⟨rfl, List.forall_mem_cons.mpr ⟨rfl, List.forall_mem_cons.mpr ⟨rfl, List.forall_mem_cons.mpr ⟨rfl, List.forall_mem_cons.mpr ⟨rfl, fun _ h => absurd h List.not_mem_nil⟩⟩⟩⟩⟩⟩⟩⟩⟩) ?_
        exact L4112 42 0 0 trivial (rW (c := -9223372036854775808) (d := 9223372036854775807) (rR (x := 0)) rfl) (rW (c := 0) (d := 40) (rR (x := 0)) rfl) vc_X12_waysMatch_14 ((W2403 z2394 z2393 z2392 rfl h2396 h2397 h2398).2 h2563)
    refine mr_lvS (lv' := [(0, .ref 106), (1, iv p1), (2, iv p2), (3, iv p3), (4, jv z1), (6, iv z4), (7, jv 0), (9, iv 0)]) (List.forall_mem_cons.mpr ⟨rfl, List.forall_mem_cons.mpr ⟨rfl, List.forall_mem_cons.mpr ⟨rfl, List.forall_mem_cons.mpr ⟨rfl, List.forall_mem_cons.mpr ⟨rfl, List.forall_mem_cons.mpr ⟨rfl, List.forall_mem_cons.mpr ⟨rfl, List.forall_mem_cons.mpr ⟨rfl, fun _ h => absurd h List.not_mem_nil⟩⟩⟩⟩⟩⟩⟩⟩) ?_
    exact L2395 22 z1 0 0 trivial h3 (rW (c := -9223372036854775808) (d := 9223372036854775807) (rR (x := 0)) rfl) (rW (c := 0) (d := 20) (rR (x := 0)) rfl) vc_X12_tieOf_12 (((hQ z1 q2 h3) z4 q5 h6).1 h8)
  have h4618 : 0 ≤ z4 ∧ z4 ≤ 0 := (vc_X12_waysMatch_23 h8 h7)
  refine sv_aload_n (pc := 26) dX12_waysMatch_26 rfl rfl ?_
  refine gf_X12_52 (pc := 27) dX12_waysMatch_27 wF_X12_311 (A_106 hw) hT ?_
  refine mr_iload_n (pc := 30) (z := p2) dX12_waysMatch_30 rfl rfl ?_
  refine la_139 (pc := 31) dX12_waysMatch_31 (A_139 hw) hT (rIx (n := 3900) hp2 rfl) fun z4619 q4620 h4621 => ?_
  exact mr_zretP dX12_waysMatch_32 rfl h4621 (le_t rfl) (le_t rfl) ⟨h4621, ((((hQ z1 q2 h3) z4 q5 h6).2 h8) z4619 q4620 h4621), trivial⟩
def WL_X12_tieOf_Whit_1 (μ : mM) (p1 : Int) (p2 : Int) (Q : Int → mM → Prop) (rec1 : (Int) → Prop) (s : (Int)) : Prop := ∀ z416 : Int, s = (z416) → (0 ≤ z416 ∧ z416 ≤ 20) → ∀ z428 : Int, μ 110 ((2 * z416).toNat) = z428 → (0 ≤ z428 ∧ z428 ≤ 9) → ((¬ z428 = p1) → ((¬ z428 = p2) → rec1 ((z416 + 1))) ∧ ((z428 = p2) → ∀ z434 : Int, μ 110 (((2 * z416) + 1).toNat) = z434 → (0 ≤ z434 ∧ z434 ≤ 9) → ((¬ z434 = p1) → rec1 ((z416 + 1))) ∧ ((z434 = p1) → Q z416 μ))) ∧ ((z428 = p1) → ∀ z440 : Int, μ 110 (((2 * z416) + 1).toNat) = z440 → (0 ≤ z440 ∧ z440 ≤ 9) → ((z440 = p2) → Q z416 μ) ∧ ((¬ z440 = p2) → ((¬ z428 = p2) → rec1 ((z416 + 1))) ∧ ((z428 = p2) → ((¬ z440 = p1) → rec1 ((z416 + 1))) ∧ ((z440 = p1) → Q z416 μ))))
def WP_X12_tieOf_Whit (w : mW) (μ : mM) (p1 : Int) (p2 : Int) (g1 : Int) (Q : Int → mM → Prop) : Prop := ∀ f_e0 : Int, μ 110 ((2 * g1).toNat) = f_e0 → (0 ≤ f_e0 ∧ f_e0 ≤ 9) → ∀ f_e1 : Int, μ 110 (((2 * g1) + 1).toNat) = f_e1 → (0 ≤ f_e1 ∧ f_e1 ≤ 9) → ∀ f_ties : Int, μ 106 6 = f_ties → (0 ≤ f_ties ∧ f_ties ≤ 20) → loopF (WL_X12_tieOf_Whit_1 μ p1 p2 Q) False 22 ((0 : Int))
theorem vc_X12_tieOf_Whit_3 {f_ties g1 z416 : Int} (h0 : f_ties ≤ z416) (h1 : g1 < f_ties) (h2 : z416 ≤ g1) (h3 : 1 ≤ f_ties ∧ f_ties ≤ 20) (h4 : 0 ≤ g1 ∧ g1 ≤ 19) (h5 : 0 ≤ z416 ∧ z416 ≤ 20) : False := by omega
set_option maxRecDepth 4000 in
set_option maxHeartbeats 4000000 in
theorem c_X12_tieOf_Whit {l : Launch} {D : va_G} {c : Nat → ClassId} {H0 : Heap} {sa : Nat × Nat × (Nat → Int32)} {w : mW} {μ : mM} (hw : mWF w) (hT : mT w μ) {p1 : Int} (hp1 : (-2147483648) ≤ p1 ∧ p1 ≤ 2147483647) {p2 : Int} (hp2 : (-2147483648) ≤ p2 ∧ p2 ≤ 2147483647) {g1 : Int} (hg1 : 0 ≤ g1 ∧ g1 ≤ 19) {f_e0 : Int} (q_f_e0 : μ 110 ((2 * g1).toNat) = f_e0) {f_e1 : Int} (q_f_e1 : μ 110 (((2 * g1) + 1).toNat) = f_e1) {f_ties : Int} (q_f_ties : μ 106 6 = f_ties) (hq0 : g1 < f_ties) (hq1 : (f_e0 = p1 ∧ f_e1 = p2) ∨ (f_e0 = p2 ∧ f_e1 = p1)) {Q : Int → mM → Prop} (hQ : WP_X12_tieOf_Whit w μ p1 p2 g1 Q) : sC (gG l D c H0 sa) mX12_tieOf 1 0 0 [.ref 106, iv p1, iv p2] (mk w μ) (qP w μ (fun z => (0 ≤ z ∧ z ≤ 19) ∧ Q z μ ∧ True)) := by
  refine sC.of rfl (by decide) (le_t rfl) ?_
  have ht_f_e0 : (0 ≤ f_e0 ∧ f_e0 ≤ 9) := by rw [← q_f_e0]; exact hT 110 110 (A_110 hw) ((2 * g1).toNat)
  have ht_f_e1 : (0 ≤ f_e1 ∧ f_e1 ≤ 9) := by rw [← q_f_e1]; exact hT 110 110 (A_110 hw) (((2 * g1) + 1).toNat)
  have ht_f_ties : (0 ≤ f_ties ∧ f_ties ≤ 20) := by rw [← q_f_ties]; exact hT 106 106 (A_106 hw) 6
  have h1 : 1 ≤ f_ties ∧ f_ties ≤ 20 := (vc_X3_putAttributes_11 hq0 ht_f_ties hg1)
  refine mr_lvE (lv' := [(0, .ref 106), (1, iv p1), (2, iv p2)]) rfl ?_
  refine mr_iconst (pc := 0) (z := 0) dX12_tieOf_0 ?_
  refine mr_istore_n (pc := 1) (lv' := [(3, iv 0), (0, .ref 106), (1, iv p1), (2, iv p2)]) dX12_tieOf_1 rfl (by decide) rfl ?_
  have L417 : ∀ (nL417 : Nat) (z416 : Int), True → (0 ≤ z416 ∧ z416 ≤ 20) → (z416 ≤ g1) → (21 - z416) < (nL417 : Int) → loopF (WL_X12_tieOf_Whit_1 μ p1 p2 Q) False nL417 (z416) → sV (gG l D c H0 sa) mX12_tieOf (sRm 1 0 0) (sZ (gG l D c H0 sa) 0 0 (qP w μ (fun z => (0 ≤ z ∧ z ≤ 19) ∧ Q z μ ∧ True))) 2 [(0, .ref 106), (1, iv p1), (2, iv p2), (3, iv z416)] [] (mk w μ) 0 0 := by
    intro nL417
    induction nL417 with
    | zero => intro z416 _ h418 h422 h423 W424; exact ((vc_X12_tieOf_hit_2 h423 h422 hq0 h1 hg1 h418)).elim
    | succ nL417 ih425 =>
      intro z416 _ h418 h422 h423 W424
      refine mr_iload_n (pc := 2) (z := z416) dX12_tieOf_2 rfl rfl ?_
      refine sv_aload_n (pc := 3) dX12_tieOf_3 rfl rfl ?_
      refine gk_X12_6 (pc := 4) dX12_tieOf_4 wF_X12_37 (A_106 hw) q_f_ties ?_
      refine mr_icmp_ge (pc := 7) (tgt := 70) dX12_tieOf_7 (by decide) (r32 h418 rfl) (r32 h1 rfl) (fun h => ((vc_X12_tieOf_Whit_3 h hq0 h422 h1 hg1 h418)).elim) (fun h426 => ?_)
      have h427 : 0 ≤ z416 ∧ z416 ≤ 19 := (vc_X12_tieOf_hit_4 h426 hq0 h422 h1 hg1 h418)
      refine sv_aload_n (pc := 10) dX12_tieOf_10 rfl rfl ?_
      refine gf_X12_7 (pc := 11) dX12_tieOf_11 wF_X12_40 (A_106 hw) hT ?_
      refine mr_iconst (pc := 14) (z := 2) dX12_tieOf_14 ?_
      refine mr_iload_n (pc := 15) (z := z416) dX12_tieOf_15 rfl rfl ?_
      refine mr_imul (pc := 16) (x := 2) (y := z416) dX12_tieOf_16 ?_
      refine la_110 (pc := 17) dX12_tieOf_17 (A_110 hw) hT (rIx (n := 40) (rMulL (n := 2) (e := 0) (f := 38) h427 rfl) rfl) fun z428 q429 h430 => ?_
      refine mr_iload_n (pc := 18) (z := p1) dX12_tieOf_18 rfl rfl ?_
      refine mr_icmp_ne (pc := 19) (tgt := 36) dX12_tieOf_19 (by decide) (r32 h430 rfl) hp1 (fun h431 => ?_) (fun h431 => ?_)
      · refine sv_aload_n (pc := 36) dX12_tieOf_36 rfl rfl ?_
        refine gf_X12_7 (pc := 37) dX12_tieOf_37 wF_X12_40 (A_106 hw) hT ?_
        refine mr_iconst (pc := 40) (z := 2) dX12_tieOf_40 ?_
        refine mr_iload_n (pc := 41) (z := z416) dX12_tieOf_41 rfl rfl ?_
        refine mr_imul (pc := 42) (x := 2) (y := z416) dX12_tieOf_42 ?_
        refine lk_110 (pc := 43) dX12_tieOf_43 (A_110 hw) (rIx (n := 40) (rMulL (n := 2) (e := 0) (f := 38) h427 rfl) rfl) q429 ?_
        refine mr_iload_n (pc := 44) (z := p2) dX12_tieOf_44 rfl rfl ?_
        refine mr_icmp_ne (pc := 45) (tgt := 64) dX12_tieOf_45 (by decide) (r32 h430 rfl) hp2 (fun h432 => ?_) (fun h432 => ?_)
        · refine mr_iinc (pc := 64) (lv' := [(3, iv (z416 + 1)), (0, .ref 106), (1, iv p1), (2, iv p2)]) dX12_tieOf_64 rfl (by decide) rfl ?_
          refine sv_goto (pc := 67) (tgt := 2) dX12_tieOf_67 (by decide) ?_
          refine mr_lvS (lv' := [(0, .ref 106), (1, iv p1), (2, iv p2), (3, iv (z416 + 1))]) (List.forall_mem_cons.mpr ⟨rfl, List.forall_mem_cons.mpr ⟨rfl, List.forall_mem_cons.mpr ⟨rfl, List.forall_mem_cons.mpr ⟨rfl, fun _ h => absurd h List.not_mem_nil⟩⟩⟩⟩) ?_
          exact ih425 (z416 + 1) trivial (rW (c := 0) (d := 20) (rAdd (e := 1) (f := 20) h427 (rR (x := 1)) rfl) rfl) (vc_X12_tieOf_hit_5 hq0 h422 h426 (cgr q429 q_f_e0) (cgr q429 q_f_e1) hq1 h431 h432 ht_f_e0 ht_f_e1 h1 hg1 hp1 hp2 h427 h430) (vc_X12_tieOf_hit_6 (nS h423) h422 h426 (cgr q429 q_f_e0) (cgr q429 q_f_e1) hq0 hq1 h431 h432 ht_f_e0 ht_f_e1 h1 hg1 hp1 hp2 h427 h430) ((((W424 z416 rfl h418) z428 q429 h430).1 h431).1 h432)
        have h433 : 0 ≤ p2 ∧ p2 ≤ 9 := (vc_X12_tieOf_hit_7 h432 hq1 (cgr q429 q_f_e0) (cgr q429 q_f_e1) h431 ht_f_e0 ht_f_e1 hg1 hp1 hp2 h427 h430)
        refine sv_aload_n (pc := 48) dX12_tieOf_48 rfl rfl ?_
        refine gf_X12_7 (pc := 49) dX12_tieOf_49 wF_X12_40 (A_106 hw) hT ?_
        refine mr_iconst (pc := 52) (z := 2) dX12_tieOf_52 ?_
        refine mr_iload_n (pc := 53) (z := z416) dX12_tieOf_53 rfl rfl ?_
        refine mr_imul (pc := 54) (x := 2) (y := z416) dX12_tieOf_54 ?_
        refine mr_iconst (pc := 55) (z := 1) dX12_tieOf_55 ?_
        refine mr_iadd (pc := 56) (x := (2 * z416)) (y := 1) dX12_tieOf_56 ?_
        refine la_110 (pc := 57) dX12_tieOf_57 (A_110 hw) hT (rIx (n := 40) (rAdd (e := 1) (f := 39) (rMulL (n := 2) (e := 0) (f := 38) h427 rfl) (rR (x := 1)) rfl) rfl) fun z434 q435 h436 => ?_
        refine mr_iload_n (pc := 58) (z := p1) dX12_tieOf_58 rfl rfl ?_
        refine mr_icmp_ne (pc := 59) (tgt := 64) dX12_tieOf_59 (by decide) (r32 h436 rfl) hp1 (fun h437 => ?_) (fun h437 => ?_)
        · refine mr_iinc (pc := 64) (lv' := [(3, iv (z416 + 1)), (0, .ref 106), (1, iv p1), (2, iv p2)]) dX12_tieOf_64 rfl (by decide) rfl ?_
          refine sv_goto (pc := 67) (tgt := 2) dX12_tieOf_67 (by decide) ?_
          refine mr_lvS (lv' := [(0, .ref 106), (1, iv p1), (2, iv p2), (3, iv (z416 + 1))]) (List.forall_mem_cons.mpr ⟨rfl, List.forall_mem_cons.mpr ⟨rfl, List.forall_mem_cons.mpr ⟨rfl, List.forall_mem_cons.mpr ⟨rfl, fun _ h => absurd h List.not_mem_nil⟩⟩⟩⟩) ?_
          exact ih425 (z416 + 1) trivial (rW (c := 0) (d := 20) (rAdd (e := 1) (f := 20) h427 (rR (x := 1)) rfl) rfl) (vc_X12_tieOf_hit_8 hq0 h422 h426 (cgr q429 q_f_e0) (cgr q429 q_f_e1) (cgr q435 q_f_e0) (cgr q435 q_f_e1) (cgr q435 q429) hq1 h431 h432 h437 ht_f_e0 ht_f_e1 h1 hg1 hp1 h433 h427 h430 h436) (vc_X12_tieOf_hit_9 (nS h423) h422 h426 (cgr q429 q_f_e0) (cgr q429 q_f_e1) (cgr q435 q_f_e0) (cgr q435 q_f_e1) (cgr q435 q429) hq0 hq1 h431 h432 h437 ht_f_e0 ht_f_e1 h1 hg1 hp1 h433 h427 h430 h436) ((((((W424 z416 rfl h418) z428 q429 h430).1 h431).2 h432) z434 q435 h436).1 h437)
        have h438 : 0 ≤ p1 ∧ p1 ≤ 9 := (vc_X12_tieOf_hit_10 h437 hq1 h431 (cgr q435 q_f_e0) (cgr q435 q_f_e1) (cgr q435 q429) ht_f_e0 ht_f_e1 hg1 hp1 h433 h427 h430 h436)
        refine mr_iload_n (pc := 62) (z := z416) dX12_tieOf_62 rfl rfl ?_
        exact mr_iretP dX12_tieOf_63 rfl (le_t rfl) (le_t rfl) ⟨h427, ((((((W424 z416 rfl h418) z428 q429 h430).1 h431).2 h432) z434 q435 h436).2 h437), trivial⟩
      have h439 : 0 ≤ p1 ∧ p1 ≤ 9 := (vc_X12_tieOf_hit_11 h431 hq1 (cgr q429 q_f_e0) (cgr q429 q_f_e1) ht_f_e0 ht_f_e1 hg1 hp1 hp2 h427 h430)
      refine sv_aload_n (pc := 22) dX12_tieOf_22 rfl rfl ?_
      refine gf_X12_7 (pc := 23) dX12_tieOf_23 wF_X12_40 (A_106 hw) hT ?_
      refine mr_iconst (pc := 26) (z := 2) dX12_tieOf_26 ?_
      refine mr_iload_n (pc := 27) (z := z416) dX12_tieOf_27 rfl rfl ?_
      refine mr_imul (pc := 28) (x := 2) (y := z416) dX12_tieOf_28 ?_
      refine mr_iconst (pc := 29) (z := 1) dX12_tieOf_29 ?_
      refine mr_iadd (pc := 30) (x := (2 * z416)) (y := 1) dX12_tieOf_30 ?_
      refine la_110 (pc := 31) dX12_tieOf_31 (A_110 hw) hT (rIx (n := 40) (rAdd (e := 1) (f := 39) (rMulL (n := 2) (e := 0) (f := 38) h427 rfl) (rR (x := 1)) rfl) rfl) fun z440 q441 h442 => ?_
      refine mr_iload_n (pc := 32) (z := p2) dX12_tieOf_32 rfl rfl ?_
      refine mr_icmp_eq (pc := 33) (tgt := 62) dX12_tieOf_33 (by decide) (r32 h442 rfl) hp2 (fun h443 => ?_) (fun h443 => ?_)
      · have h444 : 0 ≤ p2 ∧ p2 ≤ 9 := (vc_X12_tieOf_hit_12 h443 hq1 (cgr q441 q_f_e0) (cgr q441 q_f_e1) (cgr q441 q429) ht_f_e0 ht_f_e1 hg1 h439 hp2 h427 h430 h442)
        refine mr_iload_n (pc := 62) (z := z416) dX12_tieOf_62 rfl rfl ?_
        exact mr_iretP dX12_tieOf_63 rfl (le_t rfl) (le_t rfl) ⟨h427, (((((W424 z416 rfl h418) z428 q429 h430).2 h431) z440 q441 h442).1 h443), trivial⟩
      refine sv_aload_n (pc := 36) dX12_tieOf_36 rfl rfl ?_
      refine gf_X12_7 (pc := 37) dX12_tieOf_37 wF_X12_40 (A_106 hw) hT ?_
      refine mr_iconst (pc := 40) (z := 2) dX12_tieOf_40 ?_
      refine mr_iload_n (pc := 41) (z := z416) dX12_tieOf_41 rfl rfl ?_
      refine mr_imul (pc := 42) (x := 2) (y := z416) dX12_tieOf_42 ?_
      refine lk_110 (pc := 43) dX12_tieOf_43 (A_110 hw) (rIx (n := 40) (rMulL (n := 2) (e := 0) (f := 38) h427 rfl) rfl) q429 ?_
      refine mr_iload_n (pc := 44) (z := p2) dX12_tieOf_44 rfl rfl ?_
      refine mr_icmp_ne (pc := 45) (tgt := 64) dX12_tieOf_45 (by decide) (r32 h430 rfl) hp2 (fun h445 => ?_) (fun h445 => ?_)
      · refine mr_iinc (pc := 64) (lv' := [(3, iv (z416 + 1)), (0, .ref 106), (1, iv p1), (2, iv p2)]) dX12_tieOf_64 rfl (by decide) rfl ?_
        refine sv_goto (pc := 67) (tgt := 2) dX12_tieOf_67 (by decide) ?_
        refine mr_lvS (lv' := [(0, .ref 106), (1, iv p1), (2, iv p2), (3, iv (z416 + 1))]) (List.forall_mem_cons.mpr ⟨rfl, List.forall_mem_cons.mpr ⟨rfl, List.forall_mem_cons.mpr ⟨rfl, List.forall_mem_cons.mpr ⟨rfl, fun _ h => absurd h List.not_mem_nil⟩⟩⟩⟩) ?_
        exact ih425 (z416 + 1) trivial (rW (c := 0) (d := 20) (rAdd (e := 1) (f := 20) h427 (rR (x := 1)) rfl) rfl) (vc_X12_tieOf_hit_13 hq0 h422 h426 (cgr q429 q_f_e0) (cgr q429 q_f_e1) (cgr q441 q_f_e0) (cgr q441 q_f_e1) (cgr q441 q429) hq1 h431 h443 h445 ht_f_e0 ht_f_e1 h1 hg1 h439 hp2 h427 h430 h442) (vc_X12_tieOf_hit_14 (nS h423) h422 h426 (cgr q429 q_f_e0) (cgr q429 q_f_e1) (cgr q441 q_f_e0) (cgr q441 q_f_e1) (cgr q441 q429) hq0 hq1 h431 h443 h445 ht_f_e0 ht_f_e1 h1 hg1 h439 hp2 h427 h430 h442) ((((((W424 z416 rfl h418) z428 q429 h430).2 h431) z440 q441 h442).2 h443).1 h445)
      have h446 : 0 ≤ p2 ∧ p2 ≤ 9 := (vc_X12_tieOf_hit_15 h445 hq1 (cgr q429 q_f_e0) (cgr q429 q_f_e1) h431 (cgr q441 q429) h443 ht_f_e0 ht_f_e1 hg1 h439 hp2 h427 h430 h442)
      refine sv_aload_n (pc := 48) dX12_tieOf_48 rfl rfl ?_
      refine gf_X12_7 (pc := 49) dX12_tieOf_49 wF_X12_40 (A_106 hw) hT ?_
      refine mr_iconst (pc := 52) (z := 2) dX12_tieOf_52 ?_
      refine mr_iload_n (pc := 53) (z := z416) dX12_tieOf_53 rfl rfl ?_
      refine mr_imul (pc := 54) (x := 2) (y := z416) dX12_tieOf_54 ?_
      refine mr_iconst (pc := 55) (z := 1) dX12_tieOf_55 ?_
      refine mr_iadd (pc := 56) (x := (2 * z416)) (y := 1) dX12_tieOf_56 ?_
      refine lk_110 (pc := 57) dX12_tieOf_57 (A_110 hw) (rIx (n := 40) (rAdd (e := 1) (f := 39) (rMulL (n := 2) (e := 0) (f := 38) h427 rfl) (rR (x := 1)) rfl) rfl) q441 ?_
      refine mr_iload_n (pc := 58) (z := p1) dX12_tieOf_58 rfl rfl ?_
      refine mr_icmp_ne (pc := 59) (tgt := 64) dX12_tieOf_59 (by decide) (r32 h442 rfl) (r32 h439 rfl) (fun h447 => ?_) (fun h447 => ?_)
      · refine mr_iinc (pc := 64) (lv' := [(3, iv (z416 + 1)), (0, .ref 106), (1, iv p1), (2, iv p2)]) dX12_tieOf_64 rfl (by decide) rfl ?_
        refine sv_goto (pc := 67) (tgt := 2) dX12_tieOf_67 (by decide) ?_
        refine mr_lvS (lv' := [(0, .ref 106), (1, iv p1), (2, iv p2), (3, iv (z416 + 1))]) (List.forall_mem_cons.mpr ⟨rfl, List.forall_mem_cons.mpr ⟨rfl, List.forall_mem_cons.mpr ⟨rfl, List.forall_mem_cons.mpr ⟨rfl, fun _ h => absurd h List.not_mem_nil⟩⟩⟩⟩) ?_
        exact ih425 (z416 + 1) trivial (rW (c := 0) (d := 20) (rAdd (e := 1) (f := 20) h427 (rR (x := 1)) rfl) rfl) (vc_X12_tieOf_hit_16 hq0 h422 h426 (cgr q429 q_f_e0) (cgr q429 q_f_e1) (cgr q441 q_f_e0) (cgr q441 q_f_e1) (cgr q441 q429) hq1 h431 h443 h445 h447 ht_f_e0 ht_f_e1 h1 hg1 h439 h446 h427 h430 h442) (vc_X12_tieOf_hit_17 (nS h423) h422 h426 (cgr q429 q_f_e0) (cgr q429 q_f_e1) (cgr q441 q_f_e0) (cgr q441 q_f_e1) (cgr q441 q429) hq0 hq1 h431 h443 h445 h447 ht_f_e0 ht_f_e1 h1 hg1 h439 h446 h427 h430 h442) (((((((W424 z416 rfl h418) z428 q429 h430).2 h431) z440 q441 h442).2 h443).2 h445).1 h447)
      refine mr_iload_n (pc := 62) (z := z416) dX12_tieOf_62 rfl rfl ?_
      exact mr_iretP dX12_tieOf_63 rfl (le_t rfl) (le_t rfl) ⟨h427, (((((((W424 z416 rfl h418) z428 q429 h430).2 h431) z440 q441 h442).2 h443).2 h445).2 h447), trivial⟩
  refine mr_lvS (lv' := [(0, .ref 106), (1, iv p1), (2, iv p2), (3, iv 0)]) (List.forall_mem_cons.mpr ⟨rfl, List.forall_mem_cons.mpr ⟨rfl, List.forall_mem_cons.mpr ⟨rfl, List.forall_mem_cons.mpr ⟨rfl, fun _ h => absurd h List.not_mem_nil⟩⟩⟩⟩) ?_
  exact L417 22 0 trivial (rW (c := 0) (d := 20) (rR (x := 0)) rfl) (vc_X12_tieOf_hit_18 hq0 h1 hg1) vc_X12_tieOf_12 (((hQ f_e0 q_f_e0 ht_f_e0) f_e1 q_f_e1 ht_f_e1) f_ties q_f_ties ht_f_ties)
def WP_X12_tieWord_W (w : mW) (μ : mM) (p1 : Int) (p2 : Int) (g1 : Int) (Q : Int → mM → Prop) : Prop := ∀ f_e0 : Int, μ 110 ((2 * g1).toNat) = f_e0 → (0 ≤ f_e0 ∧ f_e0 ≤ 9) → ∀ f_e1 : Int, μ 110 (((2 * g1) + 1).toNat) = f_e1 → (0 ≤ f_e1 ∧ f_e1 ≤ 9) → ∀ f_ties : Int, μ 106 6 = f_ties → (0 ≤ f_ties ∧ f_ties ≤ 20) → WP_X12_tieOf_Whit w μ p1 p2 (g1) (fun z51 _ => (0 ≤ z51 ∧ z51 ≤ 19) → ∀ z52 : Int, μ 111 (z51.toNat) = z52 → (0 ≤ z52 ∧ z52 ≤ 2) → ((¬ z52 = 1) → ((¬ z52 = 2) → ∀ z58 : Int, μ 110 ((2 * z51).toNat) = z58 → (0 ≤ z58 ∧ z58 ≤ 9) → ((¬ z58 = p1) → Q (17 : Int) μ) ∧ ((z58 = p1) → Q (16 : Int) μ)) ∧ ((z52 = 2) → Q (19 : Int) μ)) ∧ ((z52 = 1) → Q (18 : Int) μ))
set_option maxRecDepth 4000 in
set_option maxHeartbeats 4000000 in
theorem c_X12_tieWord_W {l : Launch} {D : va_G} {c : Nat → ClassId} {H0 : Heap} {sa : Nat × Nat × (Nat → Int32)} {w : mW} {μ : mM} (hw : mWF w) (hT : mT w μ) {p1 : Int} (hp1 : (-2147483648) ≤ p1 ∧ p1 ≤ 2147483647) {p2 : Int} (hp2 : (-2147483648) ≤ p2 ∧ p2 ≤ 2147483647) {g1 : Int} (hg1 : 0 ≤ g1 ∧ g1 ≤ 19) {f_e0 : Int} (q_f_e0 : μ 110 ((2 * g1).toNat) = f_e0) {f_e1 : Int} (q_f_e1 : μ 110 (((2 * g1) + 1).toNat) = f_e1) {f_ties : Int} (q_f_ties : μ 106 6 = f_ties) (hq0 : g1 < f_ties) (hq1 : (f_e0 = p1 ∧ f_e1 = p2) ∨ (f_e0 = p2 ∧ f_e1 = p1)) {Q : Int → mM → Prop} (hQ : WP_X12_tieWord_W w μ p1 p2 g1 Q) : sC (gG l D c H0 sa) mX12_tieWord 2 0 0 [.ref 106, iv p1, iv p2] (mk w μ) (qP w μ (fun z => (16 ≤ z ∧ z ≤ 19) ∧ Q z μ ∧ True)) := by
  refine sC.of rfl (by decide) (le_t rfl) ?_
  have ht_f_e0 : (0 ≤ f_e0 ∧ f_e0 ≤ 9) := by rw [← q_f_e0]; exact hT 110 110 (A_110 hw) ((2 * g1).toNat)
  have ht_f_e1 : (0 ≤ f_e1 ∧ f_e1 ≤ 9) := by rw [← q_f_e1]; exact hT 110 110 (A_110 hw) (((2 * g1) + 1).toNat)
  have ht_f_ties : (0 ≤ f_ties ∧ f_ties ≤ 20) := by rw [← q_f_ties]; exact hT 106 106 (A_106 hw) 6
  have h1 : 1 ≤ f_ties ∧ f_ties ≤ 20 := (vc_X3_putAttributes_11 hq0 ht_f_ties hg1)
  refine mr_lvE (lv' := [(0, .ref 106), (1, iv p1), (2, iv p2)]) rfl ?_
  refine sv_aload_n (pc := 0) dX12_tieWord_0 rfl rfl ?_
  refine mr_iload_n (pc := 1) (z := p1) dX12_tieWord_1 rfl rfl ?_
  refine mr_iload_n (pc := 2) (z := p2) dX12_tieWord_2 rfl rfl ?_
  refine mr_cVP (pc := 3) (c_X12_tieOf_Whit hw hT hp1 hp2 hg1 q_f_e0 q_f_e1 q_f_ties (vc_X12_tieWord_2 hq0 h1 hg1) (vc_X12_tieWord_3 hq1 ht_f_e0 ht_f_e1 hp1 hp2) (((hQ f_e0 q_f_e0 ht_f_e0) f_e1 q_f_e1 ht_f_e1) f_ties q_f_ties ht_f_ties)) (gOk _ _ _ _ _) dX12_tieWord_3 (tX12_tieOf _ _ _ _ _) ⟨wV_X12_tieOf, wL_X12_tieOf⟩ wM_X12_43 (gCX12 _ _ _ _ _) rfl (A_106 hw) rfl ⟨le_t rfl, le_t rfl⟩ ⟨le_t rfl, le_t rfl⟩ rfl (le_t rfl) fun z51 h50 => ?_
  refine mr_istore_n (pc := 6) (lv' := [(3, iv z51), (0, .ref 106), (1, iv p1), (2, iv p2)]) dX12_tieWord_6 rfl (by decide) rfl ?_
  refine sv_aload_n (pc := 7) dX12_tieWord_7 rfl rfl ?_
  refine gf_X12_8 (pc := 8) dX12_tieWord_8 wF_X12_46 (A_106 hw) hT ?_
  refine mr_iload_n (pc := 11) (z := z51) dX12_tieWord_11 rfl rfl ?_
  refine la_111 (pc := 12) dX12_tieWord_12 (A_111 hw) hT (rIx (n := 20) h50.1 rfl) fun z52 q53 h54 => ?_
  refine mr_iconst (pc := 13) (z := 1) dX12_tieWord_13 ?_
  refine mr_icmp_ne (pc := 14) (tgt := 20) dX12_tieWord_14 (by decide) (r32 h54 rfl) (r32 (rR (x := 1)) rfl) (fun h55 => ?_) (fun h55 => ?_)
  · refine sv_aload_n (pc := 20) dX12_tieWord_20 rfl rfl ?_
    refine gf_X12_8 (pc := 21) dX12_tieWord_21 wF_X12_46 (A_106 hw) hT ?_
    refine mr_iload_n (pc := 24) (z := z51) dX12_tieWord_24 rfl rfl ?_
    refine lk_111 (pc := 25) dX12_tieWord_25 (A_111 hw) (rIx (n := 20) h50.1 rfl) q53 ?_
    refine mr_iconst (pc := 26) (z := 2) dX12_tieWord_26 ?_
    refine mr_icmp_ne (pc := 27) (tgt := 33) dX12_tieWord_27 (by decide) (r32 h54 rfl) (r32 (rR (x := 2)) rfl) (fun h56 => ?_) (fun h56 => ?_)
    · have h57 : 0 ≤ z52 ∧ z52 ≤ 1 := (vc_X9_partnerRole_1 h56 h55 h54)
      refine sv_aload_n (pc := 33) dX12_tieWord_33 rfl rfl ?_
      refine gf_X12_7 (pc := 34) dX12_tieWord_34 wF_X12_40 (A_106 hw) hT ?_
      refine mr_iconst (pc := 37) (z := 2) dX12_tieWord_37 ?_
      refine mr_iload_n (pc := 38) (z := z51) dX12_tieWord_38 rfl rfl ?_
      refine mr_imul (pc := 39) (x := 2) (y := z51) dX12_tieWord_39 ?_
      refine la_110 (pc := 40) dX12_tieWord_40 (A_110 hw) hT (rIx (n := 40) (rMulL (n := 2) (e := 0) (f := 38) h50.1 rfl) rfl) fun z58 q59 h60 => ?_
      refine mr_iload_n (pc := 41) (z := p1) dX12_tieWord_41 rfl rfl ?_
      refine mr_icmp_ne (pc := 42) (tgt := 50) dX12_tieWord_42 (by decide) (r32 h60 rfl) hp1 (fun h62 => ?_) (fun h62 => ?_)
      · refine mr_bipush (pc := 50) (z := 17) dX12_tieWord_50 (by decide) ?_
        exact mr_iretP dX12_tieWord_52 rfl (le_t rfl) (le_t rfl) ⟨(rW (c := 16) (d := 19) (rR (x := 17)) rfl), ((((((h50.2.1 h50.1) z52 q53 h54).1 h55).1 h56) z58 q59 h60).1 h62), trivial⟩
      have h63 : 0 ≤ p1 ∧ p1 ≤ 9 := (vc_X12_tieWord_5 h62 hq1 ht_f_e0 ht_f_e1 hp1 hp2 h60)
      refine mr_bipush (pc := 45) (z := 16) dX12_tieWord_45 (by decide) ?_
      refine sv_goto (pc := 47) (tgt := 52) dX12_tieWord_47 (by decide) ?_
      exact mr_iretP dX12_tieWord_52 rfl (le_t rfl) (le_t rfl) ⟨(rW (c := 16) (d := 19) (rR (x := 16)) rfl), ((((((h50.2.1 h50.1) z52 q53 h54).1 h55).1 h56) z58 q59 h60).2 h62), trivial⟩
    have h64 : 2 ≤ z52 ∧ z52 ≤ 2 := (vc_X9_partnerRole_3 h56 h55 h54)
    refine mr_bipush (pc := 30) (z := 19) dX12_tieWord_30 (by decide) ?_
    exact mr_iretP dX12_tieWord_32 rfl (le_t rfl) (le_t rfl) ⟨(rW (c := 16) (d := 19) (rR (x := 19)) rfl), ((((h50.2.1 h50.1) z52 q53 h54).1 h55).2 h56), trivial⟩
  have h65 : 1 ≤ z52 ∧ z52 ≤ 1 := (vc_X9_partnerRole_4 h55 h54)
  refine mr_bipush (pc := 17) (z := 18) dX12_tieWord_17 (by decide) ?_
  exact mr_iretP dX12_tieWord_19 rfl (le_t rfl) (le_t rfl) ⟨(rW (c := 16) (d := 19) (rR (x := 18)) rfl), (((h50.2.1 h50.1) z52 q53 h54).2 h55), trivial⟩
def WP_X12_related_W (w : mW) (μ : mM) (p1 : Int) (p2 : Int) (p3 : Int) (Q : Int → mM → Prop) : Prop := ((¬ p2 = 60) → ((¬ p2 = 61) → ((p1 ≤ p3) → Q (0 : Int) μ) ∧ ((p3 < p1) → Q (1 : Int) μ)) ∧ ((p2 = 61) → ((¬ p1 = p3) → Q (0 : Int) μ) ∧ ((p1 = p3) → Q (1 : Int) μ))) ∧ ((p2 = 60) → ((p3 ≤ p1) → Q (0 : Int) μ) ∧ ((p1 < p3) → Q (1 : Int) μ))
set_option maxRecDepth 4000 in
set_option maxHeartbeats 4000000 in
theorem c_X12_related_W {l : Launch} {D : va_G} {c : Nat → ClassId} {H0 : Heap} {sa : Nat × Nat × (Nat → Int32)} {w : mW} {μ : mM} (hw : mWF w) (hT : mT w μ) {p1 : Int} (hp1 : (-2147483648) ≤ p1 ∧ p1 ≤ 2147483647) {p2 : Int} (hp2 : (-2147483648) ≤ p2 ∧ p2 ≤ 2147483647) {p3 : Int} (hp3 : (-2147483648) ≤ p3 ∧ p3 ≤ 2147483647) {Q : Int → mM → Prop} (hQ : WP_X12_related_W w μ p1 p2 p3 Q) : sC (gG l D c H0 sa) mX12_related 1 0 0 [.ref 106, iv p1, iv p2, iv p3] (mk w μ) (qP w μ (fun z => (0 ≤ z ∧ z ≤ 1) ∧ Q z μ ∧ True)) := by
  refine sC.of rfl (by decide) (le_t rfl) ?_
  refine mr_lvE (lv' := [(0, .ref 106), (1, iv p1), (2, iv p2), (3, iv p3)]) rfl ?_
  refine mr_iload_n (pc := 0) (z := p2) dX12_related_0 rfl rfl ?_
  refine mr_bipush (pc := 1) (z := 60) dX12_related_1 (by decide) ?_
  refine mr_icmp_ne (pc := 3) (tgt := 19) dX12_related_3 (by decide) hp2 (r32 (rR (x := 60)) rfl) (fun h7 => ?_) (fun h7 => ?_)
  · refine mr_iload_n (pc := 19) (z := p2) dX12_related_19 rfl rfl ?_
    refine mr_bipush (pc := 20) (z := 61) dX12_related_20 (by decide) ?_
    refine mr_icmp_ne (pc := 22) (tgt := 38) dX12_related_22 (by decide) hp2 (r32 (rR (x := 61)) rfl) (fun h11 => ?_) (fun h11 => ?_)
    · refine mr_iload_n (pc := 38) (z := p1) dX12_related_38 rfl rfl ?_
      refine mr_iload_n (pc := 39) (z := p3) dX12_related_39 rfl rfl ?_
      refine mr_icmp_le (pc := 40) (tgt := 47) dX12_related_40 (by decide) hp1 hp3 (fun h14 => ?_) (fun h14 => ?_)
      · refine mr_iconst (pc := 47) (z := 0) dX12_related_47 ?_
        exact mr_zretP dX12_related_48 rfl (rW (c := 0) (d := 1) (rR (x := 0)) rfl) (le_t rfl) (le_t rfl) ⟨(rW (c := 0) (d := 1) (rR (x := 0)) rfl), (((hQ.1 h7).1 h11).1 h14), trivial⟩
      have h15 : (-2147483647) ≤ p1 ∧ p1 ≤ 2147483647 := (vc_X12_related_1 h14 hp1 hp3)
      have h16 : (-2147483648) ≤ p3 ∧ p3 ≤ 2147483646 := (vc_X12_related_2 h14 h15 hp3)
      refine mr_iconst (pc := 43) (z := 1) dX12_related_43 ?_
      refine sv_goto (pc := 44) (tgt := 48) dX12_related_44 (by decide) ?_
      exact mr_zretP dX12_related_48 rfl (rW (c := 0) (d := 1) (rR (x := 1)) rfl) (le_t rfl) (le_t rfl) ⟨(rW (c := 0) (d := 1) (rR (x := 1)) rfl), (((hQ.1 h7).1 h11).2 h14), trivial⟩
    have h17 : 61 ≤ p2 ∧ p2 ≤ 61 := (vc_X12_related_3 h11 h7 hp2)
    refine mr_iload_n (pc := 25) (z := p1) dX12_related_25 rfl rfl ?_
    refine mr_iload_n (pc := 26) (z := p3) dX12_related_26 rfl rfl ?_
    refine mr_icmp_ne (pc := 27) (tgt := 34) dX12_related_27 (by decide) hp1 hp3 (fun h18 => ?_) (fun h18 => ?_)
    · refine mr_iconst (pc := 34) (z := 0) dX12_related_34 ?_
      refine sv_goto (pc := 35) (tgt := 48) dX12_related_35 (by decide) ?_
      exact mr_zretP dX12_related_48 rfl (rW (c := 0) (d := 1) (rR (x := 0)) rfl) (le_t rfl) (le_t rfl) ⟨(rW (c := 0) (d := 1) (rR (x := 0)) rfl), (((hQ.1 h7).2 h11).1 h18), trivial⟩
    refine mr_iconst (pc := 30) (z := 1) dX12_related_30 ?_
    refine sv_goto (pc := 31) (tgt := 48) dX12_related_31 (by decide) ?_
    exact mr_zretP dX12_related_48 rfl (rW (c := 0) (d := 1) (rR (x := 1)) rfl) (le_t rfl) (le_t rfl) ⟨(rW (c := 0) (d := 1) (rR (x := 1)) rfl), (((hQ.1 h7).2 h11).2 h18), trivial⟩
  have h19 : 60 ≤ p2 ∧ p2 ≤ 60 := (vc_X12_related_4 h7 hp2)
  refine mr_iload_n (pc := 6) (z := p1) dX12_related_6 rfl rfl ?_
  refine mr_iload_n (pc := 7) (z := p3) dX12_related_7 rfl rfl ?_
  refine mr_icmp_ge (pc := 8) (tgt := 15) dX12_related_8 (by decide) hp1 hp3 (fun h22 => ?_) (fun h22 => ?_)
  · refine mr_iconst (pc := 15) (z := 0) dX12_related_15 ?_
    refine sv_goto (pc := 16) (tgt := 48) dX12_related_16 (by decide) ?_
    exact mr_zretP dX12_related_48 rfl (rW (c := 0) (d := 1) (rR (x := 0)) rfl) (le_t rfl) (le_t rfl) ⟨(rW (c := 0) (d := 1) (rR (x := 0)) rfl), ((hQ.2 h7).1 h22), trivial⟩
  have h23 : (-2147483648) ≤ p1 ∧ p1 ≤ 2147483646 := (vc_X12_in_1 h22 hp1 hp3)
  have h24 : (-2147483647) ≤ p3 ∧ p3 ≤ 2147483647 := (vc_X12_in_2 h22 h23 hp3)
  refine mr_iconst (pc := 11) (z := 1) dX12_related_11 ?_
  refine sv_goto (pc := 12) (tgt := 48) dX12_related_12 (by decide) ?_
  exact mr_zretP dX12_related_48 rfl (rW (c := 0) (d := 1) (rR (x := 1)) rfl) (le_t rfl) (le_t rfl) ⟨(rW (c := 0) (d := 1) (rR (x := 1)) rfl), ((hQ.2 h7).2 h22), trivial⟩
def WJ_X12_judgedAnew_W_3 (μ : mM) (p2 : Int) (rec1 : (Int × Int) → Prop) (z745 : Int) (z894 : Int) (z956 : Int) : Prop := (0 ≤ z956 ∧ z956 ≤ 1) → ∀ z960 : Int, μ 121 (z745.toNat) = z960 → ((-2147483648) ≤ z960 ∧ z960 ≤ 2147483647) → ((¬ z960 = p2) → rec1 (z956, (z745 + 1))) ∧ ((z960 = p2) → ∀ z969 : Int, μ 120 (z745.toNat) = z969 → ((-2147483648) ≤ z969 ∧ z969 ≤ 2147483647) → ((z969 < z894) → rec1 (z956, (z745 + 1))) ∧ ((z894 ≤ z969) → rec1 ((1 : Int), (z745 + 1))))
def WJ_X12_judgedAnew_W_2 (w : mW) (μ : mM) (p1 : Int) (p2 : Int) (rec1 : (Int × Int) → Prop) (z746 : Int) (z745 : Int) (z825 : Int) (z849 : Int) : Prop := (0 ≤ z849 ∧ z849 ≤ 1) → ((z849 = 0) → rec1 (z746, (z745 + 1))) ∧ ((¬ z849 = 0) → ∀ z891 : Int, μ 109 (z825.toNat) = z891 → (0 ≤ z891 ∧ z891 ≤ 32) → ∀ z894 : Int, μ 109 (p1.toNat) = z894 → (0 ≤ z894 ∧ z894 ≤ 32) → ((z894 < z891) → rec1 (z746, (z745 + 1))) ∧ ((z891 ≤ z894) → ∀ z927 : Int, μ 108 (z825.toNat) = z927 → ((-2147483648) ≤ z927 ∧ z927 ≤ 2147483647) → ∀ z930 : Int, μ 108 (p1.toNat) = z930 → ((-2147483648) ≤ z930 ∧ z930 ≤ 2147483647) → WP_X12_holds_W w μ z927 z891 z930 (fun z937 _ => (0 ≤ z937 ∧ z937 ≤ 1) → ((¬ z937 = 0) → ((¬ z746 = 2) → (WJ_X12_judgedAnew_W_3 μ p2 rec1 z745 z894) z746) ∧ ((z746 = 2) → (WJ_X12_judgedAnew_W_3 μ p2 rec1 z745 z894) (0 : Int))) ∧ ((z937 = 0) → rec1 (z746, (z745 + 1))))))
def WL_X12_judgedAnew_W_1 (w : mW) (μ : mM) (p1 : Int) (p2 : Int) (p3 : Int) (p4 : Int) (Q : Int → mM → Prop) (rec1 : (Int × Int) → Prop) (s : (Int × Int)) : Prop := ∀ z746 : Int, ∀ z745 : Int, s = (z746, z745) → (0 ≤ z746 ∧ z746 ≤ 2) → (0 ≤ z745 ∧ z745 ≤ 30) → ∀ z756 : Int, μ 106 18 = z756 → (0 ≤ z756 ∧ z756 ≤ 30) → ((z756 ≤ z745) → Q z746 μ) ∧ ((z745 < z756) → ∀ z825 : Int, μ 119 (z745.toNat) = z825 → (0 ≤ z825 ∧ z825 ≤ 9) → ∀ z828 : Int, μ 122 (z745.toNat) = z828 → ((-2147483648) ≤ z828 ∧ z828 ≤ 2147483647) → ((p3 < z828) → (WJ_X12_judgedAnew_W_2 w μ p1 p2 rec1 z746 z745 z825) (0 : Int)) ∧ ((z828 ≤ p3) → ∀ z984 : Int, μ 123 (z745.toNat) = z984 → ((-2147483648) ≤ z984 ∧ z984 ≤ 2147483647) → ((z984 ≤ p3) → (WJ_X12_judgedAnew_W_2 w μ p1 p2 rec1 z746 z745 z825) (0 : Int)) ∧ ((p3 < z984) → ∀ z990 : Int, μ 124 (z745.toNat) = z990 → ((-2147483648) ≤ z990 ∧ z990 ≤ 2147483647) → ((p4 < z990) → (WJ_X12_judgedAnew_W_2 w μ p1 p2 rec1 z746 z745 z825) (0 : Int)) ∧ ((z990 ≤ p4) → ∀ z996 : Int, μ 125 (z745.toNat) = z996 → ((-2147483648) ≤ z996 ∧ z996 ≤ 2147483647) → ((z996 = (-99999999)) → (WJ_X12_judgedAnew_W_2 w μ p1 p2 rec1 z746 z745 z825) (1 : Int)) ∧ ((¬ z996 = (-99999999)) → ((z996 ≤ p4) → (WJ_X12_judgedAnew_W_2 w μ p1 p2 rec1 z746 z745 z825) (0 : Int)) ∧ ((p4 < z996) → (WJ_X12_judgedAnew_W_2 w μ p1 p2 rec1 z746 z745 z825) (1 : Int)))))))
def WP_X12_judgedAnew_W (w : mW) (μ : mM) (p1 : Int) (p2 : Int) (p3 : Int) (p4 : Int) (Q : Int → mM → Prop) : Prop := loopF (WL_X12_judgedAnew_W_1 w μ p1 p2 p3 p4 Q) False 32 ((2 : Int), (0 : Int))
set_option maxRecDepth 4000 in
set_option maxHeartbeats 4000000 in
theorem c_X12_judgedAnew_W {l : Launch} {D : va_G} {c : Nat → ClassId} {H0 : Heap} {sa : Nat × Nat × (Nat → Int32)} {w : mW} {μ : mM} (hw : mWF w) (hT : mT w μ) {p1 : Int} (hp1 : 0 ≤ p1 ∧ p1 ≤ 9) {p2 : Int} (hp2 : (-2147483648) ≤ p2 ∧ p2 ≤ 2147483647) {p3 : Int} (hp3 : (-2147483648) ≤ p3 ∧ p3 ≤ 2147483647) {p4 : Int} (hp4 : (-2147483648) ≤ p4 ∧ p4 ≤ 2147483647) {Q : Int → mM → Prop} (hQ : WP_X12_judgedAnew_W w μ p1 p2 p3 p4 Q) : sC (gG l D c H0 sa) mX12_judgedAnew 3 0 0 [.ref 106, iv p1, iv p2, iv p3, iv p4] (mk w μ) (qP w μ (fun z => (0 ≤ z ∧ z ≤ 2) ∧ Q z μ ∧ True)) := by
  refine sC.of rfl (by decide) (le_t rfl) ?_
  refine mr_lvE (lv' := [(0, .ref 106), (1, iv p1), (2, iv p2), (3, iv p3), (4, iv p4)]) rfl ?_
  refine mr_iconst (pc := 0) (z := 2) dX12_judgedAnew_0 ?_
  refine mr_istore (pc := 1) (lv' := [(5, iv 2), (0, .ref 106), (1, iv p1), (2, iv p2), (3, iv p3), (4, iv p4)]) dX12_judgedAnew_1 (by decide) rfl ?_
  refine mr_iconst (pc := 3) (z := 0) dX12_judgedAnew_3 ?_
  refine mr_istore (pc := 4) (lv' := [(6, iv 0), (5, iv 2), (0, .ref 106), (1, iv p1), (2, iv p2), (3, iv p3), (4, iv p4)]) dX12_judgedAnew_4 (by decide) rfl ?_
  have L747 : ∀ (nL747 : Nat) (z746 z745 : Int), True → (0 ≤ z746 ∧ z746 ≤ 2) → (0 ≤ z745 ∧ z745 ≤ 30) → (31 - z745) < (nL747 : Int) → loopF (WL_X12_judgedAnew_W_1 w μ p1 p2 p3 p4 Q) False nL747 (z746, z745) → sV (gG l D c H0 sa) mX12_judgedAnew (sRm 3 0 0) (sZ (gG l D c H0 sa) 0 0 (qP w μ (fun z => (0 ≤ z ∧ z ≤ 2) ∧ Q z μ ∧ True))) 6 [(0, .ref 106), (1, iv p1), (2, iv p2), (3, iv p3), (4, iv p4), (5, iv z746), (6, iv z745)] [] (mk w μ) 0 0 := by
    intro nL747
    induction nL747 with
    | zero => intro z746 z745 _ h748 h749 h753 W754; exact ((vc_X12_judgedAnew_1 h753 h749)).elim
    | succ nL747 ih755 =>
      intro z746 z745 _ h748 h749 h753 W754
      refine mr_iload (pc := 6) (z := z745) dX12_judgedAnew_6 rfl ?_
      refine sv_aload_n (pc := 8) dX12_judgedAnew_8 rfl rfl ?_
      refine gf_X12_18 (pc := 9) dX12_judgedAnew_9 wF_X12_95 (A_106 hw) hT fun z756 q757 h758 => ?_
      refine mr_icmp_ge (pc := 12) (tgt := 184) dX12_judgedAnew_12 (by decide) (r32 h749 rfl) (r32 h758 rfl) (fun h822 => ?_) (fun h822 => ?_)
      · refine mr_iload (pc := 184) (z := z746) dX12_judgedAnew_184 rfl ?_
        exact mr_iretP dX12_judgedAnew_186 rfl (le_t rfl) (le_t rfl) ⟨h748, (((W754 z746 z745 rfl h748 h749) z756 q757 h758).1 h822), trivial⟩
      have h823 : 0 ≤ z745 ∧ z745 ≤ 29 := (vc_X12_judgedAnew_2 h822 h749 h758)
      have h824 : 1 ≤ z756 ∧ z756 ≤ 30 := (vc_X12_judgedAnew_3 h822 h823 h758)
      refine sv_aload_n (pc := 15) dX12_judgedAnew_15 rfl rfl ?_
      refine gf_X12_19 (pc := 16) dX12_judgedAnew_16 wF_X12_98 (A_106 hw) hT ?_
      refine mr_iload (pc := 19) (z := z745) dX12_judgedAnew_19 rfl ?_
      refine la_119 (pc := 21) dX12_judgedAnew_21 (A_119 hw) hT (rIx (n := 30) h823 rfl) fun z825 q826 h827 => ?_
      refine mr_istore (pc := 22) (lv' := [(7, iv z825), (0, .ref 106), (1, iv p1), (2, iv p2), (3, iv p3), (4, iv p4), (5, iv z746), (6, iv z745)]) dX12_judgedAnew_22 (by decide) rfl ?_
      refine sv_aload_n (pc := 24) dX12_judgedAnew_24 rfl rfl ?_
      refine gf_X12_22 (pc := 25) dX12_judgedAnew_25 wF_X12_107 (A_106 hw) hT ?_
      refine mr_iload (pc := 28) (z := z745) dX12_judgedAnew_28 rfl ?_
      refine la_122 (pc := 30) dX12_judgedAnew_30 (A_122 hw) hT (rIx (n := 30) h823 rfl) fun z828 q829 h830 => ?_
      refine mr_iload_n (pc := 31) (z := p3) dX12_judgedAnew_31 rfl rfl ?_
      have J851 : ∀ (z849 : Int), ((0 ≤ z849 ∧ z849 ≤ 1)) → ((WJ_X12_judgedAnew_W_2 w μ p1 p2 (loopF (WL_X12_judgedAnew_W_1 w μ p1 p2 p3 p4 Q) False nL747) z746 z745 z825) z849) → sV (gG l D c H0 sa) mX12_judgedAnew (sRm 3 0 0) (sZ (gG l D c H0 sa) 0 0 (qP w μ (fun z => (0 ≤ z ∧ z ≤ 2) ∧ Q z μ ∧ True))) 87 [(0, .ref 106), (1, iv p1), (2, iv p2), (3, iv p3), (4, iv p4), (5, iv z746), (6, iv z745), (7, iv z825)] [iv z849] (mk w μ) 0 0 := by
        intro z849 h850 W852
        refine mr_istore (pc := 87) (lv' := [(8, iv z849), (0, .ref 106), (1, iv p1), (2, iv p2), (3, iv p3), (4, iv p4), (5, iv z746), (6, iv z745), (7, iv z825)]) dX12_judgedAnew_87 (by decide) rfl ?_
        refine mr_iload (pc := 89) (z := z849) dX12_judgedAnew_89 rfl ?_
        refine mr_if_eq (pc := 91) (tgt := 178) dX12_judgedAnew_91 (by decide) (r32 h850 rfl) (fun h888 => ?_) (fun h888 => ?_)
        · have h889 : 0 ≤ z849 ∧ z849 ≤ 0 := (vc_X12_ring_22 h888 h850)
          refine mr_iinc (pc := 178) (lv' := [(6, iv (z745 + 1)), (8, iv z849), (0, .ref 106), (1, iv p1), (2, iv p2), (3, iv p3), (4, iv p4), (5, iv z746), (7, iv z825)]) dX12_judgedAnew_178 rfl (by decide) rfl ?_
          refine sv_goto (pc := 181) (tgt := 6) dX12_judgedAnew_181 (by decide) ?_
          refine mr_lvS (lv' := [(0, .ref 106), (1, iv p1), (2, iv p2), (3, iv p3), (4, iv p4), (5, iv z746), (6, iv (z745 + 1))]) (List.forall_mem_cons.mpr ⟨rfl, List.forall_mem_cons.mpr ⟨rfl, List.forall_mem_cons.mpr ⟨rfl, List.forall_mem_cons.mpr ⟨rfl, List.forall_mem_cons.mpr ⟨rfl, List.forall_mem_cons.mpr ⟨rfl, List.forall_mem_cons.mpr ⟨rfl, fun _ h => absurd h List.not_mem_nil⟩⟩⟩⟩⟩⟩⟩) ?_
          exact ih755 z746 (z745 + 1) trivial h748 (rW (c := 0) (d := 30) (rAdd (e := 1) (f := 30) h823 (rR (x := 1)) rfl) rfl) (vc_X12_judgedAnew_5 (nS h753) h822 h823 h824) ((W852 h850).1 h888)
        have h890 : 1 ≤ z849 ∧ z849 ≤ 1 := (vc_X12_ring_24 h888 h850)
        refine sv_aload_n (pc := 94) dX12_judgedAnew_94 rfl rfl ?_
        refine gf_X12_4 (pc := 95) dX12_judgedAnew_95 wF_X12_26 (A_106 hw) hT ?_
        refine mr_iload (pc := 98) (z := z825) dX12_judgedAnew_98 rfl ?_
        refine la_109 (pc := 100) dX12_judgedAnew_100 (A_109 hw) hT (rIx (n := 10) h827 rfl) fun z891 q892 h893 => ?_
        refine sv_aload_n (pc := 101) dX12_judgedAnew_101 rfl rfl ?_
        refine gf_X12_4 (pc := 102) dX12_judgedAnew_102 wF_X12_26 (A_106 hw) hT ?_
        refine mr_iload_n (pc := 105) (z := p1) dX12_judgedAnew_105 rfl rfl ?_
        refine la_109 (pc := 106) dX12_judgedAnew_106 (A_109 hw) hT (rIx (n := 10) hp1 rfl) fun z894 q895 h896 => ?_
        refine mr_icmp_gt (pc := 107) (tgt := 178) dX12_judgedAnew_107 (by decide) (r32 h893 rfl) (r32 h896 rfl) (fun h924 => ?_) (fun h924 => ?_)
        · have h925 : 1 ≤ z891 ∧ z891 ≤ 32 := (vc_X12_judgedAnew_7 h924 h893 h896)
          have h926 : 0 ≤ z894 ∧ z894 ≤ 31 := (vc_X12_judgedAnew_8 h924 h925 h896)
          refine mr_iinc (pc := 178) (lv' := [(6, iv (z745 + 1)), (8, iv z849), (0, .ref 106), (1, iv p1), (2, iv p2), (3, iv p3), (4, iv p4), (5, iv z746), (7, iv z825)]) dX12_judgedAnew_178 rfl (by decide) rfl ?_
          refine sv_goto (pc := 181) (tgt := 6) dX12_judgedAnew_181 (by decide) ?_
          refine mr_lvS (lv' := [(0, .ref 106), (1, iv p1), (2, iv p2), (3, iv p3), (4, iv p4), (5, iv z746), (6, iv (z745 + 1))]) (List.forall_mem_cons.mpr ⟨rfl, List.forall_mem_cons.mpr ⟨rfl, List.forall_mem_cons.mpr ⟨rfl, List.forall_mem_cons.mpr ⟨rfl, List.forall_mem_cons.mpr ⟨rfl, List.forall_mem_cons.mpr ⟨rfl, List.forall_mem_cons.mpr ⟨rfl, fun _ h => absurd h List.not_mem_nil⟩⟩⟩⟩⟩⟩⟩) ?_
          exact ih755 z746 (z745 + 1) trivial h748 (rW (c := 0) (d := 30) (rAdd (e := 1) (f := 30) h823 (rR (x := 1)) rfl) rfl) (vc_X12_judgedAnew_5 (nS h753) h822 h823 h824) (((((W852 h850).2 h888) z891 q892 h893) z894 q895 h896).1 h924)
        refine sv_aload_n (pc := 110) dX12_judgedAnew_110 rfl rfl ?_
        refine gf_X12_3 (pc := 111) dX12_judgedAnew_111 wF_X12_22 (A_106 hw) hT ?_
        refine mr_iload (pc := 114) (z := z825) dX12_judgedAnew_114 rfl ?_
        refine la_108 (pc := 116) dX12_judgedAnew_116 (A_108 hw) hT (rIx (n := 10) h827 rfl) fun z927 q928 h929 => ?_
        refine sv_aload_n (pc := 117) dX12_judgedAnew_117 rfl rfl ?_
        refine gf_X12_4 (pc := 118) dX12_judgedAnew_118 wF_X12_26 (A_106 hw) hT ?_
        refine mr_iload (pc := 121) (z := z825) dX12_judgedAnew_121 rfl ?_
        refine lk_109 (pc := 123) dX12_judgedAnew_123 (A_109 hw) (rIx (n := 10) h827 rfl) q892 ?_
        refine sv_aload_n (pc := 124) dX12_judgedAnew_124 rfl rfl ?_
        refine gf_X12_3 (pc := 125) dX12_judgedAnew_125 wF_X12_22 (A_106 hw) hT ?_
        refine mr_iload_n (pc := 128) (z := p1) dX12_judgedAnew_128 rfl rfl ?_
        refine la_108 (pc := 129) dX12_judgedAnew_129 (A_108 hw) hT (rIx (n := 10) hp1 rfl) fun z930 q931 h932 => ?_
        refine mr_cSP (pc := 130) (c_X12_holds_W hw hT h929 (rW (c := (-2147483648)) (d := 2147483647) h893 rfl) h932 (((((((W852 h850).2 h888) z891 q892 h893) z894 q895 h896).2 h924) z927 q928 h929) z930 q931 h932)) (gOk _ _ _ _ _) dX12_judgedAnew_130 (tX12_holds _ _ _ _ _) wS_X12_holds wM_X12_142 ⟨le_t rfl, le_t rfl⟩ ⟨le_t rfl, le_t rfl⟩ rfl (le_t rfl) fun z937 h936 => ?_
        refine mr_if_ne (pc := 133) (tgt := 139) dX12_judgedAnew_133 (by decide) (r32 h936.1 rfl) (fun h952 => ?_) (fun h952 => ?_)
        · have h953 : 1 ≤ z937 ∧ z937 ≤ 1 := (vc_X12_ring_24 h952 h936.1)
          refine mr_iload (pc := 139) (z := z746) dX12_judgedAnew_139 rfl ?_
          refine mr_iconst (pc := 141) (z := 2) dX12_judgedAnew_141 ?_
          have J958 : ∀ (z956 : Int), ((0 ≤ z956 ∧ z956 ≤ 1)) → ((WJ_X12_judgedAnew_W_3 μ p2 (loopF (WL_X12_judgedAnew_W_1 w μ p1 p2 p3 p4 Q) False nL747) z745 z894) z956) → sV (gG l D c H0 sa) mX12_judgedAnew (sRm 3 0 0) (sZ (gG l D c H0 sa) 0 0 (qP w μ (fun z => (0 ≤ z ∧ z ≤ 2) ∧ Q z μ ∧ True))) 148 [(0, .ref 106), (1, iv p1), (2, iv p2), (3, iv p3), (4, iv p4), (5, iv z956), (6, iv z745)] [] (mk w μ) 0 0 := by
            intro z956 h957 W959
            refine sv_aload_n (pc := 148) dX12_judgedAnew_148 rfl rfl ?_
            refine gf_X12_21 (pc := 149) dX12_judgedAnew_149 wF_X12_104 (A_106 hw) hT ?_
            refine mr_iload (pc := 152) (z := z745) dX12_judgedAnew_152 rfl ?_
            refine la_121 (pc := 154) dX12_judgedAnew_154 (A_121 hw) hT (rIx (n := 30) h823 rfl) fun z960 q961 h962 => ?_
            refine mr_iload_n (pc := 155) (z := p2) dX12_judgedAnew_155 rfl rfl ?_
            refine mr_icmp_ne (pc := 156) (tgt := 178) dX12_judgedAnew_156 (by decide) h962 hp2 (fun h968 => ?_) (fun h968 => ?_)
            · refine mr_iinc (pc := 178) (lv' := [(6, iv (z745 + 1)), (0, .ref 106), (1, iv p1), (2, iv p2), (3, iv p3), (4, iv p4), (5, iv z956)]) dX12_judgedAnew_178 rfl (by decide) rfl ?_
              refine sv_goto (pc := 181) (tgt := 6) dX12_judgedAnew_181 (by decide) ?_
              refine mr_lvS (lv' := [(0, .ref 106), (1, iv p1), (2, iv p2), (3, iv p3), (4, iv p4), (5, iv z956), (6, iv (z745 + 1))]) (List.forall_mem_cons.mpr ⟨rfl, List.forall_mem_cons.mpr ⟨rfl, List.forall_mem_cons.mpr ⟨rfl, List.forall_mem_cons.mpr ⟨rfl, List.forall_mem_cons.mpr ⟨rfl, List.forall_mem_cons.mpr ⟨rfl, List.forall_mem_cons.mpr ⟨rfl, fun _ h => absurd h List.not_mem_nil⟩⟩⟩⟩⟩⟩⟩) ?_
              exact ih755 z956 (z745 + 1) trivial (rW (c := 0) (d := 2) h957 rfl) (rW (c := 0) (d := 30) (rAdd (e := 1) (f := 30) h823 (rR (x := 1)) rfl) rfl) (vc_X12_judgedAnew_5 (nS h753) h822 h823 h824) (((W959 h957) z960 q961 h962).1 h968)
            refine sv_aload_n (pc := 159) dX12_judgedAnew_159 rfl rfl ?_
            refine gf_X12_4 (pc := 160) dX12_judgedAnew_160 wF_X12_26 (A_106 hw) hT ?_
            refine mr_iload_n (pc := 163) (z := p1) dX12_judgedAnew_163 rfl rfl ?_
            refine lk_109 (pc := 164) dX12_judgedAnew_164 (A_109 hw) (rIx (n := 10) hp1 rfl) q895 ?_
            refine sv_aload_n (pc := 165) dX12_judgedAnew_165 rfl rfl ?_
            refine gf_X12_20 (pc := 166) dX12_judgedAnew_166 wF_X12_101 (A_106 hw) hT ?_
            refine mr_iload (pc := 169) (z := z745) dX12_judgedAnew_169 rfl ?_
            refine la_120 (pc := 171) dX12_judgedAnew_171 (A_120 hw) hT (rIx (n := 30) h823 rfl) fun z969 q970 h971 => ?_
            refine mr_icmp_gt (pc := 172) (tgt := 178) dX12_judgedAnew_172 (by decide) (r32 h896 rfl) h971 (fun h974 => ?_) (fun h974 => ?_)
            · have h975 : (-2147483648) ≤ z969 ∧ z969 ≤ 31 := (vc_X12_judgedAnew_10 h974 h924 h893 h896 h971)
              refine mr_iinc (pc := 178) (lv' := [(6, iv (z745 + 1)), (0, .ref 106), (1, iv p1), (2, iv p2), (3, iv p3), (4, iv p4), (5, iv z956)]) dX12_judgedAnew_178 rfl (by decide) rfl ?_
              refine sv_goto (pc := 181) (tgt := 6) dX12_judgedAnew_181 (by decide) ?_
              refine mr_lvS (lv' := [(0, .ref 106), (1, iv p1), (2, iv p2), (3, iv p3), (4, iv p4), (5, iv z956), (6, iv (z745 + 1))]) (List.forall_mem_cons.mpr ⟨rfl, List.forall_mem_cons.mpr ⟨rfl, List.forall_mem_cons.mpr ⟨rfl, List.forall_mem_cons.mpr ⟨rfl, List.forall_mem_cons.mpr ⟨rfl, List.forall_mem_cons.mpr ⟨rfl, List.forall_mem_cons.mpr ⟨rfl, fun _ h => absurd h List.not_mem_nil⟩⟩⟩⟩⟩⟩⟩) ?_
              exact ih755 z956 (z745 + 1) trivial (rW (c := 0) (d := 2) h957 rfl) (rW (c := 0) (d := 30) (rAdd (e := 1) (f := 30) h823 (rR (x := 1)) rfl) rfl) (vc_X12_judgedAnew_5 (nS h753) h822 h823 h824) (((((W959 h957) z960 q961 h962).2 h968) z969 q970 h971).1 h974)
            have h976 : 0 ≤ z969 ∧ z969 ≤ 2147483647 := (vc_X12_judgedAnew_11 h974 h924 h893 h896 h971)
            refine mr_iconst (pc := 175) (z := 1) dX12_judgedAnew_175 ?_
            refine mr_istore (pc := 176) (lv' := [(5, iv 1), (0, .ref 106), (1, iv p1), (2, iv p2), (3, iv p3), (4, iv p4), (6, iv z745)]) dX12_judgedAnew_176 (by decide) rfl ?_
            refine mr_iinc (pc := 178) (lv' := [(6, iv (z745 + 1)), (5, iv 1), (0, .ref 106), (1, iv p1), (2, iv p2), (3, iv p3), (4, iv p4)]) dX12_judgedAnew_178 rfl (by decide) rfl ?_
            refine sv_goto (pc := 181) (tgt := 6) dX12_judgedAnew_181 (by decide) ?_
            refine mr_lvS (lv' := [(0, .ref 106), (1, iv p1), (2, iv p2), (3, iv p3), (4, iv p4), (5, iv 1), (6, iv (z745 + 1))]) (List.forall_mem_cons.mpr ⟨rfl, List.forall_mem_cons.mpr ⟨rfl, List.forall_mem_cons.mpr ⟨rfl, List.forall_mem_cons.mpr ⟨rfl, List.forall_mem_cons.mpr ⟨rfl, List.forall_mem_cons.mpr ⟨rfl, List.forall_mem_cons.mpr ⟨rfl, fun _ h => absurd h List.not_mem_nil⟩⟩⟩⟩⟩⟩⟩) ?_
            exact ih755 1 (z745 + 1) trivial (rW (c := 0) (d := 2) (rR (x := 1)) rfl) (rW (c := 0) (d := 30) (rAdd (e := 1) (f := 30) h823 (rR (x := 1)) rfl) rfl) (vc_X12_judgedAnew_5 (nS h753) h822 h823 h824) (((((W959 h957) z960 q961 h962).2 h968) z969 q970 h971).2 h974)
          refine mr_icmp_ne (pc := 142) (tgt := 148) dX12_judgedAnew_142 (by decide) (r32 h748 rfl) (r32 (rR (x := 2)) rfl) (fun h977 => ?_) (fun h977 => ?_)
          · have h978 : 0 ≤ z746 ∧ z746 ≤ 1 := (vc_X12_letWay_5 h977 h748)
            refine mr_lvS (lv' := [(0, .ref 106), (1, iv p1), (2, iv p2), (3, iv p3), (4, iv p4), (5, iv z746), (6, iv z745)]) (List.forall_mem_cons.mpr ⟨rfl, List.forall_mem_cons.mpr ⟨rfl, List.forall_mem_cons.mpr ⟨rfl, List.forall_mem_cons.mpr ⟨rfl, List.forall_mem_cons.mpr ⟨rfl, List.forall_mem_cons.mpr ⟨rfl, List.forall_mem_cons.mpr ⟨rfl, fun _ h => absurd h List.not_mem_nil⟩⟩⟩⟩⟩⟩⟩) ?_
            exact J958 z746 h978 (((h936.2.1 h936.1).1 h952).1 h977)
          have h979 : 2 ≤ z746 ∧ z746 ≤ 2 := (vc_X12_letWay_16 h977 h748)
          refine mr_iconst (pc := 145) (z := 0) dX12_judgedAnew_145 ?_
          refine mr_istore (pc := 146) (lv' := [(5, iv 0), (8, iv z849), (0, .ref 106), (1, iv p1), (2, iv p2), (3, iv p3), (4, iv p4), (6, iv z745), (7, iv z825)]) dX12_judgedAnew_146 (by decide) rfl ?_
          refine mr_lvS (lv' := [(0, .ref 106), (1, iv p1), (2, iv p2), (3, iv p3), (4, iv p4), (5, iv 0), (6, iv z745)]) (List.forall_mem_cons.mpr ⟨rfl, List.forall_mem_cons.mpr ⟨rfl, List.forall_mem_cons.mpr ⟨rfl, List.forall_mem_cons.mpr ⟨rfl, List.forall_mem_cons.mpr ⟨rfl, List.forall_mem_cons.mpr ⟨rfl, List.forall_mem_cons.mpr ⟨rfl, fun _ h => absurd h List.not_mem_nil⟩⟩⟩⟩⟩⟩⟩) ?_
          exact J958 0 (rW (c := 0) (d := 1) (rR (x := 0)) rfl) (((h936.2.1 h936.1).1 h952).2 h977)
        have h980 : 0 ≤ z937 ∧ z937 ≤ 0 := (vc_X12_ring_22 h952 h936.1)
        refine sv_goto (pc := 136) (tgt := 178) dX12_judgedAnew_136 (by decide) ?_
        refine mr_iinc (pc := 178) (lv' := [(6, iv (z745 + 1)), (8, iv z849), (0, .ref 106), (1, iv p1), (2, iv p2), (3, iv p3), (4, iv p4), (5, iv z746), (7, iv z825)]) dX12_judgedAnew_178 rfl (by decide) rfl ?_
        refine sv_goto (pc := 181) (tgt := 6) dX12_judgedAnew_181 (by decide) ?_
        refine mr_lvS (lv' := [(0, .ref 106), (1, iv p1), (2, iv p2), (3, iv p3), (4, iv p4), (5, iv z746), (6, iv (z745 + 1))]) (List.forall_mem_cons.mpr ⟨rfl, List.forall_mem_cons.mpr ⟨rfl, List.forall_mem_cons.mpr ⟨rfl, List.forall_mem_cons.mpr ⟨rfl, List.forall_mem_cons.mpr ⟨rfl, List.forall_mem_cons.mpr ⟨rfl, List.forall_mem_cons.mpr ⟨rfl, fun _ h => absurd h List.not_mem_nil⟩⟩⟩⟩⟩⟩⟩) ?_
        exact ih755 z746 (z745 + 1) trivial h748 (rW (c := 0) (d := 30) (rAdd (e := 1) (f := 30) h823 (rR (x := 1)) rfl) rfl) (vc_X12_judgedAnew_5 (nS h753) h822 h823 h824) ((h936.2.1 h936.1).2 h952)
      refine mr_icmp_gt (pc := 32) (tgt := 86) dX12_judgedAnew_32 (by decide) h830 hp3 (fun h981 => ?_) (fun h981 => ?_)
      · have h982 : (-2147483647) ≤ z828 ∧ z828 ≤ 2147483647 := (vc_X12_judgedAnew_15 h981 hp3 h830)
        have h983 : (-2147483648) ≤ p3 ∧ p3 ≤ 2147483646 := (vc_X12_judgedAnew_16 h981 hp3 h982)
        refine mr_iconst (pc := 86) (z := 0) dX12_judgedAnew_86 ?_
        refine mr_lvS (lv' := [(0, .ref 106), (1, iv p1), (2, iv p2), (3, iv p3), (4, iv p4), (5, iv z746), (6, iv z745), (7, iv z825)]) (List.forall_mem_cons.mpr ⟨rfl, List.forall_mem_cons.mpr ⟨rfl, List.forall_mem_cons.mpr ⟨rfl, List.forall_mem_cons.mpr ⟨rfl, List.forall_mem_cons.mpr ⟨rfl, List.forall_mem_cons.mpr ⟨rfl, List.forall_mem_cons.mpr ⟨rfl, List.forall_mem_cons.mpr ⟨rfl, fun _ h => absurd h List.not_mem_nil⟩⟩⟩⟩⟩⟩⟩⟩) ?_
        exact J851 0 (rW (c := 0) (d := 1) (rR (x := 0)) rfl) ((((((W754 z746 z745 rfl h748 h749) z756 q757 h758).2 h822) z825 q826 h827) z828 q829 h830).1 h981)
      refine mr_iload_n (pc := 35) (z := p3) dX12_judgedAnew_35 rfl rfl ?_
      refine sv_aload_n (pc := 36) dX12_judgedAnew_36 rfl rfl ?_
      refine gf_X12_23 (pc := 37) dX12_judgedAnew_37 wF_X12_110 (A_106 hw) hT ?_
      refine mr_iload (pc := 40) (z := z745) dX12_judgedAnew_40 rfl ?_
      refine la_123 (pc := 42) dX12_judgedAnew_42 (A_123 hw) hT (rIx (n := 30) h823 rfl) fun z984 q985 h986 => ?_
      refine mr_icmp_ge (pc := 43) (tgt := 86) dX12_judgedAnew_43 (by decide) hp3 h986 (fun h987 => ?_) (fun h987 => ?_)
      · refine mr_iconst (pc := 86) (z := 0) dX12_judgedAnew_86 ?_
        refine mr_lvS (lv' := [(0, .ref 106), (1, iv p1), (2, iv p2), (3, iv p3), (4, iv p4), (5, iv z746), (6, iv z745), (7, iv z825)]) (List.forall_mem_cons.mpr ⟨rfl, List.forall_mem_cons.mpr ⟨rfl, List.forall_mem_cons.mpr ⟨rfl, List.forall_mem_cons.mpr ⟨rfl, List.forall_mem_cons.mpr ⟨rfl, List.forall_mem_cons.mpr ⟨rfl, List.forall_mem_cons.mpr ⟨rfl, List.forall_mem_cons.mpr ⟨rfl, fun _ h => absurd h List.not_mem_nil⟩⟩⟩⟩⟩⟩⟩⟩) ?_
        exact J851 0 (rW (c := 0) (d := 1) (rR (x := 0)) rfl) ((((((((W754 z746 z745 rfl h748 h749) z756 q757 h758).2 h822) z825 q826 h827) z828 q829 h830).2 h981) z984 q985 h986).1 h987)
      have h988 : (-2147483648) ≤ p3 ∧ p3 ≤ 2147483646 := (vc_X12_judgedAnew_17 h987 h981 hp3 h830 h986)
      have h989 : (-2147483647) ≤ z984 ∧ z984 ≤ 2147483647 := (vc_X12_judgedAnew_18 h987 h981 h988 h830 h986)
      refine sv_aload_n (pc := 46) dX12_judgedAnew_46 rfl rfl ?_
      refine gf_X12_24 (pc := 47) dX12_judgedAnew_47 wF_X12_113 (A_106 hw) hT ?_
      refine mr_iload (pc := 50) (z := z745) dX12_judgedAnew_50 rfl ?_
      refine la_124 (pc := 52) dX12_judgedAnew_52 (A_124 hw) hT (rIx (n := 30) h823 rfl) fun z990 q991 h992 => ?_
      refine mr_iload (pc := 53) (z := p4) dX12_judgedAnew_53 rfl ?_
      refine mr_icmp_gt (pc := 55) (tgt := 86) dX12_judgedAnew_55 (by decide) h992 hp4 (fun h993 => ?_) (fun h993 => ?_)
      · have h994 : (-2147483647) ≤ z990 ∧ z990 ≤ 2147483647 := (vc_X12_judgedAnew_15 h993 hp4 h992)
        have h995 : (-2147483648) ≤ p4 ∧ p4 ≤ 2147483646 := (vc_X12_judgedAnew_16 h993 hp4 h994)
        refine mr_iconst (pc := 86) (z := 0) dX12_judgedAnew_86 ?_
        refine mr_lvS (lv' := [(0, .ref 106), (1, iv p1), (2, iv p2), (3, iv p3), (4, iv p4), (5, iv z746), (6, iv z745), (7, iv z825)]) (List.forall_mem_cons.mpr ⟨rfl, List.forall_mem_cons.mpr ⟨rfl, List.forall_mem_cons.mpr ⟨rfl, List.forall_mem_cons.mpr ⟨rfl, List.forall_mem_cons.mpr ⟨rfl, List.forall_mem_cons.mpr ⟨rfl, List.forall_mem_cons.mpr ⟨rfl, List.forall_mem_cons.mpr ⟨rfl, fun _ h => absurd h List.not_mem_nil⟩⟩⟩⟩⟩⟩⟩⟩) ?_
        exact J851 0 (rW (c := 0) (d := 1) (rR (x := 0)) rfl) ((((((((((W754 z746 z745 rfl h748 h749) z756 q757 h758).2 h822) z825 q826 h827) z828 q829 h830).2 h981) z984 q985 h986).2 h987) z990 q991 h992).1 h993)
      refine sv_aload_n (pc := 58) dX12_judgedAnew_58 rfl rfl ?_
      refine gf_X12_25 (pc := 59) dX12_judgedAnew_59 wF_X12_116 (A_106 hw) hT ?_
      refine mr_iload (pc := 62) (z := z745) dX12_judgedAnew_62 rfl ?_
      refine la_125 (pc := 64) dX12_judgedAnew_64 (A_125 hw) hT (rIx (n := 30) h823 rfl) fun z996 q997 h998 => ?_
      refine mr_ldc (pc := 65) (z := (-99999999)) dX12_judgedAnew_65 wG_X12_29 (by decide) ?_
      have W999 := (((((((((((W754 z746 z745 rfl h748 h749) z756 q757 h758).2 h822) z825 q826 h827) z828 q829 h830).2 h981) z984 q985 h986).2 h987) z990 q991 h992).2 h993) z996 q997 h998)
      refine mr_icmp_eq (pc := 67) (tgt := 82) dX12_judgedAnew_67 (by decide) h998 (r32 (rR (x := (-99999999))) rfl) (fun h1000 => ?_) (fun h1000 => ?_)
      · have h1001 : (-99999999) ≤ z996 ∧ z996 ≤ (-99999999) := (vc_X12_judgedAnew_21 h1000 h998)
        refine mr_iconst (pc := 82) (z := 1) dX12_judgedAnew_82 ?_
        refine sv_goto (pc := 83) (tgt := 87) dX12_judgedAnew_83 (by decide) ?_
        refine mr_lvS (lv' := [(0, .ref 106), (1, iv p1), (2, iv p2), (3, iv p3), (4, iv p4), (5, iv z746), (6, iv z745), (7, iv z825)]) (List.forall_mem_cons.mpr ⟨rfl, List.forall_mem_cons.mpr ⟨rfl, List.forall_mem_cons.mpr ⟨rfl, List.forall_mem_cons.mpr ⟨rfl, List.forall_mem_cons.mpr ⟨rfl, List.forall_mem_cons.mpr ⟨rfl, List.forall_mem_cons.mpr ⟨rfl, List.forall_mem_cons.mpr ⟨rfl, fun _ h => absurd h List.not_mem_nil⟩⟩⟩⟩⟩⟩⟩⟩) ?_
        exact J851 1 (rW (c := 0) (d := 1) (rR (x := 1)) rfl) (W999.1 h1000)
      refine mr_iload (pc := 70) (z := p4) dX12_judgedAnew_70 rfl ?_
      refine sv_aload_n (pc := 72) dX12_judgedAnew_72 rfl rfl ?_
      refine gf_X12_25 (pc := 73) dX12_judgedAnew_73 wF_X12_116 (A_106 hw) hT ?_
      refine mr_iload (pc := 76) (z := z745) dX12_judgedAnew_76 rfl ?_
      refine lk_125 (pc := 78) dX12_judgedAnew_78 (A_125 hw) (rIx (n := 30) h823 rfl) q997 ?_
      refine mr_icmp_ge (pc := 79) (tgt := 86) dX12_judgedAnew_79 (by decide) hp4 h998 (fun h1002 => ?_) (fun h1002 => ?_)
      · refine mr_iconst (pc := 86) (z := 0) dX12_judgedAnew_86 ?_
        refine mr_lvS (lv' := [(0, .ref 106), (1, iv p1), (2, iv p2), (3, iv p3), (4, iv p4), (5, iv z746), (6, iv z745), (7, iv z825)]) (List.forall_mem_cons.mpr ⟨rfl, List.forall_mem_cons.mpr ⟨rfl, List.forall_mem_cons.mpr ⟨rfl, List.forall_mem_cons.mpr ⟨rfl, List.forall_mem_cons.mpr ⟨rfl, List.forall_mem_cons.mpr ⟨rfl, List.forall_mem_cons.mpr ⟨rfl, List.forall_mem_cons.mpr ⟨rfl, fun _ h => absurd h List.not_mem_nil⟩⟩⟩⟩⟩⟩⟩⟩) ?_
        exact J851 0 (rW (c := 0) (d := 1) (rR (x := 0)) rfl) ((W999.2 h1000).1 h1002)
      have h1003 : (-2147483648) ≤ p4 ∧ p4 ≤ 2147483646 := (vc_X12_judgedAnew_22 h1002 h993 h1000 hp4 h992 h998)
      have h1004 : (-2147483647) ≤ z996 ∧ z996 ≤ 2147483647 := (vc_X12_judgedAnew_23 h1002 h993 h1000 h1003 h992 h998)
      refine mr_iconst (pc := 82) (z := 1) dX12_judgedAnew_82 ?_
      refine sv_goto (pc := 83) (tgt := 87) dX12_judgedAnew_83 (by decide) ?_
      refine mr_lvS (lv' := [(0, .ref 106), (1, iv p1), (2, iv p2), (3, iv p3), (4, iv p4), (5, iv z746), (6, iv z745), (7, iv z825)]) (List.forall_mem_cons.mpr ⟨rfl, List.forall_mem_cons.mpr ⟨rfl, List.forall_mem_cons.mpr ⟨rfl, List.forall_mem_cons.mpr ⟨rfl, List.forall_mem_cons.mpr ⟨rfl, List.forall_mem_cons.mpr ⟨rfl, List.forall_mem_cons.mpr ⟨rfl, List.forall_mem_cons.mpr ⟨rfl, fun _ h => absurd h List.not_mem_nil⟩⟩⟩⟩⟩⟩⟩⟩) ?_
      exact J851 1 (rW (c := 0) (d := 1) (rR (x := 1)) rfl) ((W999.2 h1000).2 h1002)
  refine mr_lvS (lv' := [(0, .ref 106), (1, iv p1), (2, iv p2), (3, iv p3), (4, iv p4), (5, iv 2), (6, iv 0)]) (List.forall_mem_cons.mpr ⟨rfl, List.forall_mem_cons.mpr ⟨rfl, List.forall_mem_cons.mpr ⟨rfl, List.forall_mem_cons.mpr ⟨rfl, List.forall_mem_cons.mpr ⟨rfl, List.forall_mem_cons.mpr ⟨rfl, List.forall_mem_cons.mpr ⟨rfl, fun _ h => absurd h List.not_mem_nil⟩⟩⟩⟩⟩⟩⟩) ?_
  exact L747 32 2 0 trivial (rW (c := 0) (d := 2) (rR (x := 2)) rfl) (rW (c := 0) (d := 30) (rR (x := 0)) rfl) vc_X12_judgedAnew_24 hQ
def WJ_X12_judged_W_1 (w : mW) (μ : mM) (Q : Int → mM → Prop) (μ134 : mM) : Prop := mT w μ134 → mF [106026, 106027, 106028, 106029, 106030, 106031] w μ μ134 → ∀ z140 : Int, μ134 106 31 = z140 → (0 ≤ z140 ∧ z140 ≤ 2) → Q z140 μ134
def WP_X12_judged_W (w : mW) (μ : mM) (p1 : Int) (p2 : Int) (p3 : Int) (p4 : Int) (Q : Int → mM → Prop) : Prop := ∀ z1 : Int, μ 106 26 = z1 → (0 ≤ z1 ∧ z1 ≤ 1) → ((z1 = 0) → WP_X12_judgedAnew_W w μ p1 p2 p3 p4 (fun z149 _ => (0 ≤ z149 ∧ z149 ≤ 2) → ∀ μ150 : mM, mU μ 106 (31) z149 μ150 → mT w μ150 → ∀ μ153 : mM, mU μ150 106 (27) p1 μ153 → mT w μ153 → ∀ μ156 : mM, mU μ153 106 (28) p2 μ156 → mT w μ156 → ∀ μ159 : mM, mU μ156 106 (29) p3 μ159 → mT w μ159 → ∀ μ162 : mM, mU μ159 106 (30) p4 μ162 → mT w μ162 → ∀ μ165 : mM, mU μ162 106 (26) (1 : Int) μ165 → mT w μ165 → (WJ_X12_judged_W_1 w μ Q) μ165)) ∧ ((¬ z1 = 0) → ∀ z169 : Int, μ 106 27 = z169 → ((-2147483648) ≤ z169 ∧ z169 ≤ 2147483647) → ((¬ z169 = p1) → WP_X12_judgedAnew_W w μ p1 p2 p3 p4 (fun z177 _ => (0 ≤ z177 ∧ z177 ≤ 2) → ∀ μ178 : mM, mU μ 106 (31) z177 μ178 → mT w μ178 → ∀ μ181 : mM, mU μ178 106 (27) p1 μ181 → mT w μ181 → ∀ μ184 : mM, mU μ181 106 (28) p2 μ184 → mT w μ184 → ∀ μ187 : mM, mU μ184 106 (29) p3 μ187 → mT w μ187 → ∀ μ190 : mM, mU μ187 106 (30) p4 μ190 → mT w μ190 → ∀ μ193 : mM, mU μ190 106 (26) (1 : Int) μ193 → mT w μ193 → (WJ_X12_judged_W_1 w μ Q) μ193)) ∧ ((z169 = p1) → ∀ z197 : Int, μ 106 28 = z197 → ((-2147483648) ≤ z197 ∧ z197 ≤ 2147483647) → ((¬ z197 = p2) → WP_X12_judgedAnew_W w μ p1 p2 p3 p4 (fun z205 _ => (0 ≤ z205 ∧ z205 ≤ 2) → ∀ μ206 : mM, mU μ 106 (31) z205 μ206 → mT w μ206 → ∀ μ209 : mM, mU μ206 106 (27) p1 μ209 → mT w μ209 → ∀ μ212 : mM, mU μ209 106 (28) p2 μ212 → mT w μ212 → ∀ μ215 : mM, mU μ212 106 (29) p3 μ215 → mT w μ215 → ∀ μ218 : mM, mU μ215 106 (30) p4 μ218 → mT w μ218 → ∀ μ221 : mM, mU μ218 106 (26) (1 : Int) μ221 → mT w μ221 → (WJ_X12_judged_W_1 w μ Q) μ221)) ∧ ((z197 = p2) → ∀ z224 : Int, μ 106 29 = z224 → ((-2147483648) ≤ z224 ∧ z224 ≤ 2147483647) → ((¬ z224 = p3) → WP_X12_judgedAnew_W w μ p1 p2 p3 p4 (fun z232 _ => (0 ≤ z232 ∧ z232 ≤ 2) → ∀ μ233 : mM, mU μ 106 (31) z232 μ233 → mT w μ233 → ∀ μ236 : mM, mU μ233 106 (27) p1 μ236 → mT w μ236 → ∀ μ239 : mM, mU μ236 106 (28) p2 μ239 → mT w μ239 → ∀ μ242 : mM, mU μ239 106 (29) p3 μ242 → mT w μ242 → ∀ μ245 : mM, mU μ242 106 (30) p4 μ245 → mT w μ245 → ∀ μ248 : mM, mU μ245 106 (26) (1 : Int) μ248 → mT w μ248 → (WJ_X12_judged_W_1 w μ Q) μ248)) ∧ ((z224 = p3) → ∀ z251 : Int, μ 106 30 = z251 → ((-2147483648) ≤ z251 ∧ z251 ≤ 2147483647) → ((z251 = p4) → (WJ_X12_judged_W_1 w μ Q) μ) ∧ ((¬ z251 = p4) → WP_X12_judgedAnew_W w μ p1 p2 p3 p4 (fun z259 _ => (0 ≤ z259 ∧ z259 ≤ 2) → ∀ μ261 : mM, mU μ 106 (31) z259 μ261 → mT w μ261 → ∀ μ264 : mM, mU μ261 106 (27) p1 μ264 → mT w μ264 → ∀ μ267 : mM, mU μ264 106 (28) p2 μ267 → mT w μ267 → ∀ μ270 : mM, mU μ267 106 (29) p3 μ270 → mT w μ270 → ∀ μ273 : mM, mU μ270 106 (30) p4 μ273 → mT w μ273 → ∀ μ276 : mM, mU μ273 106 (26) (1 : Int) μ276 → mT w μ276 → (WJ_X12_judged_W_1 w μ Q) μ276))))))
set_option maxRecDepth 4000 in
set_option maxHeartbeats 4000000 in
theorem c_X12_judged_W {l : Launch} {D : va_G} {c : Nat → ClassId} {H0 : Heap} {sa : Nat × Nat × (Nat → Int32)} {w : mW} {μ : mM} (hw : mWF w) (hT : mT w μ) {p1 : Int} (hp1 : 0 ≤ p1 ∧ p1 ≤ 9) {p2 : Int} (hp2 : (-2147483648) ≤ p2 ∧ p2 ≤ 2147483647) {p3 : Int} (hp3 : (-2147483648) ≤ p3 ∧ p3 ≤ 2147483647) {p4 : Int} (hp4 : (-2147483648) ≤ p4 ∧ p4 ≤ 2147483647) {Q : Int → mM → Prop} (hQ : WP_X12_judged_W w μ p1 p2 p3 p4 Q) : sC (gG l D c H0 sa) mX12_judged 4 0 0 [.ref 106, iv p1, iv p2, iv p3, iv p4] (mk w μ) (qI w [106026, 106027, 106028, 106029, 106030, 106031] μ (fun z μ1 => (0 ≤ z ∧ z ≤ 2) ∧ Q z μ1 ∧ True)) := by
  refine sC.of rfl (by decide) (le_t rfl) ?_
  refine mr_lvE (lv' := [(0, .ref 106), (1, iv p1), (2, iv p2), (3, iv p3), (4, iv p4)]) rfl ?_
  refine sv_aload_n (pc := 0) dX12_judged_0 rfl rfl ?_
  refine gf_X12_26 (pc := 1) dX12_judged_1 wF_X12_119 (A_106 hw) hT fun z1 q2 h3 => ?_
  have J138 : ∀ (μ134 : mM), (mT w μ134) → (mF [106026, 106027, 106028, 106029, 106030, 106031] w μ μ134) → ((WJ_X12_judged_W_1 w μ Q) μ134) → sV (gG l D c H0 sa) mX12_judged (sRm 4 0 0) (sZ (gG l D c H0 sa) 0 0 (qI w [106026, 106027, 106028, 106029, 106030, 106031] μ (fun z μ1 => (0 ≤ z ∧ z ≤ 2) ∧ Q z μ1 ∧ True))) 79 [(0, .ref 106)] [] (mk w μ134) 0 0 := by
    intro μ134 T135 F136 W139
    refine sv_aload_n (pc := 79) dX12_judged_79 rfl rfl ?_
    refine gf_X12_31 (pc := 80) dX12_judged_80 wF_X12_139 (A_106 hw) T135 fun z140 q141 h142 => ?_
    exact mr_iret dX12_judged_83 rfl (le_t rfl) (le_t rfl) T135 (mF.call mF.refl F136 rfl) ⟨h142, ((W139 T135 F136) z140 q141 h142), trivial⟩
  refine mr_if_eq (pc := 4) (tgt := 40) dX12_judged_4 (by decide) (r32 h3 rfl) (fun h143 => ?_) (fun h143 => ?_)
  · have h144 : 0 ≤ z1 ∧ z1 ≤ 0 := (vc_X12_ring_22 h143 h3)
    refine sv_aload_n (pc := 40) dX12_judged_40 rfl rfl ?_
    refine sv_aload_n (pc := 41) dX12_judged_41 rfl rfl ?_
    refine mr_iload_n (pc := 42) (z := p1) dX12_judged_42 rfl rfl ?_
    refine mr_iload_n (pc := 43) (z := p2) dX12_judged_43 rfl rfl ?_
    refine mr_iload_n (pc := 44) (z := p3) dX12_judged_44 rfl rfl ?_
    refine mr_iload (pc := 45) (z := p4) dX12_judged_45 rfl ?_
    refine mr_cVP (pc := 47) (c_X12_judgedAnew_W hw hT hp1 hp2 hp3 hp4 ((hQ z1 q2 h3).1 h143)) (gOk _ _ _ _ _) dX12_judged_47 (tX12_judgedAnew _ _ _ _ _) ⟨wV_X12_judgedAnew, wL_X12_judgedAnew⟩ wM_X12_135 (gCX12 _ _ _ _ _) rfl (A_106 hw) rfl ⟨le_t rfl, le_t rfl⟩ ⟨le_t rfl, le_t rfl⟩ rfl (le_t rfl) fun z149 h148 => ?_
    refine pf_X12_31 (pc := 50) dX12_judged_50 wF_X12_139 (A_106 hw) hT h148.1 fun μ150 u151 T152 => ?_
    refine sv_aload_n (pc := 53) dX12_judged_53 rfl rfl ?_
    refine mr_iload_n (pc := 54) (z := p1) dX12_judged_54 rfl rfl ?_
    refine pf_X12_27 (pc := 55) dX12_judged_55 wF_X12_123 (A_106 hw) T152 (rW (c := (-2147483648)) (d := 2147483647) hp1 rfl) fun μ153 u154 T155 => ?_
    refine sv_aload_n (pc := 58) dX12_judged_58 rfl rfl ?_
    refine mr_iload_n (pc := 59) (z := p2) dX12_judged_59 rfl rfl ?_
    refine pf_X12_28 (pc := 60) dX12_judged_60 wF_X12_126 (A_106 hw) T155 hp2 fun μ156 u157 T158 => ?_
    refine sv_aload_n (pc := 63) dX12_judged_63 rfl rfl ?_
    refine mr_iload_n (pc := 64) (z := p3) dX12_judged_64 rfl rfl ?_
    refine pf_X12_29 (pc := 65) dX12_judged_65 wF_X12_129 (A_106 hw) T158 hp3 fun μ159 u160 T161 => ?_
    refine sv_aload_n (pc := 68) dX12_judged_68 rfl rfl ?_
    refine mr_iload (pc := 69) (z := p4) dX12_judged_69 rfl ?_
    refine pf_X12_30 (pc := 71) dX12_judged_71 wF_X12_132 (A_106 hw) T161 hp4 fun μ162 u163 T164 => ?_
    refine sv_aload_n (pc := 74) dX12_judged_74 rfl rfl ?_
    refine mr_iconst (pc := 75) (z := 1) dX12_judged_75 ?_
    refine pf_X12_26 (pc := 76) dX12_judged_76 wF_X12_119 (A_106 hw) T164 (rW (c := 0) (d := 1) (rR (x := 1)) rfl) fun μ165 u166 T167 => ?_
    refine mr_lvS (lv' := [(0, .ref 106)]) (List.forall_mem_cons.mpr ⟨rfl, fun _ h => absurd h List.not_mem_nil⟩) ?_
    exact J138 μ165 T167 (mF.up (mF.up (mF.up (mF.up (mF.up (mF.up mF.refl (A_106 hw) u151 rfl) (A_106 hw) u154 rfl) (A_106 hw) u157 rfl) (A_106 hw) u160 rfl) (A_106 hw) u163 rfl) (A_106 hw) u166 rfl) (((((((h148.2.1 h148.1) μ150 u151 T152) μ153 u154 T155) μ156 u157 T158) μ159 u160 T161) μ162 u163 T164) μ165 u166 T167)
  have h168 : 1 ≤ z1 ∧ z1 ≤ 1 := (vc_X12_ring_24 h143 h3)
  refine sv_aload_n (pc := 7) dX12_judged_7 rfl rfl ?_
  refine gf_X12_27 (pc := 8) dX12_judged_8 wF_X12_123 (A_106 hw) hT fun z169 q170 h171 => ?_
  refine mr_iload_n (pc := 11) (z := p1) dX12_judged_11 rfl rfl ?_
  refine mr_icmp_ne (pc := 12) (tgt := 40) dX12_judged_12 (by decide) h171 (r32 hp1 rfl) (fun h172 => ?_) (fun h172 => ?_)
  · refine sv_aload_n (pc := 40) dX12_judged_40 rfl rfl ?_
    refine sv_aload_n (pc := 41) dX12_judged_41 rfl rfl ?_
    refine mr_iload_n (pc := 42) (z := p1) dX12_judged_42 rfl rfl ?_
    refine mr_iload_n (pc := 43) (z := p2) dX12_judged_43 rfl rfl ?_
    refine mr_iload_n (pc := 44) (z := p3) dX12_judged_44 rfl rfl ?_
    refine mr_iload (pc := 45) (z := p4) dX12_judged_45 rfl ?_
    refine mr_cVP (pc := 47) (c_X12_judgedAnew_W hw hT hp1 hp2 hp3 hp4 ((((hQ z1 q2 h3).2 h143) z169 q170 h171).1 h172)) (gOk _ _ _ _ _) dX12_judged_47 (tX12_judgedAnew _ _ _ _ _) ⟨wV_X12_judgedAnew, wL_X12_judgedAnew⟩ wM_X12_135 (gCX12 _ _ _ _ _) rfl (A_106 hw) rfl ⟨le_t rfl, le_t rfl⟩ ⟨le_t rfl, le_t rfl⟩ rfl (le_t rfl) fun z177 h176 => ?_
    refine pf_X12_31 (pc := 50) dX12_judged_50 wF_X12_139 (A_106 hw) hT h176.1 fun μ178 u179 T180 => ?_
    refine sv_aload_n (pc := 53) dX12_judged_53 rfl rfl ?_
    refine mr_iload_n (pc := 54) (z := p1) dX12_judged_54 rfl rfl ?_
    refine pf_X12_27 (pc := 55) dX12_judged_55 wF_X12_123 (A_106 hw) T180 (rW (c := (-2147483648)) (d := 2147483647) hp1 rfl) fun μ181 u182 T183 => ?_
    refine sv_aload_n (pc := 58) dX12_judged_58 rfl rfl ?_
    refine mr_iload_n (pc := 59) (z := p2) dX12_judged_59 rfl rfl ?_
    refine pf_X12_28 (pc := 60) dX12_judged_60 wF_X12_126 (A_106 hw) T183 hp2 fun μ184 u185 T186 => ?_
    refine sv_aload_n (pc := 63) dX12_judged_63 rfl rfl ?_
    refine mr_iload_n (pc := 64) (z := p3) dX12_judged_64 rfl rfl ?_
    refine pf_X12_29 (pc := 65) dX12_judged_65 wF_X12_129 (A_106 hw) T186 hp3 fun μ187 u188 T189 => ?_
    refine sv_aload_n (pc := 68) dX12_judged_68 rfl rfl ?_
    refine mr_iload (pc := 69) (z := p4) dX12_judged_69 rfl ?_
    refine pf_X12_30 (pc := 71) dX12_judged_71 wF_X12_132 (A_106 hw) T189 hp4 fun μ190 u191 T192 => ?_
    refine sv_aload_n (pc := 74) dX12_judged_74 rfl rfl ?_
    refine mr_iconst (pc := 75) (z := 1) dX12_judged_75 ?_
    refine pf_X12_26 (pc := 76) dX12_judged_76 wF_X12_119 (A_106 hw) T192 (rW (c := 0) (d := 1) (rR (x := 1)) rfl) fun μ193 u194 T195 => ?_
    refine mr_lvS (lv' := [(0, .ref 106)]) (List.forall_mem_cons.mpr ⟨rfl, fun _ h => absurd h List.not_mem_nil⟩) ?_
    exact J138 μ193 T195 (mF.up (mF.up (mF.up (mF.up (mF.up (mF.up mF.refl (A_106 hw) u179 rfl) (A_106 hw) u182 rfl) (A_106 hw) u185 rfl) (A_106 hw) u188 rfl) (A_106 hw) u191 rfl) (A_106 hw) u194 rfl) (((((((h176.2.1 h176.1) μ178 u179 T180) μ181 u182 T183) μ184 u185 T186) μ187 u188 T189) μ190 u191 T192) μ193 u194 T195)
  have h196 : 0 ≤ z169 ∧ z169 ≤ 9 := (vc_X12_judged_3 h172 hp1 h171)
  refine sv_aload_n (pc := 15) dX12_judged_15 rfl rfl ?_
  refine gf_X12_28 (pc := 16) dX12_judged_16 wF_X12_126 (A_106 hw) hT fun z197 q198 h199 => ?_
  refine mr_iload_n (pc := 19) (z := p2) dX12_judged_19 rfl rfl ?_
  refine mr_icmp_ne (pc := 20) (tgt := 40) dX12_judged_20 (by decide) h199 hp2 (fun h200 => ?_) (fun h200 => ?_)
  · refine sv_aload_n (pc := 40) dX12_judged_40 rfl rfl ?_
    refine sv_aload_n (pc := 41) dX12_judged_41 rfl rfl ?_
    refine mr_iload_n (pc := 42) (z := p1) dX12_judged_42 rfl rfl ?_
    refine mr_iload_n (pc := 43) (z := p2) dX12_judged_43 rfl rfl ?_
    refine mr_iload_n (pc := 44) (z := p3) dX12_judged_44 rfl rfl ?_
    refine mr_iload (pc := 45) (z := p4) dX12_judged_45 rfl ?_
    refine mr_cVP (pc := 47) (c_X12_judgedAnew_W hw hT hp1 hp2 hp3 hp4 ((((((hQ z1 q2 h3).2 h143) z169 q170 h171).2 h172) z197 q198 h199).1 h200)) (gOk _ _ _ _ _) dX12_judged_47 (tX12_judgedAnew _ _ _ _ _) ⟨wV_X12_judgedAnew, wL_X12_judgedAnew⟩ wM_X12_135 (gCX12 _ _ _ _ _) rfl (A_106 hw) rfl ⟨le_t rfl, le_t rfl⟩ ⟨le_t rfl, le_t rfl⟩ rfl (le_t rfl) fun z205 h204 => ?_
    refine pf_X12_31 (pc := 50) dX12_judged_50 wF_X12_139 (A_106 hw) hT h204.1 fun μ206 u207 T208 => ?_
    refine sv_aload_n (pc := 53) dX12_judged_53 rfl rfl ?_
    refine mr_iload_n (pc := 54) (z := p1) dX12_judged_54 rfl rfl ?_
    refine pf_X12_27 (pc := 55) dX12_judged_55 wF_X12_123 (A_106 hw) T208 (rW (c := (-2147483648)) (d := 2147483647) hp1 rfl) fun μ209 u210 T211 => ?_
    refine sv_aload_n (pc := 58) dX12_judged_58 rfl rfl ?_
    refine mr_iload_n (pc := 59) (z := p2) dX12_judged_59 rfl rfl ?_
    refine pf_X12_28 (pc := 60) dX12_judged_60 wF_X12_126 (A_106 hw) T211 hp2 fun μ212 u213 T214 => ?_
    refine sv_aload_n (pc := 63) dX12_judged_63 rfl rfl ?_
    refine mr_iload_n (pc := 64) (z := p3) dX12_judged_64 rfl rfl ?_
    refine pf_X12_29 (pc := 65) dX12_judged_65 wF_X12_129 (A_106 hw) T214 hp3 fun μ215 u216 T217 => ?_
    refine sv_aload_n (pc := 68) dX12_judged_68 rfl rfl ?_
    refine mr_iload (pc := 69) (z := p4) dX12_judged_69 rfl ?_
    refine pf_X12_30 (pc := 71) dX12_judged_71 wF_X12_132 (A_106 hw) T217 hp4 fun μ218 u219 T220 => ?_
    refine sv_aload_n (pc := 74) dX12_judged_74 rfl rfl ?_
    refine mr_iconst (pc := 75) (z := 1) dX12_judged_75 ?_
    refine pf_X12_26 (pc := 76) dX12_judged_76 wF_X12_119 (A_106 hw) T220 (rW (c := 0) (d := 1) (rR (x := 1)) rfl) fun μ221 u222 T223 => ?_
    refine mr_lvS (lv' := [(0, .ref 106)]) (List.forall_mem_cons.mpr ⟨rfl, fun _ h => absurd h List.not_mem_nil⟩) ?_
    exact J138 μ221 T223 (mF.up (mF.up (mF.up (mF.up (mF.up (mF.up mF.refl (A_106 hw) u207 rfl) (A_106 hw) u210 rfl) (A_106 hw) u213 rfl) (A_106 hw) u216 rfl) (A_106 hw) u219 rfl) (A_106 hw) u222 rfl) (((((((h204.2.1 h204.1) μ206 u207 T208) μ209 u210 T211) μ212 u213 T214) μ215 u216 T217) μ218 u219 T220) μ221 u222 T223)
  refine sv_aload_n (pc := 23) dX12_judged_23 rfl rfl ?_
  refine gf_X12_29 (pc := 24) dX12_judged_24 wF_X12_129 (A_106 hw) hT fun z224 q225 h226 => ?_
  refine mr_iload_n (pc := 27) (z := p3) dX12_judged_27 rfl rfl ?_
  refine mr_icmp_ne (pc := 28) (tgt := 40) dX12_judged_28 (by decide) h226 hp3 (fun h227 => ?_) (fun h227 => ?_)
  · refine sv_aload_n (pc := 40) dX12_judged_40 rfl rfl ?_
    refine sv_aload_n (pc := 41) dX12_judged_41 rfl rfl ?_
    refine mr_iload_n (pc := 42) (z := p1) dX12_judged_42 rfl rfl ?_
    refine mr_iload_n (pc := 43) (z := p2) dX12_judged_43 rfl rfl ?_
    refine mr_iload_n (pc := 44) (z := p3) dX12_judged_44 rfl rfl ?_
    refine mr_iload (pc := 45) (z := p4) dX12_judged_45 rfl ?_
    refine mr_cVP (pc := 47) (c_X12_judgedAnew_W hw hT hp1 hp2 hp3 hp4 ((((((((hQ z1 q2 h3).2 h143) z169 q170 h171).2 h172) z197 q198 h199).2 h200) z224 q225 h226).1 h227)) (gOk _ _ _ _ _) dX12_judged_47 (tX12_judgedAnew _ _ _ _ _) ⟨wV_X12_judgedAnew, wL_X12_judgedAnew⟩ wM_X12_135 (gCX12 _ _ _ _ _) rfl (A_106 hw) rfl ⟨le_t rfl, le_t rfl⟩ ⟨le_t rfl, le_t rfl⟩ rfl (le_t rfl) fun z232 h231 => ?_
    refine pf_X12_31 (pc := 50) dX12_judged_50 wF_X12_139 (A_106 hw) hT h231.1 fun μ233 u234 T235 => ?_
    refine sv_aload_n (pc := 53) dX12_judged_53 rfl rfl ?_
    refine mr_iload_n (pc := 54) (z := p1) dX12_judged_54 rfl rfl ?_
    refine pf_X12_27 (pc := 55) dX12_judged_55 wF_X12_123 (A_106 hw) T235 (rW (c := (-2147483648)) (d := 2147483647) hp1 rfl) fun μ236 u237 T238 => ?_
    refine sv_aload_n (pc := 58) dX12_judged_58 rfl rfl ?_
    refine mr_iload_n (pc := 59) (z := p2) dX12_judged_59 rfl rfl ?_
    refine pf_X12_28 (pc := 60) dX12_judged_60 wF_X12_126 (A_106 hw) T238 hp2 fun μ239 u240 T241 => ?_
    refine sv_aload_n (pc := 63) dX12_judged_63 rfl rfl ?_
    refine mr_iload_n (pc := 64) (z := p3) dX12_judged_64 rfl rfl ?_
    refine pf_X12_29 (pc := 65) dX12_judged_65 wF_X12_129 (A_106 hw) T241 hp3 fun μ242 u243 T244 => ?_
    refine sv_aload_n (pc := 68) dX12_judged_68 rfl rfl ?_
    refine mr_iload (pc := 69) (z := p4) dX12_judged_69 rfl ?_
    refine pf_X12_30 (pc := 71) dX12_judged_71 wF_X12_132 (A_106 hw) T244 hp4 fun μ245 u246 T247 => ?_
    refine sv_aload_n (pc := 74) dX12_judged_74 rfl rfl ?_
    refine mr_iconst (pc := 75) (z := 1) dX12_judged_75 ?_
    refine pf_X12_26 (pc := 76) dX12_judged_76 wF_X12_119 (A_106 hw) T247 (rW (c := 0) (d := 1) (rR (x := 1)) rfl) fun μ248 u249 T250 => ?_
    refine mr_lvS (lv' := [(0, .ref 106)]) (List.forall_mem_cons.mpr ⟨rfl, fun _ h => absurd h List.not_mem_nil⟩) ?_
    exact J138 μ248 T250 (mF.up (mF.up (mF.up (mF.up (mF.up (mF.up mF.refl (A_106 hw) u234 rfl) (A_106 hw) u237 rfl) (A_106 hw) u240 rfl) (A_106 hw) u243 rfl) (A_106 hw) u246 rfl) (A_106 hw) u249 rfl) (((((((h231.2.1 h231.1) μ233 u234 T235) μ236 u237 T238) μ239 u240 T241) μ242 u243 T244) μ245 u246 T247) μ248 u249 T250)
  refine sv_aload_n (pc := 31) dX12_judged_31 rfl rfl ?_
  refine gf_X12_30 (pc := 32) dX12_judged_32 wF_X12_132 (A_106 hw) hT fun z251 q252 h253 => ?_
  refine mr_iload (pc := 35) (z := p4) dX12_judged_35 rfl ?_
  refine mr_icmp_eq (pc := 37) (tgt := 79) dX12_judged_37 (by decide) h253 hp4 (fun h254 => ?_) (fun h254 => ?_)
  · refine mr_lvS (lv' := [(0, .ref 106)]) (List.forall_mem_cons.mpr ⟨rfl, fun _ h => absurd h List.not_mem_nil⟩) ?_
    exact J138 μ hT mF.refl ((((((((((hQ z1 q2 h3).2 h143) z169 q170 h171).2 h172) z197 q198 h199).2 h200) z224 q225 h226).2 h227) z251 q252 h253).1 h254)
  refine sv_aload_n (pc := 40) dX12_judged_40 rfl rfl ?_
  refine sv_aload_n (pc := 41) dX12_judged_41 rfl rfl ?_
  refine mr_iload_n (pc := 42) (z := p1) dX12_judged_42 rfl rfl ?_
  refine mr_iload_n (pc := 43) (z := p2) dX12_judged_43 rfl rfl ?_
  refine mr_iload_n (pc := 44) (z := p3) dX12_judged_44 rfl rfl ?_
  refine mr_iload (pc := 45) (z := p4) dX12_judged_45 rfl ?_
  have W260 := ((((((((((hQ z1 q2 h3).2 h143) z169 q170 h171).2 h172) z197 q198 h199).2 h200) z224 q225 h226).2 h227) z251 q252 h253).2 h254)
  refine mr_cVP (pc := 47) (c_X12_judgedAnew_W hw hT hp1 hp2 hp3 hp4 W260) (gOk _ _ _ _ _) dX12_judged_47 (tX12_judgedAnew _ _ _ _ _) ⟨wV_X12_judgedAnew, wL_X12_judgedAnew⟩ wM_X12_135 (gCX12 _ _ _ _ _) rfl (A_106 hw) rfl ⟨le_t rfl, le_t rfl⟩ ⟨le_t rfl, le_t rfl⟩ rfl (le_t rfl) fun z259 h258 => ?_
  refine pf_X12_31 (pc := 50) dX12_judged_50 wF_X12_139 (A_106 hw) hT h258.1 fun μ261 u262 T263 => ?_
  refine sv_aload_n (pc := 53) dX12_judged_53 rfl rfl ?_
  refine mr_iload_n (pc := 54) (z := p1) dX12_judged_54 rfl rfl ?_
  refine pf_X12_27 (pc := 55) dX12_judged_55 wF_X12_123 (A_106 hw) T263 (rW (c := (-2147483648)) (d := 2147483647) hp1 rfl) fun μ264 u265 T266 => ?_
  refine sv_aload_n (pc := 58) dX12_judged_58 rfl rfl ?_
  refine mr_iload_n (pc := 59) (z := p2) dX12_judged_59 rfl rfl ?_
  refine pf_X12_28 (pc := 60) dX12_judged_60 wF_X12_126 (A_106 hw) T266 hp2 fun μ267 u268 T269 => ?_
  refine sv_aload_n (pc := 63) dX12_judged_63 rfl rfl ?_
  refine mr_iload_n (pc := 64) (z := p3) dX12_judged_64 rfl rfl ?_
  refine pf_X12_29 (pc := 65) dX12_judged_65 wF_X12_129 (A_106 hw) T269 hp3 fun μ270 u271 T272 => ?_
  refine sv_aload_n (pc := 68) dX12_judged_68 rfl rfl ?_
  refine mr_iload (pc := 69) (z := p4) dX12_judged_69 rfl ?_
  refine pf_X12_30 (pc := 71) dX12_judged_71 wF_X12_132 (A_106 hw) T272 hp4 fun μ273 u274 T275 => ?_
  refine sv_aload_n (pc := 74) dX12_judged_74 rfl rfl ?_
  refine mr_iconst (pc := 75) (z := 1) dX12_judged_75 ?_
  refine pf_X12_26 (pc := 76) dX12_judged_76 wF_X12_119 (A_106 hw) T275 (rW (c := 0) (d := 1) (rR (x := 1)) rfl) fun μ276 u277 T278 => ?_
  refine mr_lvS (lv' := [(0, .ref 106)]) (List.forall_mem_cons.mpr ⟨rfl, fun _ h => absurd h List.not_mem_nil⟩) ?_
  exact J138 μ276 T278 (mF.up (mF.up (mF.up (mF.up (mF.up (mF.up mF.refl (A_106 hw) u262 rfl) (A_106 hw) u265 rfl) (A_106 hw) u268 rfl) (A_106 hw) u271 rfl) (A_106 hw) u274 rfl) (A_106 hw) u277 rfl) (((((((h258.2.1 h258.1) μ261 u262 T263) μ264 u265 T266) μ267 u268 T269) μ270 u271 T272) μ273 u274 T275) μ276 u277 T278)
def WJ_X12_isSo_W_1 (w : mW) (μ : mM) (p2 : Int) (Q : Int → mM → Prop) (z575 : Int) (μ577 : mM) : Prop := (0 ≤ z575 ∧ z575 ≤ 1) → mT w μ577 → mF [106026, 106027, 106028, 106029, 106030, 106031] w μ μ577 → ∀ z583 : Int, μ577 133 (p2.toNat) = z583 → (0 ≤ z583 ∧ z583 ≤ 1) → ((z575 = z583) → Q (0 : Int) μ577) ∧ ((¬ z575 = z583) → Q (1 : Int) μ577)
def WJ_X12_isSo_W_2 (w : mW) (μ : mM) (p2 : Int) (Q : Int → mM → Prop) (f_x : Int) (z602 : Int) : Prop := ((-2147483648) ≤ z602 ∧ z602 ≤ 2147483647) → ∀ z606 : Int, μ 106 17 = z606 → (0 ≤ z606 ∧ z606 ≤ 2147483647) → WP_X12_judged_W w μ f_x z602 z606 z606 (fun z613 μ609 => mT w μ609 → mF [106026, 106027, 106028, 106029, 106030, 106031] w μ μ609 → (0 ≤ z613 ∧ z613 ≤ 2) → ∀ z614 : Int, μ609 134 (p2.toNat) = z614 → ((-2147483648) ≤ z614 ∧ z614 ≤ 2147483647) → ((¬ z613 = 1) → ((¬ z613 = 2) → ((¬ z614 = 22) → (WJ_X12_isSo_W_1 w μ p2 Q) (0 : Int) μ609) ∧ ((z614 = 22) → (WJ_X12_isSo_W_1 w μ p2 Q) (1 : Int) μ609)) ∧ ((z613 = 2) → ((¬ z614 = 21) → (WJ_X12_isSo_W_1 w μ p2 Q) (0 : Int) μ609) ∧ ((z614 = 21) → (WJ_X12_isSo_W_1 w μ p2 Q) (1 : Int) μ609))) ∧ ((z613 = 1) → ((¬ z614 = 20) → (WJ_X12_isSo_W_1 w μ p2 Q) (0 : Int) μ609) ∧ ((z614 = 20) → (WJ_X12_isSo_W_1 w μ p2 Q) (1 : Int) μ609)))
def WP_X12_isSo_W (w : mW) (μ : mM) (p1 : Int) (p2 : Int) (p3 : Int) (p4 : Int) (p5 : Int) (g1 : Int) (Q : Int → mM → Prop) : Prop := ∀ f_e0 : Int, μ 110 ((2 * g1).toNat) = f_e0 → (0 ≤ f_e0 ∧ f_e0 ≤ 9) → ∀ f_e1 : Int, μ 110 (((2 * g1) + 1).toNat) = f_e1 → (0 ≤ f_e1 ∧ f_e1 ≤ 9) → ∀ f_ties : Int, μ 106 6 = f_ties → (0 ≤ f_ties ∧ f_ties ≤ 20) → ∀ f_x : Int, μ 126 ((40 * p3).toNat) = f_x → ((-2147483648 ≤ f_x ∧ f_x ≤ 2147483647) ∧ ((40 * p3) % 40 = 0 → -1 ≤ f_x ∧ f_x ≤ 9) ∧ ((40 * p3) % 40 = 4 → 0 ≤ f_x ∧ f_x ≤ 20) ∧ ((40 * p3) % 40 = 5 → 0 ≤ f_x ∧ f_x ≤ 8)) → ∀ z439 : Int, μ 126 (((40 * p3) + 4).toNat) = z439 → ((-2147483648 ≤ z439 ∧ z439 ≤ 2147483647) ∧ (((40 * p3) + 4) % 40 = 0 → -1 ≤ z439 ∧ z439 ≤ 9) ∧ (((40 * p3) + 4) % 40 = 4 → 0 ≤ z439 ∧ z439 ≤ 20) ∧ (((40 * p3) + 4) % 40 = 5 → 0 ≤ z439 ∧ z439 ≤ 8)) → ∀ z443 : Int, μ 132 (p2.toNat) = z443 → ((-2147483648) ≤ z443 ∧ z443 ≤ 2147483647) → ((¬ z443 = 4) → ((¬ z443 = 6) → ((¬ z443 = 8) → ((¬ z443 = 9) → ((¬ z443 = 10) → ((¬ z443 = 11) → ((¬ z443 = 12) → ((¬ z443 = 13) → ((¬ z443 = 14) → ((¬ z439 = 0) → ∀ z638 : Int, μ 126 ((((40 * p3) + 5) + z439).toNat) = z638 → ((-2147483648 ≤ z638 ∧ z638 ≤ 2147483647) ∧ ((((40 * p3) + 5) + z439) % 40 = 0 → -1 ≤ z638 ∧ z638 ≤ 9) ∧ ((((40 * p3) + 5) + z439) % 40 = 4 → 0 ≤ z638 ∧ z638 ≤ 20) ∧ ((((40 * p3) + 5) + z439) % 40 = 5 → 0 ≤ z638 ∧ z638 ≤ 8)) → (WJ_X12_isSo_W_2 w μ p2 Q f_x) z638) ∧ ((z439 = 0) → (WJ_X12_isSo_W_2 w μ p2 Q f_x) p4)) ∧ ((z443 = 14) → ∀ z643 : Int, μ 126 (((40 * p3) + 2).toNat) = z643 → ((-2147483648 ≤ z643 ∧ z643 ≤ 2147483647) ∧ (((40 * p3) + 2) % 40 = 0 → -1 ≤ z643 ∧ z643 ≤ 9) ∧ (((40 * p3) + 2) % 40 = 4 → 0 ≤ z643 ∧ z643 ≤ 20) ∧ (((40 * p3) + 2) % 40 = 5 → 0 ≤ z643 ∧ z643 ≤ 8)) → ∀ z646 : Int, μ 134 (p2.toNat) = z646 → ((-2147483648) ≤ z646 ∧ z646 ≤ 2147483647) → ((¬ z643 = z646) → (WJ_X12_isSo_W_1 w μ p2 Q) (0 : Int) μ) ∧ ((z643 = z646) → (WJ_X12_isSo_W_1 w μ p2 Q) (1 : Int) μ))) ∧ ((z443 = 13) → ∀ z651 : Int, μ 126 (((40 * p3) + 3).toNat) = z651 → ((-2147483648 ≤ z651 ∧ z651 ≤ 2147483647) ∧ (((40 * p3) + 3) % 40 = 0 → -1 ≤ z651 ∧ z651 ≤ 9) ∧ (((40 * p3) + 3) % 40 = 4 → 0 ≤ z651 ∧ z651 ≤ 20) ∧ (((40 * p3) + 3) % 40 = 5 → 0 ≤ z651 ∧ z651 ≤ 8)) → ∀ z654 : Int, μ 135 (p2.toNat) = z654 → ((-2147483648) ≤ z654 ∧ z654 ≤ 2147483647) → ∀ z657 : Int, μ 134 (p2.toNat) = z657 → ((-2147483648) ≤ z657 ∧ z657 ≤ 2147483647) → WP_X12_related_W w μ z651 z654 z657 (fun z664 _ => (0 ≤ z664 ∧ z664 ≤ 1) → (WJ_X12_isSo_W_1 w μ p2 Q) z664 μ))) ∧ ((z443 = 12) → ∀ z666 : Int, μ 126 (((40 * p3) + 1).toNat) = z666 → ((-2147483648 ≤ z666 ∧ z666 ≤ 2147483647) ∧ (((40 * p3) + 1) % 40 = 0 → -1 ≤ z666 ∧ z666 ≤ 9) ∧ (((40 * p3) + 1) % 40 = 4 → 0 ≤ z666 ∧ z666 ≤ 20) ∧ (((40 * p3) + 1) % 40 = 5 → 0 ≤ z666 ∧ z666 ≤ 8)) → ∀ z669 : Int, μ 135 (p2.toNat) = z669 → ((-2147483648) ≤ z669 ∧ z669 ≤ 2147483647) → ∀ z672 : Int, μ 134 (p2.toNat) = z672 → ((-2147483648) ≤ z672 ∧ z672 ≤ 2147483647) → WP_X12_related_W w μ z666 z669 z672 (fun z679 _ => (0 ≤ z679 ∧ z679 ≤ 1) → (WJ_X12_isSo_W_1 w μ p2 Q) z679 μ))) ∧ ((z443 = 11) → ∀ z681 : Int, μ 135 (p2.toNat) = z681 → ((-2147483648) ≤ z681 ∧ z681 ≤ 2147483647) → ∀ z684 : Int, μ 134 (p2.toNat) = z684 → ((-2147483648) ≤ z684 ∧ z684 ≤ 2147483647) → WP_X12_related_W w μ z439 z681 z684 (fun z691 _ => (0 ≤ z691 ∧ z691 ≤ 1) → (WJ_X12_isSo_W_1 w μ p2 Q) z691 μ))) ∧ ((z443 = 10) → WP_X12_tieWord_W w μ p4 p5 (g1) (fun z697 _ => (16 ≤ z697 ∧ z697 ≤ 19) → ∀ z698 : Int, μ 134 (p2.toNat) = z698 → ((-2147483648) ≤ z698 ∧ z698 ≤ 2147483647) → ((¬ z697 = z698) → (WJ_X12_isSo_W_1 w μ p2 Q) (0 : Int) μ) ∧ ((z697 = z698) → (WJ_X12_isSo_W_1 w μ p2 Q) (1 : Int) μ)))) ∧ ((z443 = 9) → ∀ z705 : Int, μ 134 (p2.toNat) = z705 → ((-2147483648) ≤ z705 ∧ z705 ≤ 2147483647) → ((¬ p5 = z705) → (WJ_X12_isSo_W_1 w μ p2 Q) (0 : Int) μ) ∧ ((p5 = z705) → (WJ_X12_isSo_W_1 w μ p2 Q) (1 : Int) μ))) ∧ ((z443 = 8) → ∀ z711 : Int, μ 134 (p2.toNat) = z711 → ((-2147483648) ≤ z711 ∧ z711 ≤ 2147483647) → WP_X12_marked_W w μ p3 z711 (fun z718 _ => (0 ≤ z718 ∧ z718 ≤ 1) → (WJ_X12_isSo_W_1 w μ p2 Q) z718 μ))) ∧ ((z443 = 6) → WP_X12_waysMatch_W w μ p1 p2 p3 (fun z725 _ => (0 ≤ z725 ∧ z725 ≤ 1) → (WJ_X12_isSo_W_1 w μ p2 Q) z725 μ))) ∧ ((z443 = 4) → ∀ z728 : Int, μ 109 (f_x.toNat) = z728 → (0 ≤ z728 ∧ z728 ≤ 32) → ∀ z731 : Int, μ 135 (p2.toNat) = z731 → ((-2147483648) ≤ z731 ∧ z731 ≤ 2147483647) → ((z728 < z731) → (WJ_X12_isSo_W_1 w μ p2 Q) (0 : Int) μ) ∧ ((z731 ≤ z728) → ∀ z758 : Int, μ 134 (p2.toNat) = z758 → ((-2147483648) ≤ z758 ∧ z758 ≤ 2147483647) → ∀ z761 : Int, μ 108 (f_x.toNat) = z761 → ((-2147483648) ≤ z761 ∧ z761 ≤ 2147483647) → WP_X12_holds_W w μ z758 z731 z761 (fun z768 _ => (0 ≤ z768 ∧ z768 ≤ 1) → ((z768 = 0) → (WJ_X12_isSo_W_1 w μ p2 Q) (0 : Int) μ) ∧ ((¬ z768 = 0) → ∀ z779 : Int, μ 136 (p2.toNat) = z779 → ((-2147483648) ≤ z779 ∧ z779 ≤ 2147483647) → ((z779 < z728) → (WJ_X12_isSo_W_1 w μ p2 Q) (0 : Int) μ) ∧ ((z728 ≤ z779) → (WJ_X12_isSo_W_1 w μ p2 Q) (1 : Int) μ)))))
set_option maxRecDepth 4000 in
set_option maxHeartbeats 4000000 in
theorem c_X12_isSo_W {l : Launch} {D : va_G} {c : Nat → ClassId} {H0 : Heap} {sa : Nat × Nat × (Nat → Int32)} {w : mW} {μ : mM} (hw : mWF w) (hT : mT w μ) {p1 : Int} (hp1 : 0 ≤ p1 ∧ p1 ≤ 11) {p2 : Int} (hp2 : 0 ≤ p2 ∧ p2 ≤ 3899) {p3 : Int} (hp3 : 0 ≤ p3 ∧ p3 ≤ 2099) {p4 : Int} (hp4 : (-2147483648) ≤ p4 ∧ p4 ≤ 2147483647) {p5 : Int} (hp5 : (-2147483648) ≤ p5 ∧ p5 ≤ 2147483647) {g1 : Int} (hg1 : 0 ≤ g1 ∧ g1 ≤ 19) {f_e0 : Int} (q_f_e0 : μ 110 ((2 * g1).toNat) = f_e0) {f_e1 : Int} (q_f_e1 : μ 110 (((2 * g1) + 1).toNat) = f_e1) {f_ties : Int} (q_f_ties : μ 106 6 = f_ties) {f_x : Int} (q_f_x : μ 126 ((40 * p3).toNat) = f_x) (hq0 : g1 < f_ties) (hq1 : (f_e0 = p4 ∧ f_e1 = p5) ∨ (f_e0 = p5 ∧ f_e1 = p4)) (hq2 : 0 ≤ f_x) {Q : Int → mM → Prop} (hQ : WP_X12_isSo_W w μ p1 p2 p3 p4 p5 g1 Q) : sC (gG l D c H0 sa) mX12_isSo 5 0 0 [.ref 106, iv p1, iv p2, iv p3, iv p4, iv p5] (mk w μ) (qI w [106026, 106027, 106028, 106029, 106030, 106031] μ (fun z μ1 => (0 ≤ z ∧ z ≤ 1) ∧ Q z μ1 ∧ True)) := by
  refine sC.of rfl (by decide) (le_t rfl) ?_
  have ht_f_e0 : (0 ≤ f_e0 ∧ f_e0 ≤ 9) := by rw [← q_f_e0]; exact hT 110 110 (A_110 hw) ((2 * g1).toNat)
  have ht_f_e1 : (0 ≤ f_e1 ∧ f_e1 ≤ 9) := by rw [← q_f_e1]; exact hT 110 110 (A_110 hw) (((2 * g1) + 1).toNat)
  have ht_f_ties : (0 ≤ f_ties ∧ f_ties ≤ 20) := by rw [← q_f_ties]; exact hT 106 106 (A_106 hw) 6
  have ht_f_x := rt7 hT (A_126 hw) (vc_X12_copy_1 hp3) q_f_x
  have h1 : (-1) ≤ f_x ∧ f_x ≤ 9 := ht_f_x.2.1 (vc_X12_copy_2 hp3)
  have h2 : 1 ≤ f_ties ∧ f_ties ≤ 20 := (vc_X3_putAttributes_11 hq0 ht_f_ties hg1)
  have h3 : 0 ≤ f_x ∧ f_x ≤ 9 := (vc_X12_isThere_6 hq2 h1)
  refine mr_lvE (lv' := [(0, .ref 106), (1, iv p1), (2, iv p2), (3, iv p3), (4, iv p4), (5, iv p5)]) rfl ?_
  refine sv_aload_n (pc := 0) dX12_isSo_0 rfl rfl ?_
  refine gf_X12_32 (pc := 1) dX12_isSo_1 wF_X12_148 (A_106 hw) hT ?_
  refine mr_bipush (pc := 4) (z := 40) dX12_isSo_4 (by decide) ?_
  refine mr_iload_n (pc := 6) (z := p3) dX12_isSo_6 rfl rfl ?_
  refine mr_imul (pc := 7) (x := 40) (y := p3) dX12_isSo_7 ?_
  refine lk_126 (pc := 8) dX12_isSo_8 (A_126 hw) (rIx (n := 84000) (rMulL (n := 40) (e := 0) (f := 83960) hp3 rfl) rfl) q_f_x ?_
  refine mr_istore (pc := 9) (lv' := [(6, iv f_x), (0, .ref 106), (1, iv p1), (2, iv p2), (3, iv p3), (4, iv p4), (5, iv p5)]) dX12_isSo_9 (by decide) rfl ?_
  refine sv_aload_n (pc := 11) dX12_isSo_11 rfl rfl ?_
  refine gf_X12_32 (pc := 12) dX12_isSo_12 wF_X12_148 (A_106 hw) hT ?_
  refine mr_bipush (pc := 15) (z := 40) dX12_isSo_15 (by decide) ?_
  refine mr_iload_n (pc := 17) (z := p3) dX12_isSo_17 rfl rfl ?_
  refine mr_imul (pc := 18) (x := 40) (y := p3) dX12_isSo_18 ?_
  refine mr_iconst (pc := 19) (z := 4) dX12_isSo_19 ?_
  refine mr_iadd (pc := 20) (x := (40 * p3)) (y := 4) dX12_isSo_20 ?_
  refine la_126 (pc := 21) dX12_isSo_21 (A_126 hw) hT (rIx (n := 84000) (rAdd (e := 4) (f := 83964) (rMulL (n := 40) (e := 0) (f := 83960) hp3 rfl) (rR (x := 4)) rfl) rfl) fun z439 q440 h441 => ?_
  have h442 : 0 ≤ z439 ∧ z439 ≤ 20 := h441.2.2.1 (vc_X12_front_1 hp3)
  refine mr_istore (pc := 22) (lv' := [(8, iv z439), (6, iv f_x), (0, .ref 106), (1, iv p1), (2, iv p2), (3, iv p3), (4, iv p4), (5, iv p5)]) dX12_isSo_22 (by decide) rfl ?_
  refine sv_aload_n (pc := 24) dX12_isSo_24 rfl rfl ?_
  refine gf_X12_45 (pc := 25) dX12_isSo_25 wF_X12_323 (A_106 hw) hT ?_
  refine mr_iload_n (pc := 28) (z := p2) dX12_isSo_28 rfl rfl ?_
  refine la_132 (pc := 29) dX12_isSo_29 (A_132 hw) hT (rIx (n := 3900) hp2 rfl) fun z443 q444 h445 => ?_
  refine mr_iconst (pc := 30) (z := 4) dX12_isSo_30 ?_
  have J581 : ∀ (z575 : Int) (μ577 : mM), (mT w μ577) → (mF [106026, 106027, 106028, 106029, 106030, 106031] w μ μ577) → ((0 ≤ z575 ∧ z575 ≤ 1)) → ((WJ_X12_isSo_W_1 w μ p2 Q) z575 μ577) → sV (gG l D c H0 sa) mX12_isSo (sRm 5 0 0) (sZ (gG l D c H0 sa) 0 0 (qI w [106026, 106027, 106028, 106029, 106030, 106031] μ (fun z μ1 => (0 ≤ z ∧ z ≤ 1) ∧ Q z μ1 ∧ True))) 462 [(0, .ref 106), (2, iv p2), (7, iv z575)] [] (mk w μ577) 0 0 := by
    intro z575 μ577 T578 F579 h576 W582
    refine mr_iload (pc := 462) (z := z575) dX12_isSo_462 rfl ?_
    refine sv_aload_n (pc := 464) dX12_isSo_464 rfl rfl ?_
    refine gf_X12_46 (pc := 465) dX12_isSo_465 wF_X12_326 (A_106 hw) T578 ?_
    refine mr_iload_n (pc := 468) (z := p2) dX12_isSo_468 rfl rfl ?_
    refine la_133 (pc := 469) dX12_isSo_469 (A_133 hw) T578 (rIx (n := 3900) hp2 rfl) fun z583 q584 h585 => ?_
    refine mr_icmp_eq (pc := 470) (tgt := 477) dX12_isSo_470 (by decide) (r32 h576 rfl) (r32 h585 rfl) (fun h586 => ?_) (fun h586 => ?_)
    · refine mr_iconst (pc := 477) (z := 0) dX12_isSo_477 ?_
      exact mr_zret dX12_isSo_478 rfl (rW (c := 0) (d := 1) (rR (x := 0)) rfl) (le_t rfl) (le_t rfl) T578 (mF.call mF.refl F579 rfl) ⟨(rW (c := 0) (d := 1) (rR (x := 0)) rfl), (((W582 h576 T578 F579) z583 q584 h585).1 h586), trivial⟩
    refine mr_iconst (pc := 473) (z := 1) dX12_isSo_473 ?_
    refine sv_goto (pc := 474) (tgt := 478) dX12_isSo_474 (by decide) ?_
    exact mr_zret dX12_isSo_478 rfl (rW (c := 0) (d := 1) (rR (x := 1)) rfl) (le_t rfl) (le_t rfl) T578 (mF.call mF.refl F579 rfl) ⟨(rW (c := 0) (d := 1) (rR (x := 1)) rfl), (((W582 h576 T578 F579) z583 q584 h585).2 h586), trivial⟩
  refine mr_icmp_ne (pc := 31) (tgt := 101) dX12_isSo_31 (by decide) h445 (r32 (rR (x := 4)) rfl) (fun h587 => ?_) (fun h587 => ?_)
  · refine sv_aload_n (pc := 101) dX12_isSo_101 rfl rfl ?_
    refine gf_X12_45 (pc := 102) dX12_isSo_102 wF_X12_323 (A_106 hw) hT ?_
    refine mr_iload_n (pc := 105) (z := p2) dX12_isSo_105 rfl rfl ?_
    refine lk_132 (pc := 106) dX12_isSo_106 (A_132 hw) (rIx (n := 3900) hp2 rfl) q444 ?_
    refine mr_bipush (pc := 107) (z := 6) dX12_isSo_107 (by decide) ?_
    refine mr_icmp_ne (pc := 109) (tgt := 124) dX12_isSo_109 (by decide) h445 (r32 (rR (x := 6)) rfl) (fun h588 => ?_) (fun h588 => ?_)
    · refine sv_aload_n (pc := 124) dX12_isSo_124 rfl rfl ?_
      refine gf_X12_45 (pc := 125) dX12_isSo_125 wF_X12_323 (A_106 hw) hT ?_
      refine mr_iload_n (pc := 128) (z := p2) dX12_isSo_128 rfl rfl ?_
      refine lk_132 (pc := 129) dX12_isSo_129 (A_132 hw) (rIx (n := 3900) hp2 rfl) q444 ?_
      refine mr_bipush (pc := 130) (z := 8) dX12_isSo_130 (by decide) ?_
      refine mr_icmp_ne (pc := 132) (tgt := 151) dX12_isSo_132 (by decide) h445 (r32 (rR (x := 8)) rfl) (fun h589 => ?_) (fun h589 => ?_)
      · refine sv_aload_n (pc := 151) dX12_isSo_151 rfl rfl ?_
        refine gf_X12_45 (pc := 152) dX12_isSo_152 wF_X12_323 (A_106 hw) hT ?_
        refine mr_iload_n (pc := 155) (z := p2) dX12_isSo_155 rfl rfl ?_
        refine lk_132 (pc := 156) dX12_isSo_156 (A_132 hw) (rIx (n := 3900) hp2 rfl) q444 ?_
        refine mr_bipush (pc := 157) (z := 9) dX12_isSo_157 (by decide) ?_
        refine mr_icmp_ne (pc := 159) (tgt := 183) dX12_isSo_159 (by decide) h445 (r32 (rR (x := 9)) rfl) (fun h590 => ?_) (fun h590 => ?_)
        · refine sv_aload_n (pc := 183) dX12_isSo_183 rfl rfl ?_
          refine gf_X12_45 (pc := 184) dX12_isSo_184 wF_X12_323 (A_106 hw) hT ?_
          refine mr_iload_n (pc := 187) (z := p2) dX12_isSo_187 rfl rfl ?_
          refine lk_132 (pc := 188) dX12_isSo_188 (A_132 hw) (rIx (n := 3900) hp2 rfl) q444 ?_
          refine mr_bipush (pc := 189) (z := 10) dX12_isSo_189 (by decide) ?_
          have W591 := ((((((((((hQ f_e0 q_f_e0 ht_f_e0) f_e1 q_f_e1 ht_f_e1) f_ties q_f_ties ht_f_ties) f_x q_f_x ht_f_x) z439 q440 h441) z443 q444 h445).1 h587).1 h588).1 h589).1 h590)
          refine mr_icmp_ne (pc := 191) (tgt := 221) dX12_isSo_191 (by decide) h445 (r32 (rR (x := 10)) rfl) (fun h592 => ?_) (fun h592 => ?_)
          · refine sv_aload_n (pc := 221) dX12_isSo_221 rfl rfl ?_
            refine gf_X12_45 (pc := 222) dX12_isSo_222 wF_X12_323 (A_106 hw) hT ?_
            refine mr_iload_n (pc := 225) (z := p2) dX12_isSo_225 rfl rfl ?_
            refine lk_132 (pc := 226) dX12_isSo_226 (A_132 hw) (rIx (n := 3900) hp2 rfl) q444 ?_
            refine mr_bipush (pc := 227) (z := 11) dX12_isSo_227 (by decide) ?_
            refine mr_icmp_ne (pc := 229) (tgt := 255) dX12_isSo_229 (by decide) h445 (r32 (rR (x := 11)) rfl) (fun h593 => ?_) (fun h593 => ?_)
            · refine sv_aload_n (pc := 255) dX12_isSo_255 rfl rfl ?_
              refine gf_X12_45 (pc := 256) dX12_isSo_256 wF_X12_323 (A_106 hw) hT ?_
              refine mr_iload_n (pc := 259) (z := p2) dX12_isSo_259 rfl rfl ?_
              refine lk_132 (pc := 260) dX12_isSo_260 (A_132 hw) (rIx (n := 3900) hp2 rfl) q444 ?_
              refine mr_bipush (pc := 261) (z := 12) dX12_isSo_261 (by decide) ?_
              refine mr_icmp_ne (pc := 263) (tgt := 298) dX12_isSo_263 (by decide) h445 (r32 (rR (x := 12)) rfl) (fun h594 => ?_) (fun h594 => ?_)
              · refine sv_aload_n (pc := 298) dX12_isSo_298 rfl rfl ?_
                refine gf_X12_45 (pc := 299) dX12_isSo_299 wF_X12_323 (A_106 hw) hT ?_
                refine mr_iload_n (pc := 302) (z := p2) dX12_isSo_302 rfl rfl ?_
                refine lk_132 (pc := 303) dX12_isSo_303 (A_132 hw) (rIx (n := 3900) hp2 rfl) q444 ?_
                refine mr_bipush (pc := 304) (z := 13) dX12_isSo_304 (by decide) ?_
                refine mr_icmp_ne (pc := 306) (tgt := 341) dX12_isSo_306 (by decide) h445 (r32 (rR (x := 13)) rfl) (fun h595 => ?_) (fun h595 => ?_)
                · refine sv_aload_n (pc := 341) dX12_isSo_341 rfl rfl ?_
                  refine gf_X12_45 (pc := 342) dX12_isSo_342 wF_X12_323 (A_106 hw) hT ?_
                  refine mr_iload_n (pc := 345) (z := p2) dX12_isSo_345 rfl rfl ?_
                  refine lk_132 (pc := 346) dX12_isSo_346 (A_132 hw) (rIx (n := 3900) hp2 rfl) q444 ?_
                  refine mr_bipush (pc := 347) (z := 14) dX12_isSo_347 (by decide) ?_
                  refine mr_icmp_ne (pc := 349) (tgt := 382) dX12_isSo_349 (by decide) h445 (r32 (rR (x := 14)) rfl) (fun h596 => ?_) (fun h596 => ?_)
                  · refine sv_aload_n (pc := 382) dX12_isSo_382 rfl rfl ?_
                    refine mr_iload (pc := 383) (z := f_x) dX12_isSo_383 rfl ?_
                    refine mr_iload (pc := 385) (z := z439) dX12_isSo_385 rfl ?_
                    have J604 : ∀ (z602 : Int), (((-2147483648) ≤ z602 ∧ z602 ≤ 2147483647)) → ((WJ_X12_isSo_W_2 w μ p2 Q f_x) z602) → sV (gG l D c H0 sa) mX12_isSo (sRm 5 0 0) (sZ (gG l D c H0 sa) 0 0 (qI w [106026, 106027, 106028, 106029, 106030, 106031] μ (fun z μ1 => (0 ≤ z ∧ z ≤ 1) ∧ Q z μ1 ∧ True))) 409 [(0, .ref 106), (2, iv p2)] [iv z602, iv f_x, .ref 106] (mk w μ) 0 0 := by
                      intro z602 h603 W605
                      refine sv_aload_n (pc := 409) dX12_isSo_409 rfl rfl ?_
                      refine gf_X12_17 (pc := 410) dX12_isSo_410 wF_X12_85 (A_106 hw) hT fun z606 q607 h608 => ?_
                      refine sv_aload_n (pc := 413) dX12_isSo_413 rfl rfl ?_
                      refine gk_X12_17 (pc := 414) dX12_isSo_414 wF_X12_85 (A_106 hw) q607 ?_
                      refine mr_cVI (pc := 417) (c_X12_judged_W hw hT h3 h603 (rW (c := (-2147483648)) (d := 2147483647) h608 rfl) (rW (c := (-2147483648)) (d := 2147483647) h608 rfl) ((W605 h603) z606 q607 h608)) (gOk _ _ _ _ _) dX12_isSo_417 (tX12_judged _ _ _ _ _) ⟨wV_X12_judged, wL_X12_judged⟩ wM_X12_145 (gCX12 _ _ _ _ _) rfl (A_106 hw) rfl ⟨le_t rfl, le_t rfl⟩ ⟨le_t rfl, le_t rfl⟩ rfl (le_t rfl) fun z613 μ609 T610 F611 h612 => ?_
                      refine mr_istore (pc := 420) (lv' := [(9, iv z613), (0, .ref 106), (2, iv p2)]) dX12_isSo_420 (by decide) rfl ?_
                      refine sv_aload_n (pc := 422) dX12_isSo_422 rfl rfl ?_
                      refine gf_X12_47 (pc := 423) dX12_isSo_423 wF_X12_329 (A_106 hw) T610 ?_
                      refine mr_iload_n (pc := 426) (z := p2) dX12_isSo_426 rfl rfl ?_
                      refine la_134 (pc := 427) dX12_isSo_427 (A_134 hw) T610 (rIx (n := 3900) hp2 rfl) fun z614 q615 h616 => ?_
                      refine mr_iload (pc := 428) (z := z613) dX12_isSo_428 rfl ?_
                      refine mr_iconst (pc := 430) (z := 1) dX12_isSo_430 ?_
                      refine mr_icmp_ne (pc := 431) (tgt := 439) dX12_isSo_431 (by decide) (r32 h612.1 rfl) (r32 (rR (x := 1)) rfl) (fun h620 => ?_) (fun h620 => ?_)
                      · refine mr_iload (pc := 439) (z := z613) dX12_isSo_439 rfl ?_
                        refine mr_iconst (pc := 441) (z := 2) dX12_isSo_441 ?_
                        refine mr_icmp_ne (pc := 442) (tgt := 450) dX12_isSo_442 (by decide) (r32 h612.1 rfl) (r32 (rR (x := 2)) rfl) (fun h623 => ?_) (fun h623 => ?_)
                        · have h624 : 0 ≤ z613 ∧ z613 ≤ 1 := (vc_X9_partnerRole_1 h623 h620 h612.1)
                          refine mr_bipush (pc := 450) (z := 22) dX12_isSo_450 (by decide) ?_
                          refine mr_icmp_ne (pc := 452) (tgt := 459) dX12_isSo_452 (by decide) h616 (r32 (rR (x := 22)) rfl) (fun h626 => ?_) (fun h626 => ?_)
                          · refine mr_iconst (pc := 459) (z := 0) dX12_isSo_459 ?_
                            refine mr_istore (pc := 460) (lv' := [(7, iv 0), (9, iv z613), (0, .ref 106), (2, iv p2)]) dX12_isSo_460 (by decide) rfl ?_
                            refine mr_lvS (lv' := [(0, .ref 106), (2, iv p2), (7, iv 0)]) (List.forall_mem_cons.mpr ⟨rfl, List.forall_mem_cons.mpr ⟨rfl, List.forall_mem_cons.mpr ⟨rfl, fun _ h => absurd h List.not_mem_nil⟩⟩⟩) ?_
                            exact J581 0 μ609 T610 (mF.call mF.refl F611 rfl) (rW (c := 0) (d := 1) (rR (x := 0)) rfl) ((((((h612.2.1 T610 F611) h612.1) z614 q615 h616).1 h620).1 h623).1 h626)
                          have h627 : 22 ≤ z614 ∧ z614 ≤ 22 := (vc_X12_isSo_7 h626 h616)
                          refine mr_iconst (pc := 455) (z := 1) dX12_isSo_455 ?_
                          refine sv_goto (pc := 456) (tgt := 460) dX12_isSo_456 (by decide) ?_
                          refine mr_istore (pc := 460) (lv' := [(7, iv 1), (9, iv z613), (0, .ref 106), (2, iv p2)]) dX12_isSo_460 (by decide) rfl ?_
                          refine mr_lvS (lv' := [(0, .ref 106), (2, iv p2), (7, iv 1)]) (List.forall_mem_cons.mpr ⟨rfl, List.forall_mem_cons.mpr ⟨rfl, List.forall_mem_cons.mpr ⟨rfl, fun _ h => absurd h List.not_mem_nil⟩⟩⟩) ?_
                          exact J581 1 μ609 T610 (mF.call mF.refl F611 rfl) (rW (c := 0) (d := 1) (rR (x := 1)) rfl) ((((((h612.2.1 T610 F611) h612.1) z614 q615 h616).1 h620).1 h623).2 h626)
                        have h628 : 2 ≤ z613 ∧ z613 ≤ 2 := (vc_X9_partnerRole_3 h623 h620 h612.1)
                        refine mr_bipush (pc := 445) (z := 21) dX12_isSo_445 (by decide) ?_
                        refine sv_goto (pc := 447) (tgt := 452) dX12_isSo_447 (by decide) ?_
                        refine mr_icmp_ne (pc := 452) (tgt := 459) dX12_isSo_452 (by decide) h616 (r32 (rR (x := 21)) rfl) (fun h630 => ?_) (fun h630 => ?_)
                        · refine mr_iconst (pc := 459) (z := 0) dX12_isSo_459 ?_
                          refine mr_istore (pc := 460) (lv' := [(7, iv 0), (9, iv z613), (0, .ref 106), (2, iv p2)]) dX12_isSo_460 (by decide) rfl ?_
                          refine mr_lvS (lv' := [(0, .ref 106), (2, iv p2), (7, iv 0)]) (List.forall_mem_cons.mpr ⟨rfl, List.forall_mem_cons.mpr ⟨rfl, List.forall_mem_cons.mpr ⟨rfl, fun _ h => absurd h List.not_mem_nil⟩⟩⟩) ?_
                          exact J581 0 μ609 T610 (mF.call mF.refl F611 rfl) (rW (c := 0) (d := 1) (rR (x := 0)) rfl) ((((((h612.2.1 T610 F611) h612.1) z614 q615 h616).1 h620).2 h623).1 h630)
                        have h631 : 21 ≤ z614 ∧ z614 ≤ 21 := (vc_X12_isSo_9 h630 h616)
                        refine mr_iconst (pc := 455) (z := 1) dX12_isSo_455 ?_
                        refine sv_goto (pc := 456) (tgt := 460) dX12_isSo_456 (by decide) ?_
                        refine mr_istore (pc := 460) (lv' := [(7, iv 1), (9, iv z613), (0, .ref 106), (2, iv p2)]) dX12_isSo_460 (by decide) rfl ?_
                        refine mr_lvS (lv' := [(0, .ref 106), (2, iv p2), (7, iv 1)]) (List.forall_mem_cons.mpr ⟨rfl, List.forall_mem_cons.mpr ⟨rfl, List.forall_mem_cons.mpr ⟨rfl, fun _ h => absurd h List.not_mem_nil⟩⟩⟩) ?_
                        exact J581 1 μ609 T610 (mF.call mF.refl F611 rfl) (rW (c := 0) (d := 1) (rR (x := 1)) rfl) ((((((h612.2.1 T610 F611) h612.1) z614 q615 h616).1 h620).2 h623).2 h630)
                      have h632 : 1 ≤ z613 ∧ z613 ≤ 1 := (vc_X9_partnerRole_4 h620 h612.1)
                      refine mr_bipush (pc := 434) (z := 20) dX12_isSo_434 (by decide) ?_
                      refine sv_goto (pc := 436) (tgt := 452) dX12_isSo_436 (by decide) ?_
                      refine mr_icmp_ne (pc := 452) (tgt := 459) dX12_isSo_452 (by decide) h616 (r32 (rR (x := 20)) rfl) (fun h634 => ?_) (fun h634 => ?_)
                      · refine mr_iconst (pc := 459) (z := 0) dX12_isSo_459 ?_
                        refine mr_istore (pc := 460) (lv' := [(7, iv 0), (9, iv z613), (0, .ref 106), (2, iv p2)]) dX12_isSo_460 (by decide) rfl ?_
                        refine mr_lvS (lv' := [(0, .ref 106), (2, iv p2), (7, iv 0)]) (List.forall_mem_cons.mpr ⟨rfl, List.forall_mem_cons.mpr ⟨rfl, List.forall_mem_cons.mpr ⟨rfl, fun _ h => absurd h List.not_mem_nil⟩⟩⟩) ?_
                        exact J581 0 μ609 T610 (mF.call mF.refl F611 rfl) (rW (c := 0) (d := 1) (rR (x := 0)) rfl) (((((h612.2.1 T610 F611) h612.1) z614 q615 h616).2 h620).1 h634)
                      have h635 : 20 ≤ z614 ∧ z614 ≤ 20 := (vc_X12_isSo_11 h634 h616)
                      refine mr_iconst (pc := 455) (z := 1) dX12_isSo_455 ?_
                      refine sv_goto (pc := 456) (tgt := 460) dX12_isSo_456 (by decide) ?_
                      refine mr_istore (pc := 460) (lv' := [(7, iv 1), (9, iv z613), (0, .ref 106), (2, iv p2)]) dX12_isSo_460 (by decide) rfl ?_
                      refine mr_lvS (lv' := [(0, .ref 106), (2, iv p2), (7, iv 1)]) (List.forall_mem_cons.mpr ⟨rfl, List.forall_mem_cons.mpr ⟨rfl, List.forall_mem_cons.mpr ⟨rfl, fun _ h => absurd h List.not_mem_nil⟩⟩⟩) ?_
                      exact J581 1 μ609 T610 (mF.call mF.refl F611 rfl) (rW (c := 0) (d := 1) (rR (x := 1)) rfl) (((((h612.2.1 T610 F611) h612.1) z614 q615 h616).2 h620).2 h634)
                    refine mr_if_ne (pc := 387) (tgt := 395) dX12_isSo_387 (by decide) (r32 h442 rfl) (fun h636 => ?_) (fun h636 => ?_)
                    · have h637 : 1 ≤ z439 ∧ z439 ≤ 20 := (vc_X12_waysMatch_2 h636 h442)
                      refine sv_aload_n (pc := 395) dX12_isSo_395 rfl rfl ?_
                      refine gf_X12_32 (pc := 396) dX12_isSo_396 wF_X12_148 (A_106 hw) hT ?_
                      refine mr_bipush (pc := 399) (z := 40) dX12_isSo_399 (by decide) ?_
                      refine mr_iload_n (pc := 401) (z := p3) dX12_isSo_401 rfl rfl ?_
                      refine mr_imul (pc := 402) (x := 40) (y := p3) dX12_isSo_402 ?_
                      refine mr_iconst (pc := 403) (z := 5) dX12_isSo_403 ?_
                      refine mr_iadd (pc := 404) (x := (40 * p3)) (y := 5) dX12_isSo_404 ?_
                      refine mr_iload (pc := 405) (z := z439) dX12_isSo_405 rfl ?_
                      refine mr_iadd (pc := 407) (x := ((40 * p3) + 5)) (y := z439) dX12_isSo_407 ?_
                      refine la_126 (pc := 408) dX12_isSo_408 (A_126 hw) hT (rIx (n := 84000) (rAdd (e := 6) (f := 83985) (rAdd (e := 5) (f := 83965) (rMulL (n := 40) (e := 0) (f := 83960) hp3 rfl) (rR (x := 5)) rfl) h637 rfl) rfl) fun z638 q639 h640 => ?_
                      refine mr_lvS (lv' := [(0, .ref 106), (2, iv p2)]) (List.forall_mem_cons.mpr ⟨rfl, List.forall_mem_cons.mpr ⟨rfl, fun _ h => absurd h List.not_mem_nil⟩⟩) ?_
                      exact J604 z638 h640.1 (((((((W591.1 h592).1 h593).1 h594).1 h595).1 h596).1 h636) z638 q639 h640)
                    have h641 : 0 ≤ z439 ∧ z439 ≤ 0 := (vc_X12_waysMatch_23 h636 h442)
                    refine mr_iload (pc := 390) (z := p4) dX12_isSo_390 rfl ?_
                    refine sv_goto (pc := 392) (tgt := 409) dX12_isSo_392 (by decide) ?_
                    refine mr_lvS (lv' := [(0, .ref 106), (2, iv p2)]) (List.forall_mem_cons.mpr ⟨rfl, List.forall_mem_cons.mpr ⟨rfl, fun _ h => absurd h List.not_mem_nil⟩⟩) ?_
                    exact J604 p4 hp4 ((((((W591.1 h592).1 h593).1 h594).1 h595).1 h596).2 h636)
                  have h642 : 14 ≤ z443 ∧ z443 ≤ 14 := (vc_X12_isSo_14 h596 h588 h589 h590 h592 h593 h594 h595 h445)
                  refine sv_aload_n (pc := 352) dX12_isSo_352 rfl rfl ?_
                  refine gf_X12_32 (pc := 353) dX12_isSo_353 wF_X12_148 (A_106 hw) hT ?_
                  refine mr_bipush (pc := 356) (z := 40) dX12_isSo_356 (by decide) ?_
                  refine mr_iload_n (pc := 358) (z := p3) dX12_isSo_358 rfl rfl ?_
                  refine mr_imul (pc := 359) (x := 40) (y := p3) dX12_isSo_359 ?_
                  refine mr_iconst (pc := 360) (z := 2) dX12_isSo_360 ?_
                  refine mr_iadd (pc := 361) (x := (40 * p3)) (y := 2) dX12_isSo_361 ?_
                  refine la_126 (pc := 362) dX12_isSo_362 (A_126 hw) hT (rIx (n := 84000) (rAdd (e := 2) (f := 83962) (rMulL (n := 40) (e := 0) (f := 83960) hp3 rfl) (rR (x := 2)) rfl) rfl) fun z643 q644 h645 => ?_
                  refine sv_aload_n (pc := 363) dX12_isSo_363 rfl rfl ?_
                  refine gf_X12_47 (pc := 364) dX12_isSo_364 wF_X12_329 (A_106 hw) hT ?_
                  refine mr_iload_n (pc := 367) (z := p2) dX12_isSo_367 rfl rfl ?_
                  refine la_134 (pc := 368) dX12_isSo_368 (A_134 hw) hT (rIx (n := 3900) hp2 rfl) fun z646 q647 h648 => ?_
                  refine mr_icmp_ne (pc := 369) (tgt := 376) dX12_isSo_369 (by decide) h645.1 h648 (fun h649 => ?_) (fun h649 => ?_)
                  · refine mr_iconst (pc := 376) (z := 0) dX12_isSo_376 ?_
                    refine mr_istore (pc := 377) (lv' := [(7, iv 0), (8, iv z439), (6, iv f_x), (0, .ref 106), (1, iv p1), (2, iv p2), (3, iv p3), (4, iv p4), (5, iv p5)]) dX12_isSo_377 (by decide) rfl ?_
                    refine sv_goto (pc := 379) (tgt := 462) dX12_isSo_379 (by decide) ?_
                    refine mr_lvS (lv' := [(0, .ref 106), (2, iv p2), (7, iv 0)]) (List.forall_mem_cons.mpr ⟨rfl, List.forall_mem_cons.mpr ⟨rfl, List.forall_mem_cons.mpr ⟨rfl, fun _ h => absurd h List.not_mem_nil⟩⟩⟩) ?_
                    exact J581 0 μ hT mF.refl (rW (c := 0) (d := 1) (rR (x := 0)) rfl) ((((((((W591.1 h592).1 h593).1 h594).1 h595).2 h596) z643 q644 h645) z646 q647 h648).1 h649)
                  refine mr_iconst (pc := 372) (z := 1) dX12_isSo_372 ?_
                  refine sv_goto (pc := 373) (tgt := 377) dX12_isSo_373 (by decide) ?_
                  refine mr_istore (pc := 377) (lv' := [(7, iv 1), (8, iv z439), (6, iv f_x), (0, .ref 106), (1, iv p1), (2, iv p2), (3, iv p3), (4, iv p4), (5, iv p5)]) dX12_isSo_377 (by decide) rfl ?_
                  refine sv_goto (pc := 379) (tgt := 462) dX12_isSo_379 (by decide) ?_
                  refine mr_lvS (lv' := [(0, .ref 106), (2, iv p2), (7, iv 1)]) (List.forall_mem_cons.mpr ⟨rfl, List.forall_mem_cons.mpr ⟨rfl, List.forall_mem_cons.mpr ⟨rfl, fun _ h => absurd h List.not_mem_nil⟩⟩⟩) ?_
                  exact J581 1 μ hT mF.refl (rW (c := 0) (d := 1) (rR (x := 1)) rfl) ((((((((W591.1 h592).1 h593).1 h594).1 h595).2 h596) z643 q644 h645) z646 q647 h648).2 h649)
                have h650 : 13 ≤ z443 ∧ z443 ≤ 13 := (vc_X12_isSo_15 h595 h587 h588 h589 h590 h592 h593 h594 h445)
                refine sv_aload_n (pc := 309) dX12_isSo_309 rfl rfl ?_
                refine sv_aload_n (pc := 310) dX12_isSo_310 rfl rfl ?_
                refine gf_X12_32 (pc := 311) dX12_isSo_311 wF_X12_148 (A_106 hw) hT ?_
                refine mr_bipush (pc := 314) (z := 40) dX12_isSo_314 (by decide) ?_
                refine mr_iload_n (pc := 316) (z := p3) dX12_isSo_316 rfl rfl ?_
                refine mr_imul (pc := 317) (x := 40) (y := p3) dX12_isSo_317 ?_
                refine mr_iconst (pc := 318) (z := 3) dX12_isSo_318 ?_
                refine mr_iadd (pc := 319) (x := (40 * p3)) (y := 3) dX12_isSo_319 ?_
                refine la_126 (pc := 320) dX12_isSo_320 (A_126 hw) hT (rIx (n := 84000) (rAdd (e := 3) (f := 83963) (rMulL (n := 40) (e := 0) (f := 83960) hp3 rfl) (rR (x := 3)) rfl) rfl) fun z651 q652 h653 => ?_
                refine sv_aload_n (pc := 321) dX12_isSo_321 rfl rfl ?_
                refine gf_X12_48 (pc := 322) dX12_isSo_322 wF_X12_336 (A_106 hw) hT ?_
                refine mr_iload_n (pc := 325) (z := p2) dX12_isSo_325 rfl rfl ?_
                refine la_135 (pc := 326) dX12_isSo_326 (A_135 hw) hT (rIx (n := 3900) hp2 rfl) fun z654 q655 h656 => ?_
                refine sv_aload_n (pc := 327) dX12_isSo_327 rfl rfl ?_
                refine gf_X12_47 (pc := 328) dX12_isSo_328 wF_X12_329 (A_106 hw) hT ?_
                refine mr_iload_n (pc := 331) (z := p2) dX12_isSo_331 rfl rfl ?_
                refine la_134 (pc := 332) dX12_isSo_332 (A_134 hw) hT (rIx (n := 3900) hp2 rfl) fun z657 q658 h659 => ?_
                refine mr_cVP (pc := 333) (c_X12_related_W hw hT h653.1 h656 h659 (((((((W591.1 h592).1 h593).1 h594).2 h595) z651 q652 h653) z654 q655 h656) z657 q658 h659)) (gOk _ _ _ _ _) dX12_isSo_333 (tX12_related _ _ _ _ _) ⟨wV_X12_related, wL_X12_related⟩ wM_X12_385 (gCX12 _ _ _ _ _) rfl (A_106 hw) rfl ⟨le_t rfl, le_t rfl⟩ ⟨le_t rfl, le_t rfl⟩ rfl (le_t rfl) fun z664 h663 => ?_
                refine mr_istore (pc := 336) (lv' := [(7, iv z664), (8, iv z439), (6, iv f_x), (0, .ref 106), (1, iv p1), (2, iv p2), (3, iv p3), (4, iv p4), (5, iv p5)]) dX12_isSo_336 (by decide) rfl ?_
                refine sv_goto (pc := 338) (tgt := 462) dX12_isSo_338 (by decide) ?_
                refine mr_lvS (lv' := [(0, .ref 106), (2, iv p2), (7, iv z664)]) (List.forall_mem_cons.mpr ⟨rfl, List.forall_mem_cons.mpr ⟨rfl, List.forall_mem_cons.mpr ⟨rfl, fun _ h => absurd h List.not_mem_nil⟩⟩⟩) ?_
                exact J581 z664 μ hT mF.refl h663.1 (h663.2.1 h663.1)
              have h665 : 12 ≤ z443 ∧ z443 ≤ 12 := (vc_X12_isSo_16 h594 h587 h588 h589 h590 h592 h593 h445)
              refine sv_aload_n (pc := 266) dX12_isSo_266 rfl rfl ?_
              refine sv_aload_n (pc := 267) dX12_isSo_267 rfl rfl ?_
              refine gf_X12_32 (pc := 268) dX12_isSo_268 wF_X12_148 (A_106 hw) hT ?_
              refine mr_bipush (pc := 271) (z := 40) dX12_isSo_271 (by decide) ?_
              refine mr_iload_n (pc := 273) (z := p3) dX12_isSo_273 rfl rfl ?_
              refine mr_imul (pc := 274) (x := 40) (y := p3) dX12_isSo_274 ?_
              refine mr_iconst (pc := 275) (z := 1) dX12_isSo_275 ?_
              refine mr_iadd (pc := 276) (x := (40 * p3)) (y := 1) dX12_isSo_276 ?_
              refine la_126 (pc := 277) dX12_isSo_277 (A_126 hw) hT (rIx (n := 84000) (rAdd (e := 1) (f := 83961) (rMulL (n := 40) (e := 0) (f := 83960) hp3 rfl) (rR (x := 1)) rfl) rfl) fun z666 q667 h668 => ?_
              refine sv_aload_n (pc := 278) dX12_isSo_278 rfl rfl ?_
              refine gf_X12_48 (pc := 279) dX12_isSo_279 wF_X12_336 (A_106 hw) hT ?_
              refine mr_iload_n (pc := 282) (z := p2) dX12_isSo_282 rfl rfl ?_
              refine la_135 (pc := 283) dX12_isSo_283 (A_135 hw) hT (rIx (n := 3900) hp2 rfl) fun z669 q670 h671 => ?_
              refine sv_aload_n (pc := 284) dX12_isSo_284 rfl rfl ?_
              refine gf_X12_47 (pc := 285) dX12_isSo_285 wF_X12_329 (A_106 hw) hT ?_
              refine mr_iload_n (pc := 288) (z := p2) dX12_isSo_288 rfl rfl ?_
              refine la_134 (pc := 289) dX12_isSo_289 (A_134 hw) hT (rIx (n := 3900) hp2 rfl) fun z672 q673 h674 => ?_
              refine mr_cVP (pc := 290) (c_X12_related_W hw hT h668.1 h671 h674 ((((((W591.1 h592).1 h593).2 h594) z666 q667 h668) z669 q670 h671) z672 q673 h674)) (gOk _ _ _ _ _) dX12_isSo_290 (tX12_related _ _ _ _ _) ⟨wV_X12_related, wL_X12_related⟩ wM_X12_385 (gCX12 _ _ _ _ _) rfl (A_106 hw) rfl ⟨le_t rfl, le_t rfl⟩ ⟨le_t rfl, le_t rfl⟩ rfl (le_t rfl) fun z679 h678 => ?_
              refine mr_istore (pc := 293) (lv' := [(7, iv z679), (8, iv z439), (6, iv f_x), (0, .ref 106), (1, iv p1), (2, iv p2), (3, iv p3), (4, iv p4), (5, iv p5)]) dX12_isSo_293 (by decide) rfl ?_
              refine sv_goto (pc := 295) (tgt := 462) dX12_isSo_295 (by decide) ?_
              refine mr_lvS (lv' := [(0, .ref 106), (2, iv p2), (7, iv z679)]) (List.forall_mem_cons.mpr ⟨rfl, List.forall_mem_cons.mpr ⟨rfl, List.forall_mem_cons.mpr ⟨rfl, fun _ h => absurd h List.not_mem_nil⟩⟩⟩) ?_
              exact J581 z679 μ hT mF.refl h678.1 (h678.2.1 h678.1)
            have h680 : 11 ≤ z443 ∧ z443 ≤ 11 := (vc_X12_isSo_17 h593 h587 h588 h589 h590 h592 h445)
            refine sv_aload_n (pc := 232) dX12_isSo_232 rfl rfl ?_
            refine mr_iload (pc := 233) (z := z439) dX12_isSo_233 rfl ?_
            refine sv_aload_n (pc := 235) dX12_isSo_235 rfl rfl ?_
            refine gf_X12_48 (pc := 236) dX12_isSo_236 wF_X12_336 (A_106 hw) hT ?_
            refine mr_iload_n (pc := 239) (z := p2) dX12_isSo_239 rfl rfl ?_
            refine la_135 (pc := 240) dX12_isSo_240 (A_135 hw) hT (rIx (n := 3900) hp2 rfl) fun z681 q682 h683 => ?_
            refine sv_aload_n (pc := 241) dX12_isSo_241 rfl rfl ?_
            refine gf_X12_47 (pc := 242) dX12_isSo_242 wF_X12_329 (A_106 hw) hT ?_
            refine mr_iload_n (pc := 245) (z := p2) dX12_isSo_245 rfl rfl ?_
            refine la_134 (pc := 246) dX12_isSo_246 (A_134 hw) hT (rIx (n := 3900) hp2 rfl) fun z684 q685 h686 => ?_
            refine mr_cVP (pc := 247) (c_X12_related_W hw hT (rW (c := (-2147483648)) (d := 2147483647) h442 rfl) h683 h686 ((((W591.1 h592).2 h593) z681 q682 h683) z684 q685 h686)) (gOk _ _ _ _ _) dX12_isSo_247 (tX12_related _ _ _ _ _) ⟨wV_X12_related, wL_X12_related⟩ wM_X12_385 (gCX12 _ _ _ _ _) rfl (A_106 hw) rfl ⟨le_t rfl, le_t rfl⟩ ⟨le_t rfl, le_t rfl⟩ rfl (le_t rfl) fun z691 h690 => ?_
            refine mr_istore (pc := 250) (lv' := [(7, iv z691), (8, iv z439), (6, iv f_x), (0, .ref 106), (1, iv p1), (2, iv p2), (3, iv p3), (4, iv p4), (5, iv p5)]) dX12_isSo_250 (by decide) rfl ?_
            refine sv_goto (pc := 252) (tgt := 462) dX12_isSo_252 (by decide) ?_
            refine mr_lvS (lv' := [(0, .ref 106), (2, iv p2), (7, iv z691)]) (List.forall_mem_cons.mpr ⟨rfl, List.forall_mem_cons.mpr ⟨rfl, List.forall_mem_cons.mpr ⟨rfl, fun _ h => absurd h List.not_mem_nil⟩⟩⟩) ?_
            exact J581 z691 μ hT mF.refl h690.1 (h690.2.1 h690.1)
          have h692 : 10 ≤ z443 ∧ z443 ≤ 10 := (vc_X12_isSo_18 h592 h587 h588 h589 h590 h445)
          refine sv_aload_n (pc := 194) dX12_isSo_194 rfl rfl ?_
          refine mr_iload (pc := 195) (z := p4) dX12_isSo_195 rfl ?_
          refine mr_iload (pc := 197) (z := p5) dX12_isSo_197 rfl ?_
          refine mr_cVP (pc := 199) (c_X12_tieWord_W hw hT hp4 hp5 hg1 q_f_e0 q_f_e1 q_f_ties (vc_X12_tieWord_2 hq0 h2 hg1) (vc_X12_tieWord_3 hq1 ht_f_e0 ht_f_e1 hp4 hp5) (W591.2 h592)) (gOk _ _ _ _ _) dX12_isSo_199 (tX12_tieWord _ _ _ _ _) ⟨wV_X12_tieWord, wL_X12_tieWord⟩ wM_X12_382 (gCX12 _ _ _ _ _) rfl (A_106 hw) rfl ⟨le_t rfl, le_t rfl⟩ ⟨le_t rfl, le_t rfl⟩ rfl (le_t rfl) fun z697 h696 => ?_
          refine sv_aload_n (pc := 202) dX12_isSo_202 rfl rfl ?_
          refine gf_X12_47 (pc := 203) dX12_isSo_203 wF_X12_329 (A_106 hw) hT ?_
          refine mr_iload_n (pc := 206) (z := p2) dX12_isSo_206 rfl rfl ?_
          refine la_134 (pc := 207) dX12_isSo_207 (A_134 hw) hT (rIx (n := 3900) hp2 rfl) fun z698 q699 h700 => ?_
          refine mr_icmp_ne (pc := 208) (tgt := 215) dX12_isSo_208 (by decide) (r32 h696.1 rfl) h700 (fun h702 => ?_) (fun h702 => ?_)
          · refine mr_iconst (pc := 215) (z := 0) dX12_isSo_215 ?_
            refine mr_istore (pc := 216) (lv' := [(7, iv 0), (8, iv z439), (6, iv f_x), (0, .ref 106), (1, iv p1), (2, iv p2), (3, iv p3), (4, iv p4), (5, iv p5)]) dX12_isSo_216 (by decide) rfl ?_
            refine sv_goto (pc := 218) (tgt := 462) dX12_isSo_218 (by decide) ?_
            refine mr_lvS (lv' := [(0, .ref 106), (2, iv p2), (7, iv 0)]) (List.forall_mem_cons.mpr ⟨rfl, List.forall_mem_cons.mpr ⟨rfl, List.forall_mem_cons.mpr ⟨rfl, fun _ h => absurd h List.not_mem_nil⟩⟩⟩) ?_
            exact J581 0 μ hT mF.refl (rW (c := 0) (d := 1) (rR (x := 0)) rfl) (((h696.2.1 h696.1) z698 q699 h700).1 h702)
          have h703 : 16 ≤ z698 ∧ z698 ≤ 19 := (vc_X12_isSo_21 h702 h696.1 h700)
          refine mr_iconst (pc := 211) (z := 1) dX12_isSo_211 ?_
          refine sv_goto (pc := 212) (tgt := 216) dX12_isSo_212 (by decide) ?_
          refine mr_istore (pc := 216) (lv' := [(7, iv 1), (8, iv z439), (6, iv f_x), (0, .ref 106), (1, iv p1), (2, iv p2), (3, iv p3), (4, iv p4), (5, iv p5)]) dX12_isSo_216 (by decide) rfl ?_
          refine sv_goto (pc := 218) (tgt := 462) dX12_isSo_218 (by decide) ?_
          refine mr_lvS (lv' := [(0, .ref 106), (2, iv p2), (7, iv 1)]) (List.forall_mem_cons.mpr ⟨rfl, List.forall_mem_cons.mpr ⟨rfl, List.forall_mem_cons.mpr ⟨rfl, fun _ h => absurd h List.not_mem_nil⟩⟩⟩) ?_
          exact J581 1 μ hT mF.refl (rW (c := 0) (d := 1) (rR (x := 1)) rfl) (((h696.2.1 h696.1) z698 q699 h700).2 h702)
        have h704 : 9 ≤ z443 ∧ z443 ≤ 9 := (vc_X12_isSo_22 h590 h587 h588 h589 h445)
        refine mr_iload (pc := 162) (z := p5) dX12_isSo_162 rfl ?_
        refine sv_aload_n (pc := 164) dX12_isSo_164 rfl rfl ?_
        refine gf_X12_47 (pc := 165) dX12_isSo_165 wF_X12_329 (A_106 hw) hT ?_
        refine mr_iload_n (pc := 168) (z := p2) dX12_isSo_168 rfl rfl ?_
        refine la_134 (pc := 169) dX12_isSo_169 (A_134 hw) hT (rIx (n := 3900) hp2 rfl) fun z705 q706 h707 => ?_
        have W708 := (((((((((((hQ f_e0 q_f_e0 ht_f_e0) f_e1 q_f_e1 ht_f_e1) f_ties q_f_ties ht_f_ties) f_x q_f_x ht_f_x) z439 q440 h441) z443 q444 h445).1 h587).1 h588).1 h589).2 h590) z705 q706 h707)
        refine mr_icmp_ne (pc := 170) (tgt := 177) dX12_isSo_170 (by decide) hp5 h707 (fun h709 => ?_) (fun h709 => ?_)
        · refine mr_iconst (pc := 177) (z := 0) dX12_isSo_177 ?_
          refine mr_istore (pc := 178) (lv' := [(7, iv 0), (8, iv z439), (6, iv f_x), (0, .ref 106), (1, iv p1), (2, iv p2), (3, iv p3), (4, iv p4), (5, iv p5)]) dX12_isSo_178 (by decide) rfl ?_
          refine sv_goto (pc := 180) (tgt := 462) dX12_isSo_180 (by decide) ?_
          refine mr_lvS (lv' := [(0, .ref 106), (2, iv p2), (7, iv 0)]) (List.forall_mem_cons.mpr ⟨rfl, List.forall_mem_cons.mpr ⟨rfl, List.forall_mem_cons.mpr ⟨rfl, fun _ h => absurd h List.not_mem_nil⟩⟩⟩) ?_
          exact J581 0 μ hT mF.refl (rW (c := 0) (d := 1) (rR (x := 0)) rfl) (W708.1 h709)
        refine mr_iconst (pc := 173) (z := 1) dX12_isSo_173 ?_
        refine sv_goto (pc := 174) (tgt := 178) dX12_isSo_174 (by decide) ?_
        refine mr_istore (pc := 178) (lv' := [(7, iv 1), (8, iv z439), (6, iv f_x), (0, .ref 106), (1, iv p1), (2, iv p2), (3, iv p3), (4, iv p4), (5, iv p5)]) dX12_isSo_178 (by decide) rfl ?_
        refine sv_goto (pc := 180) (tgt := 462) dX12_isSo_180 (by decide) ?_
        refine mr_lvS (lv' := [(0, .ref 106), (2, iv p2), (7, iv 1)]) (List.forall_mem_cons.mpr ⟨rfl, List.forall_mem_cons.mpr ⟨rfl, List.forall_mem_cons.mpr ⟨rfl, fun _ h => absurd h List.not_mem_nil⟩⟩⟩) ?_
        exact J581 1 μ hT mF.refl (rW (c := 0) (d := 1) (rR (x := 1)) rfl) (W708.2 h709)
      have h710 : 8 ≤ z443 ∧ z443 ≤ 8 := (vc_X12_isSo_23 h589 h587 h588 h445)
      refine sv_aload_n (pc := 135) dX12_isSo_135 rfl rfl ?_
      refine mr_iload_n (pc := 136) (z := p3) dX12_isSo_136 rfl rfl ?_
      refine sv_aload_n (pc := 137) dX12_isSo_137 rfl rfl ?_
      refine gf_X12_47 (pc := 138) dX12_isSo_138 wF_X12_329 (A_106 hw) hT ?_
      refine mr_iload_n (pc := 141) (z := p2) dX12_isSo_141 rfl rfl ?_
      refine la_134 (pc := 142) dX12_isSo_142 (A_134 hw) hT (rIx (n := 3900) hp2 rfl) fun z711 q712 h713 => ?_
      have W719 := ((((((((((hQ f_e0 q_f_e0 ht_f_e0) f_e1 q_f_e1 ht_f_e1) f_ties q_f_ties ht_f_ties) f_x q_f_x ht_f_x) z439 q440 h441) z443 q444 h445).1 h587).1 h588).2 h589) z711 q712 h713)
      refine mr_cVP (pc := 143) (c_X12_marked_W hw hT hp3 h713 W719) (gOk _ _ _ _ _) dX12_isSo_143 (tX12_marked _ _ _ _ _) ⟨wV_X12_marked, wL_X12_marked⟩ wM_X12_154 (gCX12 _ _ _ _ _) rfl (A_106 hw) rfl ⟨le_t rfl, le_t rfl⟩ ⟨le_t rfl, le_t rfl⟩ rfl (le_t rfl) fun z718 h717 => ?_
      refine mr_istore (pc := 146) (lv' := [(7, iv z718), (8, iv z439), (6, iv f_x), (0, .ref 106), (1, iv p1), (2, iv p2), (3, iv p3), (4, iv p4), (5, iv p5)]) dX12_isSo_146 (by decide) rfl ?_
      refine sv_goto (pc := 148) (tgt := 462) dX12_isSo_148 (by decide) ?_
      refine mr_lvS (lv' := [(0, .ref 106), (2, iv p2), (7, iv z718)]) (List.forall_mem_cons.mpr ⟨rfl, List.forall_mem_cons.mpr ⟨rfl, List.forall_mem_cons.mpr ⟨rfl, fun _ h => absurd h List.not_mem_nil⟩⟩⟩) ?_
      exact J581 z718 μ hT mF.refl h717.1 (h717.2.1 h717.1)
    have h720 : 6 ≤ z443 ∧ z443 ≤ 6 := (vc_X12_isSo_24 h588 h587 h445)
    refine sv_aload_n (pc := 112) dX12_isSo_112 rfl rfl ?_
    refine mr_iload_n (pc := 113) (z := p1) dX12_isSo_113 rfl rfl ?_
    refine mr_iload_n (pc := 114) (z := p2) dX12_isSo_114 rfl rfl ?_
    refine mr_iload_n (pc := 115) (z := p3) dX12_isSo_115 rfl rfl ?_
    have W726 := ((((((((hQ f_e0 q_f_e0 ht_f_e0) f_e1 q_f_e1 ht_f_e1) f_ties q_f_ties ht_f_ties) f_x q_f_x ht_f_x) z439 q440 h441) z443 q444 h445).1 h587).2 h588)
    refine mr_cVP (pc := 116) (c_X12_waysMatch_W hw hT hp1 hp2 hp3 W726) (gOk _ _ _ _ _) dX12_isSo_116 (tX12_waysMatch _ _ _ _ _) ⟨wV_X12_waysMatch, wL_X12_waysMatch⟩ wM_X12_379 (gCX12 _ _ _ _ _) rfl (A_106 hw) rfl ⟨le_t rfl, le_t rfl⟩ ⟨le_t rfl, le_t rfl⟩ rfl (le_t rfl) fun z725 h724 => ?_
    refine mr_istore (pc := 119) (lv' := [(7, iv z725), (8, iv z439), (6, iv f_x), (0, .ref 106), (1, iv p1), (2, iv p2), (3, iv p3), (4, iv p4), (5, iv p5)]) dX12_isSo_119 (by decide) rfl ?_
    refine sv_goto (pc := 121) (tgt := 462) dX12_isSo_121 (by decide) ?_
    refine mr_lvS (lv' := [(0, .ref 106), (2, iv p2), (7, iv z725)]) (List.forall_mem_cons.mpr ⟨rfl, List.forall_mem_cons.mpr ⟨rfl, List.forall_mem_cons.mpr ⟨rfl, fun _ h => absurd h List.not_mem_nil⟩⟩⟩) ?_
    exact J581 z725 μ hT mF.refl h724.1 (h724.2.1 h724.1)
  have h727 : 4 ≤ z443 ∧ z443 ≤ 4 := (vc_X12_isSo_25 h587 h445)
  refine sv_aload_n (pc := 34) dX12_isSo_34 rfl rfl ?_
  refine gf_X12_4 (pc := 35) dX12_isSo_35 wF_X12_26 (A_106 hw) hT ?_
  refine mr_iload (pc := 38) (z := f_x) dX12_isSo_38 rfl ?_
  refine la_109 (pc := 40) dX12_isSo_40 (A_109 hw) hT (rIx (n := 10) h3 rfl) fun z728 q729 h730 => ?_
  refine sv_aload_n (pc := 41) dX12_isSo_41 rfl rfl ?_
  refine gf_X12_48 (pc := 42) dX12_isSo_42 wF_X12_336 (A_106 hw) hT ?_
  refine mr_iload_n (pc := 45) (z := p2) dX12_isSo_45 rfl rfl ?_
  refine la_135 (pc := 46) dX12_isSo_46 (A_135 hw) hT (rIx (n := 3900) hp2 rfl) fun z731 q732 h733 => ?_
  have W734 := (((((((((hQ f_e0 q_f_e0 ht_f_e0) f_e1 q_f_e1 ht_f_e1) f_ties q_f_ties ht_f_ties) f_x q_f_x ht_f_x) z439 q440 h441) z443 q444 h445).2 h587) z728 q729 h730) z731 q732 h733)
  refine mr_icmp_lt (pc := 47) (tgt := 95) dX12_isSo_47 (by decide) (r32 h730 rfl) h733 (fun h755 => ?_) (fun h755 => ?_)
  · have h756 : 1 ≤ z731 ∧ z731 ≤ 2147483647 := (vc_X12_isSo_26 h755 h730 h733)
    refine mr_iconst (pc := 95) (z := 0) dX12_isSo_95 ?_
    refine mr_istore (pc := 96) (lv' := [(7, iv 0), (8, iv z439), (6, iv f_x), (0, .ref 106), (1, iv p1), (2, iv p2), (3, iv p3), (4, iv p4), (5, iv p5)]) dX12_isSo_96 (by decide) rfl ?_
    refine sv_goto (pc := 98) (tgt := 462) dX12_isSo_98 (by decide) ?_
    refine mr_lvS (lv' := [(0, .ref 106), (2, iv p2), (7, iv 0)]) (List.forall_mem_cons.mpr ⟨rfl, List.forall_mem_cons.mpr ⟨rfl, List.forall_mem_cons.mpr ⟨rfl, fun _ h => absurd h List.not_mem_nil⟩⟩⟩) ?_
    exact J581 0 μ hT mF.refl (rW (c := 0) (d := 1) (rR (x := 0)) rfl) (W734.1 h755)
  have h757 : (-2147483648) ≤ z731 ∧ z731 ≤ 32 := (vc_X12_isSo_27 h755 h730 h733)
  refine sv_aload_n (pc := 50) dX12_isSo_50 rfl rfl ?_
  refine gf_X12_47 (pc := 51) dX12_isSo_51 wF_X12_329 (A_106 hw) hT ?_
  refine mr_iload_n (pc := 54) (z := p2) dX12_isSo_54 rfl rfl ?_
  refine la_134 (pc := 55) dX12_isSo_55 (A_134 hw) hT (rIx (n := 3900) hp2 rfl) fun z758 q759 h760 => ?_
  refine sv_aload_n (pc := 56) dX12_isSo_56 rfl rfl ?_
  refine gf_X12_48 (pc := 57) dX12_isSo_57 wF_X12_336 (A_106 hw) hT ?_
  refine mr_iload_n (pc := 60) (z := p2) dX12_isSo_60 rfl rfl ?_
  refine lk_135 (pc := 61) dX12_isSo_61 (A_135 hw) (rIx (n := 3900) hp2 rfl) q732 ?_
  refine sv_aload_n (pc := 62) dX12_isSo_62 rfl rfl ?_
  refine gf_X12_3 (pc := 63) dX12_isSo_63 wF_X12_22 (A_106 hw) hT ?_
  refine mr_iload (pc := 66) (z := f_x) dX12_isSo_66 rfl ?_
  refine la_108 (pc := 68) dX12_isSo_68 (A_108 hw) hT (rIx (n := 10) h3 rfl) fun z761 q762 h763 => ?_
  refine mr_cSP (pc := 69) (c_X12_holds_W hw hT h760 (rW (c := (-2147483648)) (d := 2147483647) h757 rfl) h763 (((W734.2 h755) z758 q759 h760) z761 q762 h763)) (gOk _ _ _ _ _) dX12_isSo_69 (tX12_holds _ _ _ _ _) wS_X12_holds wM_X12_142 ⟨le_t rfl, le_t rfl⟩ ⟨le_t rfl, le_t rfl⟩ rfl (le_t rfl) fun z768 h767 => ?_
  refine mr_if_eq (pc := 72) (tgt := 95) dX12_isSo_72 (by decide) (r32 h767.1 rfl) (fun h776 => ?_) (fun h776 => ?_)
  · have h777 : 0 ≤ z768 ∧ z768 ≤ 0 := (vc_X12_ring_22 h776 h767.1)
    refine mr_iconst (pc := 95) (z := 0) dX12_isSo_95 ?_
    refine mr_istore (pc := 96) (lv' := [(7, iv 0), (8, iv z439), (6, iv f_x), (0, .ref 106), (1, iv p1), (2, iv p2), (3, iv p3), (4, iv p4), (5, iv p5)]) dX12_isSo_96 (by decide) rfl ?_
    refine sv_goto (pc := 98) (tgt := 462) dX12_isSo_98 (by decide) ?_
    refine mr_lvS (lv' := [(0, .ref 106), (2, iv p2), (7, iv 0)]) (List.forall_mem_cons.mpr ⟨rfl, List.forall_mem_cons.mpr ⟨rfl, List.forall_mem_cons.mpr ⟨rfl, fun _ h => absurd h List.not_mem_nil⟩⟩⟩) ?_
    exact J581 0 μ hT mF.refl (rW (c := 0) (d := 1) (rR (x := 0)) rfl) ((h767.2.1 h767.1).1 h776)
  have h778 : 1 ≤ z768 ∧ z768 ≤ 1 := (vc_X12_ring_24 h776 h767.1)
  refine sv_aload_n (pc := 75) dX12_isSo_75 rfl rfl ?_
  refine gf_X12_4 (pc := 76) dX12_isSo_76 wF_X12_26 (A_106 hw) hT ?_
  refine mr_iload (pc := 79) (z := f_x) dX12_isSo_79 rfl ?_
  refine lk_109 (pc := 81) dX12_isSo_81 (A_109 hw) (rIx (n := 10) h3 rfl) q729 ?_
  refine sv_aload_n (pc := 82) dX12_isSo_82 rfl rfl ?_
  refine gf_X12_49 (pc := 83) dX12_isSo_83 wF_X12_339 (A_106 hw) hT ?_
  refine mr_iload_n (pc := 86) (z := p2) dX12_isSo_86 rfl rfl ?_
  refine la_136 (pc := 87) dX12_isSo_87 (A_136 hw) hT (rIx (n := 3900) hp2 rfl) fun z779 q780 h781 => ?_
  refine mr_icmp_gt (pc := 88) (tgt := 95) dX12_isSo_88 (by decide) (r32 h730 rfl) h781 (fun h784 => ?_) (fun h784 => ?_)
  · have h785 : (-2147483648) ≤ z779 ∧ z779 ≤ 31 := (vc_X12_isSo_30 h784 h755 h730 h757 h781)
    refine mr_iconst (pc := 95) (z := 0) dX12_isSo_95 ?_
    refine mr_istore (pc := 96) (lv' := [(7, iv 0), (8, iv z439), (6, iv f_x), (0, .ref 106), (1, iv p1), (2, iv p2), (3, iv p3), (4, iv p4), (5, iv p5)]) dX12_isSo_96 (by decide) rfl ?_
    refine sv_goto (pc := 98) (tgt := 462) dX12_isSo_98 (by decide) ?_
    refine mr_lvS (lv' := [(0, .ref 106), (2, iv p2), (7, iv 0)]) (List.forall_mem_cons.mpr ⟨rfl, List.forall_mem_cons.mpr ⟨rfl, List.forall_mem_cons.mpr ⟨rfl, fun _ h => absurd h List.not_mem_nil⟩⟩⟩) ?_
    exact J581 0 μ hT mF.refl (rW (c := 0) (d := 1) (rR (x := 0)) rfl) ((((h767.2.1 h767.1).2 h776) z779 q780 h781).1 h784)
  have h786 : 0 ≤ z779 ∧ z779 ≤ 2147483647 := (vc_X12_isSo_31 h784 h755 h730 h757 h781)
  refine mr_iconst (pc := 91) (z := 1) dX12_isSo_91 ?_
  refine sv_goto (pc := 92) (tgt := 96) dX12_isSo_92 (by decide) ?_
  refine mr_istore (pc := 96) (lv' := [(7, iv 1), (8, iv z439), (6, iv f_x), (0, .ref 106), (1, iv p1), (2, iv p2), (3, iv p3), (4, iv p4), (5, iv p5)]) dX12_isSo_96 (by decide) rfl ?_
  refine sv_goto (pc := 98) (tgt := 462) dX12_isSo_98 (by decide) ?_
  refine mr_lvS (lv' := [(0, .ref 106), (2, iv p2), (7, iv 1)]) (List.forall_mem_cons.mpr ⟨rfl, List.forall_mem_cons.mpr ⟨rfl, List.forall_mem_cons.mpr ⟨rfl, fun _ h => absurd h List.not_mem_nil⟩⟩⟩) ?_
  exact J581 1 μ hT mF.refl (rW (c := 0) (d := 1) (rR (x := 1)) rfl) ((((h767.2.1 h767.1).2 h776) z779 q780 h781).2 h784)
def WJ_X12_through_W_3 (w : mW) (rec1 : (Int × Int × mM) → Prop) (z31975 : Int) (z31974 : Int) (z31997 : Int) (z33683 : Int) (z33682 : Int) (μ33684 : mM) : Prop := ((¬ z33682 = 0) → ∀ μ33742 : mM, mU μ33684 152 ((z31975 - 1).toNat) z33683 μ33742 → mT w μ33742 → ∀ z33745 : Int, μ33742 129 (((31 * z31997) + z33683).toNat) = z33745 → (0 ≤ z33745 ∧ z33745 ≤ 300) → ∀ μ33748 : mM, mU μ33742 153 ((z31975 - 1).toNat) z33745 μ33748 → mT w μ33748 → rec1 (z31975, z31974, μ33748)) ∧ ((z33682 = 0) → (((z31975 + (-1)) = 0) → rec1 ((z31975 + (-1)), z31974, μ33684)) ∧ (¬ ((z31975 + (-1)) = 0) → ∀ z33756 : Int, μ33684 152 (((z31975 + (-1)) - 1).toNat) = z33756 → ((-1) ≤ z33756 ∧ z33756 ≤ 30) → rec1 ((z31975 + (-1)), z31974, μ33684)))
def WL_X12_through_W_4 (w : mW) (p2 : Int) (p3 : Int) (p4 : Int) (g1 : Int) (z31997 : Int) (rec2 : (Int × Int × mM) → Prop) (z33683 : Int) (μ33684 : mM) (rec4 : (Int × Int × mM) → Prop) (s : (Int × Int × mM)) : Prop := ∀ z33816 : Int, ∀ z33815 : Int, ∀ μ33817 : mM, s = (z33816, z33815, μ33817) → (0 ≤ z33816 ∧ z33816 ≤ 1) → (0 ≤ z33815 ∧ z33815 ≤ 300) → mT w μ33817 → mF [106026, 106027, 106028, 106029, 106030, 106031] w μ33684 μ33817 → ∀ z33828 : Int, μ33817 128 ((((31 * z31997) + z33683) + 1).toNat) = z33828 → (0 ≤ z33828 ∧ z33828 ≤ 300) → ((z33828 ≤ z33815) → ((¬ z33816 = 0) → rec2 (z33683, z33816, μ33817)) ∧ ((z33816 = 0) → rec2 ((z33683 + 1), z33816, μ33817))) ∧ ((z33815 < z33828) → ((z33816 = 0) → rec2 ((z33683 + 1), z33816, μ33817)) ∧ ((¬ z33816 = 0) → WP_X12_isSo_W w μ33817 z31997 ((300 * z31997) + z33815) p2 p3 p4 (g1) (fun z33860 μ33856 => mT w μ33856 → mF [106026, 106027, 106028, 106029, 106030, 106031] w μ33817 μ33856 → (0 ≤ z33860 ∧ z33860 ≤ 1) → rec4 (z33860, (z33815 + 1), μ33856))))
def WL_X12_through_W_2 (w : mW) (p2 : Int) (p3 : Int) (p4 : Int) (g1 : Int) (rec1 : (Int × Int × mM) → Prop) (z31975 : Int) (z31974 : Int) (μ31976 : mM) (z31997 : Int) (z32004 : Int) (rec2 : (Int × Int × mM) → Prop) (s : (Int × Int × mM)) : Prop := ∀ z33683 : Int, ∀ z33682 : Int, ∀ μ33684 : mM, s = (z33683, z33682, μ33684) → (0 ≤ z33683 ∧ z33683 ≤ 30) → (0 ≤ z33682 ∧ z33682 ≤ 1) → mT w μ33684 → mF [106026, 106027, 106028, 106029, 106030, 106031] w μ31976 μ33684 → ((z32004 ≤ z33683) → (WJ_X12_through_W_3 w rec1 z31975 z31974 z31997 z33683 z33682 μ33684) ) ∧ ((z33683 < z32004) → ((¬ z33682 = 0) → (WJ_X12_through_W_3 w rec1 z31975 z31974 z31997 z33683 z33682 μ33684) ) ∧ ((z33682 = 0) → ∀ z33765 : Int, μ33684 128 (((31 * z31997) + z33683).toNat) = z33765 → (0 ≤ z33765 ∧ z33765 ≤ 300) → loopF (WL_X12_through_W_4 w p2 p3 p4 g1 z31997 rec2 z33683 μ33684) False 302 ((1 : Int), z33765, μ33684)))
def WL_X12_through_W_9 (w : mW) (p2 : Int) (rec1 : (Int × Int × mM) → Prop) (z31975 : Int) (z31974 : Int) (μ33933 : mM) (z33983 : Int) (z33986 : Int) (rec9 : (Int × mM) → Prop) (s : (Int × mM)) : Prop := ∀ z34354 : Int, ∀ μ34355 : mM, s = (z34354, μ34355) → (0 ≤ z34354 ∧ z34354 ≤ 2147483647) → mT w μ34355 → mF [126999] w μ33933 μ34355 → ((z33986 ≤ z34354) → rec1 (z31975, (z31974 + 1), μ34355)) ∧ ((z34354 < z33986) → WP_X12_front_W w μ34355 p2 z33983 (fun z34379 μ34375 => mT w μ34375 → mF [126999] w μ34355 μ34375 → (0 ≤ z34379 ∧ z34379 ≤ 1) → rec9 ((z34354 + 1), μ34375)))
def WJ_X12_through_W_8 (w : mW) (p2 : Int) (Q : Int → mM → Prop) (rec1 : (Int × Int × mM) → Prop) (z31975 : Int) (z31974 : Int) (z31997 : Int) (z33863 : Int) (z33877 : Int) (μ33919 : mM) (μ33933 : mM) : Prop := mT w μ33933 → mF [126999] w μ33919 μ33933 → ((¬ z33877 = 27) → ((¬ z33877 = 28) → rec1 (z31975, (z31974 + 1), μ33933)) ∧ ((z33877 = 28) → ∀ z33956 : Int, μ33933 141 (((300 * z31997) + z33863).toNat) = z33956 → ((-2147483648) ≤ z33956 ∧ z33956 ≤ 2147483647) → ∀ μ33962 : mM, mU μ33933 151 (z31975.toNat) z33956 μ33962 → mT w μ33962 → ∀ μ33965 : mM, mU μ33962 152 (z31975.toNat) ((-1) : Int) μ33965 → mT w μ33965 → ∀ μ33968 : mM, mU μ33965 153 (z31975.toNat) (0 : Int) μ33968 → mT w μ33968 → ∀ z33971 : Int, μ33968 127 (z33956.toNat) = z33971 → (0 ≤ z33971 ∧ z33971 ≤ 30) → rec1 ((z31975 + 1), (z31974 + 1), μ33968))) ∧ ((z33877 = 27) → ∀ z33976 : Int, μ33933 126 (((40 * p2) + 4).toNat) = z33976 → ((-2147483648 ≤ z33976 ∧ z33976 ≤ 2147483647) ∧ (((40 * p2) + 4) % 40 = 0 → -1 ≤ z33976 ∧ z33976 ≤ 9) ∧ (((40 * p2) + 4) % 40 = 4 → 0 ≤ z33976 ∧ z33976 ≤ 20) ∧ (((40 * p2) + 4) % 40 = 5 → 0 ≤ z33976 ∧ z33976 ≤ 8)) → ((z33976 ≤ 0) → rec1 (z31975, (z31974 + 1), μ33933)) ∧ ((0 < z33976) → ∀ z33983 : Int, μ33933 126 (((40 * p2) + 6).toNat) = z33983 → ((-2147483648 ≤ z33983 ∧ z33983 ≤ 2147483647) ∧ (((40 * p2) + 6) % 40 = 0 → -1 ≤ z33983 ∧ z33983 ≤ 9) ∧ (((40 * p2) + 6) % 40 = 4 → 0 ≤ z33983 ∧ z33983 ≤ 20) ∧ (((40 * p2) + 6) % 40 = 5 → 0 ≤ z33983 ∧ z33983 ≤ 8)) → ∀ z33986 : Int, μ33933 141 (((300 * z31997) + z33863).toNat) = z33986 → ((-2147483648) ≤ z33986 ∧ z33986 ≤ 2147483647) → ∀ z33989 : Int, (-2147483648 ≤ z33989 ∧ z33989 ≤ 2147483647) → (z33989 - (z33976 + z33986)) % 4294967296 = 0 → ((z33989 ≤ 20) → loopF (WL_X12_through_W_9 w p2 rec1 z31975 z31974 μ33933 z33983 z33986) False 6442450944 ((0 : Int), μ33933)) ∧ ((20 < z33989) → Q (0 : Int) μ33933)))
def WJ_X12_through_W_7 (w : mW) (p2 : Int) (Q : Int → mM → Prop) (rec1 : (Int × Int × mM) → Prop) (z31975 : Int) (z31974 : Int) (z31997 : Int) (z33863 : Int) (z33877 : Int) (μ33905 : mM) (μ33919 : mM) : Prop := mT w μ33919 → mF [126999] w μ33905 μ33919 → ((¬ z33877 = 13) → (WJ_X12_through_W_8 w p2 Q rec1 z31975 z31974 z31997 z33863 z33877 μ33919) μ33919) ∧ ((z33877 = 13) → ∀ z34383 : Int, μ33919 141 (((300 * z31997) + z33863).toNat) = z34383 → ((-2147483648) ≤ z34383 ∧ z34383 ≤ 2147483647) → ∀ μ34386 : mM, mU μ33919 126 (((40 * p2) + 3).toNat) z34383 μ34386 → mT w μ34386 → (WJ_X12_through_W_8 w p2 Q rec1 z31975 z31974 z31997 z33863 z33877 μ33919) μ34386)
def WJ_X12_through_W_6 (w : mW) (p2 : Int) (Q : Int → mM → Prop) (rec1 : (Int × Int × mM) → Prop) (z31975 : Int) (z31974 : Int) (z31997 : Int) (z33863 : Int) (z33877 : Int) (μ33890 : mM) (μ33905 : mM) : Prop := mT w μ33905 → mF [126999] w μ33890 μ33905 → ((¬ z33877 = 12) → (WJ_X12_through_W_7 w p2 Q rec1 z31975 z31974 z31997 z33863 z33877 μ33905) μ33905) ∧ ((z33877 = 12) → ∀ z34391 : Int, μ33905 141 (((300 * z31997) + z33863).toNat) = z34391 → ((-2147483648) ≤ z34391 ∧ z34391 ≤ 2147483647) → ∀ μ34394 : mM, mU μ33905 126 (((40 * p2) + 1).toNat) z34391 μ34394 → mT w μ34394 → (WJ_X12_through_W_7 w p2 Q rec1 z31975 z31974 z31997 z33863 z33877 μ33905) μ34394)
def WJ_X12_through_W_5 (w : mW) (p2 : Int) (Q : Int → mM → Prop) (rec1 : (Int × Int × mM) → Prop) (z31975 : Int) (z31974 : Int) (z31997 : Int) (z33863 : Int) (μ33871 : mM) (z33877 : Int) (μ33890 : mM) : Prop := mT w μ33890 → mF [126999] w μ33871 μ33890 → ((¬ z33877 = 26) → (WJ_X12_through_W_6 w p2 Q rec1 z31975 z31974 z31997 z33863 z33877 μ33890) μ33890) ∧ ((z33877 = 26) → ∀ z34399 : Int, μ33890 141 (((300 * z31997) + z33863).toNat) = z34399 → ((-2147483648) ≤ z34399 ∧ z34399 ≤ 2147483647) → WP_X12_dropMark_W w μ33890 p2 z34399 (fun μ34402 => mT w μ34402 → mF [126999] w μ33890 μ34402 → (WJ_X12_through_W_6 w p2 Q rec1 z31975 z31974 z31997 z33863 z33877 μ33890) μ34402))
def WJ_X12_through_W_11 (w : mW) (rec1 : (Int × Int × mM) → Prop) (z31975 : Int) (z31974 : Int) (z31997 : Int) (z34587 : Int) (z34586 : Int) (μ34588 : mM) : Prop := ((¬ z34586 = 0) → ∀ μ34646 : mM, mU μ34588 152 ((z31975 - 1).toNat) z34587 μ34646 → mT w μ34646 → ∀ z34649 : Int, μ34646 129 (((31 * z31997) + z34587).toNat) = z34649 → (0 ≤ z34649 ∧ z34649 ≤ 300) → ∀ μ34652 : mM, mU μ34646 153 ((z31975 - 1).toNat) z34649 μ34652 → mT w μ34652 → rec1 (z31975, z31974, μ34652)) ∧ ((z34586 = 0) → (((z31975 + (-1)) = 0) → rec1 ((z31975 + (-1)), z31974, μ34588)) ∧ (¬ ((z31975 + (-1)) = 0) → ∀ z34660 : Int, μ34588 152 (((z31975 + (-1)) - 1).toNat) = z34660 → ((-1) ≤ z34660 ∧ z34660 ≤ 30) → rec1 ((z31975 + (-1)), z31974, μ34588)))
def WL_X12_through_W_12 (w : mW) (p2 : Int) (p3 : Int) (p4 : Int) (g1 : Int) (z31997 : Int) (rec10 : (Int × Int × mM) → Prop) (z34587 : Int) (μ34588 : mM) (rec12 : (Int × Int × mM) → Prop) (s : (Int × Int × mM)) : Prop := ∀ z34720 : Int, ∀ z34719 : Int, ∀ μ34721 : mM, s = (z34720, z34719, μ34721) → (0 ≤ z34720 ∧ z34720 ≤ 1) → (0 ≤ z34719 ∧ z34719 ≤ 300) → mT w μ34721 → mF [106026, 106027, 106028, 106029, 106030, 106031] w μ34588 μ34721 → ∀ z34732 : Int, μ34721 128 ((((31 * z31997) + z34587) + 1).toNat) = z34732 → (0 ≤ z34732 ∧ z34732 ≤ 300) → ((z34732 ≤ z34719) → ((¬ z34720 = 0) → rec10 (z34587, z34720, μ34721)) ∧ ((z34720 = 0) → rec10 ((z34587 + 1), z34720, μ34721))) ∧ ((z34719 < z34732) → ((z34720 = 0) → rec10 ((z34587 + 1), z34720, μ34721)) ∧ ((¬ z34720 = 0) → WP_X12_isSo_W w μ34721 z31997 ((300 * z31997) + z34719) p2 p3 p4 (g1) (fun z34764 μ34760 => mT w μ34760 → mF [106026, 106027, 106028, 106029, 106030, 106031] w μ34721 μ34760 → (0 ≤ z34764 ∧ z34764 ≤ 1) → rec12 (z34764, (z34719 + 1), μ34760))))
def WL_X12_through_W_10 (w : mW) (p2 : Int) (p3 : Int) (p4 : Int) (g1 : Int) (rec1 : (Int × Int × mM) → Prop) (z31975 : Int) (z31974 : Int) (μ31976 : mM) (z31997 : Int) (z32004 : Int) (rec10 : (Int × Int × mM) → Prop) (s : (Int × Int × mM)) : Prop := ∀ z34587 : Int, ∀ z34586 : Int, ∀ μ34588 : mM, s = (z34587, z34586, μ34588) → (1 ≤ z34587 ∧ z34587 ≤ 30) → (0 ≤ z34586 ∧ z34586 ≤ 1) → mT w μ34588 → mF [106026, 106027, 106028, 106029, 106030, 106031] w μ31976 μ34588 → ((z32004 ≤ z34587) → (WJ_X12_through_W_11 w rec1 z31975 z31974 z31997 z34587 z34586 μ34588) ) ∧ ((z34587 < z32004) → ((¬ z34586 = 0) → (WJ_X12_through_W_11 w rec1 z31975 z31974 z31997 z34587 z34586 μ34588) ) ∧ ((z34586 = 0) → ∀ z34669 : Int, μ34588 128 (((31 * z31997) + z34587).toNat) = z34669 → (0 ≤ z34669 ∧ z34669 ≤ 300) → loopF (WL_X12_through_W_12 w p2 p3 p4 g1 z31997 rec10 z34587 μ34588) False 302 ((1 : Int), z34669, μ34588)))
def WL_X12_through_W_1 (w : mW) (p2 : Int) (p3 : Int) (p4 : Int) (g1 : Int) (Q : Int → mM → Prop) (μ17685 : mM) (rec1 : (Int × Int × mM) → Prop) (s : (Int × Int × mM)) : Prop := ∀ z31975 : Int, ∀ z31974 : Int, ∀ μ31976 : mM, s = (z31975, z31974, μ31976) → (0 ≤ z31975 ∧ z31975 ≤ 12) → (0 ≤ z31974 ∧ z31974 ≤ 500) → mT w μ31976 → mF [106026, 106027, 106028, 106029, 106030, 106031, 126999, 151999, 152999, 153999] w μ17685 μ31976 → ∀ f_y : Int, μ31976 126 ((40 * p2).toNat) = f_y → ((-2147483648 ≤ f_y ∧ f_y ≤ 2147483647) ∧ ((40 * p2) % 40 = 0 → -1 ≤ f_y ∧ f_y ≤ 9) ∧ ((40 * p2) % 40 = 4 → 0 ≤ f_y ∧ f_y ≤ 20) ∧ ((40 * p2) % 40 = 5 → 0 ≤ f_y ∧ f_y ≤ 8)) → ((z31975 ≤ 0) → Q (1 : Int) μ31976) ∧ ((0 < z31975) → ∀ z31997 : Int, μ31976 151 ((z31975 - 1).toNat) = z31997 → (0 ≤ z31997 ∧ z31997 ≤ 11) → ∀ z32001 : Int, μ31976 152 ((z31975 - 1).toNat) = z32001 → ((-1) ≤ z32001 ∧ z32001 ≤ 30) → ∀ z32004 : Int, μ31976 127 (z31997.toNat) = z32004 → (0 ≤ z32004 ∧ z32004 ≤ 30) → ∀ z32007 : Int, μ31976 131 (z31997.toNat) = z32007 → (0 ≤ z32007 ∧ z32007 ≤ 300) → ((z32001 < 0) → loopF (WL_X12_through_W_2 w p2 p3 p4 g1 rec1 z31975 z31974 μ31976 z31997 z32004) False 71 ((z32001 + 1), (0 : Int), μ31976)) ∧ ((0 ≤ z32001) → ∀ z33863 : Int, μ31976 153 ((z31975 - 1).toNat) = z33863 → (0 ≤ z33863 ∧ z33863 ≤ 300) → ∀ z33866 : Int, μ31976 129 ((((31 * z31997) + z32001) + 1).toNat) = z33866 → (0 ≤ z33866 ∧ z33866 ≤ 300) → ((¬ z33863 = z33866) → ∀ μ33871 : mM, mU μ31976 153 ((z31975 - 1).toNat) (z33863 + 1) μ33871 → mT w μ33871 → (((z31974 + 1) ≤ 500) → ∀ z33877 : Int, μ33871 140 (((300 * z31997) + z33863).toNat) = z33877 → ((-2147483648) ≤ z33877 ∧ z33877 ≤ 2147483647) → ((¬ z33877 = 23) → ((¬ z33877 = 24) → ((¬ z33877 = 25) → (WJ_X12_through_W_5 w p2 Q rec1 z31975 z31974 z31997 z33863 μ33871 z33877) μ33871) ∧ ((z33877 = 25) → ∀ z34408 : Int, μ33871 141 (((300 * z31997) + z33863).toNat) = z34408 → ((-2147483648) ≤ z34408 ∧ z34408 ≤ 2147483647) → WP_X12_addMark_W w μ33871 p2 z34408 (fun μ34411 => mT w μ34411 → mF [126999] w μ33871 μ34411 → (WJ_X12_through_W_5 w p2 Q rec1 z31975 z31974 z31997 z33863 μ33871 z33877) μ34411))) ∧ ((z33877 = 24) → Q (0 : Int) μ33871)) ∧ ((z33877 = 23) → Q (1 : Int) μ33871)) ∧ ((500 < (z31974 + 1)) → Q (0 : Int) μ33871)) ∧ ((z33863 = z33866) → loopF (WL_X12_through_W_10 w p2 p3 p4 g1 rec1 z31975 z31974 μ31976 z31997 z32004) False 69 ((z32001 + 1), (0 : Int), μ31976))))
def WP_X12_through_W (w : mW) (μ : mM) (p1 : Int) (p2 : Int) (p3 : Int) (p4 : Int) (g1 : Int) (Q : Int → mM → Prop) : Prop := ∀ f_e0 : Int, μ 110 ((2 * g1).toNat) = f_e0 → (0 ≤ f_e0 ∧ f_e0 ≤ 9) → ∀ f_e1 : Int, μ 110 (((2 * g1) + 1).toNat) = f_e1 → (0 ≤ f_e1 ∧ f_e1 ≤ 9) → ∀ f_ties : Int, μ 106 6 = f_ties → (0 ≤ f_ties ∧ f_ties ≤ 20) → ∀ f_x : Int, μ 126 ((40 * p2).toNat) = f_x → ((-2147483648 ≤ f_x ∧ f_x ≤ 2147483647) ∧ ((40 * p2) % 40 = 0 → -1 ≤ f_x ∧ f_x ≤ 9) ∧ ((40 * p2) % 40 = 4 → 0 ≤ f_x ∧ f_x ≤ 20) ∧ ((40 * p2) % 40 = 5 → 0 ≤ f_x ∧ f_x ≤ 8)) → ∀ f_pol : Int, μ 106 39 = f_pol → (0 ≤ f_pol ∧ f_pol ≤ 12) → ((¬ p1 = (-99999999)) → ∀ μ17679 : mM, mU μ 151 ((0 : Int).toNat) p1 μ17679 → mT w μ17679 → ∀ μ17682 : mM, mU μ17679 152 ((0 : Int).toNat) ((-1) : Int) μ17682 → mT w μ17682 → ∀ μ17685 : mM, mU μ17682 153 ((0 : Int).toNat) (0 : Int) μ17685 → mT w μ17685 → ∀ z17688 : Int, μ17685 127 (p1.toNat) = z17688 → (0 ≤ z17688 ∧ z17688 ≤ 30) → loopF (WL_X12_through_W_1 w p2 p3 p4 g1 Q μ17685) False 50136 ((1 : Int), (0 : Int), μ17685)) ∧ ((p1 = (-99999999)) → Q (1 : Int) μ)
theorem vc_X12_through_W_74 {f_pol z31975 z31997 z33956 : Int} (h0 : 0 ≤ z33956 ∧ z33956 < z31997) (h1 : 0 ≤ z31997 ∧ z31997 < f_pol ∧ z31997 + (z31975 - 1) ≤ 11) (h2 : 0 ≤ f_pol ∧ f_pol ≤ 12) (h3 : 1 ≤ z31975 ∧ z31975 ≤ 12) (h4 : 0 ≤ z31997 ∧ z31997 ≤ 11) (h5 : 0 ≤ z33956 ∧ z33956 ≤ 10) : 1 ≤ z31997 ∧ z31997 ≤ 11 := by omega
theorem vc_X12_through_W_75 {f_pol p1 z31975 z31997 z33956 : Int} (h0 : 0 < z31975) (h1 : 0 ≤ z31997 ∧ z31997 < f_pol ∧ z31997 + (z31975 - 1) ≤ 11) (h2 : p1 = -99999999 ∨ (0 ≤ p1 ∧ p1 < f_pol)) (h3 : 0 ≤ z33956 ∧ z33956 < z31997) (h4 : 0 ≤ f_pol ∧ f_pol ≤ 12) (h5 : (-2147483648) ≤ p1 ∧ p1 ≤ 2147483647) (h6 : 1 ≤ z31975 ∧ z31975 ≤ 12) (h7 : 1 ≤ z31997 ∧ z31997 ≤ 11) (h8 : 0 ≤ z33956 ∧ z33956 ≤ 10) : 0 ≤ z31975 := by omega
theorem vc_X12_through_W_76 {f_pol p1 z31975 z31997 z33956 : Int} (h0 : p1 = -99999999 ∨ (0 ≤ p1 ∧ p1 < f_pol)) (h1 : 0 < z31975) (h2 : 0 ≤ z31997 ∧ z31997 < f_pol ∧ z31997 + (z31975 - 1) ≤ 11) (h3 : 0 ≤ z33956 ∧ z33956 < z31997) (h4 : ¬ p1 = (-99999999)) (h5 : 0 ≤ f_pol ∧ f_pol ≤ 12) (h6 : (-2147483648) ≤ p1 ∧ p1 ≤ 2147483647) (h7 : 1 ≤ z31975 ∧ z31975 ≤ 12) (h8 : 1 ≤ z31997 ∧ z31997 ≤ 11) (h9 : 0 ≤ z33956 ∧ z33956 ≤ 10) : 0 ≤ z33956 ∧ z33956 < f_pol ∧ z33956 + z31975 ≤ 11 := by omega
theorem vc_X12_through_W_79 {f_pol p1 z31975 z31997 z33956 : Int} (h0 : 0 < z31975) (h1 : 0 ≤ z31997 ∧ z31997 < f_pol ∧ z31997 + (z31975 - 1) ≤ 11) (h2 : p1 = -99999999 ∨ (0 ≤ p1 ∧ p1 < f_pol)) (h3 : 0 ≤ z33956 ∧ z33956 < z31997) (h4 : 0 ≤ f_pol ∧ f_pol ≤ 12) (h5 : (-2147483648) ≤ p1 ∧ p1 ≤ 2147483647) (h6 : 1 ≤ z31975 ∧ z31975 ≤ 12) (h7 : 1 ≤ z31997 ∧ z31997 ≤ 11) (h8 : 0 ≤ z33956 ∧ z33956 ≤ 10) : 0 ≤ (z31975 + 1) ∧ (z31975 + 1) ≤ 12 := by omega
theorem vc_X12_through_W_80 {N f_R f_pol p1 z31974 z31975 z31997 z32001 z32004 z33956 : Int} (h0 : (((100 * (501 - z31974)) + (34 * z31975)) - f_R) < N + 1) (h1 : 0 < z31975) (h2 : 0 ≤ z31997 ∧ z31997 < f_pol ∧ z31997 + (z31975 - 1) ≤ 11) (h3 : z32001 < z32004 ∧ z32001 = f_R) (h4 : (z31974 + 1) ≤ 500) (h5 : p1 = -99999999 ∨ (0 ≤ p1 ∧ p1 < f_pol)) (h6 : z32001 < z32004) (h7 : 0 ≤ z32001) (h8 : 0 ≤ z33956 ∧ z33956 < z31997) (h9 : (-1) ≤ f_R ∧ f_R ≤ 30) (h10 : 0 ≤ f_pol ∧ f_pol ≤ 12) (h11 : (-2147483648) ≤ p1 ∧ p1 ≤ 2147483647) (h12 : 0 ≤ z31974 ∧ z31974 ≤ 499) (h13 : 1 ≤ z31975 ∧ z31975 ≤ 12) (h14 : 1 ≤ z31997 ∧ z31997 ≤ 11) (h15 : 0 ≤ z32001 ∧ z32001 ≤ 29) (h16 : 0 ≤ z32004 ∧ z32004 ≤ 30) (h17 : 0 ≤ z33956 ∧ z33956 ≤ 10) : (((100 * (501 - (z31974 + 1))) + (34 * (z31975 + 1))) - (-1)) < N := by omega
theorem vc_X12_through_W_81 {f_pol p1 z31975 z31997 z33956 : Int} (h0 : 0 < z31975) (h1 : 0 ≤ z31997 ∧ z31997 < f_pol ∧ z31997 + (z31975 - 1) ≤ 11) (h2 : p1 = -99999999 ∨ (0 ≤ p1 ∧ p1 < f_pol)) (h3 : 0 ≤ z33956 ∧ z33956 < z31997) (h4 : 0 ≤ f_pol ∧ f_pol ≤ 12) (h5 : (-2147483648) ≤ p1 ∧ p1 ≤ 2147483647) (h6 : 1 ≤ z31975 ∧ z31975 ≤ 12) (h7 : 1 ≤ z31997 ∧ z31997 ≤ 11) (h8 : 0 ≤ z33956 ∧ z33956 ≤ 10) : (z31975 + 1) ≤ (z31975 + 1) := by omega
theorem vc_X12_through_W_87 {z33976 z33986 z33989 : Int} (h0 : z33989 ≤ 20) (h1 : (z33989 - (z33976 + z33986)) % 4294967296 = 0) (h2 : 1 ≤ z33976 ∧ z33976 ≤ 20) (h3 : (-2147483648) ≤ z33986 ∧ z33986 ≤ 2147483647) (h4 : (-2147483648) ≤ z33989 ∧ z33989 ≤ 2147483647) : (-2147483648) ≤ z33989 ∧ z33989 ≤ 20 := by omega
theorem vc_X12_through_W_88 {z33976 z33986 z33989 z34354 : Int} (h0 : ((z33986 - z34354) + 4294967296) < ((0 : Nat) : Int)) (h1 : (z33989 - (z33976 + z33986)) % 4294967296 = 0) (h2 : 0 < z33976) (h3 : z33989 ≤ 20) (h4 : 1 ≤ z33976 ∧ z33976 ≤ 20) (h5 : (-2147483648) ≤ z33986 ∧ z33986 ≤ 2147483647) (h6 : (-2147483648) ≤ z33989 ∧ z33989 ≤ 20) (h7 : 0 ≤ z34354 ∧ z34354 ≤ 2147483647) : False := by omega
theorem vc_X12_through_W_89 {z33976 z33986 z33989 z34354 : Int} (h0 : z34354 < z33986) (h1 : (z33989 - (z33976 + z33986)) % 4294967296 = 0) (h2 : 1 ≤ z33976 ∧ z33976 ≤ 20) (h3 : (-2147483648) ≤ z33986 ∧ z33986 ≤ 2147483647) (h4 : (-2147483648) ≤ z33989 ∧ z33989 ≤ 20) (h5 : 0 ≤ z34354 ∧ z34354 ≤ 2147483647) : 0 ≤ z34354 ∧ z34354 ≤ 2147483646 := by omega
theorem vc_X12_through_W_90 {z33976 z33986 z33989 z34354 : Int} (h0 : z34354 < z33986) (h1 : (z33989 - (z33976 + z33986)) % 4294967296 = 0) (h2 : 1 ≤ z33976 ∧ z33976 ≤ 20) (h3 : (-2147483648) ≤ z33986 ∧ z33986 ≤ 2147483647) (h4 : (-2147483648) ≤ z33989 ∧ z33989 ≤ 20) (h5 : 0 ≤ z34354 ∧ z34354 ≤ 2147483646) : 1 ≤ z33986 ∧ z33986 ≤ 2147483647 := by omega
theorem vc_X12_through_W_91 {N z33976 z33986 z33989 z34354 : Int} (h0 : ((z33986 - z34354) + 4294967296) < N + 1) (h1 : (z33989 - (z33976 + z33986)) % 4294967296 = 0) (h2 : z34354 < z33986) (h3 : 0 < z33976) (h4 : z33989 ≤ 20) (h5 : 1 ≤ z33976 ∧ z33976 ≤ 20) (h6 : 1 ≤ z33986 ∧ z33986 ≤ 2147483647) (h7 : (-2147483648) ≤ z33989 ∧ z33989 ≤ 20) (h8 : 0 ≤ z34354 ∧ z34354 ≤ 2147483646) : ((z33986 - (z34354 + 1)) + 4294967296) < N := by omega
theorem vc_X12_through_W_92 {z33976 z33986 z33989 : Int} (h0 : (z33989 - (z33976 + z33986)) % 4294967296 = 0) (h1 : 0 < z33976) (h2 : z33989 ≤ 20) (h3 : 1 ≤ z33976 ∧ z33976 ≤ 20) (h4 : (-2147483648) ≤ z33986 ∧ z33986 ≤ 2147483647) (h5 : (-2147483648) ≤ z33989 ∧ z33989 ≤ 20) : ((z33986 - 0) + 4294967296) < ((6442450944 : Nat) : Int) := by omega
theorem vc_X12_through_W_93 {z33976 z33986 z33989 : Int} (h0 : 20 < z33989) (h1 : (z33989 - (z33976 + z33986)) % 4294967296 = 0) (h2 : 1 ≤ z33976 ∧ z33976 ≤ 20) (h3 : (-2147483648) ≤ z33986 ∧ z33986 ≤ 2147483647) (h4 : (-2147483648) ≤ z33989 ∧ z33989 ≤ 2147483647) : 21 ≤ z33989 ∧ z33989 ≤ 2147483647 := by omega
set_option maxRecDepth 4000 in
set_option maxHeartbeats 4000000 in
theorem c_X12_through_W {l : Launch} {D : va_G} {c : Nat → ClassId} {H0 : Heap} {sa : Nat × Nat × (Nat → Int32)} {w : mW} {μ : mM} (hw : mWF w) (hT : mT w μ) {p1 : Int} (hp1 : (-2147483648) ≤ p1 ∧ p1 ≤ 2147483647) {p2 : Int} (hp2 : 0 ≤ p2 ∧ p2 ≤ 2099) {p3 : Int} (hp3 : (-2147483648) ≤ p3 ∧ p3 ≤ 2147483647) {p4 : Int} (hp4 : (-2147483648) ≤ p4 ∧ p4 ≤ 2147483647) {g1 : Int} (hg1 : 0 ≤ g1 ∧ g1 ≤ 19) {f_e0 : Int} (q_f_e0 : μ 110 ((2 * g1).toNat) = f_e0) {f_e1 : Int} (q_f_e1 : μ 110 (((2 * g1) + 1).toNat) = f_e1) {f_ties : Int} (q_f_ties : μ 106 6 = f_ties) {f_x : Int} (q_f_x : μ 126 ((40 * p2).toNat) = f_x) {f_pol : Int} (q_f_pol : μ 106 39 = f_pol) (hq0 : g1 < f_ties) (hq1 : (f_e0 = p3 ∧ f_e1 = p4) ∨ (f_e0 = p4 ∧ f_e1 = p3)) (hq2 : 0 ≤ f_x) (hq3 : p1 = -99999999 ∨ (0 ≤ p1 ∧ p1 < f_pol)) (hIPK : PK μ) {Q : Int → mM → Prop} (hQ : WP_X12_through_W w μ p1 p2 p3 p4 g1 Q) : sC (gG l D c H0 sa) mX12_through 6 0 0 [.ref 106, iv p1, iv p2, iv p3, iv p4] (mk w μ) (qI w [106026, 106027, 106028, 106029, 106030, 106031, 126999, 151999, 152999, 153999] μ (fun z μ1 => ∃ o_x : Int, μ1 126 ((40 * p2).toNat) = o_x ∧ (0 ≤ z ∧ z ≤ 1) ∧ mG [(((40 * p2) + 1), ((40 * p2) + 40))] μ μ1 ∧ (o_x = f_x) ∧ Q z μ1 ∧ True)) := by
  refine sC.of rfl (by decide) (le_t rfl) ?_
  have ht_f_e0 : (0 ≤ f_e0 ∧ f_e0 ≤ 9) := by rw [← q_f_e0]; exact hT 110 110 (A_110 hw) ((2 * g1).toNat)
  have ht_f_e1 : (0 ≤ f_e1 ∧ f_e1 ≤ 9) := by rw [← q_f_e1]; exact hT 110 110 (A_110 hw) (((2 * g1) + 1).toNat)
  have ht_f_ties : (0 ≤ f_ties ∧ f_ties ≤ 20) := by rw [← q_f_ties]; exact hT 106 106 (A_106 hw) 6
  have ht_f_x := rt7 hT (A_126 hw) (vc_X12_copy_1 hp2) q_f_x
  have h1 : (-1) ≤ f_x ∧ f_x ≤ 9 := ht_f_x.2.1 (vc_X12_copy_2 hp2)
  have ht_f_pol : (0 ≤ f_pol ∧ f_pol ≤ 12) := by rw [← q_f_pol]; exact hT 106 106 (A_106 hw) 39
  have h2 : 1 ≤ f_ties ∧ f_ties ≤ 20 := (vc_X3_putAttributes_11 hq0 ht_f_ties hg1)
  have h3 : 0 ≤ f_x ∧ f_x ≤ 9 := (vc_X12_isThere_6 hq2 h1)
  refine mr_lvE (lv' := [(0, .ref 106), (1, iv p1), (2, iv p2), (3, iv p3), (4, iv p4)]) rfl ?_
  refine mr_iload_n (pc := 0) (z := p1) dX12_through_0 rfl rfl ?_
  refine mr_ldc (pc := 1) (z := (-99999999)) dX12_through_1 wG_X12_29 (by decide) ?_
  refine mr_icmp_ne (pc := 3) (tgt := 8) dX12_through_3 (by decide) hp1 (r32 (rR (x := (-99999999))) rfl) (fun h17678 => ?_) (fun h17678 => ?_)
  · refine mr_iconst (pc := 8) (z := 1) dX12_through_8 ?_
    refine mr_istore (pc := 9) (lv' := [(5, iv 1), (0, .ref 106), (1, iv p1), (2, iv p2), (3, iv p3), (4, iv p4)]) dX12_through_9 (by decide) rfl ?_
    refine mr_iconst (pc := 11) (z := 0) dX12_through_11 ?_
    refine mr_istore (pc := 12) (lv' := [(6, iv 0), (5, iv 1), (0, .ref 106), (1, iv p1), (2, iv p2), (3, iv p3), (4, iv p4)]) dX12_through_12 (by decide) rfl ?_
    refine sv_aload_n (pc := 14) dX12_through_14 rfl rfl ?_
    refine gf_X12_67 (pc := 15) dX12_through_15 wF_X12_388 (A_106 hw) hT ?_
    refine mr_iconst (pc := 18) (z := 0) dX12_through_18 ?_
    refine mr_iload_n (pc := 19) (z := p1) dX12_through_19 rfl rfl ?_
    refine ss_151 (pc := 20) dX12_through_20 (A_151 hw) hT (rIx (n := 14) (rR (x := 0)) rfl) (vc_X12_through_5 hq3 h17678 ht_f_pol hp1) fun μ17679 u17680 T17681 => ?_
    refine sv_aload_n (pc := 21) dX12_through_21 rfl rfl ?_
    refine gf_X12_68 (pc := 22) dX12_through_22 wF_X12_391 (A_106 hw) T17681 ?_
    refine mr_iconst (pc := 25) (z := 0) dX12_through_25 ?_
    refine mr_iconst (pc := 26) (z := (-1)) dX12_through_26 ?_
    refine ss_152 (pc := 27) dX12_through_27 (A_152 hw) T17681 (rIx (n := 14) (rR (x := 0)) rfl) (rW (c := (-1)) (d := 30) (rR (x := (-1))) rfl) fun μ17682 u17683 T17684 => ?_
    refine sv_aload_n (pc := 28) dX12_through_28 rfl rfl ?_
    refine gf_X12_69 (pc := 29) dX12_through_29 wF_X12_394 (A_106 hw) T17684 ?_
    refine mr_iconst (pc := 32) (z := 0) dX12_through_32 ?_
    refine mr_iconst (pc := 33) (z := 0) dX12_through_33 ?_
    refine ss_153 (pc := 34) dX12_through_34 (A_153 hw) T17684 (rIx (n := 14) (rR (x := 0)) rfl) (rW (c := 0) (d := 300) (rR (x := 0)) rfl) fun μ17685 u17686 T17687 => ?_
    obtain ⟨z17688, q17689⟩ : ∃ z, μ17685 127 (p1.toNat) = z := ⟨_, rfl⟩
    have h17690 : (0 ≤ z17688 ∧ z17688 ≤ 30) := by rw [← q17689]; exact T17687 127 127 (A_127 hw) (p1.toNat)
    have I17691 : lvOK μ17685 ((0 : Int) + 1) := lvOK.push lvOK.zero vc_X12_through_6 u17680 u17683 u17686 (u17686.f (Or.inl (mAt.ne (A_153 hw) (A_106 hw) rfl)) (u17683.f (Or.inl (mAt.ne (A_152 hw) (A_106 hw) rfl)) (u17680.f (Or.inl (mAt.ne (A_151 hw) (A_106 hw) rfl)) q_f_pol))) (vc_X12_through_7 hq3 h17678 ht_f_pol hp1) q17689 (vc_X12_through_8 h17690)
    have L31977 : ∀ (nL31977 : Nat) (z31975 z31974 f_R : Int) (μ31976 : mM) (f_y : Int), mT w μ31976 → mF [106026, 106027, 106028, 106029, 106030, 106031, 126999, 151999, 152999, 153999] w μ17685 μ31976 → mG [(((40 * p2) + 1), ((40 * p2) + 40))] μ17685 μ31976 → μ31976 126 ((40 * p2).toNat) = f_y → (0 ≤ z31975 ∧ z31975 ≤ 12) → (0 ≤ z31974 ∧ z31974 ≤ 500) → ((-1) ≤ f_R ∧ f_R ≤ 30) → (f_y = f_x) → PK μ31976 → lvOK μ31976 z31975 → (z31975 = 0 ∨ μ31976 152 (z31975 - 1).toNat = f_R) → (((100 * (501 - z31974)) + (34 * z31975)) - f_R) < (nL31977 : Int) → loopF (WL_X12_through_W_1 w p2 p3 p4 g1 Q μ17685) False nL31977 (z31975, z31974, μ31976) → sV (gG l D c H0 sa) mX12_through (sRm 6 0 0) (sZ (gG l D c H0 sa) 0 0 (qI w [106026, 106027, 106028, 106029, 106030, 106031, 126999, 151999, 152999, 153999] μ (fun z μ1 => ∃ o_x : Int, μ1 126 ((40 * p2).toNat) = o_x ∧ (0 ≤ z ∧ z ≤ 1) ∧ mG [(((40 * p2) + 1), ((40 * p2) + 40))] μ μ1 ∧ (o_x = f_x) ∧ Q z μ1 ∧ True))) 35 [(0, .ref 106), (2, iv p2), (3, iv p3), (4, iv p4), (5, iv z31975), (6, iv z31974)] [] (mk w μ31976) 0 0 := by
      intro nL31977
      induction nL31977 with
      | zero => intro z31975 z31974 f_R μ31976 f_y T31981 F31982 G31983 q31990 h31978 h31979 h31980 h31984 I31985 R31986 R31987 h31988 W31989; exact ((vc_X12_through_9 h31988 h31980 h31979 h31978)).elim
      | succ nL31977 ih31991 =>
        intro z31975 z31974 f_R μ31976 f_y T31981 F31982 G31983 q31990 h31978 h31979 h31980 h31984 I31985 R31986 R31987 h31988 W31989
        have h31992 := rt7 T31981 (A_126 hw) (vc_X12_copy_1 hp2) q31990
        have h31993 : (-1) ≤ f_y ∧ f_y ≤ 9 := h31992.2.1 (vc_X12_copy_2 hp2)
        refine mr_iload (pc := 35) (z := z31975) dX12_through_35 rfl ?_
        refine mr_if_le (pc := 37) (tgt := 529) dX12_through_37 (by decide) (r32 h31978 rfl) (fun h31994 => ?_) (fun h31994 => ?_)
        · have h31995 : 0 ≤ z31975 ∧ z31975 ≤ 0 := (vc_X12_through_10 h31994 h31978)
          refine mr_iconst (pc := 529) (z := 1) dX12_through_529 ?_
          exact mr_zret dX12_through_530 rfl (rW (c := 0) (d := 1) (rR (x := 1)) rfl) (le_t rfl) (le_t rfl) T31981 (mF.call (mF.up (mF.up (mF.up mF.refl (A_151 hw) u17680 rfl) (A_152 hw) u17683 rfl) (A_153 hw) u17686 rfl) F31982 rfl) ⟨f_y, q31990, (rW (c := 0) (d := 1) (rR (x := 1)) rfl), (mG.call (mG.upO (mG.upO (mG.upO mG.refl u17680 rfl) u17683 rfl) u17686 rfl) G31983 (List.forall_mem_cons.mpr ⟨⟨_, List.mem_cons_self, (vc_X12_dropMark_5 hp2)⟩, (fun _ h => absurd h List.not_mem_nil)⟩)), (vc_X12_through_12 hq2 h31984 h3 h31993), (((W31989 z31975 z31974 μ31976 rfl h31978 h31979 T31981 F31982) f_y q31990 h31992).1 h31994), trivial⟩
        have h31996 : 1 ≤ z31975 ∧ z31975 ≤ 12 := (vc_X12_through_13 h31994 h31978)
        refine mr_iload (pc := 40) (z := z31975) dX12_through_40 rfl ?_
        refine mr_iconst (pc := 42) (z := 1) dX12_through_42 ?_
        refine mr_isub (pc := 43) (x := z31975) (y := 1) dX12_through_43 ?_
        refine mr_istore (pc := 44) (lv' := [(7, iv (z31975 - 1)), (0, .ref 106), (2, iv p2), (3, iv p3), (4, iv p4), (5, iv z31975), (6, iv z31974)]) dX12_through_44 (by decide) rfl ?_
        refine sv_aload_n (pc := 46) dX12_through_46 rfl rfl ?_
        refine gf_X12_67 (pc := 47) dX12_through_47 wF_X12_388 (A_106 hw) T31981 ?_
        refine mr_iload (pc := 50) (z := (z31975 - 1)) dX12_through_50 rfl ?_
        refine la_151 (pc := 52) dX12_through_52 (A_151 hw) T31981 (rIx (n := 14) (rSub (e := 0) (f := 11) h31996 (rR (x := 1)) rfl) rfl) fun z31997 q31998 h31999 => ?_
        have h32000 : 0 ≤ z31997 ∧ z31997 < f_pol ∧ z31997 + (z31975 - 1) ≤ 11 := lvOK.p R31986 (vc_X12_through_14 h31994 h31996) q31998 (F31982.f (A_106 hw) rfl (u17686.f (Or.inl (mAt.ne (A_153 hw) (A_106 hw) rfl)) (u17683.f (Or.inl (mAt.ne (A_152 hw) (A_106 hw) rfl)) (u17680.f (Or.inl (mAt.ne (A_151 hw) (A_106 hw) rfl)) q_f_pol))))
        refine mr_istore (pc := 53) (lv' := [(8, iv z31997), (7, iv (z31975 - 1)), (0, .ref 106), (2, iv p2), (3, iv p3), (4, iv p4), (5, iv z31975), (6, iv z31974)]) dX12_through_53 (by decide) rfl ?_
        refine sv_aload_n (pc := 55) dX12_through_55 rfl rfl ?_
        refine gf_X12_68 (pc := 56) dX12_through_56 wF_X12_391 (A_106 hw) T31981 ?_
        refine mr_iload (pc := 59) (z := (z31975 - 1)) dX12_through_59 rfl ?_
        refine la_152 (pc := 61) dX12_through_61 (A_152 hw) T31981 (rIx (n := 14) (rSub (e := 0) (f := 11) h31996 (rR (x := 1)) rfl) rfl) fun z32001 q32002 h32003 => ?_
        obtain ⟨z32004, q32005⟩ : ∃ z, μ31976 127 (z31997.toNat) = z := ⟨_, rfl⟩
        have h32006 : (0 ≤ z32004 ∧ z32004 ≤ 30) := by rw [← q32005]; exact T31981 127 127 (A_127 hw) (z31997.toNat)
        obtain ⟨z32007, q32008⟩ : ∃ z, μ31976 131 (z31997.toNat) = z := ⟨_, rfl⟩
        have h32009 : (0 ≤ z32007 ∧ z32007 ≤ 300) := by rw [← q32008]; exact T31981 131 131 (A_131 hw) (z31997.toNat)
        have h32010 : z32001 < z32004 ∧ z32001 = f_R := ⟨lvOK.r R31986 (vc_X12_through_15 h31994 h32000 hq3 ht_f_pol hp1 h31996 h31999) q31998 q32002 q32005, topE R31987 (vc_X12_through_16 h31994 h32000 hq3 ht_f_pol hp1 h31996 h31999) (vc_X12_through_17 h31994 h32000 hq3 ht_f_pol hp1 h31996 h31999) q32002⟩
        have h32011 : (-1) ≤ z32001 ∧ z32001 ≤ 29 := (vc_X12_through_18 h32010.1 h32010 h31980 h32003 h32006)
        refine mr_istore (pc := 62) (lv' := [(9, iv z32001), (8, iv z31997), (7, iv (z31975 - 1)), (0, .ref 106), (2, iv p2), (3, iv p3), (4, iv p4), (5, iv z31975), (6, iv z31974)]) dX12_through_62 (by decide) rfl ?_
        refine mr_iload (pc := 64) (z := z32001) dX12_through_64 rfl ?_
        have W32012 := (((((((W31989 z31975 z31974 μ31976 rfl h31978 h31979 T31981 F31982) f_y q31990 h31992).2 h31994) z31997 q31998 h31999) z32001 q32002 h32003) z32004 q32005 h32006) z32007 q32008 h32009)
        refine mr_if_lt (pc := 66) (tgt := 94) dX12_through_66 (by decide) (r32 h32011 rfl) (fun h32013 => ?_) (fun h32013 => ?_)
        · have h32014 : (-1) ≤ z32001 ∧ z32001 ≤ (-1) := (vc_X12_through_19 h32013 h32010 h32010.1 h31980 h32011 h32006)
          refine mr_iinc (pc := 94) (lv' := [(9, iv (z32001 + 1)), (8, iv z31997), (7, iv (z31975 - 1)), (0, .ref 106), (2, iv p2), (3, iv p3), (4, iv p4), (5, iv z31975), (6, iv z31974)]) dX12_through_94 rfl (by decide) rfl ?_
          refine mr_iconst (pc := 97) (z := 0) dX12_through_97 ?_
          refine mr_istore (pc := 98) (lv' := [(10, iv 0), (9, iv (z32001 + 1)), (8, iv z31997), (7, iv (z31975 - 1)), (0, .ref 106), (2, iv p2), (3, iv p3), (4, iv p4), (5, iv z31975), (6, iv z31974)]) dX12_through_98 (by decide) rfl ?_
          have L33685 : ∀ (nL33685 : Nat) (z33683 z33682 : Int) (μ33684 : mM), mT w μ33684 → mF [106026, 106027, 106028, 106029, 106030, 106031] w μ31976 μ33684 → (0 ≤ z33683 ∧ z33683 ≤ 30) → (0 ≤ z33682 ∧ z33682 ≤ 1) → (z33682 = 0 ∨ z33683 < z32004) → (f_R < z33683) → PK μ33684 → (70 - ((2 * z33683) + z33682)) < (nL33685 : Int) → loopF (WL_X12_through_W_2 w p2 p3 p4 g1 (loopF (WL_X12_through_W_1 w p2 p3 p4 g1 Q μ17685) False nL31977) z31975 z31974 μ31976 z31997 z32004) False nL33685 (z33683, z33682, μ33684) → sV (gG l D c H0 sa) mX12_through (sRm 6 0 0) (sZ (gG l D c H0 sa) 0 0 (qI w [106026, 106027, 106028, 106029, 106030, 106031, 126999, 151999, 152999, 153999] μ (fun z μ1 => ∃ o_x : Int, μ1 126 ((40 * p2).toNat) = o_x ∧ (0 ≤ z ∧ z ≤ 1) ∧ mG [(((40 * p2) + 1), ((40 * p2) + 40))] μ μ1 ∧ (o_x = f_x) ∧ Q z μ1 ∧ True))) 100 [(0, .ref 106), (2, iv p2), (3, iv p3), (4, iv p4), (5, iv z31975), (6, iv z31974), (7, iv (z31975 - 1)), (8, iv z31997), (9, iv z33683), (10, iv z33682)] [] (mk w μ33684) 0 0 := by
            intro nL33685
            induction nL33685 with
            | zero => intro z33683 z33682 μ33684 T33688 F33689 h33686 h33687 h33691 h33692 I33693 h33694 W33695; exact ((vc_X12_through_20 h33694 h33691 h33692 h32010 h32010.1 h31980 h32014 h32006 h33687 h33686)).elim
            | succ nL33685 ih33696 =>
              intro z33683 z33682 μ33684 T33688 F33689 h33686 h33687 h33691 h33692 I33693 h33694 W33695
              refine mr_iload (pc := 100) (z := z33683) dX12_through_100 rfl ?_
              refine sv_aload_n (pc := 102) dX12_through_102 rfl rfl ?_
              refine gf_X12_40 (pc := 103) dX12_through_103 wF_X12_358 (A_106 hw) T33688 ?_
              refine mr_iload (pc := 106) (z := z31997) dX12_through_106 rfl ?_
              refine lk_127 (pc := 108) dX12_through_108 (A_127 hw) (rIx (n := 13) h31999 rfl) (F33689.f (A_127 hw) rfl q32005) ?_
              have J33738 : ((WJ_X12_through_W_3 w (loopF (WL_X12_through_W_1 w p2 p3 p4 g1 Q μ17685) False nL31977) z31975 z31974 z31997 z33683 z33682 μ33684) ) → sV (gG l D c H0 sa) mX12_through (sRm 6 0 0) (sZ (gG l D c H0 sa) 0 0 (qI w [106026, 106027, 106028, 106029, 106030, 106031, 126999, 151999, 152999, 153999] μ (fun z μ1 => ∃ o_x : Int, μ1 126 ((40 * p2).toNat) = o_x ∧ (0 ≤ z ∧ z ≤ 1) ∧ mG [(((40 * p2) + 1), ((40 * p2) + 40))] μ μ1 ∧ (o_x = f_x) ∧ Q z μ1 ∧ True))) 198 [(0, .ref 106), (2, iv p2), (3, iv p3), (4, iv p4), (5, iv z31975), (6, iv z31974), (7, iv (z31975 - 1)), (8, iv z31997), (9, iv z33683), (10, iv z33682)] [] (mk w μ33684) 0 0 := by
                intro W33739
                refine mr_iload (pc := 198) (z := z33682) dX12_through_198 rfl ?_
                refine mr_if_ne (pc := 200) (tgt := 209) dX12_through_200 (by decide) (r32 h33687 rfl) (fun h33740 => ?_) (fun h33740 => ?_)
                · have h33741 : 1 ≤ z33682 ∧ z33682 ≤ 1 := (vc_X12_through_21 h33740 h33691 h32006 h33687 h33686)
                  refine sv_aload_n (pc := 209) dX12_through_209 rfl rfl ?_
                  refine gf_X12_68 (pc := 210) dX12_through_210 wF_X12_391 (A_106 hw) T33688 ?_
                  refine mr_iload (pc := 213) (z := (z31975 - 1)) dX12_through_213 rfl ?_
                  refine mr_iload (pc := 215) (z := z33683) dX12_through_215 rfl ?_
                  refine ss_152 (pc := 217) dX12_through_217 (A_152 hw) T33688 (rIx (n := 14) (rSub (e := 0) (f := 11) h31996 (rR (x := 1)) rfl) rfl) (rW (c := (-1)) (d := 30) h33686 rfl) fun μ33742 u33743 T33744 => ?_
                  refine sv_aload_n (pc := 218) dX12_through_218 rfl rfl ?_
                  refine gf_X12_69 (pc := 219) dX12_through_219 wF_X12_394 (A_106 hw) T33744 ?_
                  refine mr_iload (pc := 222) (z := (z31975 - 1)) dX12_through_222 rfl ?_
                  refine sv_aload_n (pc := 224) dX12_through_224 rfl rfl ?_
                  refine gf_X12_42 (pc := 225) dX12_through_225 wF_X12_364 (A_106 hw) T33744 ?_
                  refine mr_bipush (pc := 228) (z := 31) dX12_through_228 (by decide) ?_
                  refine mr_iload (pc := 230) (z := z31997) dX12_through_230 rfl ?_
                  refine mr_imul (pc := 232) (x := 31) (y := z31997) dX12_through_232 ?_
                  refine mr_iload (pc := 233) (z := z33683) dX12_through_233 rfl ?_
                  refine mr_iadd (pc := 235) (x := (31 * z31997)) (y := z33683) dX12_through_235 ?_
                  refine la_129 (pc := 236) dX12_through_236 (A_129 hw) T33744 (rIx (n := 403) (rAdd (e := 0) (f := 371) (rMulL (n := 31) (e := 0) (f := 341) h31999 rfl) h33686 rfl) rfl) fun z33745 q33746 h33747 => ?_
                  refine ss_153 (pc := 237) dX12_through_237 (A_153 hw) T33744 (rIx (n := 14) (rSub (e := 0) (f := 11) h31996 (rR (x := 1)) rfl) rfl) h33747 fun μ33748 u33749 T33750 => ?_
                  have I33751 : lvOK μ33748 z31975 := lvOK.row (lvOK.keep R31986 hw ((mF.call mF.refl F33689 rfl) : mF [106026, 106027, 106028, 106029, 106030, 106031] w μ31976 _) rfl) (PK.keep I33693 hw ((mF.up (mF.up mF.refl (A_152 hw) u33743 rfl) (A_153 hw) u33749 rfl) : mF [152999, 153999] w μ33684 μ33748) rfl) (vc_X12_through_15 h31994 h32000 hq3 ht_f_pol hp1 h31996 h31999) u33743 u33749 (u33749.f (Or.inl (mAt.ne (A_153 hw) (A_151 hw) rfl)) (u33743.f (Or.inl (mAt.ne (A_152 hw) (A_151 hw) rfl)) (F33689.f (A_151 hw) rfl q31998))) (vc_X12_through_22 hq3 h32000 h17678 h31994 ht_f_pol hp1 h31996 h31999) (u33749.f (Or.inl (mAt.ne (A_153 hw) (A_106 hw) rfl)) (u33743.f (Or.inl (mAt.ne (A_152 hw) (A_106 hw) rfl)) (F33689.f (A_106 hw) rfl (F31982.f (A_106 hw) rfl (u17686.f (Or.inl (mAt.ne (A_153 hw) (A_106 hw) rfl)) (u17683.f (Or.inl (mAt.ne (A_152 hw) (A_106 hw) rfl)) (u17680.f (Or.inl (mAt.ne (A_151 hw) (A_106 hw) rfl)) q_f_pol))))))) (vc_X12_through_23 h32010 h32010.1 h33691 h33692 h32013 h33740 h31980 h32014 h32006 h33741 h33686) (u33749.f (Or.inl (mAt.ne (A_153 hw) (A_127 hw) rfl)) (u33743.f (Or.inl (mAt.ne (A_152 hw) (A_127 hw) rfl)) (F33689.f (A_127 hw) rfl q32005))) (vc_X12_through_24 h32000 h33691 h33692 hq3 h31994 h32010 h32010.1 h33740 h31980 ht_f_pol hp1 h31996 h31999 h32014 h32006 h33741 h33686) (u33749.f (Or.inl (mAt.ne (A_153 hw) (A_129 hw) rfl)) q33746)
                  refine sv_goto (pc := 238) (tgt := 35) dX12_through_238 (by decide) ?_
                  refine mr_lvS (lv' := [(0, .ref 106), (2, iv p2), (3, iv p3), (4, iv p4), (5, iv z31975), (6, iv z31974)]) (List.forall_mem_cons.mpr ⟨rfl, List.forall_mem_cons.mpr ⟨rfl, List.forall_mem_cons.mpr ⟨rfl, List.forall_mem_cons.mpr ⟨rfl, List.forall_mem_cons.mpr ⟨rfl, List.forall_mem_cons.mpr ⟨rfl, fun _ h => absurd h List.not_mem_nil⟩⟩⟩⟩⟩⟩) ?_
                  exact ih31991 z31975 z31974 z33683 μ33748 f_y T33750 (mF.up (mF.up (mF.call (mF.call mF.refl F31982 rfl) F33689 rfl) (A_152 hw) u33743 rfl) (A_153 hw) u33749 rfl) (mG.upO (mG.upO (mG.fr (mG.call mG.refl G31983 (List.forall_mem_cons.mpr ⟨⟨_, List.mem_cons_self, (vc_X12_dropMark_5 hp2)⟩, (fun _ h => absurd h List.not_mem_nil)⟩)) F33689 (A_126 hw) rfl) u33743 rfl) u33749 rfl) (u33749.f (Or.inl (mAt.ne (A_153 hw) (A_126 hw) rfl)) (u33743.f (Or.inl (mAt.ne (A_152 hw) (A_126 hw) rfl)) (F33689.f (A_126 hw) rfl q31990))) (rW (c := 0) (d := 12) h31996 rfl) h31979 (rW (c := (-1)) (d := 30) h33686 rfl) (vc_X12_through_12 hq2 h31984 h3 h31993) (PK.keep I33693 hw ((mF.up (mF.up mF.refl (A_152 hw) u33743 rfl) (A_153 hw) u33749 rfl) : mF [152999, 153999] w μ33684 μ33748) rfl) (lvOK.pred I33751 (vc_X12_through_26 h31994 h32000 hq3 ht_f_pol hp1 h31996 h31999)) (Or.inr (u33749.f (Or.inl (mAt.ne (A_153 hw) (A_152 hw) rfl)) u33743.1)) (vc_X12_through_25 (nS h31988) h31994 h32000 h32010 h33691 h33692 hq3 h32010.1 h32013 h33740 h31980 ht_f_pol hp1 h31979 h31996 h31999 h32014 h32006 h33741 h33686) (((((W33739).1 h33740) μ33742 u33743 T33744) z33745 q33746 h33747) μ33748 u33749 T33750)
                have h33752 : 0 ≤ z33682 ∧ z33682 ≤ 0 := (vc_X12_through_27 h33740 h33691 h32006 h33687 h33686)
                refine mr_iinc (pc := 203) (lv' := [(5, iv (z31975 + (-1))), (0, .ref 106), (2, iv p2), (3, iv p3), (4, iv p4), (6, iv z31974), (7, iv (z31975 - 1)), (8, iv z31997), (9, iv z33683), (10, iv z33682)]) dX12_through_203 rfl (by decide) rfl ?_
                by_cases h33753 : (z31975 + (-1)) = 0
                · have h33754 : 1 ≤ z31975 ∧ z31975 ≤ 1 := (vc_X12_through_28 h33753 h31994 h32000 ht_f_pol h31996 h31999)
                  refine sv_goto (pc := 206) (tgt := 35) dX12_through_206 (by decide) ?_
                  refine mr_lvS (lv' := [(0, .ref 106), (2, iv p2), (3, iv p3), (4, iv p4), (5, iv (z31975 + (-1))), (6, iv z31974)]) (List.forall_mem_cons.mpr ⟨rfl, List.forall_mem_cons.mpr ⟨rfl, List.forall_mem_cons.mpr ⟨rfl, List.forall_mem_cons.mpr ⟨rfl, List.forall_mem_cons.mpr ⟨rfl, List.forall_mem_cons.mpr ⟨rfl, fun _ h => absurd h List.not_mem_nil⟩⟩⟩⟩⟩⟩) ?_
                  exact ih31991 (z31975 + (-1)) z31974 0 μ33684 f_y T33688 (mF.call (mF.call mF.refl F31982 rfl) F33689 rfl) (mG.fr (mG.call mG.refl G31983 (List.forall_mem_cons.mpr ⟨⟨_, List.mem_cons_self, (vc_X12_dropMark_5 hp2)⟩, (fun _ h => absurd h List.not_mem_nil)⟩)) F33689 (A_126 hw) rfl) (F33689.f (A_126 hw) rfl q31990) (rW (c := 0) (d := 12) (rAdd (e := 0) (f := 0) h33754 (rR (x := (-1))) rfl) rfl) h31979 (rW (c := (-1)) (d := 30) (rR (x := 0)) rfl) (vc_X12_through_12 hq2 h31984 h3 h31993) I33693 (lvOK.pred (lvOK.keep R31986 hw ((mF.call mF.refl F33689 rfl) : mF [106026, 106027, 106028, 106029, 106030, 106031] w μ31976 μ33684) rfl) (vc_X12_through_30 h31994 h32000 h33753 hq3 ht_f_pol hp1 h33754 h31999)) (Or.inl (vc_X12_through_31 h31994 h32000 h33753 hq3 ht_f_pol hp1 h33754 h31999)) (vc_X12_through_29 (nS h31988) h31994 h32000 h32010 h33692 h33753 hq3 h32010.1 h32013 h33691 h31980 ht_f_pol hp1 h31979 h33754 h31999 h32014 h32006 h33752 h33686) (((W33739).2 h33740).1 h33753)
                have h33755 : 2 ≤ z31975 ∧ z31975 ≤ 12 := (vc_X12_through_32 h33753 h31994 h32000 ht_f_pol h31996 h31999)
                refine sv_goto (pc := 206) (tgt := 35) dX12_through_206 (by decide) ?_
                obtain ⟨z33756, q33757⟩ : ∃ z, μ33684 152 (((z31975 + (-1)) - 1).toNat) = z := ⟨_, rfl⟩
                have h33758 : ((-1) ≤ z33756 ∧ z33756 ≤ 30) := by rw [← q33757]; exact T33688 152 152 (A_152 hw) (((z31975 + (-1)) - 1).toNat)
                refine mr_lvS (lv' := [(0, .ref 106), (2, iv p2), (3, iv p3), (4, iv p4), (5, iv (z31975 + (-1))), (6, iv z31974)]) (List.forall_mem_cons.mpr ⟨rfl, List.forall_mem_cons.mpr ⟨rfl, List.forall_mem_cons.mpr ⟨rfl, List.forall_mem_cons.mpr ⟨rfl, List.forall_mem_cons.mpr ⟨rfl, List.forall_mem_cons.mpr ⟨rfl, fun _ h => absurd h List.not_mem_nil⟩⟩⟩⟩⟩⟩) ?_
                exact ih31991 (z31975 + (-1)) z31974 z33756 μ33684 f_y T33688 (mF.call (mF.call mF.refl F31982 rfl) F33689 rfl) (mG.fr (mG.call mG.refl G31983 (List.forall_mem_cons.mpr ⟨⟨_, List.mem_cons_self, (vc_X12_dropMark_5 hp2)⟩, (fun _ h => absurd h List.not_mem_nil)⟩)) F33689 (A_126 hw) rfl) (F33689.f (A_126 hw) rfl q31990) (rW (c := 0) (d := 12) (rAdd (e := 1) (f := 11) h33755 (rR (x := (-1))) rfl) rfl) h31979 h33758 (vc_X12_through_12 hq2 h31984 h3 h31993) I33693 (lvOK.pred (lvOK.keep R31986 hw ((mF.call mF.refl F33689 rfl) : mF [106026, 106027, 106028, 106029, 106030, 106031] w μ31976 μ33684) rfl) (vc_X12_through_34 h31994 h32000 h33753 hq3 ht_f_pol hp1 h33755 h31999)) (Or.inr q33757) (vc_X12_through_33 (nS h31988) h31994 h32000 h32010 h33692 h33753 hq3 h32010.1 h32013 h33691 h31980 ht_f_pol hp1 h31979 h33755 h31999 h32014 h32006 h33752 h33686 h33758) ((((W33739).2 h33740).2 h33753) z33756 q33757 h33758)
              refine mr_icmp_ge (pc := 109) (tgt := 198) dX12_through_109 (by decide) (r32 h33686 rfl) (r32 h32006 rfl) (fun h33759 => ?_) (fun h33759 => ?_)
              · exact J33738 ((W33695 z33683 z33682 μ33684 rfl h33686 h33687 T33688 F33689).1 h33759)
              have h33760 : 0 ≤ z33683 ∧ z33683 ≤ 29 := (vc_X12_through_35 h33759 h32010 h32010.1 h33691 h33692 h31980 h32014 h32006 h33687 h33686)
              have h33761 : 1 ≤ z32004 ∧ z32004 ≤ 30 := (vc_X12_through_36 h33759 h32010 h32010.1 h33691 h33692 h31980 h32014 h32006 h33687 h33760)
              refine mr_iload (pc := 112) (z := z33682) dX12_through_112 rfl ?_
              refine mr_if_ne (pc := 114) (tgt := 198) dX12_through_114 (by decide) (r32 h33687 rfl) (fun h33762 => ?_) (fun h33762 => ?_)
              · have h33763 : 1 ≤ z33682 ∧ z33682 ≤ 1 := (vc_X12_through_37 h33762 h33691 h33761 h33687 h33760)
                exact J33738 (((W33695 z33683 z33682 μ33684 rfl h33686 h33687 T33688 F33689).2 h33759).1 h33762)
              have h33764 : 0 ≤ z33682 ∧ z33682 ≤ 0 := (vc_X12_through_38 h33762 h33691 h33761 h33687 h33760)
              refine mr_iconst (pc := 117) (z := 1) dX12_through_117 ?_
              refine mr_istore (pc := 118) (lv' := [(10, iv 1), (0, .ref 106), (2, iv p2), (3, iv p3), (4, iv p4), (5, iv z31975), (6, iv z31974), (7, iv (z31975 - 1)), (8, iv z31997), (9, iv z33683)]) dX12_through_118 (by decide) rfl ?_
              refine sv_aload_n (pc := 120) dX12_through_120 rfl rfl ?_
              refine gf_X12_41 (pc := 121) dX12_through_121 wF_X12_361 (A_106 hw) T33688 ?_
              refine mr_bipush (pc := 124) (z := 31) dX12_through_124 (by decide) ?_
              refine mr_iload (pc := 126) (z := z31997) dX12_through_126 rfl ?_
              refine mr_imul (pc := 128) (x := 31) (y := z31997) dX12_through_128 ?_
              refine mr_iload (pc := 129) (z := z33683) dX12_through_129 rfl ?_
              refine mr_iadd (pc := 131) (x := (31 * z31997)) (y := z33683) dX12_through_131 ?_
              refine la_128 (pc := 132) dX12_through_132 (A_128 hw) T33688 (rIx (n := 403) (rAdd (e := 0) (f := 370) (rMulL (n := 31) (e := 0) (f := 341) h31999 rfl) h33760 rfl) rfl) fun z33765 q33766 h33767 => ?_
              refine mr_istore (pc := 133) (lv' := [(11, iv z33765), (10, iv 1), (0, .ref 106), (2, iv p2), (3, iv p3), (4, iv p4), (5, iv z31975), (6, iv z31974), (7, iv (z31975 - 1)), (8, iv z31997), (9, iv z33683)]) dX12_through_133 (by decide) rfl ?_
              have L33818 : ∀ (nL33818 : Nat) (z33816 z33815 : Int) (μ33817 : mM), mT w μ33817 → mF [106026, 106027, 106028, 106029, 106030, 106031] w μ33684 μ33817 → (0 ≤ z33816 ∧ z33816 ≤ 1) → (0 ≤ z33815 ∧ z33815 ≤ 300) → PK μ33817 → (301 - z33815) < (nL33818 : Int) → loopF (WL_X12_through_W_4 w p2 p3 p4 g1 z31997 (loopF (WL_X12_through_W_2 w p2 p3 p4 g1 (loopF (WL_X12_through_W_1 w p2 p3 p4 g1 Q μ17685) False nL31977) z31975 z31974 μ31976 z31997 z32004) False nL33685) z33683 μ33684) False nL33818 (z33816, z33815, μ33817) → sV (gG l D c H0 sa) mX12_through (sRm 6 0 0) (sZ (gG l D c H0 sa) 0 0 (qI w [106026, 106027, 106028, 106029, 106030, 106031, 126999, 151999, 152999, 153999] μ (fun z μ1 => ∃ o_x : Int, μ1 126 ((40 * p2).toNat) = o_x ∧ (0 ≤ z ∧ z ≤ 1) ∧ mG [(((40 * p2) + 1), ((40 * p2) + 40))] μ μ1 ∧ (o_x = f_x) ∧ Q z μ1 ∧ True))) 135 [(0, .ref 106), (2, iv p2), (3, iv p3), (4, iv p4), (5, iv z31975), (6, iv z31974), (7, iv (z31975 - 1)), (8, iv z31997), (9, iv z33683), (10, iv z33816), (11, iv z33815)] [] (mk w μ33817) 0 0 := by
                intro nL33818
                induction nL33818 with
                | zero => intro z33816 z33815 μ33817 T33821 F33822 h33819 h33820 I33824 h33825 W33826; exact ((vc_X12_through_39 h33825 h33820)).elim
                | succ nL33818 ih33827 =>
                  intro z33816 z33815 μ33817 T33821 F33822 h33819 h33820 I33824 h33825 W33826
                  refine mr_iload (pc := 135) (z := z33815) dX12_through_135 rfl ?_
                  refine sv_aload_n (pc := 137) dX12_through_137 rfl rfl ?_
                  refine gf_X12_41 (pc := 138) dX12_through_138 wF_X12_361 (A_106 hw) T33821 ?_
                  refine mr_bipush (pc := 141) (z := 31) dX12_through_141 (by decide) ?_
                  refine mr_iload (pc := 143) (z := z31997) dX12_through_143 rfl ?_
                  refine mr_imul (pc := 145) (x := 31) (y := z31997) dX12_through_145 ?_
                  refine mr_iload (pc := 146) (z := z33683) dX12_through_146 rfl ?_
                  refine mr_iadd (pc := 148) (x := (31 * z31997)) (y := z33683) dX12_through_148 ?_
                  refine mr_iconst (pc := 149) (z := 1) dX12_through_149 ?_
                  refine mr_iadd (pc := 150) (x := ((31 * z31997) + z33683)) (y := 1) dX12_through_150 ?_
                  refine la_128 (pc := 151) dX12_through_151 (A_128 hw) T33821 (rIx (n := 403) (rAdd (e := 1) (f := 371) (rAdd (e := 0) (f := 370) (rMulL (n := 31) (e := 0) (f := 341) h31999 rfl) h33760 rfl) (rR (x := 1)) rfl) rfl) fun z33828 q33829 h33830 => ?_
                  refine mr_icmp_ge (pc := 152) (tgt := 187) dX12_through_152 (by decide) (r32 h33820 rfl) (r32 h33830 rfl) (fun h33840 => ?_) (fun h33840 => ?_)
                  · refine mr_iload (pc := 187) (z := z33816) dX12_through_187 rfl ?_
                    refine mr_if_ne (pc := 189) (tgt := 100) dX12_through_189 (by decide) (r32 h33819 rfl) (fun h33841 => ?_) (fun h33841 => ?_)
                    · have h33842 : 1 ≤ z33816 ∧ z33816 ≤ 1 := (vc_X12_ring_24 h33841 h33819)
                      refine mr_lvS (lv' := [(0, .ref 106), (2, iv p2), (3, iv p3), (4, iv p4), (5, iv z31975), (6, iv z31974), (7, iv (z31975 - 1)), (8, iv z31997), (9, iv z33683), (10, iv z33816)]) (List.forall_mem_cons.mpr ⟨rfl, List.forall_mem_cons.mpr ⟨rfl, List.forall_mem_cons.mpr ⟨rfl, List.forall_mem_cons.mpr ⟨rfl, List.forall_mem_cons.mpr ⟨rfl, List.forall_mem_cons.mpr ⟨rfl, List.forall_mem_cons.mpr ⟨rfl, List.forall_mem_cons.mpr ⟨rfl, List.forall_mem_cons.mpr ⟨rfl, List.forall_mem_cons.mpr ⟨rfl, fun _ h => absurd h List.not_mem_nil⟩⟩⟩⟩⟩⟩⟩⟩⟩⟩) ?_
                      exact ih33696 z33683 z33816 μ33817 T33821 (mF.call (mF.call mF.refl F33689 rfl) F33822 rfl) (rW (c := 0) (d := 30) h33760 rfl) (rW (c := 0) (d := 1) h33842 rfl) (vc_X12_through_41 h32010 h32010.1 h33691 h33692 h33759 h33841 h32013 h33762 h31980 h32014 h33761 h33764 h33760 h33842) (vc_X12_through_42 h32010 h33691 h33692 h33759 h32010.1 h32013 h33762 h31980 h32014 h33761 h33764 h33760) I33824 (vc_X12_through_43 (nS h33694) h33691 h33692 h33759 h33762 h33841 h32010 h32010.1 h31980 h32014 h33761 h33764 h33760 h33842) ((((W33826 z33816 z33815 μ33817 rfl h33819 h33820 T33821 F33822) z33828 q33829 h33830).1 h33840).1 h33841)
                    have h33843 : 0 ≤ z33816 ∧ z33816 ≤ 0 := (vc_X12_ring_22 h33841 h33819)
                    refine mr_iinc (pc := 192) (lv' := [(9, iv (z33683 + 1)), (0, .ref 106), (2, iv p2), (3, iv p3), (4, iv p4), (5, iv z31975), (6, iv z31974), (7, iv (z31975 - 1)), (8, iv z31997), (10, iv z33816), (11, iv z33815)]) dX12_through_192 rfl (by decide) rfl ?_
                    refine sv_goto (pc := 195) (tgt := 100) dX12_through_195 (by decide) ?_
                    refine mr_lvS (lv' := [(0, .ref 106), (2, iv p2), (3, iv p3), (4, iv p4), (5, iv z31975), (6, iv z31974), (7, iv (z31975 - 1)), (8, iv z31997), (9, iv (z33683 + 1)), (10, iv z33816)]) (List.forall_mem_cons.mpr ⟨rfl, List.forall_mem_cons.mpr ⟨rfl, List.forall_mem_cons.mpr ⟨rfl, List.forall_mem_cons.mpr ⟨rfl, List.forall_mem_cons.mpr ⟨rfl, List.forall_mem_cons.mpr ⟨rfl, List.forall_mem_cons.mpr ⟨rfl, List.forall_mem_cons.mpr ⟨rfl, List.forall_mem_cons.mpr ⟨rfl, List.forall_mem_cons.mpr ⟨rfl, fun _ h => absurd h List.not_mem_nil⟩⟩⟩⟩⟩⟩⟩⟩⟩⟩) ?_
                    exact ih33696 (z33683 + 1) z33816 μ33817 T33821 (mF.call (mF.call mF.refl F33689 rfl) F33822 rfl) (rW (c := 0) (d := 30) (rAdd (e := 1) (f := 30) h33760 (rR (x := 1)) rfl) rfl) (rW (c := 0) (d := 1) h33843 rfl) (vc_X12_through_45 h32010 h32010.1 h33691 h33692 h33759 h33841 h32013 h33762 h31980 h32014 h33761 h33764 h33760 h33843) (vc_X12_through_46 h32010 h33691 h33692 h33759 h32010.1 h32013 h33762 h31980 h32014 h33761 h33764 h33760) I33824 (vc_X12_through_47 (nS h33694) h33691 h33692 h33759 h33762 h33841 h32010 h32010.1 h31980 h32014 h33761 h33764 h33760 h33843) ((((W33826 z33816 z33815 μ33817 rfl h33819 h33820 T33821 F33822) z33828 q33829 h33830).1 h33840).2 h33841)
                  have h33844 : 0 ≤ z33815 ∧ z33815 ≤ 299 := (vc_X12_through_48 h33840 h33820 h33830)
                  have h33845 : 1 ≤ z33828 ∧ z33828 ≤ 300 := (vc_X12_through_49 h33840 h33844 h33830)
                  refine mr_iload (pc := 155) (z := z33816) dX12_through_155 rfl ?_
                  refine mr_if_eq (pc := 157) (tgt := 187) dX12_through_157 (by decide) (r32 h33819 rfl) (fun h33853 => ?_) (fun h33853 => ?_)
                  · have h33854 : 0 ≤ z33816 ∧ z33816 ≤ 0 := (vc_X12_ring_22 h33853 h33819)
                    refine mr_iload (pc := 187) (z := z33816) dX12_through_187 rfl ?_
                    refine mr_if_ne (pc := 189) (tgt := 100) dX12_through_189 (by decide) (r32 h33854 rfl) (fun h => ((vc_X10_firstWrongStep_7 h h33854)).elim) (fun _ => ?_)
                    refine mr_iinc (pc := 192) (lv' := [(9, iv (z33683 + 1)), (0, .ref 106), (2, iv p2), (3, iv p3), (4, iv p4), (5, iv z31975), (6, iv z31974), (7, iv (z31975 - 1)), (8, iv z31997), (10, iv z33816), (11, iv z33815)]) dX12_through_192 rfl (by decide) rfl ?_
                    refine sv_goto (pc := 195) (tgt := 100) dX12_through_195 (by decide) ?_
                    refine mr_lvS (lv' := [(0, .ref 106), (2, iv p2), (3, iv p3), (4, iv p4), (5, iv z31975), (6, iv z31974), (7, iv (z31975 - 1)), (8, iv z31997), (9, iv (z33683 + 1)), (10, iv z33816)]) (List.forall_mem_cons.mpr ⟨rfl, List.forall_mem_cons.mpr ⟨rfl, List.forall_mem_cons.mpr ⟨rfl, List.forall_mem_cons.mpr ⟨rfl, List.forall_mem_cons.mpr ⟨rfl, List.forall_mem_cons.mpr ⟨rfl, List.forall_mem_cons.mpr ⟨rfl, List.forall_mem_cons.mpr ⟨rfl, List.forall_mem_cons.mpr ⟨rfl, List.forall_mem_cons.mpr ⟨rfl, fun _ h => absurd h List.not_mem_nil⟩⟩⟩⟩⟩⟩⟩⟩⟩⟩) ?_
                    exact ih33696 (z33683 + 1) z33816 μ33817 T33821 (mF.call (mF.call mF.refl F33689 rfl) F33822 rfl) (rW (c := 0) (d := 30) (rAdd (e := 1) (f := 30) h33760 (rR (x := 1)) rfl) rfl) (rW (c := 0) (d := 1) h33854 rfl) (vc_X12_through_45 h32010 h32010.1 h33691 h33692 h33759 h33853 h32013 h33762 h31980 h32014 h33761 h33764 h33760 h33854) (vc_X12_through_46 h32010 h33691 h33692 h33759 h32010.1 h32013 h33762 h31980 h32014 h33761 h33764 h33760) I33824 (vc_X12_through_47 (nS h33694) h33691 h33692 h33759 h33762 h33853 h32010 h32010.1 h31980 h32014 h33761 h33764 h33760 h33854) ((((W33826 z33816 z33815 μ33817 rfl h33819 h33820 T33821 F33822) z33828 q33829 h33830).2 h33840).1 h33853)
                  have h33855 : 1 ≤ z33816 ∧ z33816 ≤ 1 := (vc_X12_ring_24 h33853 h33819)
                  refine sv_aload_n (pc := 160) dX12_through_160 rfl rfl ?_
                  refine mr_iload (pc := 161) (z := z31997) dX12_through_161 rfl ?_
                  refine mr_sipush (pc := 163) (z := 300) dX12_through_163 (by decide) ?_
                  refine mr_iload (pc := 166) (z := z31997) dX12_through_166 rfl ?_
                  refine mr_imul (pc := 168) (x := 300) (y := z31997) dX12_through_168 ?_
                  refine mr_iload (pc := 169) (z := z33815) dX12_through_169 rfl ?_
                  refine mr_iadd (pc := 171) (x := (300 * z31997)) (y := z33815) dX12_through_171 ?_
                  refine mr_iload_n (pc := 172) (z := p2) dX12_through_172 rfl rfl ?_
                  refine mr_iload_n (pc := 173) (z := p3) dX12_through_173 rfl rfl ?_
                  refine mr_iload (pc := 174) (z := p4) dX12_through_174 rfl ?_
                  have W33861 := ((((W33826 z33816 z33815 μ33817 rfl h33819 h33820 T33821 F33822) z33828 q33829 h33830).2 h33840).2 h33853)
                  refine mr_cVI (pc := 176) (c_X12_isSo_W hw T33821 h31999 (rW (c := 0) (d := 3899) (rAdd (e := 0) (f := 3599) (rMulL (n := 300) (e := 0) (f := 3300) h31999 rfl) h33844 rfl) rfl) hp2 hp3 hp4 hg1 (F33822.f (A_110 hw) rfl (F33689.f (A_110 hw) rfl (F31982.f (A_110 hw) rfl (u17686.f (Or.inl (mAt.ne (A_153 hw) (A_110 hw) rfl)) (u17683.f (Or.inl (mAt.ne (A_152 hw) (A_110 hw) rfl)) (u17680.f (Or.inl (mAt.ne (A_151 hw) (A_110 hw) rfl)) q_f_e0)))))) (F33822.f (A_110 hw) rfl (F33689.f (A_110 hw) rfl (F31982.f (A_110 hw) rfl (u17686.f (Or.inl (mAt.ne (A_153 hw) (A_110 hw) rfl)) (u17683.f (Or.inl (mAt.ne (A_152 hw) (A_110 hw) rfl)) (u17680.f (Or.inl (mAt.ne (A_151 hw) (A_110 hw) rfl)) q_f_e1)))))) (F33822.f (A_106 hw) rfl (F33689.f (A_106 hw) rfl (F31982.f (A_106 hw) rfl (u17686.f (Or.inl (mAt.ne (A_153 hw) (A_106 hw) rfl)) (u17683.f (Or.inl (mAt.ne (A_152 hw) (A_106 hw) rfl)) (u17680.f (Or.inl (mAt.ne (A_151 hw) (A_106 hw) rfl)) q_f_ties)))))) (F33822.f (A_126 hw) rfl (F33689.f (A_126 hw) rfl q31990)) (vc_X12_tieWord_2 hq0 h2 hg1) (vc_X12_tieWord_3 hq1 ht_f_e0 ht_f_e1 hp3 hp4) (vc_X12_through_53 h31984 hq2 h3 h31993) W33861) (gOk _ _ _ _ _) dX12_through_176 (tX12_isSo _ _ _ _ _) ⟨wV_X12_isSo, wL_X12_isSo⟩ wM_X12_397 (gCX12 _ _ _ _ _) rfl (A_106 hw) rfl ⟨le_t rfl, le_t rfl⟩ ⟨le_t rfl, le_t rfl⟩ rfl (le_t rfl) fun z33860 μ33856 T33857 F33858 h33859 => ?_
                  refine mr_istore (pc := 179) (lv' := [(10, iv z33860), (0, .ref 106), (2, iv p2), (3, iv p3), (4, iv p4), (5, iv z31975), (6, iv z31974), (7, iv (z31975 - 1)), (8, iv z31997), (9, iv z33683), (11, iv z33815)]) dX12_through_179 (by decide) rfl ?_
                  refine mr_iinc (pc := 181) (lv' := [(11, iv (z33815 + 1)), (10, iv z33860), (0, .ref 106), (2, iv p2), (3, iv p3), (4, iv p4), (5, iv z31975), (6, iv z31974), (7, iv (z31975 - 1)), (8, iv z31997), (9, iv z33683)]) dX12_through_181 rfl (by decide) rfl ?_
                  refine sv_goto (pc := 184) (tgt := 135) dX12_through_184 (by decide) ?_
                  refine mr_lvS (lv' := [(0, .ref 106), (2, iv p2), (3, iv p3), (4, iv p4), (5, iv z31975), (6, iv z31974), (7, iv (z31975 - 1)), (8, iv z31997), (9, iv z33683), (10, iv z33860), (11, iv (z33815 + 1))]) (List.forall_mem_cons.mpr ⟨rfl, List.forall_mem_cons.mpr ⟨rfl, List.forall_mem_cons.mpr ⟨rfl, List.forall_mem_cons.mpr ⟨rfl, List.forall_mem_cons.mpr ⟨rfl, List.forall_mem_cons.mpr ⟨rfl, List.forall_mem_cons.mpr ⟨rfl, List.forall_mem_cons.mpr ⟨rfl, List.forall_mem_cons.mpr ⟨rfl, List.forall_mem_cons.mpr ⟨rfl, List.forall_mem_cons.mpr ⟨rfl, fun _ h => absurd h List.not_mem_nil⟩⟩⟩⟩⟩⟩⟩⟩⟩⟩⟩) ?_
                  exact ih33827 z33860 (z33815 + 1) μ33856 T33857 (mF.call (mF.call mF.refl F33822 rfl) F33858 rfl) h33859.1 (rW (c := 0) (d := 300) (rAdd (e := 1) (f := 300) h33844 (rR (x := 1)) rfl) rfl) (PK.keep I33824 hw ((mF.call mF.refl F33858 rfl) : mF [106026, 106027, 106028, 106029, 106030, 106031] w μ33817 μ33856) rfl) (vc_X12_through_54 (nS h33825) h33840 h33844 h33845) ((h33859.2.1 T33857 F33858) h33859.1)
              refine mr_lvS (lv' := [(0, .ref 106), (2, iv p2), (3, iv p3), (4, iv p4), (5, iv z31975), (6, iv z31974), (7, iv (z31975 - 1)), (8, iv z31997), (9, iv z33683), (10, iv 1), (11, iv z33765)]) (List.forall_mem_cons.mpr ⟨rfl, List.forall_mem_cons.mpr ⟨rfl, List.forall_mem_cons.mpr ⟨rfl, List.forall_mem_cons.mpr ⟨rfl, List.forall_mem_cons.mpr ⟨rfl, List.forall_mem_cons.mpr ⟨rfl, List.forall_mem_cons.mpr ⟨rfl, List.forall_mem_cons.mpr ⟨rfl, List.forall_mem_cons.mpr ⟨rfl, List.forall_mem_cons.mpr ⟨rfl, List.forall_mem_cons.mpr ⟨rfl, fun _ h => absurd h List.not_mem_nil⟩⟩⟩⟩⟩⟩⟩⟩⟩⟩⟩) ?_
              exact L33818 302 1 z33765 μ33684 T33688 mF.refl (rW (c := 0) (d := 1) (rR (x := 1)) rfl) h33767 I33693 (vc_X12_through_55 h33767) ((((W33695 z33683 z33682 μ33684 rfl h33686 h33687 T33688 F33689).2 h33759).2 h33762) z33765 q33766 h33767)
          refine mr_lvS (lv' := [(0, .ref 106), (2, iv p2), (3, iv p3), (4, iv p4), (5, iv z31975), (6, iv z31974), (7, iv (z31975 - 1)), (8, iv z31997), (9, iv (z32001 + 1)), (10, iv 0)]) (List.forall_mem_cons.mpr ⟨rfl, List.forall_mem_cons.mpr ⟨rfl, List.forall_mem_cons.mpr ⟨rfl, List.forall_mem_cons.mpr ⟨rfl, List.forall_mem_cons.mpr ⟨rfl, List.forall_mem_cons.mpr ⟨rfl, List.forall_mem_cons.mpr ⟨rfl, List.forall_mem_cons.mpr ⟨rfl, List.forall_mem_cons.mpr ⟨rfl, List.forall_mem_cons.mpr ⟨rfl, fun _ h => absurd h List.not_mem_nil⟩⟩⟩⟩⟩⟩⟩⟩⟩⟩) ?_
          exact L33685 71 (z32001 + 1) 0 μ31976 T31981 mF.refl (rW (c := 0) (d := 30) (rAdd (e := 0) (f := 0) h32014 (rR (x := 1)) rfl) rfl) (rW (c := 0) (d := 1) (rR (x := 0)) rfl) (vc_X12_through_56 h32010 h32010.1 h32013 h31980 h32014 h32006) (vc_X12_through_57 h32010 h32010.1 h32013 h31980 h32014 h32006) I31985 (vc_X12_through_58 h32010 h32010.1 h32013 h31980 h32014 h32006) (W32012.1 h32013)
        have h33862 : 0 ≤ z32001 ∧ z32001 ≤ 29 := (vc_X12_through_59 h32013 h32010 h32010.1 h31980 h32011 h32006)
        refine sv_aload_n (pc := 69) dX12_through_69 rfl rfl ?_
        refine gf_X12_69 (pc := 70) dX12_through_70 wF_X12_394 (A_106 hw) T31981 ?_
        refine mr_iload (pc := 73) (z := (z31975 - 1)) dX12_through_73 rfl ?_
        refine la_153 (pc := 75) dX12_through_75 (A_153 hw) T31981 (rIx (n := 14) (rSub (e := 0) (f := 11) h31996 (rR (x := 1)) rfl) rfl) fun z33863 q33864 h33865 => ?_
        refine sv_aload_n (pc := 76) dX12_through_76 rfl rfl ?_
        refine gf_X12_42 (pc := 77) dX12_through_77 wF_X12_364 (A_106 hw) T31981 ?_
        refine mr_bipush (pc := 80) (z := 31) dX12_through_80 (by decide) ?_
        refine mr_iload (pc := 82) (z := z31997) dX12_through_82 rfl ?_
        refine mr_imul (pc := 84) (x := 31) (y := z31997) dX12_through_84 ?_
        refine mr_iload (pc := 85) (z := z32001) dX12_through_85 rfl ?_
        refine mr_iadd (pc := 87) (x := (31 * z31997)) (y := z32001) dX12_through_87 ?_
        refine mr_iconst (pc := 88) (z := 1) dX12_through_88 ?_
        refine mr_iadd (pc := 89) (x := ((31 * z31997) + z32001)) (y := 1) dX12_through_89 ?_
        refine la_129 (pc := 90) dX12_through_90 (A_129 hw) T31981 (rIx (n := 403) (rAdd (e := 1) (f := 371) (rAdd (e := 0) (f := 370) (rMulL (n := 31) (e := 0) (f := 341) h31999 rfl) h33862 rfl) (rR (x := 1)) rfl) rfl) fun z33866 q33867 h33868 => ?_
        have h33869 : z33863 ≤ z33866 ∧ z33866 ≤ z32007 := ⟨lvOK.a R31986 (vc_X12_through_15 h31994 h32000 hq3 ht_f_pol hp1 h31996 h31999) q31998 q32002 q33864 (vc_X12_through_61 h32000 hq3 h31994 ht_f_pol hp1 h31996 h31999) (vc_X12_through_62 h32010 h32010.1 h32013 h31980 h33862 h32006) (vc_X12_through_60 h32000 h32010 h32010.1 h32013 hq3 h31994 h31980 ht_f_pol hp1 h31996 h31999 h33862 h32006) q33867, PK.act I31985 (vc_X12_through_22 hq3 h32000 h17678 h31994 ht_f_pol hp1 h31996 h31999) (F31982.f (A_106 hw) rfl (u17686.f (Or.inl (mAt.ne (A_153 hw) (A_106 hw) rfl)) (u17683.f (Or.inl (mAt.ne (A_152 hw) (A_106 hw) rfl)) (u17680.f (Or.inl (mAt.ne (A_151 hw) (A_106 hw) rfl)) q_f_pol)))) (vc_X12_through_63 h32010 h32010.1 h32013 h31980 h33862 h32006) q32005 (vc_X12_through_60 h32000 h32010 h32010.1 h32013 hq3 h31994 h31980 ht_f_pol hp1 h31996 h31999 h33862 h32006) q33867 q32008⟩
        refine mr_icmp_ne (pc := 91) (tgt := 241) dX12_through_91 (by decide) (r32 h33865 rfl) (r32 h33868 rfl) (fun h33870 => ?_) (fun h33870 => ?_)
        · refine mr_sipush (pc := 241) (z := 300) dX12_through_241 (by decide) ?_
          refine mr_iload (pc := 244) (z := z31997) dX12_through_244 rfl ?_
          refine mr_imul (pc := 246) (x := 300) (y := z31997) dX12_through_246 ?_
          refine sv_aload_n (pc := 247) dX12_through_247 rfl rfl ?_
          refine gf_X12_69 (pc := 248) dX12_through_248 wF_X12_394 (A_106 hw) T31981 ?_
          refine mr_iload (pc := 251) (z := (z31975 - 1)) dX12_through_251 rfl ?_
          refine lk_153 (pc := 253) dX12_through_253 (A_153 hw) (rIx (n := 14) (rSub (e := 0) (f := 11) h31996 (rR (x := 1)) rfl) rfl) q33864 ?_
          refine mr_iadd (pc := 254) (x := (300 * z31997)) (y := z33863) dX12_through_254 ?_
          refine mr_istore (pc := 255) (lv' := [(10, iv ((300 * z31997) + z33863)), (9, iv z32001), (8, iv z31997), (7, iv (z31975 - 1)), (0, .ref 106), (2, iv p2), (3, iv p3), (4, iv p4), (5, iv z31975), (6, iv z31974)]) dX12_through_255 (by decide) rfl ?_
          refine sv_aload_n (pc := 257) dX12_through_257 rfl rfl ?_
          refine gf_X12_69 (pc := 258) dX12_through_258 wF_X12_394 (A_106 hw) T31981 ?_
          refine mr_iload (pc := 261) (z := (z31975 - 1)) dX12_through_261 rfl ?_
          refine sv_dup2 (pc := 263) dX12_through_263 rfl rfl ?_
          refine lk_153 (pc := 264) dX12_through_264 (A_153 hw) (rIx (n := 14) (rSub (e := 0) (f := 11) h31996 (rR (x := 1)) rfl) rfl) q33864 ?_
          refine mr_iconst (pc := 265) (z := 1) dX12_through_265 ?_
          refine mr_iadd (pc := 266) (x := z33863) (y := 1) dX12_through_266 ?_
          refine ss_153 (pc := 267) dX12_through_267 (A_153 hw) T31981 (rIx (n := 14) (rSub (e := 0) (f := 11) h31996 (rR (x := 1)) rfl) rfl) (vc_X12_through_64 h33869 h33870 h32009 h33865 h33868) fun μ33871 u33872 T33873 => ?_
          have I33874 : lvOK μ33871 z31975 := lvOK.act R31986 (vc_X12_through_15 h31994 h32000 hq3 ht_f_pol hp1 h31996 h31999) u33872 (u33872.f (Or.inl (mAt.ne (A_153 hw) (A_151 hw) rfl)) q31998) (u33872.f (Or.inl (mAt.ne (A_153 hw) (A_152 hw) rfl)) q32002) (vc_X12_through_61 h32000 hq3 h31994 ht_f_pol hp1 h31996 h31999) (vc_X12_through_62 h32010 h32010.1 h32013 h31980 h33862 h32006) (vc_X12_through_60 h32000 h32010 h32010.1 h32013 hq3 h31994 h31980 ht_f_pol hp1 h31996 h31999 h33862 h32006) (u33872.f (Or.inl (mAt.ne (A_153 hw) (A_129 hw) rfl)) q33867) (vc_X12_through_65 h33869 h33870 h32009 h33865 h33868)
          refine mr_iinc (pc := 268) (lv' := [(6, iv (z31974 + 1)), (10, iv ((300 * z31997) + z33863)), (9, iv z32001), (8, iv z31997), (7, iv (z31975 - 1)), (0, .ref 106), (2, iv p2), (3, iv p3), (4, iv p4), (5, iv z31975)]) dX12_through_268 rfl (by decide) rfl ?_
          refine mr_iload (pc := 271) (z := (z31974 + 1)) dX12_through_271 rfl ?_
          refine mr_sipush (pc := 273) (z := 500) dX12_through_273 (by decide) ?_
          refine mr_icmp_le (pc := 276) (tgt := 281) dX12_through_276 (by decide) (r32 (rAdd (e := 1) (f := 501) h31979 (rR (x := 1)) rfl) rfl) (r32 (rR (x := 500)) rfl) (fun h33875 => ?_) (fun h33875 => ?_)
          · have h33876 : 0 ≤ z31974 ∧ z31974 ≤ 499 := (vc_X12_through_66 h33875 h31979)
            refine sv_aload_n (pc := 281) dX12_through_281 rfl rfl ?_
            refine gf_X12_53 (pc := 282) dX12_through_282 wF_X12_349 (A_106 hw) T33873 ?_
            refine mr_iload (pc := 285) (z := ((300 * z31997) + z33863)) dX12_through_285 rfl ?_
            refine la_140 (pc := 287) dX12_through_287 (A_140 hw) T33873 (rIx (n := 3900) (rAdd (e := 0) (f := 3600) (rMulL (n := 300) (e := 0) (f := 3300) h31999 rfl) h33865 rfl) rfl) fun z33877 q33878 h33879 => ?_
            refine mr_istore (pc := 288) (lv' := [(11, iv z33877), (6, iv (z31974 + 1)), (10, iv ((300 * z31997) + z33863)), (9, iv z32001), (8, iv z31997), (7, iv (z31975 - 1)), (0, .ref 106), (2, iv p2), (3, iv p3), (4, iv p4), (5, iv z31975)]) dX12_through_288 (by decide) rfl ?_
            refine mr_iload (pc := 290) (z := z33877) dX12_through_290 rfl ?_
            refine mr_bipush (pc := 292) (z := 23) dX12_through_292 (by decide) ?_
            refine mr_icmp_ne (pc := 294) (tgt := 299) dX12_through_294 (by decide) h33879 (r32 (rR (x := 23)) rfl) (fun h33880 => ?_) (fun h33880 => ?_)
            · refine mr_iload (pc := 299) (z := z33877) dX12_through_299 rfl ?_
              refine mr_bipush (pc := 301) (z := 24) dX12_through_301 (by decide) ?_
              refine mr_icmp_ne (pc := 303) (tgt := 308) dX12_through_303 (by decide) h33879 (r32 (rR (x := 24)) rfl) (fun h33881 => ?_) (fun h33881 => ?_)
              · refine mr_iload (pc := 308) (z := z33877) dX12_through_308 rfl ?_
                refine mr_bipush (pc := 310) (z := 25) dX12_through_310 (by decide) ?_
                have J33895 : ∀ (μ33890 : mM), (mT w μ33890) → (mF [126999] w μ33871 μ33890) → (mG [(((40 * p2) + 1), ((40 * p2) + 40))] μ33871 μ33890) → (PK μ33890) → ((WJ_X12_through_W_5 w p2 Q (loopF (WL_X12_through_W_1 w p2 p3 p4 g1 Q μ17685) False nL31977) z31975 z31974 z31997 z33863 μ33871 z33877) μ33890) → sV (gG l D c H0 sa) mX12_through (sRm 6 0 0) (sZ (gG l D c H0 sa) 0 0 (qI w [106026, 106027, 106028, 106029, 106030, 106031, 126999, 151999, 152999, 153999] μ (fun z μ1 => ∃ o_x : Int, μ1 126 ((40 * p2).toNat) = o_x ∧ (0 ≤ z ∧ z ≤ 1) ∧ mG [(((40 * p2) + 1), ((40 * p2) + 40))] μ μ1 ∧ (o_x = f_x) ∧ Q z μ1 ∧ True))) 327 [(0, .ref 106), (2, iv p2), (3, iv p3), (4, iv p4), (5, iv z31975), (6, iv (z31974 + 1)), (10, iv ((300 * z31997) + z33863)), (11, iv z33877)] [] (mk w μ33890) 0 0 := by
                  intro μ33890 T33891 F33892 G33893 I33894 W33896
                  refine mr_iload (pc := 327) (z := z33877) dX12_through_327 rfl ?_
                  refine mr_bipush (pc := 329) (z := 26) dX12_through_329 (by decide) ?_
                  have J33910 : ∀ (μ33905 : mM), (mT w μ33905) → (mF [126999] w μ33890 μ33905) → (mG [(((40 * p2) + 1), ((40 * p2) + 40))] μ33890 μ33905) → (PK μ33905) → ((WJ_X12_through_W_6 w p2 Q (loopF (WL_X12_through_W_1 w p2 p3 p4 g1 Q μ17685) False nL31977) z31975 z31974 z31997 z33863 z33877 μ33890) μ33905) → sV (gG l D c H0 sa) mX12_through (sRm 6 0 0) (sZ (gG l D c H0 sa) 0 0 (qI w [106026, 106027, 106028, 106029, 106030, 106031, 126999, 151999, 152999, 153999] μ (fun z μ1 => ∃ o_x : Int, μ1 126 ((40 * p2).toNat) = o_x ∧ (0 ≤ z ∧ z ≤ 1) ∧ mG [(((40 * p2) + 1), ((40 * p2) + 40))] μ μ1 ∧ (o_x = f_x) ∧ Q z μ1 ∧ True))) 346 [(0, .ref 106), (2, iv p2), (3, iv p3), (4, iv p4), (5, iv z31975), (6, iv (z31974 + 1)), (10, iv ((300 * z31997) + z33863)), (11, iv z33877)] [] (mk w μ33905) 0 0 := by
                    intro μ33905 T33906 F33907 G33908 I33909 W33911
                    refine mr_iload (pc := 346) (z := z33877) dX12_through_346 rfl ?_
                    refine mr_bipush (pc := 348) (z := 12) dX12_through_348 (by decide) ?_
                    have J33924 : ∀ (μ33919 : mM), (mT w μ33919) → (mF [126999] w μ33905 μ33919) → (mG [(((40 * p2) + 1), ((40 * p2) + 40))] μ33905 μ33919) → (PK μ33919) → ((WJ_X12_through_W_7 w p2 Q (loopF (WL_X12_through_W_1 w p2 p3 p4 g1 Q μ17685) False nL31977) z31975 z31974 z31997 z33863 z33877 μ33905) μ33919) → sV (gG l D c H0 sa) mX12_through (sRm 6 0 0) (sZ (gG l D c H0 sa) 0 0 (qI w [106026, 106027, 106028, 106029, 106030, 106031, 126999, 151999, 152999, 153999] μ (fun z μ1 => ∃ o_x : Int, μ1 126 ((40 * p2).toNat) = o_x ∧ (0 ≤ z ∧ z ≤ 1) ∧ mG [(((40 * p2) + 1), ((40 * p2) + 40))] μ μ1 ∧ (o_x = f_x) ∧ Q z μ1 ∧ True))) 371 [(0, .ref 106), (2, iv p2), (3, iv p3), (4, iv p4), (5, iv z31975), (6, iv (z31974 + 1)), (10, iv ((300 * z31997) + z33863)), (11, iv z33877)] [] (mk w μ33919) 0 0 := by
                      intro μ33919 T33920 F33921 G33922 I33923 W33925
                      refine mr_iload (pc := 371) (z := z33877) dX12_through_371 rfl ?_
                      refine mr_bipush (pc := 373) (z := 13) dX12_through_373 (by decide) ?_
                      have J33938 : ∀ (μ33933 : mM), (mT w μ33933) → (mF [126999] w μ33919 μ33933) → (mG [(((40 * p2) + 1), ((40 * p2) + 40))] μ33919 μ33933) → (PK μ33933) → ((WJ_X12_through_W_8 w p2 Q (loopF (WL_X12_through_W_1 w p2 p3 p4 g1 Q μ17685) False nL31977) z31975 z31974 z31997 z33863 z33877 μ33919) μ33933) → sV (gG l D c H0 sa) mX12_through (sRm 6 0 0) (sZ (gG l D c H0 sa) 0 0 (qI w [106026, 106027, 106028, 106029, 106030, 106031, 126999, 151999, 152999, 153999] μ (fun z μ1 => ∃ o_x : Int, μ1 126 ((40 * p2).toNat) = o_x ∧ (0 ≤ z ∧ z ≤ 1) ∧ mG [(((40 * p2) + 1), ((40 * p2) + 40))] μ μ1 ∧ (o_x = f_x) ∧ Q z μ1 ∧ True))) 396 [(0, .ref 106), (2, iv p2), (3, iv p3), (4, iv p4), (5, iv z31975), (6, iv (z31974 + 1)), (10, iv ((300 * z31997) + z33863)), (11, iv z33877)] [] (mk w μ33933) 0 0 := by
                        intro μ33933 T33934 F33935 G33936 I33937 W33939
                        refine mr_iload (pc := 396) (z := z33877) dX12_through_396 rfl ?_
                        refine mr_bipush (pc := 398) (z := 27) dX12_through_398 (by decide) ?_
                        refine mr_icmp_ne (pc := 400) (tgt := 486) dX12_through_400 (by decide) h33879 (r32 (rR (x := 27)) rfl) (fun h33940 => ?_) (fun h33940 => ?_)
                        · refine mr_iload (pc := 486) (z := z33877) dX12_through_486 rfl ?_
                          refine mr_bipush (pc := 488) (z := 28) dX12_through_488 (by decide) ?_
                          refine mr_icmp_ne (pc := 490) (tgt := 526) dX12_through_490 (by decide) h33879 (r32 (rR (x := 28)) rfl) (fun h33954 => ?_) (fun h33954 => ?_)
                          · refine sv_goto (pc := 526) (tgt := 35) dX12_through_526 (by decide) ?_
                            refine mr_lvS (lv' := [(0, .ref 106), (2, iv p2), (3, iv p3), (4, iv p4), (5, iv z31975), (6, iv (z31974 + 1))]) (List.forall_mem_cons.mpr ⟨rfl, List.forall_mem_cons.mpr ⟨rfl, List.forall_mem_cons.mpr ⟨rfl, List.forall_mem_cons.mpr ⟨rfl, List.forall_mem_cons.mpr ⟨rfl, List.forall_mem_cons.mpr ⟨rfl, fun _ h => absurd h List.not_mem_nil⟩⟩⟩⟩⟩⟩) ?_
                            exact ih31991 z31975 (z31974 + 1) z32001 μ33933 f_y T33934 (mF.call (mF.call (mF.call (mF.call (mF.up (mF.call mF.refl F31982 rfl) (A_153 hw) u33872 rfl) F33892 rfl) F33907 rfl) F33921 rfl) F33935 rfl) (mG.call (mG.call (mG.call (mG.call (mG.upO (mG.call mG.refl G31983 (List.forall_mem_cons.mpr ⟨⟨_, List.mem_cons_self, (vc_X12_dropMark_5 hp2)⟩, (fun _ h => absurd h List.not_mem_nil)⟩)) u33872 rfl) G33893 (List.forall_mem_cons.mpr ⟨⟨_, List.mem_cons_self, (vc_X12_dropMark_5 hp2)⟩, (fun _ h => absurd h List.not_mem_nil)⟩)) G33908 (List.forall_mem_cons.mpr ⟨⟨_, List.mem_cons_self, (vc_X12_dropMark_5 hp2)⟩, (fun _ h => absurd h List.not_mem_nil)⟩)) G33922 (List.forall_mem_cons.mpr ⟨⟨_, List.mem_cons_self, (vc_X12_dropMark_5 hp2)⟩, (fun _ h => absurd h List.not_mem_nil)⟩)) G33936 (List.forall_mem_cons.mpr ⟨⟨_, List.mem_cons_self, (vc_X12_dropMark_5 hp2)⟩, (fun _ h => absurd h List.not_mem_nil)⟩)) (G33936.f (vc_X12_copy_1 hp2) (List.forall_mem_cons.mpr ⟨(vc_X12_through_67 hp2), (fun _ h => absurd h List.not_mem_nil)⟩) (G33922.f (vc_X12_copy_1 hp2) (List.forall_mem_cons.mpr ⟨(vc_X12_through_67 hp2), (fun _ h => absurd h List.not_mem_nil)⟩) (G33908.f (vc_X12_copy_1 hp2) (List.forall_mem_cons.mpr ⟨(vc_X12_through_67 hp2), (fun _ h => absurd h List.not_mem_nil)⟩) (G33893.f (vc_X12_copy_1 hp2) (List.forall_mem_cons.mpr ⟨(vc_X12_through_67 hp2), (fun _ h => absurd h List.not_mem_nil)⟩) (u33872.f (Or.inl (mAt.ne (A_153 hw) (A_126 hw) rfl)) q31990))))) (rW (c := 0) (d := 12) h31996 rfl) (rW (c := 0) (d := 500) (rAdd (e := 1) (f := 500) h33876 (rR (x := 1)) rfl) rfl) (rW (c := (-1)) (d := 30) h33862 rfl) (vc_X12_through_12 hq2 h31984 h3 h31993) I33937 (lvOK.pred (lvOK.keep I33874 hw ((mF.call (mF.call (mF.call (mF.call mF.refl F33892 rfl) F33907 rfl) F33921 rfl) F33935 rfl) : mF [126999] w μ33871 μ33933) rfl) (vc_X12_through_26 h31994 h32000 hq3 ht_f_pol hp1 h31996 h31999)) (Or.inr (F33935.f (A_152 hw) rfl (F33921.f (A_152 hw) rfl (F33907.f (A_152 hw) rfl (F33892.f (A_152 hw) rfl (u33872.f (Or.inl (mAt.ne (A_153 hw) (A_152 hw) rfl)) q32002)))))) (vc_X12_through_68 (nS h31988) h31994 h32000 h32010 h32010.1 h32013 h33875 hq3 h31980 ht_f_pol hp1 h33876 h31996 h31999 h33862 h32006) (((W33939 T33934 F33935).1 h33940).1 h33954)
                          have h33955 : 28 ≤ z33877 ∧ z33877 ≤ 28 := (vc_X12_through_69 h33954 h33880 h33881 h33940 h33879)
                          refine sv_aload_n (pc := 493) dX12_through_493 rfl rfl ?_
                          refine gf_X12_67 (pc := 494) dX12_through_494 wF_X12_388 (A_106 hw) T33934 ?_
                          refine mr_iload (pc := 497) (z := z31975) dX12_through_497 rfl ?_
                          refine sv_aload_n (pc := 499) dX12_through_499 rfl rfl ?_
                          refine gf_X12_54 (pc := 500) dX12_through_500 wF_X12_352 (A_106 hw) T33934 ?_
                          refine mr_iload (pc := 503) (z := ((300 * z31997) + z33863)) dX12_through_503 rfl ?_
                          refine la_141 (pc := 505) dX12_through_505 (A_141 hw) T33934 (rIx (n := 3900) (rAdd (e := 0) (f := 3600) (rMulL (n := 300) (e := 0) (f := 3300) h31999 rfl) h33865 rfl) rfl) fun z33956 q33957 h33958 => ?_
                          have h33959 : 0 ≤ z33956 ∧ z33956 < z31997 := PK.call I33937 (vc_X12_through_22 hq3 h32000 h17678 h31994 ht_f_pol hp1 h31996 h31999) (F33935.f (A_106 hw) rfl (F33921.f (A_106 hw) rfl (F33907.f (A_106 hw) rfl (F33892.f (A_106 hw) rfl (u33872.f (Or.inl (mAt.ne (A_153 hw) (A_106 hw) rfl)) (F31982.f (A_106 hw) rfl (u17686.f (Or.inl (mAt.ne (A_153 hw) (A_106 hw) rfl)) (u17683.f (Or.inl (mAt.ne (A_152 hw) (A_106 hw) rfl)) (u17680.f (Or.inl (mAt.ne (A_151 hw) (A_106 hw) rfl)) q_f_pol))))))))) (a := (((300 * z31997) + z33863) - (300 * z31997))) (vc_X12_through_70 h32000 h33869 h33870 hq3 h31994 ht_f_pol hp1 h31996 h31999 h32009 h33865 h33868) (F33935.f (A_131 hw) rfl (F33921.f (A_131 hw) rfl (F33907.f (A_131 hw) rfl (F33892.f (A_131 hw) rfl (u33872.f (Or.inl (mAt.ne (A_153 hw) (A_131 hw) rfl)) q32008))))) (vc_X12_through_71 h32000 h33869 h33870 hq3 h31994 ht_f_pol hp1 h31996 h31999 h32009 h33865 h33868) (F33935.f (A_140 hw) rfl (F33921.f (A_140 hw) rfl (F33907.f (A_140 hw) rfl (F33892.f (A_140 hw) rfl q33878)))) (vc_X12_through_72 h33880 h33881 h33940 h33954 h33955) q33957
                          have h33960 : 0 ≤ z33956 ∧ z33956 ≤ 10 := (vc_X12_through_73 h33959 h32000 ht_f_pol h31996 h31999 h33958)
                          have h33961 : 1 ≤ z31997 ∧ z31997 ≤ 11 := (vc_X12_through_W_74 h33959 h32000 ht_f_pol h31996 h31999 h33960)
                          refine ss_151 (pc := 506) dX12_through_506 (A_151 hw) T33934 (rIx (n := 14) h31996 rfl) (rW (c := 0) (d := 11) h33960 rfl) fun μ33962 u33963 T33964 => ?_
                          refine sv_aload_n (pc := 507) dX12_through_507 rfl rfl ?_
                          refine gf_X12_68 (pc := 508) dX12_through_508 wF_X12_391 (A_106 hw) T33964 ?_
                          refine mr_iload (pc := 511) (z := z31975) dX12_through_511 rfl ?_
                          refine mr_iconst (pc := 513) (z := (-1)) dX12_through_513 ?_
                          refine ss_152 (pc := 514) dX12_through_514 (A_152 hw) T33964 (rIx (n := 14) h31996 rfl) (rW (c := (-1)) (d := 30) (rR (x := (-1))) rfl) fun μ33965 u33966 T33967 => ?_
                          refine sv_aload_n (pc := 515) dX12_through_515 rfl rfl ?_
                          refine gf_X12_69 (pc := 516) dX12_through_516 wF_X12_394 (A_106 hw) T33967 ?_
                          refine mr_iload (pc := 519) (z := z31975) dX12_through_519 rfl ?_
                          refine mr_iconst (pc := 521) (z := 0) dX12_through_521 ?_
                          refine ss_153 (pc := 522) dX12_through_522 (A_153 hw) T33967 (rIx (n := 14) h31996 rfl) (rW (c := 0) (d := 300) (rR (x := 0)) rfl) fun μ33968 u33969 T33970 => ?_
                          obtain ⟨z33971, q33972⟩ : ∃ z, μ33968 127 (z33956.toNat) = z := ⟨_, rfl⟩
                          have h33973 : (0 ≤ z33971 ∧ z33971 ≤ 30) := by rw [← q33972]; exact T33970 127 127 (A_127 hw) (z33956.toNat)
                          have I33974 : lvOK μ33968 (z31975 + 1) := lvOK.push (lvOK.keep I33874 hw ((mF.call (mF.call (mF.call (mF.call mF.refl F33892 rfl) F33907 rfl) F33921 rfl) F33935 rfl) : mF [126999] w μ33871 _) rfl) (vc_X12_through_W_75 h31994 h32000 hq3 h33959 ht_f_pol hp1 h31996 h33961 h33960) u33963 u33966 u33969 (u33969.f (Or.inl (mAt.ne (A_153 hw) (A_106 hw) rfl)) (u33966.f (Or.inl (mAt.ne (A_152 hw) (A_106 hw) rfl)) (u33963.f (Or.inl (mAt.ne (A_151 hw) (A_106 hw) rfl)) (F33935.f (A_106 hw) rfl (F33921.f (A_106 hw) rfl (F33907.f (A_106 hw) rfl (F33892.f (A_106 hw) rfl (u33872.f (Or.inl (mAt.ne (A_153 hw) (A_106 hw) rfl)) (F31982.f (A_106 hw) rfl (u17686.f (Or.inl (mAt.ne (A_153 hw) (A_106 hw) rfl)) (u17683.f (Or.inl (mAt.ne (A_152 hw) (A_106 hw) rfl)) (u17680.f (Or.inl (mAt.ne (A_151 hw) (A_106 hw) rfl)) q_f_pol)))))))))))) (vc_X12_through_W_76 hq3 h31994 h32000 h33959 h17678 ht_f_pol hp1 h31996 h33961 h33960) q33972 (vc_X12_through_8 h33973)
                          refine mr_iinc (pc := 523) (lv' := [(5, iv (z31975 + 1)), (0, .ref 106), (2, iv p2), (3, iv p3), (4, iv p4), (6, iv (z31974 + 1)), (10, iv ((300 * z31997) + z33863)), (11, iv z33877)]) dX12_through_523 rfl (by decide) rfl ?_
                          refine sv_goto (pc := 526) (tgt := 35) dX12_through_526 (by decide) ?_
                          refine mr_lvS (lv' := [(0, .ref 106), (2, iv p2), (3, iv p3), (4, iv p4), (5, iv (z31975 + 1)), (6, iv (z31974 + 1))]) (List.forall_mem_cons.mpr ⟨rfl, List.forall_mem_cons.mpr ⟨rfl, List.forall_mem_cons.mpr ⟨rfl, List.forall_mem_cons.mpr ⟨rfl, List.forall_mem_cons.mpr ⟨rfl, List.forall_mem_cons.mpr ⟨rfl, fun _ h => absurd h List.not_mem_nil⟩⟩⟩⟩⟩⟩) ?_
                          exact ih31991 (z31975 + 1) (z31974 + 1) (-1) μ33968 f_y T33970 (mF.up (mF.up (mF.up (mF.call (mF.call (mF.call (mF.call (mF.up (mF.call mF.refl F31982 rfl) (A_153 hw) u33872 rfl) F33892 rfl) F33907 rfl) F33921 rfl) F33935 rfl) (A_151 hw) u33963 rfl) (A_152 hw) u33966 rfl) (A_153 hw) u33969 rfl) (mG.upO (mG.upO (mG.upO (mG.call (mG.call (mG.call (mG.call (mG.upO (mG.call mG.refl G31983 (List.forall_mem_cons.mpr ⟨⟨_, List.mem_cons_self, (vc_X12_dropMark_5 hp2)⟩, (fun _ h => absurd h List.not_mem_nil)⟩)) u33872 rfl) G33893 (List.forall_mem_cons.mpr ⟨⟨_, List.mem_cons_self, (vc_X12_dropMark_5 hp2)⟩, (fun _ h => absurd h List.not_mem_nil)⟩)) G33908 (List.forall_mem_cons.mpr ⟨⟨_, List.mem_cons_self, (vc_X12_dropMark_5 hp2)⟩, (fun _ h => absurd h List.not_mem_nil)⟩)) G33922 (List.forall_mem_cons.mpr ⟨⟨_, List.mem_cons_self, (vc_X12_dropMark_5 hp2)⟩, (fun _ h => absurd h List.not_mem_nil)⟩)) G33936 (List.forall_mem_cons.mpr ⟨⟨_, List.mem_cons_self, (vc_X12_dropMark_5 hp2)⟩, (fun _ h => absurd h List.not_mem_nil)⟩)) u33963 rfl) u33966 rfl) u33969 rfl) (u33969.f (Or.inl (mAt.ne (A_153 hw) (A_126 hw) rfl)) (u33966.f (Or.inl (mAt.ne (A_152 hw) (A_126 hw) rfl)) (u33963.f (Or.inl (mAt.ne (A_151 hw) (A_126 hw) rfl)) (G33936.f (vc_X12_copy_1 hp2) (List.forall_mem_cons.mpr ⟨(vc_X12_through_67 hp2), (fun _ h => absurd h List.not_mem_nil)⟩) (G33922.f (vc_X12_copy_1 hp2) (List.forall_mem_cons.mpr ⟨(vc_X12_through_67 hp2), (fun _ h => absurd h List.not_mem_nil)⟩) (G33908.f (vc_X12_copy_1 hp2) (List.forall_mem_cons.mpr ⟨(vc_X12_through_67 hp2), (fun _ h => absurd h List.not_mem_nil)⟩) (G33893.f (vc_X12_copy_1 hp2) (List.forall_mem_cons.mpr ⟨(vc_X12_through_67 hp2), (fun _ h => absurd h List.not_mem_nil)⟩) (u33872.f (Or.inl (mAt.ne (A_153 hw) (A_126 hw) rfl)) q31990)))))))) (vc_X12_through_W_79 h31994 h32000 hq3 h33959 ht_f_pol hp1 h31996 h33961 h33960) (rW (c := 0) (d := 500) (rAdd (e := 1) (f := 500) h33876 (rR (x := 1)) rfl) rfl) (rW (c := (-1)) (d := 30) (rR (x := (-1))) rfl) (vc_X12_through_12 hq2 h31984 h3 h31993) (PK.keep I33937 hw ((mF.up (mF.up (mF.up mF.refl (A_151 hw) u33963 rfl) (A_152 hw) u33966 rfl) (A_153 hw) u33969 rfl) : mF [151999, 152999, 153999] w μ33933 μ33968) rfl) (lvOK.pred I33974 (vc_X12_through_W_81 h31994 h32000 hq3 h33959 ht_f_pol hp1 h31996 h33961 h33960)) (Or.inr (eqIx (vc_X12_through_77 h31996) (u33969.f (Or.inl (mAt.ne (A_153 hw) (A_152 hw) rfl)) u33966.1))) (vc_X12_through_W_80 (nS h31988) h31994 h32000 h32010 h33875 hq3 h32010.1 h32013 h33959 h31980 ht_f_pol hp1 h33876 h31996 h33961 h33862 h32006 h33960) ((((((((W33939 T33934 F33935).1 h33940).2 h33954) z33956 q33957 h33958) μ33962 u33963 T33964) μ33965 u33966 T33967) μ33968 u33969 T33970) z33971 q33972 h33973)
                        have h33975 : 27 ≤ z33877 ∧ z33877 ≤ 27 := (vc_X12_through_81 h33940 h33880 h33881 h33879)
                        refine sv_aload_n (pc := 403) dX12_through_403 rfl rfl ?_
                        refine gf_X12_32 (pc := 404) dX12_through_404 wF_X12_148 (A_106 hw) T33934 ?_
                        refine mr_bipush (pc := 407) (z := 40) dX12_through_407 (by decide) ?_
                        refine mr_iload_n (pc := 409) (z := p2) dX12_through_409 rfl rfl ?_
                        refine mr_imul (pc := 410) (x := 40) (y := p2) dX12_through_410 ?_
                        refine mr_iconst (pc := 411) (z := 4) dX12_through_411 ?_
                        refine mr_iadd (pc := 412) (x := (40 * p2)) (y := 4) dX12_through_412 ?_
                        refine la_126 (pc := 413) dX12_through_413 (A_126 hw) T33934 (rIx (n := 84000) (rAdd (e := 4) (f := 83964) (rMulL (n := 40) (e := 0) (f := 83960) hp2 rfl) (rR (x := 4)) rfl) rfl) fun z33976 q33977 h33978 => ?_
                        have h33979 : 0 ≤ z33976 ∧ z33976 ≤ 20 := h33978.2.2.1 (vc_X12_front_1 hp2)
                        refine mr_if_le (pc := 414) (tgt := 486) dX12_through_414 (by decide) (r32 h33979 rfl) (fun h33980 => ?_) (fun h33980 => ?_)
                        · have h33981 : 0 ≤ z33976 ∧ z33976 ≤ 0 := (vc_X12_write_57 h33980 h33979)
                          refine mr_iload (pc := 486) (z := z33877) dX12_through_486 rfl ?_
                          refine mr_bipush (pc := 488) (z := 28) dX12_through_488 (by decide) ?_
                          refine mr_icmp_ne (pc := 490) (tgt := 526) dX12_through_490 (by decide) (r32 h33975 rfl) (r32 (rR (x := 28)) rfl) (fun _ => ?_) (fun h => ((vc_X12_through_84 h h33975)).elim)
                          refine sv_goto (pc := 526) (tgt := 35) dX12_through_526 (by decide) ?_
                          refine mr_lvS (lv' := [(0, .ref 106), (2, iv p2), (3, iv p3), (4, iv p4), (5, iv z31975), (6, iv (z31974 + 1))]) (List.forall_mem_cons.mpr ⟨rfl, List.forall_mem_cons.mpr ⟨rfl, List.forall_mem_cons.mpr ⟨rfl, List.forall_mem_cons.mpr ⟨rfl, List.forall_mem_cons.mpr ⟨rfl, List.forall_mem_cons.mpr ⟨rfl, fun _ h => absurd h List.not_mem_nil⟩⟩⟩⟩⟩⟩) ?_
                          exact ih31991 z31975 (z31974 + 1) z32001 μ33933 f_y T33934 (mF.call (mF.call (mF.call (mF.call (mF.up (mF.call mF.refl F31982 rfl) (A_153 hw) u33872 rfl) F33892 rfl) F33907 rfl) F33921 rfl) F33935 rfl) (mG.call (mG.call (mG.call (mG.call (mG.upO (mG.call mG.refl G31983 (List.forall_mem_cons.mpr ⟨⟨_, List.mem_cons_self, (vc_X12_dropMark_5 hp2)⟩, (fun _ h => absurd h List.not_mem_nil)⟩)) u33872 rfl) G33893 (List.forall_mem_cons.mpr ⟨⟨_, List.mem_cons_self, (vc_X12_dropMark_5 hp2)⟩, (fun _ h => absurd h List.not_mem_nil)⟩)) G33908 (List.forall_mem_cons.mpr ⟨⟨_, List.mem_cons_self, (vc_X12_dropMark_5 hp2)⟩, (fun _ h => absurd h List.not_mem_nil)⟩)) G33922 (List.forall_mem_cons.mpr ⟨⟨_, List.mem_cons_self, (vc_X12_dropMark_5 hp2)⟩, (fun _ h => absurd h List.not_mem_nil)⟩)) G33936 (List.forall_mem_cons.mpr ⟨⟨_, List.mem_cons_self, (vc_X12_dropMark_5 hp2)⟩, (fun _ h => absurd h List.not_mem_nil)⟩)) (G33936.f (vc_X12_copy_1 hp2) (List.forall_mem_cons.mpr ⟨(vc_X12_through_67 hp2), (fun _ h => absurd h List.not_mem_nil)⟩) (G33922.f (vc_X12_copy_1 hp2) (List.forall_mem_cons.mpr ⟨(vc_X12_through_67 hp2), (fun _ h => absurd h List.not_mem_nil)⟩) (G33908.f (vc_X12_copy_1 hp2) (List.forall_mem_cons.mpr ⟨(vc_X12_through_67 hp2), (fun _ h => absurd h List.not_mem_nil)⟩) (G33893.f (vc_X12_copy_1 hp2) (List.forall_mem_cons.mpr ⟨(vc_X12_through_67 hp2), (fun _ h => absurd h List.not_mem_nil)⟩) (u33872.f (Or.inl (mAt.ne (A_153 hw) (A_126 hw) rfl)) q31990))))) (rW (c := 0) (d := 12) h31996 rfl) (rW (c := 0) (d := 500) (rAdd (e := 1) (f := 500) h33876 (rR (x := 1)) rfl) rfl) (rW (c := (-1)) (d := 30) h33862 rfl) (vc_X12_through_12 hq2 h31984 h3 h31993) I33937 (lvOK.pred (lvOK.keep I33874 hw ((mF.call (mF.call (mF.call (mF.call mF.refl F33892 rfl) F33907 rfl) F33921 rfl) F33935 rfl) : mF [126999] w μ33871 μ33933) rfl) (vc_X12_through_26 h31994 h32000 hq3 ht_f_pol hp1 h31996 h31999)) (Or.inr (F33935.f (A_152 hw) rfl (F33921.f (A_152 hw) rfl (F33907.f (A_152 hw) rfl (F33892.f (A_152 hw) rfl (u33872.f (Or.inl (mAt.ne (A_153 hw) (A_152 hw) rfl)) q32002)))))) (vc_X12_through_68 (nS h31988) h31994 h32000 h32010 h32010.1 h32013 h33875 hq3 h31980 ht_f_pol hp1 h33876 h31996 h31999 h33862 h32006) ((((W33939 T33934 F33935).2 h33940) z33976 q33977 h33978).1 h33980)
                        have h33982 : 1 ≤ z33976 ∧ z33976 ≤ 20 := (vc_X12_write_59 h33980 h33979)
                        refine sv_aload_n (pc := 417) dX12_through_417 rfl rfl ?_
                        refine gf_X12_32 (pc := 418) dX12_through_418 wF_X12_148 (A_106 hw) T33934 ?_
                        refine mr_bipush (pc := 421) (z := 40) dX12_through_421 (by decide) ?_
                        refine mr_iload_n (pc := 423) (z := p2) dX12_through_423 rfl rfl ?_
                        refine mr_imul (pc := 424) (x := 40) (y := p2) dX12_through_424 ?_
                        refine mr_bipush (pc := 425) (z := 6) dX12_through_425 (by decide) ?_
                        refine mr_iadd (pc := 427) (x := (40 * p2)) (y := 6) dX12_through_427 ?_
                        refine la_126 (pc := 428) dX12_through_428 (A_126 hw) T33934 (rIx (n := 84000) (rAdd (e := 6) (f := 83966) (rMulL (n := 40) (e := 0) (f := 83960) hp2 rfl) (rR (x := 6)) rfl) rfl) fun z33983 q33984 h33985 => ?_
                        refine mr_istore (pc := 429) (lv' := [(12, iv z33983), (0, .ref 106), (2, iv p2), (3, iv p3), (4, iv p4), (5, iv z31975), (6, iv (z31974 + 1)), (10, iv ((300 * z31997) + z33863)), (11, iv z33877)]) dX12_through_429 (by decide) rfl ?_
                        refine sv_aload_n (pc := 431) dX12_through_431 rfl rfl ?_
                        refine gf_X12_32 (pc := 432) dX12_through_432 wF_X12_148 (A_106 hw) T33934 ?_
                        refine mr_bipush (pc := 435) (z := 40) dX12_through_435 (by decide) ?_
                        refine mr_iload_n (pc := 437) (z := p2) dX12_through_437 rfl rfl ?_
                        refine mr_imul (pc := 438) (x := 40) (y := p2) dX12_through_438 ?_
                        refine mr_iconst (pc := 439) (z := 4) dX12_through_439 ?_
                        refine mr_iadd (pc := 440) (x := (40 * p2)) (y := 4) dX12_through_440 ?_
                        refine lk_126 (pc := 441) dX12_through_441 (A_126 hw) (rIx (n := 84000) (rAdd (e := 4) (f := 83964) (rMulL (n := 40) (e := 0) (f := 83960) hp2 rfl) (rR (x := 4)) rfl) rfl) q33977 ?_
                        refine sv_aload_n (pc := 442) dX12_through_442 rfl rfl ?_
                        refine gf_X12_54 (pc := 443) dX12_through_443 wF_X12_352 (A_106 hw) T33934 ?_
                        refine mr_iload (pc := 446) (z := ((300 * z31997) + z33863)) dX12_through_446 rfl ?_
                        refine la_141 (pc := 448) dX12_through_448 (A_141 hw) T33934 (rIx (n := 3900) (rAdd (e := 0) (f := 3600) (rMulL (n := 300) (e := 0) (f := 3300) h31999 rfl) h33865 rfl) rfl) fun z33986 q33987 h33988 => ?_
                        refine mr_iadd (pc := 449) (x := z33976) (y := z33986) dX12_through_449 ?_
                        refine mr_wrapF fun z33989 h33990 h33991 => ?_
                        refine mr_bipush (pc := 450) (z := 20) dX12_through_450 (by decide) ?_
                        refine mr_icmp_le (pc := 452) (tgt := 457) dX12_through_452 (by decide) h33990 (r32 (rR (x := 20)) rfl) (fun h33992 => ?_) (fun h33992 => ?_)
                        · have h33993 : (-2147483648) ≤ z33989 ∧ z33989 ≤ 20 := (vc_X12_through_W_87 h33992 h33991 h33982 h33988 h33990)
                          refine mr_iconst (pc := 457) (z := 0) dX12_through_457 ?_
                          refine mr_istore (pc := 458) (lv' := [(13, iv 0), (12, iv z33983), (0, .ref 106), (2, iv p2), (3, iv p3), (4, iv p4), (5, iv z31975), (6, iv (z31974 + 1)), (10, iv ((300 * z31997) + z33863)), (11, iv z33877)]) dX12_through_458 (by decide) rfl ?_
                          have L34356 : ∀ (nL34356 : Nat) (z34354 : Int) (μ34355 : mM), mT w μ34355 → mF [126999] w μ33933 μ34355 → mG [(((40 * p2) + 1), ((40 * p2) + 40))] μ33933 μ34355 → (0 ≤ z34354 ∧ z34354 ≤ 2147483647) → PK μ34355 → ((z33986 - z34354) + 4294967296) < (nL34356 : Int) → loopF (WL_X12_through_W_9 w p2 (loopF (WL_X12_through_W_1 w p2 p3 p4 g1 Q μ17685) False nL31977) z31975 z31974 μ33933 z33983 z33986) False nL34356 (z34354, μ34355) → sV (gG l D c H0 sa) mX12_through (sRm 6 0 0) (sZ (gG l D c H0 sa) 0 0 (qI w [106026, 106027, 106028, 106029, 106030, 106031, 126999, 151999, 152999, 153999] μ (fun z μ1 => ∃ o_x : Int, μ1 126 ((40 * p2).toNat) = o_x ∧ (0 ≤ z ∧ z ≤ 1) ∧ mG [(((40 * p2) + 1), ((40 * p2) + 40))] μ μ1 ∧ (o_x = f_x) ∧ Q z μ1 ∧ True))) 460 [(0, .ref 106), (2, iv p2), (3, iv p3), (4, iv p4), (5, iv z31975), (6, iv (z31974 + 1)), (10, iv ((300 * z31997) + z33863)), (11, iv z33877), (12, iv z33983), (13, iv z34354)] [] (mk w μ34355) 0 0 := by
                            intro nL34356
                            induction nL34356 with
                            | zero => intro z34354 μ34355 T34358 F34359 G34360 h34357 I34361 h34362 W34363; exact ((vc_X12_through_W_88 h34362 h33991 h33980 h33992 h33982 h33988 h33993 h34357)).elim
                            | succ nL34356 ih34364 =>
                              intro z34354 μ34355 T34358 F34359 G34360 h34357 I34361 h34362 W34363
                              refine mr_iload (pc := 460) (z := z34354) dX12_through_460 rfl ?_
                              refine sv_aload_n (pc := 462) dX12_through_462 rfl rfl ?_
                              refine gf_X12_54 (pc := 463) dX12_through_463 wF_X12_352 (A_106 hw) T34358 ?_
                              refine mr_iload (pc := 466) (z := ((300 * z31997) + z33863)) dX12_through_466 rfl ?_
                              refine lk_141 (pc := 468) dX12_through_468 (A_141 hw) (rIx (n := 3900) (rAdd (e := 0) (f := 3600) (rMulL (n := 300) (e := 0) (f := 3300) h31999 rfl) h33865 rfl) rfl) (F34359.f (A_141 hw) rfl q33987) ?_
                              refine mr_icmp_ge (pc := 469) (tgt := 486) dX12_through_469 (by decide) (r32 h34357 rfl) h33988 (fun h34372 => ?_) (fun h34372 => ?_)
                              · refine mr_iload (pc := 486) (z := z33877) dX12_through_486 rfl ?_
                                refine mr_bipush (pc := 488) (z := 28) dX12_through_488 (by decide) ?_
                                refine mr_icmp_ne (pc := 490) (tgt := 526) dX12_through_490 (by decide) (r32 h33975 rfl) (r32 (rR (x := 28)) rfl) (fun _ => ?_) (fun h => ((vc_X12_through_84 h h33975)).elim)
                                refine sv_goto (pc := 526) (tgt := 35) dX12_through_526 (by decide) ?_
                                refine mr_lvS (lv' := [(0, .ref 106), (2, iv p2), (3, iv p3), (4, iv p4), (5, iv z31975), (6, iv (z31974 + 1))]) (List.forall_mem_cons.mpr ⟨rfl, List.forall_mem_cons.mpr ⟨rfl, List.forall_mem_cons.mpr ⟨rfl, List.forall_mem_cons.mpr ⟨rfl, List.forall_mem_cons.mpr ⟨rfl, List.forall_mem_cons.mpr ⟨rfl, fun _ h => absurd h List.not_mem_nil⟩⟩⟩⟩⟩⟩) ?_
                                exact ih31991 z31975 (z31974 + 1) z32001 μ34355 f_y T34358 (mF.call (mF.call (mF.call (mF.call (mF.call (mF.up (mF.call mF.refl F31982 rfl) (A_153 hw) u33872 rfl) F33892 rfl) F33907 rfl) F33921 rfl) F33935 rfl) F34359 rfl) (mG.call (mG.call (mG.call (mG.call (mG.call (mG.upO (mG.call mG.refl G31983 (List.forall_mem_cons.mpr ⟨⟨_, List.mem_cons_self, (vc_X12_dropMark_5 hp2)⟩, (fun _ h => absurd h List.not_mem_nil)⟩)) u33872 rfl) G33893 (List.forall_mem_cons.mpr ⟨⟨_, List.mem_cons_self, (vc_X12_dropMark_5 hp2)⟩, (fun _ h => absurd h List.not_mem_nil)⟩)) G33908 (List.forall_mem_cons.mpr ⟨⟨_, List.mem_cons_self, (vc_X12_dropMark_5 hp2)⟩, (fun _ h => absurd h List.not_mem_nil)⟩)) G33922 (List.forall_mem_cons.mpr ⟨⟨_, List.mem_cons_self, (vc_X12_dropMark_5 hp2)⟩, (fun _ h => absurd h List.not_mem_nil)⟩)) G33936 (List.forall_mem_cons.mpr ⟨⟨_, List.mem_cons_self, (vc_X12_dropMark_5 hp2)⟩, (fun _ h => absurd h List.not_mem_nil)⟩)) G34360 (List.forall_mem_cons.mpr ⟨⟨_, List.mem_cons_self, (vc_X12_dropMark_5 hp2)⟩, (fun _ h => absurd h List.not_mem_nil)⟩)) (G34360.f (vc_X12_copy_1 hp2) (List.forall_mem_cons.mpr ⟨(vc_X12_through_67 hp2), (fun _ h => absurd h List.not_mem_nil)⟩) (G33936.f (vc_X12_copy_1 hp2) (List.forall_mem_cons.mpr ⟨(vc_X12_through_67 hp2), (fun _ h => absurd h List.not_mem_nil)⟩) (G33922.f (vc_X12_copy_1 hp2) (List.forall_mem_cons.mpr ⟨(vc_X12_through_67 hp2), (fun _ h => absurd h List.not_mem_nil)⟩) (G33908.f (vc_X12_copy_1 hp2) (List.forall_mem_cons.mpr ⟨(vc_X12_through_67 hp2), (fun _ h => absurd h List.not_mem_nil)⟩) (G33893.f (vc_X12_copy_1 hp2) (List.forall_mem_cons.mpr ⟨(vc_X12_through_67 hp2), (fun _ h => absurd h List.not_mem_nil)⟩) (u33872.f (Or.inl (mAt.ne (A_153 hw) (A_126 hw) rfl)) q31990)))))) (rW (c := 0) (d := 12) h31996 rfl) (rW (c := 0) (d := 500) (rAdd (e := 1) (f := 500) h33876 (rR (x := 1)) rfl) rfl) (rW (c := (-1)) (d := 30) h33862 rfl) (vc_X12_through_12 hq2 h31984 h3 h31993) I34361 (lvOK.pred (lvOK.keep I33874 hw ((mF.call (mF.call (mF.call (mF.call (mF.call mF.refl F33892 rfl) F33907 rfl) F33921 rfl) F33935 rfl) F34359 rfl) : mF [126999] w μ33871 μ34355) rfl) (vc_X12_through_26 h31994 h32000 hq3 ht_f_pol hp1 h31996 h31999)) (Or.inr (F34359.f (A_152 hw) rfl (F33935.f (A_152 hw) rfl (F33921.f (A_152 hw) rfl (F33907.f (A_152 hw) rfl (F33892.f (A_152 hw) rfl (u33872.f (Or.inl (mAt.ne (A_153 hw) (A_152 hw) rfl)) q32002))))))) (vc_X12_through_68 (nS h31988) h31994 h32000 h32010 h32010.1 h32013 h33875 hq3 h31980 ht_f_pol hp1 h33876 h31996 h31999 h33862 h32006) ((W34363 z34354 μ34355 rfl h34357 T34358 F34359).1 h34372)
                              have h34373 : 0 ≤ z34354 ∧ z34354 ≤ 2147483646 := (vc_X12_through_W_89 h34372 h33991 h33982 h33988 h33993 h34357)
                              have h34374 : 1 ≤ z33986 ∧ z33986 ≤ 2147483647 := (vc_X12_through_W_90 h34372 h33991 h33982 h33988 h33993 h34373)
                              refine sv_aload_n (pc := 472) dX12_through_472 rfl rfl ?_
                              refine mr_iload_n (pc := 473) (z := p2) dX12_through_473 rfl rfl ?_
                              refine mr_iload (pc := 474) (z := z33983) dX12_through_474 rfl ?_
                              refine mr_cVI (pc := 476) (c_X12_front_W hw T34358 hp2 h33985.1 ((W34363 z34354 μ34355 rfl h34357 T34358 F34359).2 h34372)) (gOk _ _ _ _ _) dX12_through_476 (tX12_front _ _ _ _ _) ⟨wV_X12_front, wL_X12_front⟩ wM_X12_408 (gCX12 _ _ _ _ _) rfl (A_106 hw) rfl ⟨le_t rfl, le_t rfl⟩ ⟨le_t rfl, le_t rfl⟩ rfl (le_t rfl) fun z34379 μ34375 T34376 F34377 h34378 => ?_
                              refine sv_pop (pc := 479) dX12_through_479 rfl ?_
                              refine mr_iinc (pc := 480) (lv' := [(13, iv (z34354 + 1)), (0, .ref 106), (2, iv p2), (3, iv p3), (4, iv p4), (5, iv z31975), (6, iv (z31974 + 1)), (10, iv ((300 * z31997) + z33863)), (11, iv z33877), (12, iv z33983)]) dX12_through_480 rfl (by decide) rfl ?_
                              refine sv_goto (pc := 483) (tgt := 460) dX12_through_483 (by decide) ?_
                              refine mr_lvS (lv' := [(0, .ref 106), (2, iv p2), (3, iv p3), (4, iv p4), (5, iv z31975), (6, iv (z31974 + 1)), (10, iv ((300 * z31997) + z33863)), (11, iv z33877), (12, iv z33983), (13, iv (z34354 + 1))]) (List.forall_mem_cons.mpr ⟨rfl, List.forall_mem_cons.mpr ⟨rfl, List.forall_mem_cons.mpr ⟨rfl, List.forall_mem_cons.mpr ⟨rfl, List.forall_mem_cons.mpr ⟨rfl, List.forall_mem_cons.mpr ⟨rfl, List.forall_mem_cons.mpr ⟨rfl, List.forall_mem_cons.mpr ⟨rfl, List.forall_mem_cons.mpr ⟨rfl, List.forall_mem_cons.mpr ⟨rfl, fun _ h => absurd h List.not_mem_nil⟩⟩⟩⟩⟩⟩⟩⟩⟩⟩) ?_
                              exact ih34364 (z34354 + 1) μ34375 T34376 (mF.call (mF.call mF.refl F34359 rfl) F34377 rfl) (mG.call (mG.call mG.refl G34360 (List.forall_mem_cons.mpr ⟨⟨_, List.mem_cons_self, (vc_X12_dropMark_5 hp2)⟩, (fun _ h => absurd h List.not_mem_nil)⟩)) h34378.2.1 (List.forall_mem_cons.mpr ⟨⟨_, List.mem_cons_self, (vc_X12_dropMark_5 hp2)⟩, (fun _ h => absurd h List.not_mem_nil)⟩)) (rW (c := 0) (d := 2147483647) (rAdd (e := 1) (f := 2147483647) h34373 (rR (x := 1)) rfl) rfl) (PK.keep I34361 hw ((mF.call mF.refl F34377 rfl) : mF [126999] w μ34355 μ34375) rfl) (vc_X12_through_W_91 (nS h34362) h33991 h34372 h33980 h33992 h33982 h34374 h33993 h34373) ((h34378.2.2.1 T34376 F34377) h34378.1)
                          refine mr_lvS (lv' := [(0, .ref 106), (2, iv p2), (3, iv p3), (4, iv p4), (5, iv z31975), (6, iv (z31974 + 1)), (10, iv ((300 * z31997) + z33863)), (11, iv z33877), (12, iv z33983), (13, iv 0)]) (List.forall_mem_cons.mpr ⟨rfl, List.forall_mem_cons.mpr ⟨rfl, List.forall_mem_cons.mpr ⟨rfl, List.forall_mem_cons.mpr ⟨rfl, List.forall_mem_cons.mpr ⟨rfl, List.forall_mem_cons.mpr ⟨rfl, List.forall_mem_cons.mpr ⟨rfl, List.forall_mem_cons.mpr ⟨rfl, List.forall_mem_cons.mpr ⟨rfl, List.forall_mem_cons.mpr ⟨rfl, fun _ h => absurd h List.not_mem_nil⟩⟩⟩⟩⟩⟩⟩⟩⟩⟩) ?_
                          exact L34356 6442450944 0 μ33933 T33934 mF.refl mG.refl (rW (c := 0) (d := 2147483647) (rR (x := 0)) rfl) I33937 (vc_X12_through_W_92 h33991 h33980 h33992 h33982 h33988 h33993) ((((((((W33939 T33934 F33935).2 h33940) z33976 q33977 h33978).2 h33980) z33983 q33984 h33985) z33986 q33987 h33988) z33989 h33990 h33991).1 h33992)
                        have h34380 : 21 ≤ z33989 ∧ z33989 ≤ 2147483647 := (vc_X12_through_W_93 h33992 h33991 h33982 h33988 h33990)
                        refine mr_iconst (pc := 455) (z := 0) dX12_through_455 ?_
                        exact mr_zret dX12_through_456 rfl (rW (c := 0) (d := 1) (rR (x := 0)) rfl) (le_t rfl) (le_t rfl) T33934 (mF.call (mF.call (mF.call (mF.call (mF.up (mF.call (mF.up (mF.up (mF.up mF.refl (A_151 hw) u17680 rfl) (A_152 hw) u17683 rfl) (A_153 hw) u17686 rfl) F31982 rfl) (A_153 hw) u33872 rfl) F33892 rfl) F33907 rfl) F33921 rfl) F33935 rfl) ⟨f_y, (G33936.f (vc_X12_copy_1 hp2) (List.forall_mem_cons.mpr ⟨(vc_X12_through_67 hp2), (fun _ h => absurd h List.not_mem_nil)⟩) (G33922.f (vc_X12_copy_1 hp2) (List.forall_mem_cons.mpr ⟨(vc_X12_through_67 hp2), (fun _ h => absurd h List.not_mem_nil)⟩) (G33908.f (vc_X12_copy_1 hp2) (List.forall_mem_cons.mpr ⟨(vc_X12_through_67 hp2), (fun _ h => absurd h List.not_mem_nil)⟩) (G33893.f (vc_X12_copy_1 hp2) (List.forall_mem_cons.mpr ⟨(vc_X12_through_67 hp2), (fun _ h => absurd h List.not_mem_nil)⟩) (u33872.f (Or.inl (mAt.ne (A_153 hw) (A_126 hw) rfl)) q31990))))), (rW (c := 0) (d := 1) (rR (x := 0)) rfl), (mG.call (mG.call (mG.call (mG.call (mG.upO (mG.call (mG.upO (mG.upO (mG.upO mG.refl u17680 rfl) u17683 rfl) u17686 rfl) G31983 (List.forall_mem_cons.mpr ⟨⟨_, List.mem_cons_self, (vc_X12_dropMark_5 hp2)⟩, (fun _ h => absurd h List.not_mem_nil)⟩)) u33872 rfl) G33893 (List.forall_mem_cons.mpr ⟨⟨_, List.mem_cons_self, (vc_X12_dropMark_5 hp2)⟩, (fun _ h => absurd h List.not_mem_nil)⟩)) G33908 (List.forall_mem_cons.mpr ⟨⟨_, List.mem_cons_self, (vc_X12_dropMark_5 hp2)⟩, (fun _ h => absurd h List.not_mem_nil)⟩)) G33922 (List.forall_mem_cons.mpr ⟨⟨_, List.mem_cons_self, (vc_X12_dropMark_5 hp2)⟩, (fun _ h => absurd h List.not_mem_nil)⟩)) G33936 (List.forall_mem_cons.mpr ⟨⟨_, List.mem_cons_self, (vc_X12_dropMark_5 hp2)⟩, (fun _ h => absurd h List.not_mem_nil)⟩)), (vc_X12_through_12 hq2 h31984 h3 h31993), ((((((((W33939 T33934 F33935).2 h33940) z33976 q33977 h33978).2 h33980) z33983 q33984 h33985) z33986 q33987 h33988) z33989 h33990 h33991).2 h33992), trivial⟩
                      refine mr_icmp_ne (pc := 375) (tgt := 396) dX12_through_375 (by decide) h33879 (r32 (rR (x := 13)) rfl) (fun h34381 => ?_) (fun h34381 => ?_)
                      · exact J33938 μ33919 T33920 mF.refl mG.refl I33923 ((W33925 T33920 F33921).1 h34381)
                      have h34382 : 13 ≤ z33877 ∧ z33877 ≤ 13 := (vc_X12_through_93 h34381 h33880 h33881 h33879)
                      refine sv_aload_n (pc := 378) dX12_through_378 rfl rfl ?_
                      refine gf_X12_32 (pc := 379) dX12_through_379 wF_X12_148 (A_106 hw) T33920 ?_
                      refine mr_bipush (pc := 382) (z := 40) dX12_through_382 (by decide) ?_
                      refine mr_iload_n (pc := 384) (z := p2) dX12_through_384 rfl rfl ?_
                      refine mr_imul (pc := 385) (x := 40) (y := p2) dX12_through_385 ?_
                      refine mr_iconst (pc := 386) (z := 3) dX12_through_386 ?_
                      refine mr_iadd (pc := 387) (x := (40 * p2)) (y := 3) dX12_through_387 ?_
                      refine sv_aload_n (pc := 388) dX12_through_388 rfl rfl ?_
                      refine gf_X12_54 (pc := 389) dX12_through_389 wF_X12_352 (A_106 hw) T33920 ?_
                      refine mr_iload (pc := 392) (z := ((300 * z31997) + z33863)) dX12_through_392 rfl ?_
                      refine la_141 (pc := 394) dX12_through_394 (A_141 hw) T33920 (rIx (n := 3900) (rAdd (e := 0) (f := 3600) (rMulL (n := 300) (e := 0) (f := 3300) h31999 rfl) h33865 rfl) rfl) fun z34383 q34384 h34385 => ?_
                      refine ss_126 (pc := 395) dX12_through_395 (A_126 hw) T33920 (rIx (n := 84000) (rAdd (e := 3) (f := 83963) (rMulL (n := 40) (e := 0) (f := 83960) hp2 rfl) (rR (x := 3)) rfl) rfl) (vc_X12_through_94 hp2 h34385) fun μ34386 u34387 T34388 => ?_
                      exact J33938 μ34386 T34388 (mF.up mF.refl (A_126 hw) u34387 rfl) (mG.up mG.refl u34387 List.mem_cons_self (vc_X12_through_95 hp2)) (PK.keep I33923 hw ((mF.up mF.refl (A_126 hw) u34387 rfl) : mF [126999] w μ33919 μ34386) rfl) ((((W33925 T33920 F33921).2 h34381) z34383 q34384 h34385) μ34386 u34387 T34388)
                    refine mr_icmp_ne (pc := 350) (tgt := 371) dX12_through_350 (by decide) h33879 (r32 (rR (x := 12)) rfl) (fun h34389 => ?_) (fun h34389 => ?_)
                    · exact J33924 μ33905 T33906 mF.refl mG.refl I33909 ((W33911 T33906 F33907).1 h34389)
                    have h34390 : 12 ≤ z33877 ∧ z33877 ≤ 12 := (vc_X12_through_96 h34389 h33880 h33881 h33879)
                    refine sv_aload_n (pc := 353) dX12_through_353 rfl rfl ?_
                    refine gf_X12_32 (pc := 354) dX12_through_354 wF_X12_148 (A_106 hw) T33906 ?_
                    refine mr_bipush (pc := 357) (z := 40) dX12_through_357 (by decide) ?_
                    refine mr_iload_n (pc := 359) (z := p2) dX12_through_359 rfl rfl ?_
                    refine mr_imul (pc := 360) (x := 40) (y := p2) dX12_through_360 ?_
                    refine mr_iconst (pc := 361) (z := 1) dX12_through_361 ?_
                    refine mr_iadd (pc := 362) (x := (40 * p2)) (y := 1) dX12_through_362 ?_
                    refine sv_aload_n (pc := 363) dX12_through_363 rfl rfl ?_
                    refine gf_X12_54 (pc := 364) dX12_through_364 wF_X12_352 (A_106 hw) T33906 ?_
                    refine mr_iload (pc := 367) (z := ((300 * z31997) + z33863)) dX12_through_367 rfl ?_
                    refine la_141 (pc := 369) dX12_through_369 (A_141 hw) T33906 (rIx (n := 3900) (rAdd (e := 0) (f := 3600) (rMulL (n := 300) (e := 0) (f := 3300) h31999 rfl) h33865 rfl) rfl) fun z34391 q34392 h34393 => ?_
                    refine ss_126 (pc := 370) dX12_through_370 (A_126 hw) T33906 (rIx (n := 84000) (rAdd (e := 1) (f := 83961) (rMulL (n := 40) (e := 0) (f := 83960) hp2 rfl) (rR (x := 1)) rfl) rfl) (vc_X12_through_97 hp2 h34393) fun μ34394 u34395 T34396 => ?_
                    exact J33924 μ34394 T34396 (mF.up mF.refl (A_126 hw) u34395 rfl) (mG.up mG.refl u34395 List.mem_cons_self (vc_X12_through_98 hp2)) (PK.keep I33909 hw ((mF.up mF.refl (A_126 hw) u34395 rfl) : mF [126999] w μ33905 μ34394) rfl) ((((W33911 T33906 F33907).2 h34389) z34391 q34392 h34393) μ34394 u34395 T34396)
                  refine mr_icmp_ne (pc := 331) (tgt := 346) dX12_through_331 (by decide) h33879 (r32 (rR (x := 26)) rfl) (fun h34397 => ?_) (fun h34397 => ?_)
                  · exact J33910 μ33890 T33891 mF.refl mG.refl I33894 ((W33896 T33891 F33892).1 h34397)
                  have h34398 : 26 ≤ z33877 ∧ z33877 ≤ 26 := (vc_X12_through_99 h34397 h33880 h33881 h33879)
                  refine sv_aload_n (pc := 334) dX12_through_334 rfl rfl ?_
                  refine mr_iload_n (pc := 335) (z := p2) dX12_through_335 rfl rfl ?_
                  refine sv_aload_n (pc := 336) dX12_through_336 rfl rfl ?_
                  refine gf_X12_54 (pc := 337) dX12_through_337 wF_X12_352 (A_106 hw) T33891 ?_
                  refine mr_iload (pc := 340) (z := ((300 * z31997) + z33863)) dX12_through_340 rfl ?_
                  refine la_141 (pc := 342) dX12_through_342 (A_141 hw) T33891 (rIx (n := 3900) (rAdd (e := 0) (f := 3600) (rMulL (n := 300) (e := 0) (f := 3300) h31999 rfl) h33865 rfl) rfl) fun z34399 q34400 h34401 => ?_
                  refine mr_cVV (pc := 343) (c_X12_dropMark_W hw T33891 hp2 h34401 (((W33896 T33891 F33892).2 h34397) z34399 q34400 h34401)) (gOk _ _ _ _ _) dX12_through_343 (tX12_dropMark _ _ _ _ _) ⟨wV_X12_dropMark, wL_X12_dropMark⟩ wM_X12_405 (gCX12 _ _ _ _ _) rfl (A_106 hw) rfl ⟨le_t rfl, le_t rfl⟩ ⟨le_t rfl, le_t rfl⟩ rfl (le_t rfl) fun μ34402 T34403 F34404 h34405 => ?_
                  exact J33910 μ34402 T34403 (mF.call mF.refl F34404 rfl) (mG.call mG.refl h34405.1 (List.forall_mem_cons.mpr ⟨⟨_, List.mem_cons_self, (vc_X12_dropMark_5 hp2)⟩, (fun _ h => absurd h List.not_mem_nil)⟩)) (PK.keep I33894 hw ((mF.call mF.refl F34404 rfl) : mF [126999] w μ33890 μ34402) rfl) (h34405.2.1 T34403 F34404)
                refine mr_icmp_ne (pc := 312) (tgt := 327) dX12_through_312 (by decide) h33879 (r32 (rR (x := 25)) rfl) (fun h34406 => ?_) (fun h34406 => ?_)
                · refine mr_lvS (lv' := [(0, .ref 106), (2, iv p2), (3, iv p3), (4, iv p4), (5, iv z31975), (6, iv (z31974 + 1)), (10, iv ((300 * z31997) + z33863)), (11, iv z33877)]) (List.forall_mem_cons.mpr ⟨rfl, List.forall_mem_cons.mpr ⟨rfl, List.forall_mem_cons.mpr ⟨rfl, List.forall_mem_cons.mpr ⟨rfl, List.forall_mem_cons.mpr ⟨rfl, List.forall_mem_cons.mpr ⟨rfl, List.forall_mem_cons.mpr ⟨rfl, List.forall_mem_cons.mpr ⟨rfl, fun _ h => absurd h List.not_mem_nil⟩⟩⟩⟩⟩⟩⟩⟩) ?_
                  exact J33895 μ33871 T33873 mF.refl mG.refl (PK.keep I31985 hw ((mF.up mF.refl (A_153 hw) u33872 rfl) : mF [153999] w μ31976 μ33871) rfl) ((((((((((W32012.2 h32013) z33863 q33864 h33865) z33866 q33867 h33868).1 h33870) μ33871 u33872 T33873).1 h33875) z33877 q33878 h33879).1 h33880).1 h33881).1 h34406)
                have h34407 : 25 ≤ z33877 ∧ z33877 ≤ 25 := (vc_X12_through_100 h34406 h33880 h33881 h33879)
                refine sv_aload_n (pc := 315) dX12_through_315 rfl rfl ?_
                refine mr_iload_n (pc := 316) (z := p2) dX12_through_316 rfl rfl ?_
                refine sv_aload_n (pc := 317) dX12_through_317 rfl rfl ?_
                refine gf_X12_54 (pc := 318) dX12_through_318 wF_X12_352 (A_106 hw) T33873 ?_
                refine mr_iload (pc := 321) (z := ((300 * z31997) + z33863)) dX12_through_321 rfl ?_
                refine la_141 (pc := 323) dX12_through_323 (A_141 hw) T33873 (rIx (n := 3900) (rAdd (e := 0) (f := 3600) (rMulL (n := 300) (e := 0) (f := 3300) h31999 rfl) h33865 rfl) rfl) fun z34408 q34409 h34410 => ?_
                have W34415 := (((((((((((W32012.2 h32013) z33863 q33864 h33865) z33866 q33867 h33868).1 h33870) μ33871 u33872 T33873).1 h33875) z33877 q33878 h33879).1 h33880).1 h33881).2 h34406) z34408 q34409 h34410)
                refine mr_cVV (pc := 324) (c_X12_addMark_W hw T33873 hp2 h34410 W34415) (gOk _ _ _ _ _) dX12_through_324 (tX12_addMark _ _ _ _ _) ⟨wV_X12_addMark, wL_X12_addMark⟩ wM_X12_401 (gCX12 _ _ _ _ _) rfl (A_106 hw) rfl ⟨le_t rfl, le_t rfl⟩ ⟨le_t rfl, le_t rfl⟩ rfl (le_t rfl) fun μ34411 T34412 F34413 h34414 => ?_
                refine mr_lvS (lv' := [(0, .ref 106), (2, iv p2), (3, iv p3), (4, iv p4), (5, iv z31975), (6, iv (z31974 + 1)), (10, iv ((300 * z31997) + z33863)), (11, iv z33877)]) (List.forall_mem_cons.mpr ⟨rfl, List.forall_mem_cons.mpr ⟨rfl, List.forall_mem_cons.mpr ⟨rfl, List.forall_mem_cons.mpr ⟨rfl, List.forall_mem_cons.mpr ⟨rfl, List.forall_mem_cons.mpr ⟨rfl, List.forall_mem_cons.mpr ⟨rfl, List.forall_mem_cons.mpr ⟨rfl, fun _ h => absurd h List.not_mem_nil⟩⟩⟩⟩⟩⟩⟩⟩) ?_
                exact J33895 μ34411 T34412 (mF.call mF.refl F34413 rfl) (mG.call mG.refl h34414.1 (List.forall_mem_cons.mpr ⟨⟨_, List.mem_cons_self, (vc_X12_dropMark_5 hp2)⟩, (fun _ h => absurd h List.not_mem_nil)⟩)) (PK.keep I31985 hw ((mF.call (mF.up mF.refl (A_153 hw) u33872 rfl) F34413 rfl) : mF [126999, 153999] w μ31976 μ34411) rfl) (h34414.2.1 T34412 F34413)
              have h34416 : 24 ≤ z33877 ∧ z33877 ≤ 24 := (vc_X12_through_101 h33881 h33880 h33879)
              refine mr_iconst (pc := 306) (z := 0) dX12_through_306 ?_
              exact mr_zret dX12_through_307 rfl (rW (c := 0) (d := 1) (rR (x := 0)) rfl) (le_t rfl) (le_t rfl) T33873 (mF.up (mF.call (mF.up (mF.up (mF.up mF.refl (A_151 hw) u17680 rfl) (A_152 hw) u17683 rfl) (A_153 hw) u17686 rfl) F31982 rfl) (A_153 hw) u33872 rfl) ⟨f_y, (u33872.f (Or.inl (mAt.ne (A_153 hw) (A_126 hw) rfl)) q31990), (rW (c := 0) (d := 1) (rR (x := 0)) rfl), (mG.upO (mG.call (mG.upO (mG.upO (mG.upO mG.refl u17680 rfl) u17683 rfl) u17686 rfl) G31983 (List.forall_mem_cons.mpr ⟨⟨_, List.mem_cons_self, (vc_X12_dropMark_5 hp2)⟩, (fun _ h => absurd h List.not_mem_nil)⟩)) u33872 rfl), (vc_X12_through_12 hq2 h31984 h3 h31993), (((((((((W32012.2 h32013) z33863 q33864 h33865) z33866 q33867 h33868).1 h33870) μ33871 u33872 T33873).1 h33875) z33877 q33878 h33879).1 h33880).2 h33881), trivial⟩
            have h34417 : 23 ≤ z33877 ∧ z33877 ≤ 23 := (vc_X12_through_102 h33880 h33879)
            refine mr_iconst (pc := 297) (z := 1) dX12_through_297 ?_
            exact mr_zret dX12_through_298 rfl (rW (c := 0) (d := 1) (rR (x := 1)) rfl) (le_t rfl) (le_t rfl) T33873 (mF.up (mF.call (mF.up (mF.up (mF.up mF.refl (A_151 hw) u17680 rfl) (A_152 hw) u17683 rfl) (A_153 hw) u17686 rfl) F31982 rfl) (A_153 hw) u33872 rfl) ⟨f_y, (u33872.f (Or.inl (mAt.ne (A_153 hw) (A_126 hw) rfl)) q31990), (rW (c := 0) (d := 1) (rR (x := 1)) rfl), (mG.upO (mG.call (mG.upO (mG.upO (mG.upO mG.refl u17680 rfl) u17683 rfl) u17686 rfl) G31983 (List.forall_mem_cons.mpr ⟨⟨_, List.mem_cons_self, (vc_X12_dropMark_5 hp2)⟩, (fun _ h => absurd h List.not_mem_nil)⟩)) u33872 rfl), (vc_X12_through_12 hq2 h31984 h3 h31993), ((((((((W32012.2 h32013) z33863 q33864 h33865) z33866 q33867 h33868).1 h33870) μ33871 u33872 T33873).1 h33875) z33877 q33878 h33879).2 h33880), trivial⟩
          have h34418 : 500 ≤ z31974 ∧ z31974 ≤ 500 := (vc_X12_through_103 h33875 h31979)
          refine mr_iconst (pc := 279) (z := 0) dX12_through_279 ?_
          exact mr_zret dX12_through_280 rfl (rW (c := 0) (d := 1) (rR (x := 0)) rfl) (le_t rfl) (le_t rfl) T33873 (mF.up (mF.call (mF.up (mF.up (mF.up mF.refl (A_151 hw) u17680 rfl) (A_152 hw) u17683 rfl) (A_153 hw) u17686 rfl) F31982 rfl) (A_153 hw) u33872 rfl) ⟨f_y, (u33872.f (Or.inl (mAt.ne (A_153 hw) (A_126 hw) rfl)) q31990), (rW (c := 0) (d := 1) (rR (x := 0)) rfl), (mG.upO (mG.call (mG.upO (mG.upO (mG.upO mG.refl u17680 rfl) u17683 rfl) u17686 rfl) G31983 (List.forall_mem_cons.mpr ⟨⟨_, List.mem_cons_self, (vc_X12_dropMark_5 hp2)⟩, (fun _ h => absurd h List.not_mem_nil)⟩)) u33872 rfl), (vc_X12_through_12 hq2 h31984 h3 h31993), ((((((W32012.2 h32013) z33863 q33864 h33865) z33866 q33867 h33868).1 h33870) μ33871 u33872 T33873).2 h33875), trivial⟩
        refine mr_iinc (pc := 94) (lv' := [(9, iv (z32001 + 1)), (8, iv z31997), (7, iv (z31975 - 1)), (0, .ref 106), (2, iv p2), (3, iv p3), (4, iv p4), (5, iv z31975), (6, iv z31974)]) dX12_through_94 rfl (by decide) rfl ?_
        refine mr_iconst (pc := 97) (z := 0) dX12_through_97 ?_
        refine mr_istore (pc := 98) (lv' := [(10, iv 0), (9, iv (z32001 + 1)), (8, iv z31997), (7, iv (z31975 - 1)), (0, .ref 106), (2, iv p2), (3, iv p3), (4, iv p4), (5, iv z31975), (6, iv z31974)]) dX12_through_98 (by decide) rfl ?_
        have L34589 : ∀ (nL34589 : Nat) (z34587 z34586 : Int) (μ34588 : mM), mT w μ34588 → mF [106026, 106027, 106028, 106029, 106030, 106031] w μ31976 μ34588 → (1 ≤ z34587 ∧ z34587 ≤ 30) → (0 ≤ z34586 ∧ z34586 ≤ 1) → (z34586 = 0 ∨ z34587 < z32004) → (f_R < z34587) → PK μ34588 → (70 - ((2 * z34587) + z34586)) < (nL34589 : Int) → loopF (WL_X12_through_W_10 w p2 p3 p4 g1 (loopF (WL_X12_through_W_1 w p2 p3 p4 g1 Q μ17685) False nL31977) z31975 z31974 μ31976 z31997 z32004) False nL34589 (z34587, z34586, μ34588) → sV (gG l D c H0 sa) mX12_through (sRm 6 0 0) (sZ (gG l D c H0 sa) 0 0 (qI w [106026, 106027, 106028, 106029, 106030, 106031, 126999, 151999, 152999, 153999] μ (fun z μ1 => ∃ o_x : Int, μ1 126 ((40 * p2).toNat) = o_x ∧ (0 ≤ z ∧ z ≤ 1) ∧ mG [(((40 * p2) + 1), ((40 * p2) + 40))] μ μ1 ∧ (o_x = f_x) ∧ Q z μ1 ∧ True))) 100 [(0, .ref 106), (2, iv p2), (3, iv p3), (4, iv p4), (5, iv z31975), (6, iv z31974), (7, iv (z31975 - 1)), (8, iv z31997), (9, iv z34587), (10, iv z34586)] [] (mk w μ34588) 0 0 := by
          intro nL34589
          induction nL34589 with
          | zero => intro z34587 z34586 μ34588 T34592 F34593 h34590 h34591 h34595 h34596 I34597 h34598 W34599; exact ((vc_X12_through_104 h34598 h34595 h34596 h32010 h32010.1 h31980 h33862 h32006 h34591 h34590)).elim
          | succ nL34589 ih34600 =>
            intro z34587 z34586 μ34588 T34592 F34593 h34590 h34591 h34595 h34596 I34597 h34598 W34599
            refine mr_iload (pc := 100) (z := z34587) dX12_through_100 rfl ?_
            refine sv_aload_n (pc := 102) dX12_through_102 rfl rfl ?_
            refine gf_X12_40 (pc := 103) dX12_through_103 wF_X12_358 (A_106 hw) T34592 ?_
            refine mr_iload (pc := 106) (z := z31997) dX12_through_106 rfl ?_
            refine lk_127 (pc := 108) dX12_through_108 (A_127 hw) (rIx (n := 13) h31999 rfl) (F34593.f (A_127 hw) rfl q32005) ?_
            have J34642 : ((WJ_X12_through_W_11 w (loopF (WL_X12_through_W_1 w p2 p3 p4 g1 Q μ17685) False nL31977) z31975 z31974 z31997 z34587 z34586 μ34588) ) → sV (gG l D c H0 sa) mX12_through (sRm 6 0 0) (sZ (gG l D c H0 sa) 0 0 (qI w [106026, 106027, 106028, 106029, 106030, 106031, 126999, 151999, 152999, 153999] μ (fun z μ1 => ∃ o_x : Int, μ1 126 ((40 * p2).toNat) = o_x ∧ (0 ≤ z ∧ z ≤ 1) ∧ mG [(((40 * p2) + 1), ((40 * p2) + 40))] μ μ1 ∧ (o_x = f_x) ∧ Q z μ1 ∧ True))) 198 [(0, .ref 106), (2, iv p2), (3, iv p3), (4, iv p4), (5, iv z31975), (6, iv z31974), (7, iv (z31975 - 1)), (8, iv z31997), (9, iv z34587), (10, iv z34586)] [] (mk w μ34588) 0 0 := by
              intro W34643
              refine mr_iload (pc := 198) (z := z34586) dX12_through_198 rfl ?_
              refine mr_if_ne (pc := 200) (tgt := 209) dX12_through_200 (by decide) (r32 h34591 rfl) (fun h34644 => ?_) (fun h34644 => ?_)
              · have h34645 : 1 ≤ z34586 ∧ z34586 ≤ 1 := (vc_X12_through_105 h34644 h34595 h32006 h34591 h34590)
                refine sv_aload_n (pc := 209) dX12_through_209 rfl rfl ?_
                refine gf_X12_68 (pc := 210) dX12_through_210 wF_X12_391 (A_106 hw) T34592 ?_
                refine mr_iload (pc := 213) (z := (z31975 - 1)) dX12_through_213 rfl ?_
                refine mr_iload (pc := 215) (z := z34587) dX12_through_215 rfl ?_
                refine ss_152 (pc := 217) dX12_through_217 (A_152 hw) T34592 (rIx (n := 14) (rSub (e := 0) (f := 11) h31996 (rR (x := 1)) rfl) rfl) (rW (c := (-1)) (d := 30) h34590 rfl) fun μ34646 u34647 T34648 => ?_
                refine sv_aload_n (pc := 218) dX12_through_218 rfl rfl ?_
                refine gf_X12_69 (pc := 219) dX12_through_219 wF_X12_394 (A_106 hw) T34648 ?_
                refine mr_iload (pc := 222) (z := (z31975 - 1)) dX12_through_222 rfl ?_
                refine sv_aload_n (pc := 224) dX12_through_224 rfl rfl ?_
                refine gf_X12_42 (pc := 225) dX12_through_225 wF_X12_364 (A_106 hw) T34648 ?_
                refine mr_bipush (pc := 228) (z := 31) dX12_through_228 (by decide) ?_
                refine mr_iload (pc := 230) (z := z31997) dX12_through_230 rfl ?_
                refine mr_imul (pc := 232) (x := 31) (y := z31997) dX12_through_232 ?_
                refine mr_iload (pc := 233) (z := z34587) dX12_through_233 rfl ?_
                refine mr_iadd (pc := 235) (x := (31 * z31997)) (y := z34587) dX12_through_235 ?_
                refine la_129 (pc := 236) dX12_through_236 (A_129 hw) T34648 (rIx (n := 403) (rAdd (e := 1) (f := 371) (rMulL (n := 31) (e := 0) (f := 341) h31999 rfl) h34590 rfl) rfl) fun z34649 q34650 h34651 => ?_
                refine ss_153 (pc := 237) dX12_through_237 (A_153 hw) T34648 (rIx (n := 14) (rSub (e := 0) (f := 11) h31996 (rR (x := 1)) rfl) rfl) h34651 fun μ34652 u34653 T34654 => ?_
                have I34655 : lvOK μ34652 z31975 := lvOK.row (lvOK.keep R31986 hw ((mF.call mF.refl F34593 rfl) : mF [106026, 106027, 106028, 106029, 106030, 106031] w μ31976 _) rfl) (PK.keep I34597 hw ((mF.up (mF.up mF.refl (A_152 hw) u34647 rfl) (A_153 hw) u34653 rfl) : mF [152999, 153999] w μ34588 μ34652) rfl) (vc_X12_through_15 h31994 h32000 hq3 ht_f_pol hp1 h31996 h31999) u34647 u34653 (u34653.f (Or.inl (mAt.ne (A_153 hw) (A_151 hw) rfl)) (u34647.f (Or.inl (mAt.ne (A_152 hw) (A_151 hw) rfl)) (F34593.f (A_151 hw) rfl q31998))) (vc_X12_through_22 hq3 h32000 h17678 h31994 ht_f_pol hp1 h31996 h31999) (u34653.f (Or.inl (mAt.ne (A_153 hw) (A_106 hw) rfl)) (u34647.f (Or.inl (mAt.ne (A_152 hw) (A_106 hw) rfl)) (F34593.f (A_106 hw) rfl (F31982.f (A_106 hw) rfl (u17686.f (Or.inl (mAt.ne (A_153 hw) (A_106 hw) rfl)) (u17683.f (Or.inl (mAt.ne (A_152 hw) (A_106 hw) rfl)) (u17680.f (Or.inl (mAt.ne (A_151 hw) (A_106 hw) rfl)) q_f_pol))))))) (vc_X12_through_106 h32010 h32010.1 h34595 h34596 h32013 h34644 h31980 h33862 h32006 h34645 h34590) (u34653.f (Or.inl (mAt.ne (A_153 hw) (A_127 hw) rfl)) (u34647.f (Or.inl (mAt.ne (A_152 hw) (A_127 hw) rfl)) (F34593.f (A_127 hw) rfl q32005))) (vc_X12_through_107 h32000 h34595 h34596 hq3 h31994 h32010 h32010.1 h34644 h31980 ht_f_pol hp1 h31996 h31999 h33862 h32006 h34645 h34590) (u34653.f (Or.inl (mAt.ne (A_153 hw) (A_129 hw) rfl)) q34650)
                refine sv_goto (pc := 238) (tgt := 35) dX12_through_238 (by decide) ?_
                refine mr_lvS (lv' := [(0, .ref 106), (2, iv p2), (3, iv p3), (4, iv p4), (5, iv z31975), (6, iv z31974)]) (List.forall_mem_cons.mpr ⟨rfl, List.forall_mem_cons.mpr ⟨rfl, List.forall_mem_cons.mpr ⟨rfl, List.forall_mem_cons.mpr ⟨rfl, List.forall_mem_cons.mpr ⟨rfl, List.forall_mem_cons.mpr ⟨rfl, fun _ h => absurd h List.not_mem_nil⟩⟩⟩⟩⟩⟩) ?_
                exact ih31991 z31975 z31974 z34587 μ34652 f_y T34654 (mF.up (mF.up (mF.call (mF.call mF.refl F31982 rfl) F34593 rfl) (A_152 hw) u34647 rfl) (A_153 hw) u34653 rfl) (mG.upO (mG.upO (mG.fr (mG.call mG.refl G31983 (List.forall_mem_cons.mpr ⟨⟨_, List.mem_cons_self, (vc_X12_dropMark_5 hp2)⟩, (fun _ h => absurd h List.not_mem_nil)⟩)) F34593 (A_126 hw) rfl) u34647 rfl) u34653 rfl) (u34653.f (Or.inl (mAt.ne (A_153 hw) (A_126 hw) rfl)) (u34647.f (Or.inl (mAt.ne (A_152 hw) (A_126 hw) rfl)) (F34593.f (A_126 hw) rfl q31990))) (rW (c := 0) (d := 12) h31996 rfl) h31979 (rW (c := (-1)) (d := 30) h34590 rfl) (vc_X12_through_12 hq2 h31984 h3 h31993) (PK.keep I34597 hw ((mF.up (mF.up mF.refl (A_152 hw) u34647 rfl) (A_153 hw) u34653 rfl) : mF [152999, 153999] w μ34588 μ34652) rfl) (lvOK.pred I34655 (vc_X12_through_26 h31994 h32000 hq3 ht_f_pol hp1 h31996 h31999)) (Or.inr (u34653.f (Or.inl (mAt.ne (A_153 hw) (A_152 hw) rfl)) u34647.1)) (vc_X12_through_108 (nS h31988) h31994 h32000 h32010 h34595 h34596 hq3 h32010.1 h32013 h34644 h31980 ht_f_pol hp1 h31979 h31996 h31999 h33862 h32006 h34645 h34590) (((((W34643).1 h34644) μ34646 u34647 T34648) z34649 q34650 h34651) μ34652 u34653 T34654)
              have h34656 : 0 ≤ z34586 ∧ z34586 ≤ 0 := (vc_X12_through_109 h34644 h34595 h32006 h34591 h34590)
              refine mr_iinc (pc := 203) (lv' := [(5, iv (z31975 + (-1))), (0, .ref 106), (2, iv p2), (3, iv p3), (4, iv p4), (6, iv z31974), (7, iv (z31975 - 1)), (8, iv z31997), (9, iv z34587), (10, iv z34586)]) dX12_through_203 rfl (by decide) rfl ?_
              by_cases h34657 : (z31975 + (-1)) = 0
              · have h34658 : 1 ≤ z31975 ∧ z31975 ≤ 1 := (vc_X12_through_28 h34657 h31994 h32000 ht_f_pol h31996 h31999)
                refine sv_goto (pc := 206) (tgt := 35) dX12_through_206 (by decide) ?_
                refine mr_lvS (lv' := [(0, .ref 106), (2, iv p2), (3, iv p3), (4, iv p4), (5, iv (z31975 + (-1))), (6, iv z31974)]) (List.forall_mem_cons.mpr ⟨rfl, List.forall_mem_cons.mpr ⟨rfl, List.forall_mem_cons.mpr ⟨rfl, List.forall_mem_cons.mpr ⟨rfl, List.forall_mem_cons.mpr ⟨rfl, List.forall_mem_cons.mpr ⟨rfl, fun _ h => absurd h List.not_mem_nil⟩⟩⟩⟩⟩⟩) ?_
                exact ih31991 (z31975 + (-1)) z31974 0 μ34588 f_y T34592 (mF.call (mF.call mF.refl F31982 rfl) F34593 rfl) (mG.fr (mG.call mG.refl G31983 (List.forall_mem_cons.mpr ⟨⟨_, List.mem_cons_self, (vc_X12_dropMark_5 hp2)⟩, (fun _ h => absurd h List.not_mem_nil)⟩)) F34593 (A_126 hw) rfl) (F34593.f (A_126 hw) rfl q31990) (rW (c := 0) (d := 12) (rAdd (e := 0) (f := 0) h34658 (rR (x := (-1))) rfl) rfl) h31979 (rW (c := (-1)) (d := 30) (rR (x := 0)) rfl) (vc_X12_through_12 hq2 h31984 h3 h31993) I34597 (lvOK.pred (lvOK.keep R31986 hw ((mF.call mF.refl F34593 rfl) : mF [106026, 106027, 106028, 106029, 106030, 106031] w μ31976 μ34588) rfl) (vc_X12_through_30 h31994 h32000 h34657 hq3 ht_f_pol hp1 h34658 h31999)) (Or.inl (vc_X12_through_31 h31994 h32000 h34657 hq3 ht_f_pol hp1 h34658 h31999)) (vc_X12_through_110 (nS h31988) h31994 h32000 h32010 h34596 h34657 hq3 h32010.1 h32013 h34595 h31980 ht_f_pol hp1 h31979 h34658 h31999 h33862 h32006 h34656 h34590) (((W34643).2 h34644).1 h34657)
              have h34659 : 2 ≤ z31975 ∧ z31975 ≤ 12 := (vc_X12_through_32 h34657 h31994 h32000 ht_f_pol h31996 h31999)
              refine sv_goto (pc := 206) (tgt := 35) dX12_through_206 (by decide) ?_
              obtain ⟨z34660, q34661⟩ : ∃ z, μ34588 152 (((z31975 + (-1)) - 1).toNat) = z := ⟨_, rfl⟩
              have h34662 : ((-1) ≤ z34660 ∧ z34660 ≤ 30) := by rw [← q34661]; exact T34592 152 152 (A_152 hw) (((z31975 + (-1)) - 1).toNat)
              refine mr_lvS (lv' := [(0, .ref 106), (2, iv p2), (3, iv p3), (4, iv p4), (5, iv (z31975 + (-1))), (6, iv z31974)]) (List.forall_mem_cons.mpr ⟨rfl, List.forall_mem_cons.mpr ⟨rfl, List.forall_mem_cons.mpr ⟨rfl, List.forall_mem_cons.mpr ⟨rfl, List.forall_mem_cons.mpr ⟨rfl, List.forall_mem_cons.mpr ⟨rfl, fun _ h => absurd h List.not_mem_nil⟩⟩⟩⟩⟩⟩) ?_
              exact ih31991 (z31975 + (-1)) z31974 z34660 μ34588 f_y T34592 (mF.call (mF.call mF.refl F31982 rfl) F34593 rfl) (mG.fr (mG.call mG.refl G31983 (List.forall_mem_cons.mpr ⟨⟨_, List.mem_cons_self, (vc_X12_dropMark_5 hp2)⟩, (fun _ h => absurd h List.not_mem_nil)⟩)) F34593 (A_126 hw) rfl) (F34593.f (A_126 hw) rfl q31990) (rW (c := 0) (d := 12) (rAdd (e := 1) (f := 11) h34659 (rR (x := (-1))) rfl) rfl) h31979 h34662 (vc_X12_through_12 hq2 h31984 h3 h31993) I34597 (lvOK.pred (lvOK.keep R31986 hw ((mF.call mF.refl F34593 rfl) : mF [106026, 106027, 106028, 106029, 106030, 106031] w μ31976 μ34588) rfl) (vc_X12_through_34 h31994 h32000 h34657 hq3 ht_f_pol hp1 h34659 h31999)) (Or.inr q34661) (vc_X12_through_111 (nS h31988) h31994 h32000 h32010 h34596 h34657 hq3 h32010.1 h32013 h34595 h31980 ht_f_pol hp1 h31979 h34659 h31999 h33862 h32006 h34656 h34590 h34662) ((((W34643).2 h34644).2 h34657) z34660 q34661 h34662)
            refine mr_icmp_ge (pc := 109) (tgt := 198) dX12_through_109 (by decide) (r32 h34590 rfl) (r32 h32006 rfl) (fun h34663 => ?_) (fun h34663 => ?_)
            · exact J34642 ((W34599 z34587 z34586 μ34588 rfl h34590 h34591 T34592 F34593).1 h34663)
            have h34664 : 1 ≤ z34587 ∧ z34587 ≤ 29 := (vc_X12_through_112 h34663 h32010 h32010.1 h34595 h34596 h31980 h33862 h32006 h34591 h34590)
            have h34665 : 2 ≤ z32004 ∧ z32004 ≤ 30 := (vc_X12_through_113 h34663 h32010 h32010.1 h34595 h34596 h31980 h33862 h32006 h34591 h34664)
            refine mr_iload (pc := 112) (z := z34586) dX12_through_112 rfl ?_
            refine mr_if_ne (pc := 114) (tgt := 198) dX12_through_114 (by decide) (r32 h34591 rfl) (fun h34666 => ?_) (fun h34666 => ?_)
            · have h34667 : 1 ≤ z34586 ∧ z34586 ≤ 1 := (vc_X12_through_114 h34666 h34595 h34665 h34591 h34664)
              exact J34642 (((W34599 z34587 z34586 μ34588 rfl h34590 h34591 T34592 F34593).2 h34663).1 h34666)
            have h34668 : 0 ≤ z34586 ∧ z34586 ≤ 0 := (vc_X12_through_115 h34666 h34595 h34665 h34591 h34664)
            refine mr_iconst (pc := 117) (z := 1) dX12_through_117 ?_
            refine mr_istore (pc := 118) (lv' := [(10, iv 1), (0, .ref 106), (2, iv p2), (3, iv p3), (4, iv p4), (5, iv z31975), (6, iv z31974), (7, iv (z31975 - 1)), (8, iv z31997), (9, iv z34587)]) dX12_through_118 (by decide) rfl ?_
            refine sv_aload_n (pc := 120) dX12_through_120 rfl rfl ?_
            refine gf_X12_41 (pc := 121) dX12_through_121 wF_X12_361 (A_106 hw) T34592 ?_
            refine mr_bipush (pc := 124) (z := 31) dX12_through_124 (by decide) ?_
            refine mr_iload (pc := 126) (z := z31997) dX12_through_126 rfl ?_
            refine mr_imul (pc := 128) (x := 31) (y := z31997) dX12_through_128 ?_
            refine mr_iload (pc := 129) (z := z34587) dX12_through_129 rfl ?_
            refine mr_iadd (pc := 131) (x := (31 * z31997)) (y := z34587) dX12_through_131 ?_
            refine la_128 (pc := 132) dX12_through_132 (A_128 hw) T34592 (rIx (n := 403) (rAdd (e := 1) (f := 370) (rMulL (n := 31) (e := 0) (f := 341) h31999 rfl) h34664 rfl) rfl) fun z34669 q34670 h34671 => ?_
            refine mr_istore (pc := 133) (lv' := [(11, iv z34669), (10, iv 1), (0, .ref 106), (2, iv p2), (3, iv p3), (4, iv p4), (5, iv z31975), (6, iv z31974), (7, iv (z31975 - 1)), (8, iv z31997), (9, iv z34587)]) dX12_through_133 (by decide) rfl ?_
            have L34722 : ∀ (nL34722 : Nat) (z34720 z34719 : Int) (μ34721 : mM), mT w μ34721 → mF [106026, 106027, 106028, 106029, 106030, 106031] w μ34588 μ34721 → (0 ≤ z34720 ∧ z34720 ≤ 1) → (0 ≤ z34719 ∧ z34719 ≤ 300) → PK μ34721 → (301 - z34719) < (nL34722 : Int) → loopF (WL_X12_through_W_12 w p2 p3 p4 g1 z31997 (loopF (WL_X12_through_W_10 w p2 p3 p4 g1 (loopF (WL_X12_through_W_1 w p2 p3 p4 g1 Q μ17685) False nL31977) z31975 z31974 μ31976 z31997 z32004) False nL34589) z34587 μ34588) False nL34722 (z34720, z34719, μ34721) → sV (gG l D c H0 sa) mX12_through (sRm 6 0 0) (sZ (gG l D c H0 sa) 0 0 (qI w [106026, 106027, 106028, 106029, 106030, 106031, 126999, 151999, 152999, 153999] μ (fun z μ1 => ∃ o_x : Int, μ1 126 ((40 * p2).toNat) = o_x ∧ (0 ≤ z ∧ z ≤ 1) ∧ mG [(((40 * p2) + 1), ((40 * p2) + 40))] μ μ1 ∧ (o_x = f_x) ∧ Q z μ1 ∧ True))) 135 [(0, .ref 106), (2, iv p2), (3, iv p3), (4, iv p4), (5, iv z31975), (6, iv z31974), (7, iv (z31975 - 1)), (8, iv z31997), (9, iv z34587), (10, iv z34720), (11, iv z34719)] [] (mk w μ34721) 0 0 := by
              intro nL34722
              induction nL34722 with
              | zero => intro z34720 z34719 μ34721 T34725 F34726 h34723 h34724 I34728 h34729 W34730; exact ((vc_X12_through_39 h34729 h34724)).elim
              | succ nL34722 ih34731 =>
                intro z34720 z34719 μ34721 T34725 F34726 h34723 h34724 I34728 h34729 W34730
                refine mr_iload (pc := 135) (z := z34719) dX12_through_135 rfl ?_
                refine sv_aload_n (pc := 137) dX12_through_137 rfl rfl ?_
                refine gf_X12_41 (pc := 138) dX12_through_138 wF_X12_361 (A_106 hw) T34725 ?_
                refine mr_bipush (pc := 141) (z := 31) dX12_through_141 (by decide) ?_
                refine mr_iload (pc := 143) (z := z31997) dX12_through_143 rfl ?_
                refine mr_imul (pc := 145) (x := 31) (y := z31997) dX12_through_145 ?_
                refine mr_iload (pc := 146) (z := z34587) dX12_through_146 rfl ?_
                refine mr_iadd (pc := 148) (x := (31 * z31997)) (y := z34587) dX12_through_148 ?_
                refine mr_iconst (pc := 149) (z := 1) dX12_through_149 ?_
                refine mr_iadd (pc := 150) (x := ((31 * z31997) + z34587)) (y := 1) dX12_through_150 ?_
                refine la_128 (pc := 151) dX12_through_151 (A_128 hw) T34725 (rIx (n := 403) (rAdd (e := 2) (f := 371) (rAdd (e := 1) (f := 370) (rMulL (n := 31) (e := 0) (f := 341) h31999 rfl) h34664 rfl) (rR (x := 1)) rfl) rfl) fun z34732 q34733 h34734 => ?_
                refine mr_icmp_ge (pc := 152) (tgt := 187) dX12_through_152 (by decide) (r32 h34724 rfl) (r32 h34734 rfl) (fun h34744 => ?_) (fun h34744 => ?_)
                · refine mr_iload (pc := 187) (z := z34720) dX12_through_187 rfl ?_
                  refine mr_if_ne (pc := 189) (tgt := 100) dX12_through_189 (by decide) (r32 h34723 rfl) (fun h34745 => ?_) (fun h34745 => ?_)
                  · have h34746 : 1 ≤ z34720 ∧ z34720 ≤ 1 := (vc_X12_ring_24 h34745 h34723)
                    refine mr_lvS (lv' := [(0, .ref 106), (2, iv p2), (3, iv p3), (4, iv p4), (5, iv z31975), (6, iv z31974), (7, iv (z31975 - 1)), (8, iv z31997), (9, iv z34587), (10, iv z34720)]) (List.forall_mem_cons.mpr ⟨rfl, List.forall_mem_cons.mpr ⟨rfl, List.forall_mem_cons.mpr ⟨rfl, List.forall_mem_cons.mpr ⟨rfl, List.forall_mem_cons.mpr ⟨rfl, List.forall_mem_cons.mpr ⟨rfl, List.forall_mem_cons.mpr ⟨rfl, List.forall_mem_cons.mpr ⟨rfl, List.forall_mem_cons.mpr ⟨rfl, List.forall_mem_cons.mpr ⟨rfl, fun _ h => absurd h List.not_mem_nil⟩⟩⟩⟩⟩⟩⟩⟩⟩⟩) ?_
                    exact ih34600 z34587 z34720 μ34721 T34725 (mF.call (mF.call mF.refl F34593 rfl) F34726 rfl) (rW (c := 1) (d := 30) h34664 rfl) (rW (c := 0) (d := 1) h34746 rfl) (vc_X12_through_118 h32010 h32010.1 h34595 h34596 h34663 h34745 h32013 h34666 h31980 h33862 h34665 h34668 h34664 h34746) (vc_X12_through_119 h32010 h34595 h34596 h34663 h32010.1 h32013 h34666 h31980 h33862 h34665 h34668 h34664) I34728 (vc_X12_through_120 (nS h34598) h34595 h34596 h34663 h34666 h34745 h32010 h32010.1 h31980 h33862 h34665 h34668 h34664 h34746) ((((W34730 z34720 z34719 μ34721 rfl h34723 h34724 T34725 F34726) z34732 q34733 h34734).1 h34744).1 h34745)
                  have h34747 : 0 ≤ z34720 ∧ z34720 ≤ 0 := (vc_X12_ring_22 h34745 h34723)
                  refine mr_iinc (pc := 192) (lv' := [(9, iv (z34587 + 1)), (0, .ref 106), (2, iv p2), (3, iv p3), (4, iv p4), (5, iv z31975), (6, iv z31974), (7, iv (z31975 - 1)), (8, iv z31997), (10, iv z34720), (11, iv z34719)]) dX12_through_192 rfl (by decide) rfl ?_
                  refine sv_goto (pc := 195) (tgt := 100) dX12_through_195 (by decide) ?_
                  refine mr_lvS (lv' := [(0, .ref 106), (2, iv p2), (3, iv p3), (4, iv p4), (5, iv z31975), (6, iv z31974), (7, iv (z31975 - 1)), (8, iv z31997), (9, iv (z34587 + 1)), (10, iv z34720)]) (List.forall_mem_cons.mpr ⟨rfl, List.forall_mem_cons.mpr ⟨rfl, List.forall_mem_cons.mpr ⟨rfl, List.forall_mem_cons.mpr ⟨rfl, List.forall_mem_cons.mpr ⟨rfl, List.forall_mem_cons.mpr ⟨rfl, List.forall_mem_cons.mpr ⟨rfl, List.forall_mem_cons.mpr ⟨rfl, List.forall_mem_cons.mpr ⟨rfl, List.forall_mem_cons.mpr ⟨rfl, fun _ h => absurd h List.not_mem_nil⟩⟩⟩⟩⟩⟩⟩⟩⟩⟩) ?_
                  exact ih34600 (z34587 + 1) z34720 μ34721 T34725 (mF.call (mF.call mF.refl F34593 rfl) F34726 rfl) (rW (c := 1) (d := 30) (rAdd (e := 2) (f := 30) h34664 (rR (x := 1)) rfl) rfl) (rW (c := 0) (d := 1) h34747 rfl) (vc_X12_through_122 h32010 h32010.1 h34595 h34596 h34663 h34745 h32013 h34666 h31980 h33862 h34665 h34668 h34664 h34747) (vc_X12_through_123 h32010 h34595 h34596 h34663 h32010.1 h32013 h34666 h31980 h33862 h34665 h34668 h34664) I34728 (vc_X12_through_124 (nS h34598) h34595 h34596 h34663 h34666 h34745 h32010 h32010.1 h31980 h33862 h34665 h34668 h34664 h34747) ((((W34730 z34720 z34719 μ34721 rfl h34723 h34724 T34725 F34726) z34732 q34733 h34734).1 h34744).2 h34745)
                have h34748 : 0 ≤ z34719 ∧ z34719 ≤ 299 := (vc_X12_through_48 h34744 h34724 h34734)
                have h34749 : 1 ≤ z34732 ∧ z34732 ≤ 300 := (vc_X12_through_49 h34744 h34748 h34734)
                refine mr_iload (pc := 155) (z := z34720) dX12_through_155 rfl ?_
                refine mr_if_eq (pc := 157) (tgt := 187) dX12_through_157 (by decide) (r32 h34723 rfl) (fun h34757 => ?_) (fun h34757 => ?_)
                · have h34758 : 0 ≤ z34720 ∧ z34720 ≤ 0 := (vc_X12_ring_22 h34757 h34723)
                  refine mr_iload (pc := 187) (z := z34720) dX12_through_187 rfl ?_
                  refine mr_if_ne (pc := 189) (tgt := 100) dX12_through_189 (by decide) (r32 h34758 rfl) (fun h => ((vc_X10_firstWrongStep_7 h h34758)).elim) (fun _ => ?_)
                  refine mr_iinc (pc := 192) (lv' := [(9, iv (z34587 + 1)), (0, .ref 106), (2, iv p2), (3, iv p3), (4, iv p4), (5, iv z31975), (6, iv z31974), (7, iv (z31975 - 1)), (8, iv z31997), (10, iv z34720), (11, iv z34719)]) dX12_through_192 rfl (by decide) rfl ?_
                  refine sv_goto (pc := 195) (tgt := 100) dX12_through_195 (by decide) ?_
                  refine mr_lvS (lv' := [(0, .ref 106), (2, iv p2), (3, iv p3), (4, iv p4), (5, iv z31975), (6, iv z31974), (7, iv (z31975 - 1)), (8, iv z31997), (9, iv (z34587 + 1)), (10, iv z34720)]) (List.forall_mem_cons.mpr ⟨rfl, List.forall_mem_cons.mpr ⟨rfl, List.forall_mem_cons.mpr ⟨rfl, List.forall_mem_cons.mpr ⟨rfl, List.forall_mem_cons.mpr ⟨rfl, List.forall_mem_cons.mpr ⟨rfl, List.forall_mem_cons.mpr ⟨rfl, List.forall_mem_cons.mpr ⟨rfl, List.forall_mem_cons.mpr ⟨rfl, List.forall_mem_cons.mpr ⟨rfl, fun _ h => absurd h List.not_mem_nil⟩⟩⟩⟩⟩⟩⟩⟩⟩⟩) ?_
                  exact ih34600 (z34587 + 1) z34720 μ34721 T34725 (mF.call (mF.call mF.refl F34593 rfl) F34726 rfl) (rW (c := 1) (d := 30) (rAdd (e := 2) (f := 30) h34664 (rR (x := 1)) rfl) rfl) (rW (c := 0) (d := 1) h34758 rfl) (vc_X12_through_122 h32010 h32010.1 h34595 h34596 h34663 h34757 h32013 h34666 h31980 h33862 h34665 h34668 h34664 h34758) (vc_X12_through_123 h32010 h34595 h34596 h34663 h32010.1 h32013 h34666 h31980 h33862 h34665 h34668 h34664) I34728 (vc_X12_through_124 (nS h34598) h34595 h34596 h34663 h34666 h34757 h32010 h32010.1 h31980 h33862 h34665 h34668 h34664 h34758) ((((W34730 z34720 z34719 μ34721 rfl h34723 h34724 T34725 F34726) z34732 q34733 h34734).2 h34744).1 h34757)
                have h34759 : 1 ≤ z34720 ∧ z34720 ≤ 1 := (vc_X12_ring_24 h34757 h34723)
                refine sv_aload_n (pc := 160) dX12_through_160 rfl rfl ?_
                refine mr_iload (pc := 161) (z := z31997) dX12_through_161 rfl ?_
                refine mr_sipush (pc := 163) (z := 300) dX12_through_163 (by decide) ?_
                refine mr_iload (pc := 166) (z := z31997) dX12_through_166 rfl ?_
                refine mr_imul (pc := 168) (x := 300) (y := z31997) dX12_through_168 ?_
                refine mr_iload (pc := 169) (z := z34719) dX12_through_169 rfl ?_
                refine mr_iadd (pc := 171) (x := (300 * z31997)) (y := z34719) dX12_through_171 ?_
                refine mr_iload_n (pc := 172) (z := p2) dX12_through_172 rfl rfl ?_
                refine mr_iload_n (pc := 173) (z := p3) dX12_through_173 rfl rfl ?_
                refine mr_iload (pc := 174) (z := p4) dX12_through_174 rfl ?_
                have W34765 := ((((W34730 z34720 z34719 μ34721 rfl h34723 h34724 T34725 F34726) z34732 q34733 h34734).2 h34744).2 h34757)
                refine mr_cVI (pc := 176) (c_X12_isSo_W hw T34725 h31999 (rW (c := 0) (d := 3899) (rAdd (e := 0) (f := 3599) (rMulL (n := 300) (e := 0) (f := 3300) h31999 rfl) h34748 rfl) rfl) hp2 hp3 hp4 hg1 (F34726.f (A_110 hw) rfl (F34593.f (A_110 hw) rfl (F31982.f (A_110 hw) rfl (u17686.f (Or.inl (mAt.ne (A_153 hw) (A_110 hw) rfl)) (u17683.f (Or.inl (mAt.ne (A_152 hw) (A_110 hw) rfl)) (u17680.f (Or.inl (mAt.ne (A_151 hw) (A_110 hw) rfl)) q_f_e0)))))) (F34726.f (A_110 hw) rfl (F34593.f (A_110 hw) rfl (F31982.f (A_110 hw) rfl (u17686.f (Or.inl (mAt.ne (A_153 hw) (A_110 hw) rfl)) (u17683.f (Or.inl (mAt.ne (A_152 hw) (A_110 hw) rfl)) (u17680.f (Or.inl (mAt.ne (A_151 hw) (A_110 hw) rfl)) q_f_e1)))))) (F34726.f (A_106 hw) rfl (F34593.f (A_106 hw) rfl (F31982.f (A_106 hw) rfl (u17686.f (Or.inl (mAt.ne (A_153 hw) (A_106 hw) rfl)) (u17683.f (Or.inl (mAt.ne (A_152 hw) (A_106 hw) rfl)) (u17680.f (Or.inl (mAt.ne (A_151 hw) (A_106 hw) rfl)) q_f_ties)))))) (F34726.f (A_126 hw) rfl (F34593.f (A_126 hw) rfl q31990)) (vc_X12_tieWord_2 hq0 h2 hg1) (vc_X12_tieWord_3 hq1 ht_f_e0 ht_f_e1 hp3 hp4) (vc_X12_through_53 h31984 hq2 h3 h31993) W34765) (gOk _ _ _ _ _) dX12_through_176 (tX12_isSo _ _ _ _ _) ⟨wV_X12_isSo, wL_X12_isSo⟩ wM_X12_397 (gCX12 _ _ _ _ _) rfl (A_106 hw) rfl ⟨le_t rfl, le_t rfl⟩ ⟨le_t rfl, le_t rfl⟩ rfl (le_t rfl) fun z34764 μ34760 T34761 F34762 h34763 => ?_
                refine mr_istore (pc := 179) (lv' := [(10, iv z34764), (0, .ref 106), (2, iv p2), (3, iv p3), (4, iv p4), (5, iv z31975), (6, iv z31974), (7, iv (z31975 - 1)), (8, iv z31997), (9, iv z34587), (11, iv z34719)]) dX12_through_179 (by decide) rfl ?_
                refine mr_iinc (pc := 181) (lv' := [(11, iv (z34719 + 1)), (10, iv z34764), (0, .ref 106), (2, iv p2), (3, iv p3), (4, iv p4), (5, iv z31975), (6, iv z31974), (7, iv (z31975 - 1)), (8, iv z31997), (9, iv z34587)]) dX12_through_181 rfl (by decide) rfl ?_
                refine sv_goto (pc := 184) (tgt := 135) dX12_through_184 (by decide) ?_
                refine mr_lvS (lv' := [(0, .ref 106), (2, iv p2), (3, iv p3), (4, iv p4), (5, iv z31975), (6, iv z31974), (7, iv (z31975 - 1)), (8, iv z31997), (9, iv z34587), (10, iv z34764), (11, iv (z34719 + 1))]) (List.forall_mem_cons.mpr ⟨rfl, List.forall_mem_cons.mpr ⟨rfl, List.forall_mem_cons.mpr ⟨rfl, List.forall_mem_cons.mpr ⟨rfl, List.forall_mem_cons.mpr ⟨rfl, List.forall_mem_cons.mpr ⟨rfl, List.forall_mem_cons.mpr ⟨rfl, List.forall_mem_cons.mpr ⟨rfl, List.forall_mem_cons.mpr ⟨rfl, List.forall_mem_cons.mpr ⟨rfl, List.forall_mem_cons.mpr ⟨rfl, fun _ h => absurd h List.not_mem_nil⟩⟩⟩⟩⟩⟩⟩⟩⟩⟩⟩) ?_
                exact ih34731 z34764 (z34719 + 1) μ34760 T34761 (mF.call (mF.call mF.refl F34726 rfl) F34762 rfl) h34763.1 (rW (c := 0) (d := 300) (rAdd (e := 1) (f := 300) h34748 (rR (x := 1)) rfl) rfl) (PK.keep I34728 hw ((mF.call mF.refl F34762 rfl) : mF [106026, 106027, 106028, 106029, 106030, 106031] w μ34721 μ34760) rfl) (vc_X12_through_54 (nS h34729) h34744 h34748 h34749) ((h34763.2.1 T34761 F34762) h34763.1)
            refine mr_lvS (lv' := [(0, .ref 106), (2, iv p2), (3, iv p3), (4, iv p4), (5, iv z31975), (6, iv z31974), (7, iv (z31975 - 1)), (8, iv z31997), (9, iv z34587), (10, iv 1), (11, iv z34669)]) (List.forall_mem_cons.mpr ⟨rfl, List.forall_mem_cons.mpr ⟨rfl, List.forall_mem_cons.mpr ⟨rfl, List.forall_mem_cons.mpr ⟨rfl, List.forall_mem_cons.mpr ⟨rfl, List.forall_mem_cons.mpr ⟨rfl, List.forall_mem_cons.mpr ⟨rfl, List.forall_mem_cons.mpr ⟨rfl, List.forall_mem_cons.mpr ⟨rfl, List.forall_mem_cons.mpr ⟨rfl, List.forall_mem_cons.mpr ⟨rfl, fun _ h => absurd h List.not_mem_nil⟩⟩⟩⟩⟩⟩⟩⟩⟩⟩⟩) ?_
            exact L34722 302 1 z34669 μ34588 T34592 mF.refl (rW (c := 0) (d := 1) (rR (x := 1)) rfl) h34671 I34597 (vc_X12_through_55 h34671) ((((W34599 z34587 z34586 μ34588 rfl h34590 h34591 T34592 F34593).2 h34663).2 h34666) z34669 q34670 h34671)
        refine mr_lvS (lv' := [(0, .ref 106), (2, iv p2), (3, iv p3), (4, iv p4), (5, iv z31975), (6, iv z31974), (7, iv (z31975 - 1)), (8, iv z31997), (9, iv (z32001 + 1)), (10, iv 0)]) (List.forall_mem_cons.mpr ⟨rfl, List.forall_mem_cons.mpr ⟨rfl, List.forall_mem_cons.mpr ⟨rfl, List.forall_mem_cons.mpr ⟨rfl, List.forall_mem_cons.mpr ⟨rfl, List.forall_mem_cons.mpr ⟨rfl, List.forall_mem_cons.mpr ⟨rfl, List.forall_mem_cons.mpr ⟨rfl, List.forall_mem_cons.mpr ⟨rfl, List.forall_mem_cons.mpr ⟨rfl, fun _ h => absurd h List.not_mem_nil⟩⟩⟩⟩⟩⟩⟩⟩⟩⟩) ?_
        exact L34589 69 (z32001 + 1) 0 μ31976 T31981 mF.refl (rAdd (e := 1) (f := 30) h33862 (rR (x := 1)) rfl) (rW (c := 0) (d := 1) (rR (x := 0)) rfl) (vc_X12_through_130 h32010 h32010.1 h32013 h31980 h33862 h32006) (vc_X12_through_131 h32010 h32010.1 h32013 h31980 h33862 h32006) I31985 (vc_X12_through_132 h32010 h32010.1 h32013 h31980 h33862 h32006) ((((W32012.2 h32013) z33863 q33864 h33865) z33866 q33867 h33868).2 h33870)
    refine mr_lvS (lv' := [(0, .ref 106), (2, iv p2), (3, iv p3), (4, iv p4), (5, iv 1), (6, iv 0)]) (List.forall_mem_cons.mpr ⟨rfl, List.forall_mem_cons.mpr ⟨rfl, List.forall_mem_cons.mpr ⟨rfl, List.forall_mem_cons.mpr ⟨rfl, List.forall_mem_cons.mpr ⟨rfl, List.forall_mem_cons.mpr ⟨rfl, fun _ h => absurd h List.not_mem_nil⟩⟩⟩⟩⟩⟩) ?_
    exact L31977 50136 1 0 (-1) μ17685 f_x T17687 mF.refl mG.refl (u17686.f (Or.inl (mAt.ne (A_153 hw) (A_126 hw) rfl)) (u17683.f (Or.inl (mAt.ne (A_152 hw) (A_126 hw) rfl)) (u17680.f (Or.inl (mAt.ne (A_151 hw) (A_126 hw) rfl)) q_f_x))) (rW (c := 0) (d := 12) (rR (x := 1)) rfl) (rW (c := 0) (d := 500) (rR (x := 0)) rfl) (rW (c := (-1)) (d := 30) (rR (x := (-1))) rfl) (vc_X12_through_134 hq2 h3) (PK.keep hIPK hw ((mF.up (mF.up (mF.up mF.refl (A_151 hw) u17680 rfl) (A_152 hw) u17683 rfl) (A_153 hw) u17686 rfl) : mF [151999, 152999, 153999] w μ μ17685) rfl) (lvOK.pred I17691 vc_X12_through_136) (Or.inr (eqIx vc_X12_through_133 (u17686.f (Or.inl (mAt.ne (A_153 hw) (A_152 hw) rfl)) u17683.1))) vc_X12_through_135 ((((((((((hQ f_e0 q_f_e0 ht_f_e0) f_e1 q_f_e1 ht_f_e1) f_ties q_f_ties ht_f_ties) f_x q_f_x ht_f_x) f_pol q_f_pol ht_f_pol).1 h17678) μ17679 u17680 T17681) μ17682 u17683 T17684) μ17685 u17686 T17687) z17688 q17689 h17690)
  have h34766 : (-99999999) ≤ p1 ∧ p1 ≤ (-99999999) := (vc_X12_through_137 h17678 hq3 ht_f_pol hp1)
  refine mr_iconst (pc := 6) (z := 1) dX12_through_6 ?_
  exact mr_zret dX12_through_7 rfl (rW (c := 0) (d := 1) (rR (x := 1)) rfl) (le_t rfl) (le_t rfl) hT mF.refl ⟨f_x, q_f_x, (rW (c := 0) (d := 1) (rR (x := 1)) rfl), mG.refl, (vc_X12_through_134 hq2 h3), ((((((hQ f_e0 q_f_e0 ht_f_e0) f_e1 q_f_e1 ht_f_e1) f_ties q_f_ties ht_f_ties) f_x q_f_x ht_f_x) f_pol q_f_pol ht_f_pol).2 h17678), trivial⟩
def WP_X12_candidate_W (w : mW) (μ : mM) (p1 : Int) (p2 : Int) (p3 : Int) (Q : Int → mM → Prop) : Prop := ∀ f_e0 : Int, μ 110 ((2 * p2).toNat) = f_e0 → (0 ≤ f_e0 ∧ f_e0 ≤ 9) → ∀ f_e1 : Int, μ 110 (((2 * p2) + 1).toNat) = f_e1 → (0 ≤ f_e1 ∧ f_e1 ≤ 9) → ∀ f_ties : Int, μ 106 6 = f_ties → (0 ≤ f_ties ∧ f_ties ≤ 20) → WP_X12_sideOf_W w μ p2 p1 (fun z297 _ => (0 ≤ z297 ∧ z297 ≤ 1) → WP_X12_nothing_W w μ (4 + p2) (fun μ298 => mT w μ298 → mF [126999] w μ μ298 → ∀ z302 : Int, μ298 126 ((40 * (4 + p2)).toNat) = z302 → WP_X12_slot_W w μ298 p2 z297 p3 (fun z313 _ => (0 ≤ z313 ∧ z313 ≤ 449) → ∀ z315 : Int, μ298 112 (p2.toNat) = z315 → (0 ≤ z315 ∧ z315 ≤ 1) → ((z315 = 0) → Q ((-99999999) : Int) μ298) ∧ ((¬ z315 = 0) → ∀ z321 : Int, μ298 126 ((40 * (130 + z313)).toNat) = z321 → ((-2147483648 ≤ z321 ∧ z321 ≤ 2147483647) ∧ ((40 * (130 + z313)) % 40 = 0 → -1 ≤ z321 ∧ z321 ≤ 9) ∧ ((40 * (130 + z313)) % 40 = 4 → 0 ≤ z321 ∧ z321 ≤ 20) ∧ ((40 * (130 + z313)) % 40 = 5 → 0 ≤ z321 ∧ z321 ≤ 8)) → WP_X12_isThere_W w μ298 (130 + z313) (fun z329 _ => (0 ≤ z329 ∧ z329 ≤ 1) → ((¬ z329 = 0) → WP_X12_isIn_W w μ298 (130 + z313) p1 (fun z338 _ => (0 ≤ z338 ∧ z338 ≤ 1) → ((z338 = 0) → WP_X12_copy_W w μ298 (130 + z313) (4 + p2) (fun μ341 => mT w μ341 → mF [126999] w μ298 μ341 → ∀ z345 : Int, μ341 126 ((40 * (4 + p2)).toNat) = z345 → ∀ z352 : Int, μ341 115 (((4 * p2) + (2 * z297)).toNat) = z352 → (z352 = -99999999 ∨ (0 ≤ z352 ∧ z352 ≤ 11)) → ∀ z356 : Int, μ341 106 39 = z356 → (0 ≤ z356 ∧ z356 ≤ 12) → WP_X12_partnerOf_Wpt w μ341 p2 p1 (fun z364 _ => (0 ≤ z364 ∧ z364 ≤ 9) → WP_X12_through_W w μ341 z352 (4 + p2) p1 z364 (p2) (fun z369 μ365 => mT w μ365 → mF [106026, 106027, 106028, 106029, 106030, 106031, 126999, 151999, 152999, 153999] w μ341 μ365 → (0 ≤ z369 ∧ z369 ≤ 1) → ∀ z370 : Int, μ365 126 ((40 * (4 + p2)).toNat) = z370 → ((z369 = 0) → WP_X12_nothing_W w μ365 (4 + p2) (fun μ379 => mT w μ379 → mF [126999] w μ365 μ379 → ∀ z383 : Int, μ379 126 ((40 * (4 + p2)).toNat) = z383 → Q (10 : Int) μ379)) ∧ ((¬ z369 = 0) → Q (0 : Int) μ365))))) ∧ ((¬ z338 = 0) → Q (9 : Int) μ298))) ∧ ((z329 = 0) → Q ((-99999999) : Int) μ298))))))
set_option maxRecDepth 4000 in
set_option maxHeartbeats 4000000 in
theorem c_X12_candidate_W {l : Launch} {D : va_G} {c : Nat → ClassId} {H0 : Heap} {sa : Nat × Nat × (Nat → Int32)} {w : mW} {μ : mM} (hw : mWF w) (hT : mT w μ) {p1 : Int} (hp1 : 0 ≤ p1 ∧ p1 ≤ 9) {p2 : Int} (hp2 : 0 ≤ p2 ∧ p2 ≤ 19) {p3 : Int} (hp3 : 0 ≤ p3 ∧ p3 ≤ 9) {f_e0 : Int} (q_f_e0 : μ 110 ((2 * p2).toNat) = f_e0) {f_e1 : Int} (q_f_e1 : μ 110 (((2 * p2) + 1).toNat) = f_e1) {f_ties : Int} (q_f_ties : μ 106 6 = f_ties) (hq0 : p2 < f_ties) (hq1 : f_e0 = p1 ∨ f_e1 = p1) (hIPK : PK μ) {Q : Int → mM → Prop} (hQ : WP_X12_candidate_W w μ p1 p2 p3 Q) : sC (gG l D c H0 sa) mX12_candidate 7 0 0 [.ref 106, iv p1, iv p2, iv p3] (mk w μ) (qI w [106026, 106027, 106028, 106029, 106030, 106031, 126999, 151999, 152999, 153999] μ (fun z μ1 => ((-99999999) ≤ z ∧ z ≤ 10) ∧ mG [(((40 * p2) + 160), ((40 * p2) + 200))] μ μ1 ∧ Q z μ1 ∧ True)) := by
  refine sC.of rfl (by decide) (le_t rfl) ?_
  have ht_f_e0 : (0 ≤ f_e0 ∧ f_e0 ≤ 9) := by rw [← q_f_e0]; exact hT 110 110 (A_110 hw) ((2 * p2).toNat)
  have ht_f_e1 : (0 ≤ f_e1 ∧ f_e1 ≤ 9) := by rw [← q_f_e1]; exact hT 110 110 (A_110 hw) (((2 * p2) + 1).toNat)
  have ht_f_ties : (0 ≤ f_ties ∧ f_ties ≤ 20) := by rw [← q_f_ties]; exact hT 106 106 (A_106 hw) 6
  have h1 : 1 ≤ f_ties ∧ f_ties ≤ 20 := (vc_X3_putAttributes_11 hq0 ht_f_ties hp2)
  refine mr_lvE (lv' := [(0, .ref 106), (1, iv p1), (2, iv p2), (3, iv p3)]) rfl ?_
  refine sv_aload_n (pc := 0) dX12_candidate_0 rfl rfl ?_
  refine mr_iload_n (pc := 1) (z := p2) dX12_candidate_1 rfl rfl ?_
  refine mr_iload_n (pc := 2) (z := p1) dX12_candidate_2 rfl rfl ?_
  refine mr_cVP (pc := 3) (c_X12_sideOf_W hw hT hp2 (rW (c := (-2147483648)) (d := 2147483647) hp1 rfl) q_f_e0 (((hQ f_e0 q_f_e0 ht_f_e0) f_e1 q_f_e1 ht_f_e1) f_ties q_f_ties ht_f_ties)) (gOk _ _ _ _ _) dX12_candidate_3 (tX12_sideOf _ _ _ _ _) ⟨wV_X12_sideOf, wL_X12_sideOf⟩ wM_X12_542 (gCX12 _ _ _ _ _) rfl (A_106 hw) rfl ⟨le_t rfl, le_t rfl⟩ ⟨le_t rfl, le_t rfl⟩ rfl (le_t rfl) fun z297 h296 => ?_
  refine mr_istore (pc := 6) (lv' := [(4, iv z297), (0, .ref 106), (1, iv p1), (2, iv p2), (3, iv p3)]) dX12_candidate_6 (by decide) rfl ?_
  refine sv_aload_n (pc := 8) dX12_candidate_8 rfl rfl ?_
  refine mr_iconst (pc := 9) (z := 4) dX12_candidate_9 ?_
  refine mr_iload_n (pc := 10) (z := p2) dX12_candidate_10 rfl rfl ?_
  refine mr_iadd (pc := 11) (x := 4) (y := p2) dX12_candidate_11 ?_
  refine mr_cVV (pc := 12) (c_X12_nothing_W hw hT (rW (c := 0) (d := 2099) (rAdd (e := 4) (f := 23) (rR (x := 4)) hp2 rfl) rfl) (h296.2.2.2.1 h296.1)) (gOk _ _ _ _ _) dX12_candidate_12 (tX12_nothing _ _ _ _ _) ⟨wV_X12_nothing, wL_X12_nothing⟩ wM_X12_539 (gCX12 _ _ _ _ _) rfl (A_106 hw) rfl ⟨le_t rfl, le_t rfl⟩ ⟨le_t rfl, le_t rfl⟩ rfl (le_t rfl) fun μ298 T299 F300 h301 => ?_
  obtain ⟨z302, q303, h304⟩ := h301
  have h305 := rt7 T299 (A_126 hw) (vc_X12_candidate_2 hq0 h1 hp2) q303
  have h306 : (-1) ≤ z302 ∧ z302 ≤ 9 := h305.2.1 (vc_X12_candidate_3 hq0 h1 hp2)
  have q307 : μ298 126 ((40 * (4 + p2)).toNat) = (-1) := q303.trans h304.2.1
  have h308 : (-1) ≤ z302 ∧ z302 ≤ (-1) := (vc_X12_candidate_4 h304.2.1 h306)
  refine mr_sipush (pc := 15) (z := 130) dX12_candidate_15 (by decide) ?_
  refine mr_iload_n (pc := 18) (z := p2) dX12_candidate_18 rfl rfl ?_
  refine mr_iload (pc := 19) (z := z297) dX12_candidate_19 rfl ?_
  refine mr_iload_n (pc := 21) (z := p3) dX12_candidate_21 rfl rfl ?_
  refine mr_cSP (pc := 22) (c_X12_slot_W hw T299 (rW (c := 0) (d := 20) hp2 rfl) (rW (c := 0) (d := 2) h296.1 rfl) hp3 ((h304.2.2.1 T299 F300) z302 q303)) (gOk _ _ _ _ _) dX12_candidate_22 (tX12_slot _ _ _ _ _) wS_X12_slot wM_X12_545 ⟨le_t rfl, le_t rfl⟩ ⟨le_t rfl, le_t rfl⟩ rfl (le_t rfl) fun z313 h312 => ?_
  have h314 : 0 ≤ z313 ∧ z313 ≤ 399 := (vc_X12_candidate_5 h312.2.1 hq0 h296.2.1 h296.2.2.1 ht_f_e0 h1 hp1 hp2 hp3 h296.1 h312.1)
  refine mr_iadd (pc := 25) (x := 130) (y := z313) dX12_candidate_25 ?_
  refine mr_istore (pc := 26) (lv' := [(5, iv (130 + z313)), (4, iv z297), (0, .ref 106), (1, iv p1), (2, iv p2), (3, iv p3)]) dX12_candidate_26 (by decide) rfl ?_
  refine sv_aload_n (pc := 28) dX12_candidate_28 rfl rfl ?_
  refine gf_X12_9 (pc := 29) dX12_candidate_29 wF_X12_53 (A_106 hw) T299 ?_
  refine mr_iload_n (pc := 32) (z := p2) dX12_candidate_32 rfl rfl ?_
  refine la_112 (pc := 33) dX12_candidate_33 (A_112 hw) T299 (rIx (n := 20) hp2 rfl) fun z315 q316 h317 => ?_
  refine mr_if_eq (pc := 34) (tgt := 46) dX12_candidate_34 (by decide) (r32 h317 rfl) (fun h318 => ?_) (fun h318 => ?_)
  · have h319 : 0 ≤ z315 ∧ z315 ≤ 0 := (vc_X12_ring_22 h318 h317)
    refine mr_ldc (pc := 46) (z := (-99999999)) dX12_candidate_46 wG_X12_29 (by decide) ?_
    exact mr_iret dX12_candidate_48 rfl (le_t rfl) (le_t rfl) T299 (mF.call mF.refl F300 rfl) ⟨(rW (c := (-99999999)) (d := 10) (rR (x := (-99999999))) rfl), (mG.call mG.refl h304.1 (List.forall_mem_cons.mpr ⟨⟨_, List.mem_cons_self, (vc_X12_candidate_7 hq0 h312.2.1 h296.2.1 h296.2.2.1 ht_f_e0 h1 hp1 hp2 hp3 h296.1 h314)⟩, (fun _ h => absurd h List.not_mem_nil)⟩)), (((h312.2.2.1 h312.1) z315 q316 h317).1 h318), trivial⟩
  have h320 : 1 ≤ z315 ∧ z315 ≤ 1 := (vc_X12_ring_24 h318 h317)
  refine sv_aload_n (pc := 37) dX12_candidate_37 rfl rfl ?_
  refine mr_iload (pc := 38) (z := (130 + z313)) dX12_candidate_38 rfl ?_
  obtain ⟨z321, q322⟩ : ∃ z, μ298 126 ((40 * (130 + z313)).toNat) = z := ⟨_, rfl⟩
  have h323 := rt7 T299 (A_126 hw) (vc_X12_candidate_9 h312.2.1 hq0 h296.2.1 h296.2.2.1 ht_f_e0 h1 hp1 hp2 hp3 h296.1 h314) q322
  have h324 : (-1) ≤ z321 ∧ z321 ≤ 9 := h323.2.1 (vc_X12_candidate_10 h312.2.1 hq0 h296.2.1 h296.2.2.1 ht_f_e0 h1 hp1 hp2 hp3 h296.1 h314)
  refine mr_cVP (pc := 40) (c_X12_isThere_W hw T299 (rW (c := 0) (d := 2099) (rAdd (e := 130) (f := 529) (rR (x := 130)) h314 rfl) rfl) q322 ((((h312.2.2.1 h312.1) z315 q316 h317).2 h318) z321 q322 h323)) (gOk _ _ _ _ _) dX12_candidate_40 (tX12_isThere _ _ _ _ _) ⟨wV_X12_isThere, wL_X12_isThere⟩ wM_X12_151 (gCX12 _ _ _ _ _) rfl (A_106 hw) rfl ⟨le_t rfl, le_t rfl⟩ ⟨le_t rfl, le_t rfl⟩ rfl (le_t rfl) fun z329 h328 => ?_
  refine mr_if_ne (pc := 43) (tgt := 49) dX12_candidate_43 (by decide) (r32 h328.1 rfl) (fun h330 => ?_) (fun h330 => ?_)
  · have h331 : 1 ≤ z329 ∧ z329 ≤ 1 := (vc_X12_candidate_11 h330 h328.2.1 h328.2.2.1 h324 h328.1)
    have h332 : 0 ≤ z321 := (h328.2.1 (vc_X12_candidate_12 h328.2.1 h328.2.2.1 h330 h324 h331))
    have h333 : 0 ≤ z321 ∧ z321 ≤ 9 := (vc_X12_candidate_13 h332 h328.2.1 h328.2.2.1 h324 h331)
    refine sv_aload_n (pc := 49) dX12_candidate_49 rfl rfl ?_
    refine mr_iload (pc := 50) (z := (130 + z313)) dX12_candidate_50 rfl ?_
    refine mr_iload_n (pc := 52) (z := p1) dX12_candidate_52 rfl rfl ?_
    refine mr_cVP (pc := 53) (c_X12_isIn_W hw T299 (rW (c := 0) (d := 2099) (rAdd (e := 130) (f := 529) (rR (x := 130)) h314 rfl) rfl) (rW (c := (-2147483648)) (d := 2147483647) hp1 rfl) ((h328.2.2.2.1 h328.1).1 h330)) (gOk _ _ _ _ _) dX12_candidate_53 (tX12_isIn _ _ _ _ _) ⟨wV_X12_isIn, wL_X12_isIn⟩ wM_X12_556 (gCX12 _ _ _ _ _) rfl (A_106 hw) rfl ⟨le_t rfl, le_t rfl⟩ ⟨le_t rfl, le_t rfl⟩ rfl (le_t rfl) fun z338 h337 => ?_
    refine mr_if_eq (pc := 56) (tgt := 62) dX12_candidate_56 (by decide) (r32 h337.1 rfl) (fun h339 => ?_) (fun h339 => ?_)
    · have h340 : 0 ≤ z338 ∧ z338 ≤ 0 := (vc_X12_ring_22 h339 h337.1)
      refine sv_aload_n (pc := 62) dX12_candidate_62 rfl rfl ?_
      refine mr_iload (pc := 63) (z := (130 + z313)) dX12_candidate_63 rfl ?_
      refine mr_iconst (pc := 65) (z := 4) dX12_candidate_65 ?_
      refine mr_iload_n (pc := 66) (z := p2) dX12_candidate_66 rfl rfl ?_
      refine mr_iadd (pc := 67) (x := 4) (y := p2) dX12_candidate_67 ?_
      refine mr_cVV (pc := 68) (c_X12_copy_W hw T299 (rW (c := 0) (d := 2099) (rAdd (e := 130) (f := 529) (rR (x := 130)) h314 rfl) rfl) (rW (c := 0) (d := 2099) (rAdd (e := 4) (f := 23) (rR (x := 4)) hp2 rfl) rfl) q322 (vc_X12_candidate_15 hq0 h312.2.1 h296.2.1 h296.2.2.1 ht_f_e0 h1 hp1 hp2 hp3 h296.1 h314) ((h337.2.1 h337.1).1 h339)) (gOk _ _ _ _ _) dX12_candidate_68 (tX12_copy _ _ _ _ _) ⟨wV_X12_copy, wL_X12_copy⟩ wM_X12_559 (gCX12 _ _ _ _ _) rfl (A_106 hw) rfl ⟨le_t rfl, le_t rfl⟩ ⟨le_t rfl, le_t rfl⟩ rfl (le_t rfl) fun μ341 T342 F343 h344 => ?_
      obtain ⟨z345, q346, h347⟩ := h344
      have h348 := rt7 T342 (A_126 hw) (vc_X12_candidate_16 hq0 h312.2.1 h296.2.1 h296.2.2.1 ht_f_e0 h1 hp1 hp2 hp3 h296.1 h314) q346
      have h349 : (-1) ≤ z345 ∧ z345 ≤ 9 := h348.2.1 (vc_X12_candidate_17 hq0 h312.2.1 h296.2.1 h296.2.2.1 ht_f_e0 h1 hp1 hp2 hp3 h296.1 h314)
      have q350 : μ341 126 ((40 * (4 + p2)).toNat) = z321 := q346.trans h347.2.1
      have h351 : 0 ≤ z345 ∧ z345 ≤ 9 := (vc_X12_candidate_18 h347.2.1 h328.2.1 h328.2.2.1 h332 h333 h331 h349)
      refine sv_aload_n (pc := 71) dX12_candidate_71 rfl rfl ?_
      refine sv_aload_n (pc := 72) dX12_candidate_72 rfl rfl ?_
      refine gf_X12_12 (pc := 73) dX12_candidate_73 wF_X12_63 (A_106 hw) T342 ?_
      refine mr_iconst (pc := 76) (z := 4) dX12_candidate_76 ?_
      refine mr_iload_n (pc := 77) (z := p2) dX12_candidate_77 rfl rfl ?_
      refine mr_imul (pc := 78) (x := 4) (y := p2) dX12_candidate_78 ?_
      refine mr_iconst (pc := 79) (z := 2) dX12_candidate_79 ?_
      refine mr_iload (pc := 80) (z := z297) dX12_candidate_80 rfl ?_
      refine mr_imul (pc := 82) (x := 2) (y := z297) dX12_candidate_82 ?_
      refine mr_iadd (pc := 83) (x := (4 * p2)) (y := (2 * z297)) dX12_candidate_83 ?_
      refine la_115 (pc := 84) dX12_candidate_84 (A_115 hw) T342 (rIx (n := 80) (rAdd (e := 0) (f := 78) (rMulL (n := 4) (e := 0) (f := 76) hp2 rfl) (rMulL (n := 2) (e := 0) (f := 2) h296.1 rfl) rfl) rfl) fun z352 q353 h354 => ?_
      have h355 : (-99999999) ≤ z352 ∧ z352 ≤ 11 := (vc_X12_candidate_19 h354)
      obtain ⟨z356, q357⟩ : ∃ z, μ341 106 39 = z := ⟨_, rfl⟩
      have h358 : (0 ≤ z356 ∧ z356 ≤ 12) := by rw [← q357]; exact T342 106 106 (A_106 hw) 39
      have h359 : z352 = -99999999 ∨ (0 ≤ z352 ∧ z352 < z356) := PK.pol (PK.keep hIPK hw ((mF.call (mF.call mF.refl F300 rfl) F343 rfl) : mF [126999] w μ μ341) rfl) (rIx (n := 80) (rAdd (e := 0) (f := 78) (rMulL (n := 4) (e := 0) (f := 76) hp2 rfl) (rMulL (n := 2) (e := 0) (f := 2) h296.1 rfl) rfl) rfl) q353 q357 (F343.f (A_106 hw) rfl (F300.f (A_106 hw) rfl q_f_ties)) (vc_X12_candidate_20 hq0 h296.2.1 h296.2.2.1 h312.2.1 hq1 ht_f_e0 ht_f_e1 h1 hp1 hp2 hp3 h296.1 h314)
      refine mr_iconst (pc := 85) (z := 4) dX12_candidate_85 ?_
      refine mr_iload_n (pc := 86) (z := p2) dX12_candidate_86 rfl rfl ?_
      refine mr_iadd (pc := 87) (x := 4) (y := p2) dX12_candidate_87 ?_
      refine mr_iload_n (pc := 88) (z := p1) dX12_candidate_88 rfl rfl ?_
      refine sv_aload_n (pc := 89) dX12_candidate_89 rfl rfl ?_
      refine mr_iload_n (pc := 90) (z := p2) dX12_candidate_90 rfl rfl ?_
      refine mr_iload_n (pc := 91) (z := p1) dX12_candidate_91 rfl rfl ?_
      refine mr_cVP (pc := 92) (c_X12_partnerOf_Wpt hw T342 hp2 (rW (c := (-2147483648)) (d := 2147483647) hp1 rfl) (F343.f (A_110 hw) rfl (F300.f (A_110 hw) rfl q_f_e0)) (F343.f (A_110 hw) rfl (F300.f (A_110 hw) rfl q_f_e1)) ((((h347.2.2.1 T342 F343) z345 q346) z352 q353 h354) z356 q357 h358)) (gOk _ _ _ _ _) dX12_candidate_92 (tX12_partnerOf _ _ _ _ _) ⟨wV_X12_partnerOf, wL_X12_partnerOf⟩ wM_X12_553 (gCX12 _ _ _ _ _) rfl (A_106 hw) rfl ⟨le_t rfl, le_t rfl⟩ ⟨le_t rfl, le_t rfl⟩ rfl (le_t rfl) fun z364 h363 => ?_
      refine mr_cVI (pc := 95) (c_X12_through_W hw T342 (rW (c := (-2147483648)) (d := 2147483647) h355 rfl) (rW (c := 0) (d := 2099) (rAdd (e := 4) (f := 23) (rR (x := 4)) hp2 rfl) rfl) (rW (c := (-2147483648)) (d := 2147483647) hp1 rfl) (rW (c := (-2147483648)) (d := 2147483647) h363.1 rfl) hp2 (F343.f (A_110 hw) rfl (F300.f (A_110 hw) rfl q_f_e0)) (F343.f (A_110 hw) rfl (F300.f (A_110 hw) rfl q_f_e1)) (F343.f (A_106 hw) rfl (F300.f (A_106 hw) rfl q_f_ties)) q350 q357 (vc_X12_candidate_21 hq0 h312.2.1 h296.2.1 h296.2.2.1 ht_f_e0 h1 hp1 hp2 hp3 h296.1 h314) (vc_X12_candidate_22 hq1 h296.2.1 h296.2.2.1 h363.2.1 h312.2.1 ht_f_e0 ht_f_e1 hp1 hp2 hp3 h296.1 h314 h363.1) (vc_X12_candidate_23 h328.2.1 h328.2.2.1 h332 h347.2.1 h330 h333 h331 h351) (vc_X12_candidate_24 h359 h355 h354 h358) (PK.keep hIPK hw ((mF.call (mF.call mF.refl F300 rfl) F343 rfl) : mF [126999] w μ μ341) rfl) (h363.2.2.1 h363.1)) (gOk _ _ _ _ _) dX12_candidate_95 (tX12_through _ _ _ _ _) ⟨wV_X12_through, wL_X12_through⟩ wM_X12_414 (gCX12 _ _ _ _ _) rfl (A_106 hw) rfl ⟨le_t rfl, le_t rfl⟩ ⟨le_t rfl, le_t rfl⟩ rfl (le_t rfl) fun z369 μ365 T366 F367 h368 => ?_
      obtain ⟨z370, q371, h372⟩ := h368
      have h373 := rt7 T366 (A_126 hw) (vc_X12_candidate_16 hq0 h312.2.1 h296.2.1 h296.2.2.1 ht_f_e0 h1 hp1 hp2 hp3 h296.1 h314) q371
      have h374 : (-1) ≤ z370 ∧ z370 ≤ 9 := h373.2.1 (vc_X12_candidate_17 hq0 h312.2.1 h296.2.1 h296.2.2.1 ht_f_e0 h1 hp1 hp2 hp3 h296.1 h314)
      have q375 : μ365 126 ((40 * (4 + p2)).toNat) = z321 := q371.trans h372.2.2.1
      have h376 : 0 ≤ z370 ∧ z370 ≤ 9 := (vc_X12_candidate_25 h372.2.2.1 h328.2.1 h328.2.2.1 h332 h347.2.1 h333 h331 h351 h374)
      refine mr_if_eq (pc := 98) (tgt := 103) dX12_candidate_98 (by decide) (r32 h372.1 rfl) (fun h377 => ?_) (fun h377 => ?_)
      · have h378 : 0 ≤ z369 ∧ z369 ≤ 0 := (vc_X12_ring_22 h377 h372.1)
        refine sv_aload_n (pc := 103) dX12_candidate_103 rfl rfl ?_
        refine mr_iconst (pc := 104) (z := 4) dX12_candidate_104 ?_
        refine mr_iload_n (pc := 105) (z := p2) dX12_candidate_105 rfl rfl ?_
        refine mr_iadd (pc := 106) (x := 4) (y := p2) dX12_candidate_106 ?_
        refine mr_cVV (pc := 107) (c_X12_nothing_W hw T366 (rW (c := 0) (d := 2099) (rAdd (e := 4) (f := 23) (rR (x := 4)) hp2 rfl) rfl) ((((h372.2.2.2.1 T366 F367) h372.1) z370 q371).1 h377)) (gOk _ _ _ _ _) dX12_candidate_107 (tX12_nothing _ _ _ _ _) ⟨wV_X12_nothing, wL_X12_nothing⟩ wM_X12_539 (gCX12 _ _ _ _ _) rfl (A_106 hw) rfl ⟨le_t rfl, le_t rfl⟩ ⟨le_t rfl, le_t rfl⟩ rfl (le_t rfl) fun μ379 T380 F381 h382 => ?_
        obtain ⟨z383, q384, h385⟩ := h382
        have h386 := rt7 T380 (A_126 hw) (vc_X12_candidate_16 hq0 h312.2.1 h296.2.1 h296.2.2.1 ht_f_e0 h1 hp1 hp2 hp3 h296.1 h314) q384
        have h387 : (-1) ≤ z383 ∧ z383 ≤ 9 := h386.2.1 (vc_X12_candidate_17 hq0 h312.2.1 h296.2.1 h296.2.2.1 ht_f_e0 h1 hp1 hp2 hp3 h296.1 h314)
        have q388 : μ379 126 ((40 * (4 + p2)).toNat) = (-1) := q384.trans h385.2.1
        have h389 : (-1) ≤ z383 ∧ z383 ≤ (-1) := (vc_X12_candidate_4 h385.2.1 h387)
        refine mr_bipush (pc := 110) (z := 10) dX12_candidate_110 (by decide) ?_
        exact mr_iret dX12_candidate_112 rfl (le_t rfl) (le_t rfl) T380 (mF.call (mF.call (mF.call (mF.call mF.refl F300 rfl) F343 rfl) F367 rfl) F381 rfl) ⟨(rW (c := (-99999999)) (d := 10) (rR (x := 10)) rfl), (mG.call (mG.call (mG.call (mG.call mG.refl h304.1 (List.forall_mem_cons.mpr ⟨⟨_, List.mem_cons_self, (vc_X12_candidate_7 hq0 h312.2.1 h296.2.1 h296.2.2.1 ht_f_e0 h1 hp1 hp2 hp3 h296.1 h314)⟩, (fun _ h => absurd h List.not_mem_nil)⟩)) h347.1 (List.forall_mem_cons.mpr ⟨⟨_, List.mem_cons_self, (vc_X12_candidate_28 hq0 h312.2.1 h296.2.1 h296.2.2.1 ht_f_e0 h1 hp1 hp2 hp3 h296.1 h314)⟩, (fun _ h => absurd h List.not_mem_nil)⟩)) h372.2.1 (List.forall_mem_cons.mpr ⟨⟨_, List.mem_cons_self, (vc_X12_candidate_29 hq0 h312.2.1 h296.2.1 h296.2.2.1 ht_f_e0 h1 hp1 hp2 hp3 h296.1 h314)⟩, (fun _ h => absurd h List.not_mem_nil)⟩)) h385.1 (List.forall_mem_cons.mpr ⟨⟨_, List.mem_cons_self, (vc_X12_candidate_7 hq0 h312.2.1 h296.2.1 h296.2.2.1 ht_f_e0 h1 hp1 hp2 hp3 h296.1 h314)⟩, (fun _ h => absurd h List.not_mem_nil)⟩)), ((h385.2.2.1 T380 F381) z383 q384), trivial⟩
      have h390 : 1 ≤ z369 ∧ z369 ≤ 1 := (vc_X12_ring_24 h377 h372.1)
      refine mr_iconst (pc := 101) (z := 0) dX12_candidate_101 ?_
      exact mr_iret dX12_candidate_102 rfl (le_t rfl) (le_t rfl) T366 (mF.call (mF.call (mF.call mF.refl F300 rfl) F343 rfl) F367 rfl) ⟨(rW (c := (-99999999)) (d := 10) (rR (x := 0)) rfl), (mG.call (mG.call (mG.call mG.refl h304.1 (List.forall_mem_cons.mpr ⟨⟨_, List.mem_cons_self, (vc_X12_candidate_7 hq0 h312.2.1 h296.2.1 h296.2.2.1 ht_f_e0 h1 hp1 hp2 hp3 h296.1 h314)⟩, (fun _ h => absurd h List.not_mem_nil)⟩)) h347.1 (List.forall_mem_cons.mpr ⟨⟨_, List.mem_cons_self, (vc_X12_candidate_28 hq0 h312.2.1 h296.2.1 h296.2.2.1 ht_f_e0 h1 hp1 hp2 hp3 h296.1 h314)⟩, (fun _ h => absurd h List.not_mem_nil)⟩)) h372.2.1 (List.forall_mem_cons.mpr ⟨⟨_, List.mem_cons_self, (vc_X12_candidate_29 hq0 h312.2.1 h296.2.1 h296.2.2.1 ht_f_e0 h1 hp1 hp2 hp3 h296.1 h314)⟩, (fun _ h => absurd h List.not_mem_nil)⟩)), ((((h372.2.2.2.1 T366 F367) h372.1) z370 q371).2 h377), trivial⟩
    have h391 : 1 ≤ z338 ∧ z338 ≤ 1 := (vc_X12_ring_24 h339 h337.1)
    refine mr_bipush (pc := 59) (z := 9) dX12_candidate_59 (by decide) ?_
    exact mr_iret dX12_candidate_61 rfl (le_t rfl) (le_t rfl) T299 (mF.call mF.refl F300 rfl) ⟨(rW (c := (-99999999)) (d := 10) (rR (x := 9)) rfl), (mG.call mG.refl h304.1 (List.forall_mem_cons.mpr ⟨⟨_, List.mem_cons_self, (vc_X12_candidate_7 hq0 h312.2.1 h296.2.1 h296.2.2.1 ht_f_e0 h1 hp1 hp2 hp3 h296.1 h314)⟩, (fun _ h => absurd h List.not_mem_nil)⟩)), ((h337.2.1 h337.1).2 h339), trivial⟩
  have h392 : 0 ≤ z329 ∧ z329 ≤ 0 := (vc_X12_candidate_32 h330 h328.2.1 h328.2.2.1 h324 h328.1)
  have h393 : z321 < 0 := (h328.2.2.1 (vc_X12_candidate_33 h328.2.1 h328.2.2.1 h330 h324 h392))
  have h394 : (-1) ≤ z321 ∧ z321 ≤ (-1) := (vc_X12_candidate_34 h393 h328.2.1 h328.2.2.1 h324 h392)
  refine mr_ldc (pc := 46) (z := (-99999999)) dX12_candidate_46 wG_X12_29 (by decide) ?_
  exact mr_iret dX12_candidate_48 rfl (le_t rfl) (le_t rfl) T299 (mF.call mF.refl F300 rfl) ⟨(rW (c := (-99999999)) (d := 10) (rR (x := (-99999999))) rfl), (mG.call mG.refl h304.1 (List.forall_mem_cons.mpr ⟨⟨_, List.mem_cons_self, (vc_X12_candidate_7 hq0 h312.2.1 h296.2.1 h296.2.2.1 ht_f_e0 h1 hp1 hp2 hp3 h296.1 h314)⟩, (fun _ h => absurd h List.not_mem_nil)⟩)), ((h328.2.2.2.1 h328.1).2 h330), trivial⟩
def WL_X12_candidates_W_1 (w : mW) (μ : mM) (p1 : Int) (p2 : Int) (Q : mM → Prop) (rec1 : (Int × mM) → Prop) (s : (Int × mM)) : Prop := ∀ z419 : Int, ∀ μ420 : mM, s = (z419, μ420) → (0 ≤ z419 ∧ z419 ≤ 20) → mT w μ420 → mF [106026, 106027, 106028, 106029, 106030, 106031, 126999, 151999, 152999, 153999] w μ μ420 → ∀ z430 : Int, μ420 106 6 = z430 → (0 ≤ z430 ∧ z430 ≤ 20) → ((z430 ≤ z419) → Q μ420) ∧ ((z419 < z430) → ∀ z469 : Int, μ420 110 ((2 * z419).toNat) = z469 → (0 ≤ z469 ∧ z469 ≤ 9) → ∀ z472 : Int, μ420 110 (((2 * z419) + 1).toNat) = z472 → (0 ≤ z472 ∧ z472 ≤ 9) → WP_X12_isAt_W w μ420 z419 p1 (fun z479 _ => (0 ≤ z479 ∧ z479 ≤ 1) → ((z479 = 0) → WP_X12_nothing_W w μ420 (4 + z419) (fun μ503 => mT w μ503 → mF [126999] w μ420 μ503 → ∀ z507 : Int, μ503 126 ((40 * (4 + z419)).toNat) = z507 → rec1 ((z419 + 1), μ503))) ∧ ((¬ z479 = 0) → WP_X12_candidate_W w μ420 p1 z419 p2 (fun z520 μ516 => mT w μ516 → mF [106026, 106027, 106028, 106029, 106030, 106031, 126999, 151999, 152999, 153999] w μ420 μ516 → ((-99999999) ≤ z520 ∧ z520 ≤ 10) → rec1 ((z419 + 1), μ516)))))
def WP_X12_candidates_W (w : mW) (μ : mM) (p1 : Int) (p2 : Int) (Q : mM → Prop) : Prop := loopF (WL_X12_candidates_W_1 w μ p1 p2 Q) False 22 ((0 : Int), μ)
theorem vc_X12_candidates_W_2  : (160 : Int) ≤ (160 : Int) ∧ (960 : Int) ≤ (960 : Int) := by omega
theorem vc_X12_candidates_W_5 {p1 z469 z472 z479 : Int} (h0 : z479 = 0) (h1 : (z479 = 1 → z469 = p1 ∨ z472 = p1)) (h2 : (z479 = 0 → ¬ z469 = p1 ∧ ¬ z472 = p1)) (h3 : 0 ≤ p1 ∧ p1 ≤ 9) (h4 : 0 ≤ z469 ∧ z469 ≤ 9) (h5 : 0 ≤ z472 ∧ z472 ≤ 9) (h6 : 0 ≤ z479 ∧ z479 ≤ 1) : 0 ≤ z479 ∧ z479 ≤ 0 := by omega
theorem vc_X12_candidates_W_6 {p1 z469 z472 z479 : Int} (h0 : (z479 = 1 → z469 = p1 ∨ z472 = p1)) (h1 : (z479 = 0 → ¬ z469 = p1 ∧ ¬ z472 = p1)) (h2 : z479 = 0) (h3 : 0 ≤ p1 ∧ p1 ≤ 9) (h4 : 0 ≤ z469 ∧ z469 ≤ 9) (h5 : 0 ≤ z472 ∧ z472 ≤ 9) (h6 : 0 ≤ z479 ∧ z479 ≤ 0) : z479 = 0 := by omega
theorem vc_X12_candidates_W_7 {z419 z430 : Int} (h0 : z419 < z430) (h1 : 0 ≤ z419 ∧ z419 ≤ 19) (h2 : 1 ≤ z430 ∧ z430 ≤ 20) : 0 ≤ (40 * (4 + z419)) := by omega
theorem vc_X12_candidates_W_8 {z419 z430 : Int} (h0 : z419 < z430) (h1 : 0 ≤ z419 ∧ z419 ≤ 19) (h2 : 1 ≤ z430 ∧ z430 ≤ 20) : (40 * (4 + z419)) % 40 = 0 := by omega
theorem vc_X12_candidates_W_11 {z419 z430 : Int} (h0 : z419 < z430) (h1 : 0 ≤ z419 ∧ z419 ≤ 19) (h2 : 1 ≤ z430 ∧ z430 ≤ 20) : 160 ≤ (40 * (4 + z419)) ∧ ((40 * (4 + z419)) + 1) ≤ 960 := by omega
theorem vc_X12_candidates_W_12 {p1 z469 z472 z479 : Int} (h0 : ¬ z479 = 0) (h1 : (z479 = 1 → z469 = p1 ∨ z472 = p1)) (h2 : (z479 = 0 → ¬ z469 = p1 ∧ ¬ z472 = p1)) (h3 : 0 ≤ p1 ∧ p1 ≤ 9) (h4 : 0 ≤ z469 ∧ z469 ≤ 9) (h5 : 0 ≤ z472 ∧ z472 ≤ 9) (h6 : 0 ≤ z479 ∧ z479 ≤ 1) : 1 ≤ z479 ∧ z479 ≤ 1 := by omega
theorem vc_X12_candidates_W_13 {p1 z469 z472 z479 : Int} (h0 : (z479 = 1 → z469 = p1 ∨ z472 = p1)) (h1 : (z479 = 0 → ¬ z469 = p1 ∧ ¬ z472 = p1)) (h2 : ¬ z479 = 0) (h3 : 0 ≤ p1 ∧ p1 ≤ 9) (h4 : 0 ≤ z469 ∧ z469 ≤ 9) (h5 : 0 ≤ z472 ∧ z472 ≤ 9) (h6 : 1 ≤ z479 ∧ z479 ≤ 1) : z479 = 1 := by omega
theorem vc_X12_candidates_W_14 {z419 z430 : Int} (h0 : z419 < z430) (h1 : 0 ≤ z419 ∧ z419 ≤ 19) (h2 : 1 ≤ z430 ∧ z430 ≤ 20) : z419 < z430 := by omega
theorem vc_X12_candidates_W_15 {p1 z469 z472 z479 : Int} (h0 : (z479 = 1 → z469 = p1 ∨ z472 = p1)) (h1 : (z479 = 0 → ¬ z469 = p1 ∧ ¬ z472 = p1)) (h2 : z469 = p1 ∨ z472 = p1) (h3 : ¬ z479 = 0) (h4 : 0 ≤ p1 ∧ p1 ≤ 9) (h5 : 0 ≤ z469 ∧ z469 ≤ 9) (h6 : 0 ≤ z472 ∧ z472 ≤ 9) (h7 : 1 ≤ z479 ∧ z479 ≤ 1) : z469 = p1 ∨ z472 = p1 := by omega
theorem vc_X12_candidates_W_16 {z419 z430 : Int} (h0 : z419 < z430) (h1 : 0 ≤ z419 ∧ z419 ≤ 19) (h2 : 1 ≤ z430 ∧ z430 ≤ 20) : 160 ≤ ((40 * z419) + 160) ∧ ((40 * z419) + 200) ≤ 960 := by omega
set_option maxRecDepth 4000 in
set_option maxHeartbeats 4000000 in
theorem c_X12_candidates_W {l : Launch} {D : va_G} {c : Nat → ClassId} {H0 : Heap} {sa : Nat × Nat × (Nat → Int32)} {w : mW} {μ : mM} (hw : mWF w) (hT : mT w μ) {p1 : Int} (hp1 : 0 ≤ p1 ∧ p1 ≤ 9) {p2 : Int} (hp2 : 0 ≤ p2 ∧ p2 ≤ 9) (hIPK : PK μ) {Q : mM → Prop} (hQ : WP_X12_candidates_W w μ p1 p2 Q) : sC (gG l D c H0 sa) mX12_candidates 8 0 0 [.ref 106, iv p1, iv p2] (mk w μ) (qV w [106026, 106027, 106028, 106029, 106030, 106031, 126999, 151999, 152999, 153999] μ (fun μ1 => mG [(160, 960)] μ μ1 ∧ Q μ1 ∧ True)) := by
  refine sC.of rfl (by decide) (le_t rfl) ?_
  refine mr_lvE (lv' := [(0, .ref 106), (1, iv p1), (2, iv p2)]) rfl ?_
  refine mr_iconst (pc := 0) (z := 0) dX12_candidates_0 ?_
  refine mr_istore_n (pc := 1) (lv' := [(3, iv 0), (0, .ref 106), (1, iv p1), (2, iv p2)]) dX12_candidates_1 rfl (by decide) rfl ?_
  have L421 : ∀ (nL421 : Nat) (z419 : Int) (μ420 : mM), mT w μ420 → mF [106026, 106027, 106028, 106029, 106030, 106031, 126999, 151999, 152999, 153999] w μ μ420 → mG [(160, 960)] μ μ420 → (0 ≤ z419 ∧ z419 ≤ 20) → PK μ420 → (21 - z419) < (nL421 : Int) → loopF (WL_X12_candidates_W_1 w μ p1 p2 Q) False nL421 (z419, μ420) → sV (gG l D c H0 sa) mX12_candidates (sRm 8 0 0) (sZ (gG l D c H0 sa) 0 0 (qV w [106026, 106027, 106028, 106029, 106030, 106031, 126999, 151999, 152999, 153999] μ (fun μ1 => mG [(160, 960)] μ μ1 ∧ Q μ1 ∧ True))) 2 [(0, .ref 106), (1, iv p1), (2, iv p2), (3, iv z419)] [] (mk w μ420) 0 0 := by
    intro nL421
    induction nL421 with
    | zero => intro z419 μ420 T423 F424 G425 h422 I426 h427 W428; exact ((vc_X12_tieOf_1 h427 h422)).elim
    | succ nL421 ih429 =>
      intro z419 μ420 T423 F424 G425 h422 I426 h427 W428
      refine mr_iload_n (pc := 2) (z := z419) dX12_candidates_2 rfl rfl ?_
      refine sv_aload_n (pc := 3) dX12_candidates_3 rfl rfl ?_
      refine gf_X12_6 (pc := 4) dX12_candidates_4 wF_X12_37 (A_106 hw) T423 fun z430 q431 h432 => ?_
      refine mr_icmp_ge (pc := 7) (tgt := 43) dX12_candidates_7 (by decide) (r32 h422 rfl) (r32 h432 rfl) (fun h466 => ?_) (fun h466 => ?_)
      · exact mr_vret dX12_candidates_43 rfl (le_t rfl) (le_t rfl) T423 (mF.call mF.refl F424 rfl) ⟨(mG.call mG.refl G425 (List.forall_mem_cons.mpr ⟨⟨_, List.mem_cons_self, vc_X12_candidates_W_2⟩, (fun _ h => absurd h List.not_mem_nil)⟩)), (((W428 z419 μ420 rfl h422 T423 F424) z430 q431 h432).1 h466), trivial⟩
      have h467 : 0 ≤ z419 ∧ z419 ≤ 19 := (vc_X12_tieOf_3 h466 h422 h432)
      have h468 : 1 ≤ z430 ∧ z430 ≤ 20 := (vc_X12_tieOf_4 h466 h467 h432)
      refine sv_aload_n (pc := 10) dX12_candidates_10 rfl rfl ?_
      refine mr_iload_n (pc := 11) (z := z419) dX12_candidates_11 rfl rfl ?_
      refine mr_iload_n (pc := 12) (z := p1) dX12_candidates_12 rfl rfl ?_
      obtain ⟨z469, q470⟩ : ∃ z, μ420 110 ((2 * z419).toNat) = z := ⟨_, rfl⟩
      have h471 : (0 ≤ z469 ∧ z469 ≤ 9) := by rw [← q470]; exact T423 110 110 (A_110 hw) ((2 * z419).toNat)
      obtain ⟨z472, q473⟩ : ∃ z, μ420 110 (((2 * z419) + 1).toNat) = z := ⟨_, rfl⟩
      have h474 : (0 ≤ z472 ∧ z472 ≤ 9) := by rw [← q473]; exact T423 110 110 (A_110 hw) (((2 * z419) + 1).toNat)
      refine mr_cVP (pc := 13) (c_X12_isAt_W hw T423 h467 (rW (c := (-2147483648)) (d := 2147483647) hp1 rfl) q470 q473 (((((W428 z419 μ420 rfl h422 T423 F424) z430 q431 h432).2 h466) z469 q470 h471) z472 q473 h474)) (gOk _ _ _ _ _) dX12_candidates_13 (tX12_isAt _ _ _ _ _) ⟨wV_X12_isAt, wL_X12_isAt⟩ wM_X12_562 (gCX12 _ _ _ _ _) rfl (A_106 hw) rfl ⟨le_t rfl, le_t rfl⟩ ⟨le_t rfl, le_t rfl⟩ rfl (le_t rfl) fun z479 h478 => ?_
      refine mr_if_eq (pc := 16) (tgt := 30) dX12_candidates_16 (by decide) (r32 h478.1 rfl) (fun h500 => ?_) (fun h500 => ?_)
      · have h501 : 0 ≤ z479 ∧ z479 ≤ 0 := (vc_X12_candidates_W_5 h500 h478.2.1 h478.2.2.1 hp1 h471 h474 h478.1)
        have h502 : ¬ z469 = p1 ∧ ¬ z472 = p1 := (h478.2.2.1 (vc_X12_candidates_W_6 h478.2.1 h478.2.2.1 h500 hp1 h471 h474 h501))
        refine sv_aload_n (pc := 30) dX12_candidates_30 rfl rfl ?_
        refine mr_iconst (pc := 31) (z := 4) dX12_candidates_31 ?_
        refine mr_iload_n (pc := 32) (z := z419) dX12_candidates_32 rfl rfl ?_
        refine mr_iadd (pc := 33) (x := 4) (y := z419) dX12_candidates_33 ?_
        refine mr_cVV (pc := 34) (c_X12_nothing_W hw T423 (rW (c := 0) (d := 2099) (rAdd (e := 4) (f := 23) (rR (x := 4)) h467 rfl) rfl) ((h478.2.2.2.1 h478.1).1 h500)) (gOk _ _ _ _ _) dX12_candidates_34 (tX12_nothing _ _ _ _ _) ⟨wV_X12_nothing, wL_X12_nothing⟩ wM_X12_539 (gCX12 _ _ _ _ _) rfl (A_106 hw) rfl ⟨le_t rfl, le_t rfl⟩ ⟨le_t rfl, le_t rfl⟩ rfl (le_t rfl) fun μ503 T504 F505 h506 => ?_
        obtain ⟨z507, q508, h509⟩ := h506
        have h510 := rt7 T504 (A_126 hw) (vc_X12_candidates_W_7 h466 h467 h468) q508
        have h511 : (-1) ≤ z507 ∧ z507 ≤ 9 := h510.2.1 (vc_X12_candidates_W_8 h466 h467 h468)
        have q512 : μ503 126 ((40 * (4 + z419)).toNat) = (-1) := q508.trans h509.2.1
        have h513 : (-1) ≤ z507 ∧ z507 ≤ (-1) := (vc_X12_candidate_4 h509.2.1 h511)
        refine mr_iinc (pc := 37) (lv' := [(3, iv (z419 + 1)), (0, .ref 106), (1, iv p1), (2, iv p2)]) dX12_candidates_37 rfl (by decide) rfl ?_
        refine sv_goto (pc := 40) (tgt := 2) dX12_candidates_40 (by decide) ?_
        refine mr_lvS (lv' := [(0, .ref 106), (1, iv p1), (2, iv p2), (3, iv (z419 + 1))]) (List.forall_mem_cons.mpr ⟨rfl, List.forall_mem_cons.mpr ⟨rfl, List.forall_mem_cons.mpr ⟨rfl, List.forall_mem_cons.mpr ⟨rfl, fun _ h => absurd h List.not_mem_nil⟩⟩⟩⟩) ?_
        exact ih429 (z419 + 1) μ503 T504 (mF.call (mF.call mF.refl F424 rfl) F505 rfl) (mG.call (mG.call mG.refl G425 (List.forall_mem_cons.mpr ⟨⟨_, List.mem_cons_self, vc_X12_candidates_W_2⟩, (fun _ h => absurd h List.not_mem_nil)⟩)) h509.1 (List.forall_mem_cons.mpr ⟨⟨_, List.mem_cons_self, (vc_X12_candidates_W_11 h466 h467 h468)⟩, (fun _ h => absurd h List.not_mem_nil)⟩)) (rW (c := 0) (d := 20) (rAdd (e := 1) (f := 20) h467 (rR (x := 1)) rfl) rfl) (PK.keep I426 hw ((mF.call mF.refl F505 rfl) : mF [126999] w μ420 μ503) rfl) (vc_X12_tieOf_5 (nS h427) h466 h467 h468) ((h509.2.2.1 T504 F505) z507 q508)
      have h514 : 1 ≤ z479 ∧ z479 ≤ 1 := (vc_X12_candidates_W_12 h500 h478.2.1 h478.2.2.1 hp1 h471 h474 h478.1)
      have h515 : z469 = p1 ∨ z472 = p1 := (h478.2.1 (vc_X12_candidates_W_13 h478.2.1 h478.2.2.1 h500 hp1 h471 h474 h514))
      refine sv_aload_n (pc := 19) dX12_candidates_19 rfl rfl ?_
      refine mr_iload_n (pc := 20) (z := p1) dX12_candidates_20 rfl rfl ?_
      refine mr_iload_n (pc := 21) (z := z419) dX12_candidates_21 rfl rfl ?_
      refine mr_iload_n (pc := 22) (z := p2) dX12_candidates_22 rfl rfl ?_
      refine mr_cVI (pc := 23) (c_X12_candidate_W hw T423 hp1 h467 hp2 q470 q473 q431 (vc_X12_candidates_W_14 h466 h467 h468) (vc_X12_candidates_W_15 h478.2.1 h478.2.2.1 h515 h500 hp1 h471 h474 h514) I426 ((h478.2.2.2.1 h478.1).2 h500)) (gOk _ _ _ _ _) dX12_candidates_23 (tX12_candidate _ _ _ _ _) ⟨wV_X12_candidate, wL_X12_candidate⟩ wM_X12_565 (gCX12 _ _ _ _ _) rfl (A_106 hw) rfl ⟨le_t rfl, le_t rfl⟩ ⟨le_t rfl, le_t rfl⟩ rfl (le_t rfl) fun z520 μ516 T517 F518 h519 => ?_
      refine sv_pop (pc := 26) dX12_candidates_26 rfl ?_
      refine sv_goto (pc := 27) (tgt := 37) dX12_candidates_27 (by decide) ?_
      refine mr_iinc (pc := 37) (lv' := [(3, iv (z419 + 1)), (0, .ref 106), (1, iv p1), (2, iv p2)]) dX12_candidates_37 rfl (by decide) rfl ?_
      refine sv_goto (pc := 40) (tgt := 2) dX12_candidates_40 (by decide) ?_
      refine mr_lvS (lv' := [(0, .ref 106), (1, iv p1), (2, iv p2), (3, iv (z419 + 1))]) (List.forall_mem_cons.mpr ⟨rfl, List.forall_mem_cons.mpr ⟨rfl, List.forall_mem_cons.mpr ⟨rfl, List.forall_mem_cons.mpr ⟨rfl, fun _ h => absurd h List.not_mem_nil⟩⟩⟩⟩) ?_
      exact ih429 (z419 + 1) μ516 T517 (mF.call (mF.call mF.refl F424 rfl) F518 rfl) (mG.call (mG.call mG.refl G425 (List.forall_mem_cons.mpr ⟨⟨_, List.mem_cons_self, vc_X12_candidates_W_2⟩, (fun _ h => absurd h List.not_mem_nil)⟩)) h519.2.1 (List.forall_mem_cons.mpr ⟨⟨_, List.mem_cons_self, (vc_X12_candidates_W_16 h466 h467 h468)⟩, (fun _ h => absurd h List.not_mem_nil)⟩)) (rW (c := 0) (d := 20) (rAdd (e := 1) (f := 20) h467 (rR (x := 1)) rfl) rfl) (PK.keep I426 hw ((mF.call mF.refl F518 rfl) : mF [106026, 106027, 106028, 106029, 106030, 106031, 126999, 151999, 152999, 153999] w μ420 μ516) rfl) (vc_X12_tieOf_5 (nS h427) h466 h467 h468) ((h519.2.2.1 T517 F518) h519.1)
  refine mr_lvS (lv' := [(0, .ref 106), (1, iv p1), (2, iv p2), (3, iv 0)]) (List.forall_mem_cons.mpr ⟨rfl, List.forall_mem_cons.mpr ⟨rfl, List.forall_mem_cons.mpr ⟨rfl, List.forall_mem_cons.mpr ⟨rfl, fun _ h => absurd h List.not_mem_nil⟩⟩⟩⟩) ?_
  exact L421 22 0 μ hT mF.refl mG.refl (rW (c := 0) (d := 20) (rR (x := 0)) rfl) hIPK vc_X12_tieOf_12 hQ
def WJ_X12_unlike_W_7 (μ : mM) (Q : Int → mM → Prop) (rec1 : (Int) → Prop) (z957 : Int) (z969 : Int) (z1092 : Int) : Prop := ((-2147483648) ≤ z1092 ∧ z1092 ≤ 2147483647) → ((z1092 = 0) → rec1 ((z957 + 1))) ∧ ((¬ z1092 = 0) → ((0 ≤ z1092) → Q (0 - z969) μ) ∧ ((z1092 < 0) → Q z969 μ))
def WJ_X12_unlike_W_6 (w : mW) (μ : mM) (p1 : Int) (p3 : Int) (p5 : Int) (p6 : Int) (Q : Int → mM → Prop) (rec1 : (Int) → Prop) (z957 : Int) (z969 : Int) (z1053 : Int) : Prop := ((-2147483648) ≤ z1053 ∧ z1053 ≤ 2147483647) → ((¬ z969 = 5) → (WJ_X12_unlike_W_7 μ Q rec1 z957 z969) z1053) ∧ ((z969 = 5) → ∀ z1105 : Int, μ 110 ((2 * p3).toNat) = z1105 → (0 ≤ z1105 ∧ z1105 ≤ 9) → WP_X12_sideOf_W w μ p3 p1 (fun z1112 _ => (0 ≤ z1112 ∧ z1112 ≤ 1) → WP_X12_slot_W w μ p3 z1112 p6 (fun z1117 _ => (0 ≤ z1117 ∧ z1117 ≤ 449) → ∀ z1119 : Int, μ 154 (z1117.toNat) = z1119 → (0 ≤ z1119 ∧ z1119 ≤ 2000000000) → ∀ z1122 : Int, μ 110 ((2 * p5).toNat) = z1122 → (0 ≤ z1122 ∧ z1122 ≤ 9) → WP_X12_sideOf_W w μ p5 p1 (fun z1129 _ => (0 ≤ z1129 ∧ z1129 ≤ 1) → WP_X12_slot_W w μ p5 z1129 p6 (fun z1134 _ => (0 ≤ z1134 ∧ z1134 ≤ 449) → ∀ z1136 : Int, μ 154 (z1134.toNat) = z1136 → (0 ≤ z1136 ∧ z1136 ≤ 2000000000) → (WJ_X12_unlike_W_7 μ Q rec1 z957 z969) (z1119 - z1136))))))
def WJ_X12_unlike_W_5 (w : mW) (μ : mM) (p1 : Int) (p2 : Int) (p3 : Int) (p4 : Int) (p5 : Int) (p6 : Int) (Q : Int → mM → Prop) (rec1 : (Int) → Prop) (z957 : Int) (z969 : Int) (z990 : Int) (z1027 : Int) : Prop := ((-2147483648) ≤ z1027 ∧ z1027 ≤ 2147483647) → ((¬ z969 = 4) → ((¬ z969 = 6) → (WJ_X12_unlike_W_6 w μ p1 p3 p5 p6 Q rec1 z957 z969) z1027) ∧ ((z969 = 6) → ∀ z1142 : Int, μ 126 (((40 * p2) + 3).toNat) = z1142 → ((-2147483648 ≤ z1142 ∧ z1142 ≤ 2147483647) ∧ (((40 * p2) + 3) % 40 = 0 → -1 ≤ z1142 ∧ z1142 ≤ 9) ∧ (((40 * p2) + 3) % 40 = 4 → 0 ≤ z1142 ∧ z1142 ≤ 20) ∧ (((40 * p2) + 3) % 40 = 5 → 0 ≤ z1142 ∧ z1142 ≤ 8)) → ∀ z1145 : Int, μ 126 (((40 * p4) + 3).toNat) = z1145 → ((-2147483648 ≤ z1145 ∧ z1145 ≤ 2147483647) ∧ (((40 * p4) + 3) % 40 = 0 → -1 ≤ z1145 ∧ z1145 ≤ 9) ∧ (((40 * p4) + 3) % 40 = 4 → 0 ≤ z1145 ∧ z1145 ≤ 20) ∧ (((40 * p4) + 3) % 40 = 5 → 0 ≤ z1145 ∧ z1145 ≤ 8)) → ∀ z1148 : Int, (-2147483648 ≤ z1148 ∧ z1148 ≤ 2147483647) → (z1148 - (z1142 - z1145)) % 4294967296 = 0 → (WJ_X12_unlike_W_6 w μ p1 p3 p5 p6 Q rec1 z957 z969) z1148)) ∧ ((z969 = 4) → ((¬ z990 = 0) → ∀ z1154 : Int, μ 126 (((40 * p2) + 3).toNat) = z1154 → ((-2147483648 ≤ z1154 ∧ z1154 ≤ 2147483647) ∧ (((40 * p2) + 3) % 40 = 0 → -1 ≤ z1154 ∧ z1154 ≤ 9) ∧ (((40 * p2) + 3) % 40 = 4 → 0 ≤ z1154 ∧ z1154 ≤ 20) ∧ (((40 * p2) + 3) % 40 = 5 → 0 ≤ z1154 ∧ z1154 ≤ 8)) → ∀ z1157 : Int, μ 126 (((40 * p4) + 3).toNat) = z1157 → ((-2147483648 ≤ z1157 ∧ z1157 ≤ 2147483647) ∧ (((40 * p4) + 3) % 40 = 0 → -1 ≤ z1157 ∧ z1157 ≤ 9) ∧ (((40 * p4) + 3) % 40 = 4 → 0 ≤ z1157 ∧ z1157 ≤ 20) ∧ (((40 * p4) + 3) % 40 = 5 → 0 ≤ z1157 ∧ z1157 ≤ 8)) → ∀ z1160 : Int, (-2147483648 ≤ z1160 ∧ z1160 ≤ 2147483647) → (z1160 - (z1154 - z1157)) % 4294967296 = 0 → (WJ_X12_unlike_W_6 w μ p1 p3 p5 p6 Q rec1 z957 z969) z1160) ∧ ((z990 = 0) → (WJ_X12_unlike_W_6 w μ p1 p3 p5 p6 Q rec1 z957 z969) z1027))
def WJ_X12_unlike_W_4 (w : mW) (μ : mM) (p1 : Int) (p2 : Int) (p3 : Int) (p4 : Int) (p5 : Int) (p6 : Int) (Q : Int → mM → Prop) (rec1 : (Int) → Prop) (z957 : Int) (z969 : Int) (z990 : Int) (z1013 : Int) : Prop := ((-2147483648) ≤ z1013 ∧ z1013 ≤ 2147483647) → ((¬ z969 = 3) → (WJ_X12_unlike_W_5 w μ p1 p2 p3 p4 p5 p6 Q rec1 z957 z969 z990) z1013) ∧ ((z969 = 3) → ∀ z1166 : Int, μ 126 (((40 * p2) + 2).toNat) = z1166 → ((-2147483648 ≤ z1166 ∧ z1166 ≤ 2147483647) ∧ (((40 * p2) + 2) % 40 = 0 → -1 ≤ z1166 ∧ z1166 ≤ 9) ∧ (((40 * p2) + 2) % 40 = 4 → 0 ≤ z1166 ∧ z1166 ≤ 20) ∧ (((40 * p2) + 2) % 40 = 5 → 0 ≤ z1166 ∧ z1166 ≤ 8)) → ∀ z1169 : Int, μ 126 (((40 * p4) + 2).toNat) = z1169 → ((-2147483648 ≤ z1169 ∧ z1169 ≤ 2147483647) ∧ (((40 * p4) + 2) % 40 = 0 → -1 ≤ z1169 ∧ z1169 ≤ 9) ∧ (((40 * p4) + 2) % 40 = 4 → 0 ≤ z1169 ∧ z1169 ≤ 20) ∧ (((40 * p4) + 2) % 40 = 5 → 0 ≤ z1169 ∧ z1169 ≤ 8)) → ∀ z1172 : Int, (-2147483648 ≤ z1172 ∧ z1172 ≤ 2147483647) → (z1172 - (z1166 - z1169)) % 4294967296 = 0 → (WJ_X12_unlike_W_5 w μ p1 p2 p3 p4 p5 p6 Q rec1 z957 z969 z990) z1172)
def WJ_X12_unlike_W_3 (w : mW) (μ : mM) (p1 : Int) (p2 : Int) (p3 : Int) (p4 : Int) (p5 : Int) (p6 : Int) (Q : Int → mM → Prop) (rec1 : (Int) → Prop) (z957 : Int) (z969 : Int) (z972 : Int) (z990 : Int) (z1004 : Int) : Prop := ((-2147483648) ≤ z1004 ∧ z1004 ≤ 2147483647) → ((¬ z969 = 2) → (WJ_X12_unlike_W_4 w μ p1 p2 p3 p4 p5 p6 Q rec1 z957 z969 z990) z1004) ∧ ((z969 = 2) → ∀ z1177 : Int, μ 126 (((40 * p4) + 4).toNat) = z1177 → ((-2147483648 ≤ z1177 ∧ z1177 ≤ 2147483647) ∧ (((40 * p4) + 4) % 40 = 0 → -1 ≤ z1177 ∧ z1177 ≤ 9) ∧ (((40 * p4) + 4) % 40 = 4 → 0 ≤ z1177 ∧ z1177 ≤ 20) ∧ (((40 * p4) + 4) % 40 = 5 → 0 ≤ z1177 ∧ z1177 ≤ 8)) → (WJ_X12_unlike_W_4 w μ p1 p2 p3 p4 p5 p6 Q rec1 z957 z969 z990) (z972 - z1177))
def WJ_X12_unlike_W_2 (w : mW) (μ : mM) (p1 : Int) (p2 : Int) (p3 : Int) (p4 : Int) (p5 : Int) (p6 : Int) (Q : Int → mM → Prop) (rec1 : (Int) → Prop) (z957 : Int) (z969 : Int) (z972 : Int) (z990 : Int) : Prop := (0 ≤ z990 ∧ z990 ≤ 1) → ((¬ z969 = 1) → (WJ_X12_unlike_W_3 w μ p1 p2 p3 p4 p5 p6 Q rec1 z957 z969 z972 z990) (0 : Int)) ∧ ((z969 = 1) → ∀ z1183 : Int, μ 126 (((40 * p4) + 1).toNat) = z1183 → ((-2147483648 ≤ z1183 ∧ z1183 ≤ 2147483647) ∧ (((40 * p4) + 1) % 40 = 0 → -1 ≤ z1183 ∧ z1183 ≤ 9) ∧ (((40 * p4) + 1) % 40 = 4 → 0 ≤ z1183 ∧ z1183 ≤ 20) ∧ (((40 * p4) + 1) % 40 = 5 → 0 ≤ z1183 ∧ z1183 ≤ 8)) → ∀ z1186 : Int, μ 126 (((40 * p2) + 1).toNat) = z1186 → ((-2147483648 ≤ z1186 ∧ z1186 ≤ 2147483647) ∧ (((40 * p2) + 1) % 40 = 0 → -1 ≤ z1186 ∧ z1186 ≤ 9) ∧ (((40 * p2) + 1) % 40 = 4 → 0 ≤ z1186 ∧ z1186 ≤ 20) ∧ (((40 * p2) + 1) % 40 = 5 → 0 ≤ z1186 ∧ z1186 ≤ 8)) → ∀ z1189 : Int, (-2147483648 ≤ z1189 ∧ z1189 ≤ 2147483647) → (z1189 - (z1183 - z1186)) % 4294967296 = 0 → (WJ_X12_unlike_W_3 w μ p1 p2 p3 p4 p5 p6 Q rec1 z957 z969 z972 z990) z1189)
def WL_X12_unlike_W_1 (w : mW) (μ : mM) (p1 : Int) (p2 : Int) (p3 : Int) (p4 : Int) (p5 : Int) (p6 : Int) (Q : Int → mM → Prop) (rec1 : (Int) → Prop) (s : (Int)) : Prop := ∀ z957 : Int, s = (z957) → (0 ≤ z957 ∧ z957 ≤ 6) → ((6 ≤ z957) → Q (0 : Int) μ) ∧ ((z957 < 6) → ∀ z969 : Int, μ 163 (((6 * p1) + z957).toNat) = z969 → (0 ≤ z969 ∧ z969 ≤ 9) → ∀ z972 : Int, μ 126 (((40 * p2) + 4).toNat) = z972 → ((-2147483648 ≤ z972 ∧ z972 ≤ 2147483647) ∧ (((40 * p2) + 4) % 40 = 0 → -1 ≤ z972 ∧ z972 ≤ 9) ∧ (((40 * p2) + 4) % 40 = 4 → 0 ≤ z972 ∧ z972 ≤ 20) ∧ (((40 * p2) + 4) % 40 = 5 → 0 ≤ z972 ∧ z972 ≤ 8)) → ((z972 ≤ 0) → (WJ_X12_unlike_W_2 w μ p1 p2 p3 p4 p5 p6 Q rec1 z957 z969 z972) (0 : Int)) ∧ ((0 < z972) → ∀ z1195 : Int, μ 126 (((40 * p4) + 4).toNat) = z1195 → ((-2147483648 ≤ z1195 ∧ z1195 ≤ 2147483647) ∧ (((40 * p4) + 4) % 40 = 0 → -1 ≤ z1195 ∧ z1195 ≤ 9) ∧ (((40 * p4) + 4) % 40 = 4 → 0 ≤ z1195 ∧ z1195 ≤ 20) ∧ (((40 * p4) + 4) % 40 = 5 → 0 ≤ z1195 ∧ z1195 ≤ 8)) → ((z1195 ≤ 0) → (WJ_X12_unlike_W_2 w μ p1 p2 p3 p4 p5 p6 Q rec1 z957 z969 z972) (0 : Int)) ∧ ((0 < z1195) → ∀ z1202 : Int, μ 126 (((40 * p2) + 6).toNat) = z1202 → ((-2147483648 ≤ z1202 ∧ z1202 ≤ 2147483647) ∧ (((40 * p2) + 6) % 40 = 0 → -1 ≤ z1202 ∧ z1202 ≤ 9) ∧ (((40 * p2) + 6) % 40 = 4 → 0 ≤ z1202 ∧ z1202 ≤ 20) ∧ (((40 * p2) + 6) % 40 = 5 → 0 ≤ z1202 ∧ z1202 ≤ 8)) → ∀ z1205 : Int, μ 126 (((40 * p4) + 6).toNat) = z1205 → ((-2147483648 ≤ z1205 ∧ z1205 ≤ 2147483647) ∧ (((40 * p4) + 6) % 40 = 0 → -1 ≤ z1205 ∧ z1205 ≤ 9) ∧ (((40 * p4) + 6) % 40 = 4 → 0 ≤ z1205 ∧ z1205 ≤ 20) ∧ (((40 * p4) + 6) % 40 = 5 → 0 ≤ z1205 ∧ z1205 ≤ 8)) → ((¬ z1202 = z1205) → (WJ_X12_unlike_W_2 w μ p1 p2 p3 p4 p5 p6 Q rec1 z957 z969 z972) (0 : Int)) ∧ ((z1202 = z1205) → (WJ_X12_unlike_W_2 w μ p1 p2 p3 p4 p5 p6 Q rec1 z957 z969 z972) (1 : Int)))))
def WP_X12_unlike_W (w : mW) (μ : mM) (p1 : Int) (p2 : Int) (p3 : Int) (p4 : Int) (p5 : Int) (p6 : Int) (Q : Int → mM → Prop) : Prop := loopF (WL_X12_unlike_W_1 w μ p1 p2 p3 p4 p5 p6 Q) False 8 ((0 : Int))
theorem vc_X12_unlike_W_9 {z969 : Int} (h0 : z969 = 5) (h1 : 0 ≤ z969 ∧ z969 ≤ 9) : 5 ≤ z969 ∧ z969 ≤ 5 := by omega
theorem vc_X12_unlike_W_10 {p1 p3 p6 z1105 z1112 z1117 : Int} (h0 : z1117 = (((20 * p3) + (10 * z1112)) + p6)) (h1 : (z1112 = 0 → z1105 = p1)) (h2 : (z1112 = 1 → ¬ z1105 = p1)) (h3 : 0 ≤ p1 ∧ p1 ≤ 9) (h4 : 0 ≤ p3 ∧ p3 ≤ 19) (h5 : 0 ≤ p6 ∧ p6 ≤ 9) (h6 : 0 ≤ z1105 ∧ z1105 ≤ 9) (h7 : 0 ≤ z1112 ∧ z1112 ≤ 1) (h8 : 0 ≤ z1117 ∧ z1117 ≤ 449) : 0 ≤ z1117 ∧ z1117 ≤ 399 := by omega
theorem vc_X12_unlike_W_11 {p1 p3 p5 p6 z1112 z1117 z1122 z1129 z1134 : Int} (h0 : z1134 = (((20 * p5) + (10 * z1129)) + p6)) (h1 : z1117 = (((20 * p3) + (10 * z1112)) + p6)) (h2 : (z1129 = 0 → z1122 = p1)) (h3 : (z1129 = 1 → ¬ z1122 = p1)) (h4 : 0 ≤ p1 ∧ p1 ≤ 9) (h5 : 0 ≤ p3 ∧ p3 ≤ 19) (h6 : 0 ≤ p5 ∧ p5 ≤ 19) (h7 : 0 ≤ p6 ∧ p6 ≤ 9) (h8 : 0 ≤ z1112 ∧ z1112 ≤ 1) (h9 : 0 ≤ z1117 ∧ z1117 ≤ 399) (h10 : 0 ≤ z1122 ∧ z1122 ≤ 9) (h11 : 0 ≤ z1129 ∧ z1129 ≤ 1) (h12 : 0 ≤ z1134 ∧ z1134 ≤ 449) : 0 ≤ z1134 ∧ z1134 ≤ 399 := by omega
theorem vc_X12_unlike_W_12 {z969 : Int} (h0 : z969 = 6) (h1 : ¬ z969 = 4) (h2 : 0 ≤ z969 ∧ z969 ≤ 9) : 6 ≤ z969 ∧ z969 ≤ 6 := by omega
theorem vc_X12_unlike_W_13 {z969 : Int} (h0 : z969 = 4) (h1 : 0 ≤ z969 ∧ z969 ≤ 9) : 4 ≤ z969 ∧ z969 ≤ 4 := by omega
theorem vc_X12_unlike_W_16 {z969 : Int} (h0 : z969 = 6) (h1 : 4 ≤ z969 ∧ z969 ≤ 4) : False := by omega
theorem vc_X12_unlike_W_17 {z969 : Int} (h0 : z969 = 3) (h1 : 0 ≤ z969 ∧ z969 ≤ 9) : 3 ≤ z969 ∧ z969 ≤ 3 := by omega
theorem vc_X12_unlike_W_18 {z969 : Int} (h0 : z969 = 2) (h1 : 0 ≤ z969 ∧ z969 ≤ 9) : 2 ≤ z969 ∧ z969 ≤ 2 := by omega
theorem vc_X12_unlike_W_20 {z969 : Int} (h0 : z969 = 1) (h1 : 0 ≤ z969 ∧ z969 ≤ 9) : 1 ≤ z969 ∧ z969 ≤ 1 := by omega
set_option maxRecDepth 4000 in
set_option maxHeartbeats 4000000 in
theorem c_X12_unlike_W {l : Launch} {D : va_G} {c : Nat → ClassId} {H0 : Heap} {sa : Nat × Nat × (Nat → Int32)} {w : mW} {μ : mM} (hw : mWF w) (hT : mT w μ) {p1 : Int} (hp1 : 0 ≤ p1 ∧ p1 ≤ 9) {p2 : Int} (hp2 : 0 ≤ p2 ∧ p2 ≤ 2099) {p3 : Int} (hp3 : 0 ≤ p3 ∧ p3 ≤ 19) {p4 : Int} (hp4 : 0 ≤ p4 ∧ p4 ≤ 2099) {p5 : Int} (hp5 : 0 ≤ p5 ∧ p5 ≤ 19) {p6 : Int} (hp6 : 0 ≤ p6 ∧ p6 ≤ 9) {Q : Int → mM → Prop} (hQ : WP_X12_unlike_W w μ p1 p2 p3 p4 p5 p6 Q) : sC (gG l D c H0 sa) mX12_unlike 2 0 0 [.ref 106, iv p1, iv p2, iv p3, iv p4, iv p5, iv p6] (mk w μ) (qP w μ (fun z => ((-9) ≤ z ∧ z ≤ 9) ∧ Q z μ ∧ True)) := by
  refine sC.of rfl (by decide) (le_t rfl) ?_
  refine mr_lvE (lv' := [(0, .ref 106), (1, iv p1), (2, iv p2), (3, iv p3), (4, iv p4), (5, iv p5), (6, iv p6)]) rfl ?_
  refine mr_iconst (pc := 0) (z := 0) dX12_unlike_0 ?_
  refine mr_istore (pc := 1) (lv' := [(7, iv 0), (0, .ref 106), (1, iv p1), (2, iv p2), (3, iv p3), (4, iv p4), (5, iv p5), (6, iv p6)]) dX12_unlike_1 (by decide) rfl ?_
  have L958 : ∀ (nL958 : Nat) (z957 : Int), True → (0 ≤ z957 ∧ z957 ≤ 6) → (7 - z957) < (nL958 : Int) → loopF (WL_X12_unlike_W_1 w μ p1 p2 p3 p4 p5 p6 Q) False nL958 (z957) → sV (gG l D c H0 sa) mX12_unlike (sRm 2 0 0) (sZ (gG l D c H0 sa) 0 0 (qP w μ (fun z => ((-9) ≤ z ∧ z ≤ 9) ∧ Q z μ ∧ True))) 3 [(0, .ref 106), (1, iv p1), (2, iv p2), (3, iv p3), (4, iv p4), (5, iv p5), (6, iv p6), (7, iv z957)] [] (mk w μ) 0 0 := by
    intro nL958
    induction nL958 with
    | zero => intro z957 _ h959 h963 W964; exact ((vc_X12_wish_49 h963 h959)).elim
    | succ nL958 ih965 =>
      intro z957 _ h959 h963 W964
      refine mr_iload (pc := 3) (z := z957) dX12_unlike_3 rfl ?_
      refine mr_bipush (pc := 5) (z := 6) dX12_unlike_5 (by decide) ?_
      refine mr_icmp_ge (pc := 7) (tgt := 284) dX12_unlike_7 (by decide) (r32 h959 rfl) (r32 (rR (x := 6)) rfl) (fun h966 => ?_) (fun h966 => ?_)
      · have h967 : 6 ≤ z957 ∧ z957 ≤ 6 := (vc_X12_same_W_15 h966 h959)
        refine mr_iconst (pc := 284) (z := 0) dX12_unlike_284 ?_
        exact mr_iretP dX12_unlike_285 rfl (le_t rfl) (le_t rfl) ⟨(rW (c := (-9)) (d := 9) (rR (x := 0)) rfl), ((W964 z957 rfl h959).1 h966), trivial⟩
      have h968 : 0 ≤ z957 ∧ z957 ≤ 5 := (vc_X12_same_W_40 h966 h959)
      refine sv_aload_n (pc := 10) dX12_unlike_10 rfl rfl ?_
      refine gf_X12_83 (pc := 11) dX12_unlike_11 wF_X12_451 (A_106 hw) hT ?_
      refine mr_bipush (pc := 14) (z := 6) dX12_unlike_14 (by decide) ?_
      refine mr_iload_n (pc := 16) (z := p1) dX12_unlike_16 rfl rfl ?_
      refine mr_imul (pc := 17) (x := 6) (y := p1) dX12_unlike_17 ?_
      refine mr_iload (pc := 18) (z := z957) dX12_unlike_18 rfl ?_
      refine mr_iadd (pc := 20) (x := (6 * p1)) (y := z957) dX12_unlike_20 ?_
      refine la_163 (pc := 21) dX12_unlike_21 (A_163 hw) hT (rIx (n := 60) (rAdd (e := 0) (f := 59) (rMulL (n := 6) (e := 0) (f := 54) hp1 rfl) h968 rfl) rfl) fun z969 q970 h971 => ?_
      refine mr_istore (pc := 22) (lv' := [(8, iv z969), (0, .ref 106), (1, iv p1), (2, iv p2), (3, iv p3), (4, iv p4), (5, iv p5), (6, iv p6), (7, iv z957)]) dX12_unlike_22 (by decide) rfl ?_
      refine mr_iconst (pc := 24) (z := 0) dX12_unlike_24 ?_
      refine mr_istore (pc := 25) (lv' := [(9, iv 0), (8, iv z969), (0, .ref 106), (1, iv p1), (2, iv p2), (3, iv p3), (4, iv p4), (5, iv p5), (6, iv p6), (7, iv z957)]) dX12_unlike_25 (by decide) rfl ?_
      refine mr_bipush (pc := 27) (z := 40) dX12_unlike_27 (by decide) ?_
      refine mr_iload_n (pc := 29) (z := p2) dX12_unlike_29 rfl rfl ?_
      refine mr_imul (pc := 30) (x := 40) (y := p2) dX12_unlike_30 ?_
      refine mr_istore (pc := 31) (lv' := [(10, iv (40 * p2)), (9, iv 0), (8, iv z969), (0, .ref 106), (1, iv p1), (2, iv p2), (3, iv p3), (4, iv p4), (5, iv p5), (6, iv p6), (7, iv z957)]) dX12_unlike_31 (by decide) rfl ?_
      refine mr_bipush (pc := 33) (z := 40) dX12_unlike_33 (by decide) ?_
      refine mr_iload (pc := 35) (z := p4) dX12_unlike_35 rfl ?_
      refine mr_imul (pc := 37) (x := 40) (y := p4) dX12_unlike_37 ?_
      refine mr_istore (pc := 38) (lv' := [(11, iv (40 * p4)), (10, iv (40 * p2)), (9, iv 0), (8, iv z969), (0, .ref 106), (1, iv p1), (2, iv p2), (3, iv p3), (4, iv p4), (5, iv p5), (6, iv p6), (7, iv z957)]) dX12_unlike_38 (by decide) rfl ?_
      refine sv_aload_n (pc := 40) dX12_unlike_40 rfl rfl ?_
      refine gf_X12_32 (pc := 41) dX12_unlike_41 wF_X12_148 (A_106 hw) hT ?_
      refine mr_iload (pc := 44) (z := (40 * p2)) dX12_unlike_44 rfl ?_
      refine mr_iconst (pc := 46) (z := 4) dX12_unlike_46 ?_
      refine mr_iadd (pc := 47) (x := (40 * p2)) (y := 4) dX12_unlike_47 ?_
      refine la_126 (pc := 48) dX12_unlike_48 (A_126 hw) hT (rIx (n := 84000) (rAdd (e := 4) (f := 83964) (rMulL (n := 40) (e := 0) (f := 83960) hp2 rfl) (rR (x := 4)) rfl) rfl) fun z972 q973 h974 => ?_
      have h975 : 0 ≤ z972 ∧ z972 ≤ 20 := h974.2.2.1 (vc_X12_front_1 hp2)
      have J992 : ∀ (z990 : Int), ((0 ≤ z990 ∧ z990 ≤ 1)) → ((WJ_X12_unlike_W_2 w μ p1 p2 p3 p4 p5 p6 Q (loopF (WL_X12_unlike_W_1 w μ p1 p2 p3 p4 p5 p6 Q) False nL958) z957 z969 z972) z990) → sV (gG l D c H0 sa) mX12_unlike (sRm 2 0 0) (sZ (gG l D c H0 sa) 0 0 (qP w μ (fun z => ((-9) ≤ z ∧ z ≤ 9) ∧ Q z μ ∧ True))) 92 [(0, .ref 106), (1, iv p1), (2, iv p2), (3, iv p3), (4, iv p4), (5, iv p5), (6, iv p6), (7, iv z957), (8, iv z969), (9, iv 0), (10, iv (40 * p2)), (11, iv (40 * p4))] [iv z990] (mk w μ) 0 0 := by
        intro z990 h991 W993
        refine mr_istore (pc := 92) (lv' := [(12, iv z990), (0, .ref 106), (1, iv p1), (2, iv p2), (3, iv p3), (4, iv p4), (5, iv p5), (6, iv p6), (7, iv z957), (8, iv z969), (9, iv 0), (10, iv (40 * p2)), (11, iv (40 * p4))]) dX12_unlike_92 (by decide) rfl ?_
        refine mr_iload (pc := 94) (z := z969) dX12_unlike_94 rfl ?_
        refine mr_iconst (pc := 96) (z := 1) dX12_unlike_96 ?_
        have J1006 : ∀ (z1004 : Int), (((-2147483648) ≤ z1004 ∧ z1004 ≤ 2147483647)) → ((WJ_X12_unlike_W_3 w μ p1 p2 p3 p4 p5 p6 Q (loopF (WL_X12_unlike_W_1 w μ p1 p2 p3 p4 p5 p6 Q) False nL958) z957 z969 z972 z990) z1004) → sV (gG l D c H0 sa) mX12_unlike (sRm 2 0 0) (sZ (gG l D c H0 sa) 0 0 (qP w μ (fun z => ((-9) ≤ z ∧ z ≤ 9) ∧ Q z μ ∧ True))) 121 [(0, .ref 106), (1, iv p1), (2, iv p2), (3, iv p3), (4, iv p4), (5, iv p5), (6, iv p6), (7, iv z957), (8, iv z969), (9, iv z1004), (10, iv (40 * p2)), (11, iv (40 * p4)), (12, iv z990)] [] (mk w μ) 0 0 := by
          intro z1004 h1005 W1007
          refine mr_iload (pc := 121) (z := z969) dX12_unlike_121 rfl ?_
          refine mr_iconst (pc := 123) (z := 2) dX12_unlike_123 ?_
          have J1015 : ∀ (z1013 : Int), (((-2147483648) ≤ z1013 ∧ z1013 ≤ 2147483647)) → ((WJ_X12_unlike_W_4 w μ p1 p2 p3 p4 p5 p6 Q (loopF (WL_X12_unlike_W_1 w μ p1 p2 p3 p4 p5 p6 Q) False nL958) z957 z969 z990) z1013) → sV (gG l D c H0 sa) mX12_unlike (sRm 2 0 0) (sZ (gG l D c H0 sa) 0 0 (qP w μ (fun z => ((-9) ≤ z ∧ z ≤ 9) ∧ Q z μ ∧ True))) 148 [(0, .ref 106), (1, iv p1), (2, iv p2), (3, iv p3), (4, iv p4), (5, iv p5), (6, iv p6), (7, iv z957), (8, iv z969), (9, iv z1013), (10, iv (40 * p2)), (11, iv (40 * p4)), (12, iv z990)] [] (mk w μ) 0 0 := by
            intro z1013 h1014 W1016
            refine mr_iload (pc := 148) (z := z969) dX12_unlike_148 rfl ?_
            refine mr_iconst (pc := 150) (z := 3) dX12_unlike_150 ?_
            have J1029 : ∀ (z1027 : Int), (((-2147483648) ≤ z1027 ∧ z1027 ≤ 2147483647)) → ((WJ_X12_unlike_W_5 w μ p1 p2 p3 p4 p5 p6 Q (loopF (WL_X12_unlike_W_1 w μ p1 p2 p3 p4 p5 p6 Q) False nL958) z957 z969 z990) z1027) → sV (gG l D c H0 sa) mX12_unlike (sRm 2 0 0) (sZ (gG l D c H0 sa) 0 0 (qP w μ (fun z => ((-9) ≤ z ∧ z ≤ 9) ∧ Q z μ ∧ True))) 175 [(0, .ref 106), (1, iv p1), (2, iv p2), (3, iv p3), (4, iv p4), (5, iv p5), (6, iv p6), (7, iv z957), (8, iv z969), (9, iv z1027), (10, iv (40 * p2)), (11, iv (40 * p4)), (12, iv z990)] [] (mk w μ) 0 0 := by
              intro z1027 h1028 W1030
              refine mr_iload (pc := 175) (z := z969) dX12_unlike_175 rfl ?_
              refine mr_iconst (pc := 177) (z := 4) dX12_unlike_177 ?_
              have J1055 : ∀ (z1053 : Int), (((-2147483648) ≤ z1053 ∧ z1053 ≤ 2147483647)) → ((WJ_X12_unlike_W_6 w μ p1 p3 p5 p6 Q (loopF (WL_X12_unlike_W_1 w μ p1 p2 p3 p4 p5 p6 Q) False nL958) z957 z969) z1053) → sV (gG l D c H0 sa) mX12_unlike (sRm 2 0 0) (sZ (gG l D c H0 sa) 0 0 (qP w μ (fun z => ((-9) ≤ z ∧ z ≤ 9) ∧ Q z μ ∧ True))) 214 [(0, .ref 106), (1, iv p1), (2, iv p2), (3, iv p3), (4, iv p4), (5, iv p5), (6, iv p6), (7, iv z957), (8, iv z969), (9, iv z1053)] [] (mk w μ) 0 0 := by
                intro z1053 h1054 W1056
                refine mr_iload (pc := 214) (z := z969) dX12_unlike_214 rfl ?_
                refine mr_iconst (pc := 216) (z := 5) dX12_unlike_216 ?_
                have J1094 : ∀ (z1092 : Int), (((-2147483648) ≤ z1092 ∧ z1092 ≤ 2147483647)) → ((WJ_X12_unlike_W_7 μ Q (loopF (WL_X12_unlike_W_1 w μ p1 p2 p3 p4 p5 p6 Q) False nL958) z957 z969) z1092) → sV (gG l D c H0 sa) mX12_unlike (sRm 2 0 0) (sZ (gG l D c H0 sa) 0 0 (qP w μ (fun z => ((-9) ≤ z ∧ z ≤ 9) ∧ Q z μ ∧ True))) 259 [(0, .ref 106), (1, iv p1), (2, iv p2), (3, iv p3), (4, iv p4), (5, iv p5), (6, iv p6), (7, iv z957), (8, iv z969), (9, iv z1092)] [] (mk w μ) 0 0 := by
                  intro z1092 h1093 W1095
                  refine mr_iload (pc := 259) (z := z1092) dX12_unlike_259 rfl ?_
                  refine mr_if_eq (pc := 261) (tgt := 278) dX12_unlike_261 (by decide) h1093 (fun h1096 => ?_) (fun h1096 => ?_)
                  · have h1097 : 0 ≤ z1092 ∧ z1092 ≤ 0 := (vc_X12_mask_1 h1096 h1093)
                    refine mr_iinc (pc := 278) (lv' := [(7, iv (z957 + 1)), (0, .ref 106), (1, iv p1), (2, iv p2), (3, iv p3), (4, iv p4), (5, iv p5), (6, iv p6), (8, iv z969), (9, iv z1092)]) dX12_unlike_278 rfl (by decide) rfl ?_
                    refine sv_goto (pc := 281) (tgt := 3) dX12_unlike_281 (by decide) ?_
                    refine mr_lvS (lv' := [(0, .ref 106), (1, iv p1), (2, iv p2), (3, iv p3), (4, iv p4), (5, iv p5), (6, iv p6), (7, iv (z957 + 1))]) (List.forall_mem_cons.mpr ⟨rfl, List.forall_mem_cons.mpr ⟨rfl, List.forall_mem_cons.mpr ⟨rfl, List.forall_mem_cons.mpr ⟨rfl, List.forall_mem_cons.mpr ⟨rfl, List.forall_mem_cons.mpr ⟨rfl, List.forall_mem_cons.mpr ⟨rfl, List.forall_mem_cons.mpr ⟨rfl, fun _ h => absurd h List.not_mem_nil⟩⟩⟩⟩⟩⟩⟩⟩) ?_
                    exact ih965 (z957 + 1) trivial (rW (c := 0) (d := 6) (rAdd (e := 1) (f := 6) h968 (rR (x := 1)) rfl) rfl) (vc_X12_same_W_42 (nS h963) h966 h968) ((W1095 h1093).1 h1096)
                  refine mr_iload (pc := 264) (z := z1092) dX12_unlike_264 rfl ?_
                  refine mr_if_ge (pc := 266) (tgt := 274) dX12_unlike_266 (by decide) h1093 (fun h1100 => ?_) (fun h1100 => ?_)
                  · have h1101 : 0 ≤ z1092 ∧ z1092 ≤ 2147483647 := (vc_X12_part_4 h1100 h1096 h1093)
                    refine mr_iload (pc := 274) (z := z969) dX12_unlike_274 rfl ?_
                    refine mr_ineg (pc := 276) dX12_unlike_276 ?_
                    refine mr_negS ?_
                    exact mr_iretP dX12_unlike_277 rfl (le_t rfl) (le_t rfl) ⟨(rW (c := (-9)) (d := 9) (rSub (e := (-9)) (f := 0) (rR (x := 0)) h971 rfl) rfl), (((W1095 h1093).2 h1096).1 h1100), trivial⟩
                  have h1102 : (-2147483648) ≤ z1092 ∧ z1092 ≤ (-1) := (vc_X12_part_39 h1100 h1096 h1093)
                  refine mr_iload (pc := 269) (z := z969) dX12_unlike_269 rfl ?_
                  refine sv_goto (pc := 271) (tgt := 277) dX12_unlike_271 (by decide) ?_
                  exact mr_iretP dX12_unlike_277 rfl (le_t rfl) (le_t rfl) ⟨(rW (c := (-9)) (d := 9) h971 rfl), (((W1095 h1093).2 h1096).2 h1100), trivial⟩
                refine mr_icmp_ne (pc := 217) (tgt := 259) dX12_unlike_217 (by decide) (r32 h971 rfl) (r32 (rR (x := 5)) rfl) (fun h1103 => ?_) (fun h1103 => ?_)
                · exact J1094 z1053 h1054 ((W1056 h1054).1 h1103)
                have h1104 : 5 ≤ z969 ∧ z969 ≤ 5 := (vc_X12_unlike_W_9 h1103 h971)
                refine sv_aload_n (pc := 220) dX12_unlike_220 rfl rfl ?_
                refine gf_X12_74 (pc := 221) dX12_unlike_221 wF_X12_424 (A_106 hw) hT ?_
                refine mr_iload_n (pc := 224) (z := p3) dX12_unlike_224 rfl rfl ?_
                refine sv_aload_n (pc := 225) dX12_unlike_225 rfl rfl ?_
                refine mr_iload_n (pc := 226) (z := p3) dX12_unlike_226 rfl rfl ?_
                refine mr_iload_n (pc := 227) (z := p1) dX12_unlike_227 rfl rfl ?_
                obtain ⟨z1105, q1106⟩ : ∃ z, μ 110 ((2 * p3).toNat) = z := ⟨_, rfl⟩
                have h1107 : (0 ≤ z1105 ∧ z1105 ≤ 9) := by rw [← q1106]; exact hT 110 110 (A_110 hw) ((2 * p3).toNat)
                refine mr_cVP (pc := 228) (c_X12_sideOf_W hw hT hp3 (rW (c := (-2147483648)) (d := 2147483647) hp1 rfl) q1106 (((W1056 h1054).2 h1103) z1105 q1106 h1107)) (gOk _ _ _ _ _) dX12_unlike_228 (tX12_sideOf _ _ _ _ _) ⟨wV_X12_sideOf, wL_X12_sideOf⟩ wM_X12_542 (gCX12 _ _ _ _ _) rfl (A_106 hw) rfl ⟨le_t rfl, le_t rfl⟩ ⟨le_t rfl, le_t rfl⟩ rfl (le_t rfl) fun z1112 h1111 => ?_
                refine mr_iload (pc := 231) (z := p6) dX12_unlike_231 rfl ?_
                refine mr_cSP (pc := 233) (c_X12_slot_W hw hT (rW (c := 0) (d := 20) hp3 rfl) (rW (c := 0) (d := 2) h1111.1 rfl) hp6 (h1111.2.2.2.1 h1111.1)) (gOk _ _ _ _ _) dX12_unlike_233 (tX12_slot _ _ _ _ _) wS_X12_slot wM_X12_545 ⟨le_t rfl, le_t rfl⟩ ⟨le_t rfl, le_t rfl⟩ rfl (le_t rfl) fun z1117 h1116 => ?_
                have h1118 : 0 ≤ z1117 ∧ z1117 ≤ 399 := (vc_X12_unlike_W_10 h1116.2.1 h1111.2.1 h1111.2.2.1 hp1 hp3 hp6 h1107 h1111.1 h1116.1)
                refine la_154 (pc := 236) dX12_unlike_236 (A_154 hw) hT (rIx (n := 400) h1118 rfl) fun z1119 q1120 h1121 => ?_
                refine sv_aload_n (pc := 237) dX12_unlike_237 rfl rfl ?_
                refine gf_X12_74 (pc := 238) dX12_unlike_238 wF_X12_424 (A_106 hw) hT ?_
                refine mr_iload (pc := 241) (z := p5) dX12_unlike_241 rfl ?_
                refine sv_aload_n (pc := 243) dX12_unlike_243 rfl rfl ?_
                refine mr_iload (pc := 244) (z := p5) dX12_unlike_244 rfl ?_
                refine mr_iload_n (pc := 246) (z := p1) dX12_unlike_246 rfl rfl ?_
                obtain ⟨z1122, q1123⟩ : ∃ z, μ 110 ((2 * p5).toNat) = z := ⟨_, rfl⟩
                have h1124 : (0 ≤ z1122 ∧ z1122 ≤ 9) := by rw [← q1123]; exact hT 110 110 (A_110 hw) ((2 * p5).toNat)
                refine mr_cVP (pc := 247) (c_X12_sideOf_W hw hT hp5 (rW (c := (-2147483648)) (d := 2147483647) hp1 rfl) q1123 (((h1116.2.2.1 h1116.1) z1119 q1120 h1121) z1122 q1123 h1124)) (gOk _ _ _ _ _) dX12_unlike_247 (tX12_sideOf _ _ _ _ _) ⟨wV_X12_sideOf, wL_X12_sideOf⟩ wM_X12_542 (gCX12 _ _ _ _ _) rfl (A_106 hw) rfl ⟨le_t rfl, le_t rfl⟩ ⟨le_t rfl, le_t rfl⟩ rfl (le_t rfl) fun z1129 h1128 => ?_
                refine mr_iload (pc := 250) (z := p6) dX12_unlike_250 rfl ?_
                refine mr_cSP (pc := 252) (c_X12_slot_W hw hT (rW (c := 0) (d := 20) hp5 rfl) (rW (c := 0) (d := 2) h1128.1 rfl) hp6 (h1128.2.2.2.1 h1128.1)) (gOk _ _ _ _ _) dX12_unlike_252 (tX12_slot _ _ _ _ _) wS_X12_slot wM_X12_545 ⟨le_t rfl, le_t rfl⟩ ⟨le_t rfl, le_t rfl⟩ rfl (le_t rfl) fun z1134 h1133 => ?_
                have h1135 : 0 ≤ z1134 ∧ z1134 ≤ 399 := (vc_X12_unlike_W_11 h1133.2.1 h1116.2.1 h1128.2.1 h1128.2.2.1 hp1 hp3 hp5 hp6 h1111.1 h1118 h1124 h1128.1 h1133.1)
                refine la_154 (pc := 255) dX12_unlike_255 (A_154 hw) hT (rIx (n := 400) h1135 rfl) fun z1136 q1137 h1138 => ?_
                refine mr_isub (pc := 256) (x := z1119) (y := z1136) dX12_unlike_256 ?_
                refine mr_istore (pc := 257) (lv' := [(9, iv (z1119 - z1136)), (0, .ref 106), (1, iv p1), (2, iv p2), (3, iv p3), (4, iv p4), (5, iv p5), (6, iv p6), (7, iv z957), (8, iv z969)]) dX12_unlike_257 (by decide) rfl ?_
                refine mr_lvS (lv' := [(0, .ref 106), (1, iv p1), (2, iv p2), (3, iv p3), (4, iv p4), (5, iv p5), (6, iv p6), (7, iv z957), (8, iv z969), (9, iv (z1119 - z1136))]) (List.forall_mem_cons.mpr ⟨rfl, List.forall_mem_cons.mpr ⟨rfl, List.forall_mem_cons.mpr ⟨rfl, List.forall_mem_cons.mpr ⟨rfl, List.forall_mem_cons.mpr ⟨rfl, List.forall_mem_cons.mpr ⟨rfl, List.forall_mem_cons.mpr ⟨rfl, List.forall_mem_cons.mpr ⟨rfl, List.forall_mem_cons.mpr ⟨rfl, List.forall_mem_cons.mpr ⟨rfl, fun _ h => absurd h List.not_mem_nil⟩⟩⟩⟩⟩⟩⟩⟩⟩⟩) ?_
                exact J1094 (z1119 - z1136) (rW (c := (-2147483648)) (d := 2147483647) (rSub (e := (-2000000000)) (f := 2000000000) h1121 h1138 rfl) rfl) ((h1133.2.2.1 h1133.1) z1136 q1137 h1138)
              refine mr_icmp_ne (pc := 178) (tgt := 186) dX12_unlike_178 (by decide) (r32 h971 rfl) (r32 (rR (x := 4)) rfl) (fun h1139 => ?_) (fun h1139 => ?_)
              · refine mr_iload (pc := 186) (z := z969) dX12_unlike_186 rfl ?_
                refine mr_bipush (pc := 188) (z := 6) dX12_unlike_188 (by decide) ?_
                refine mr_icmp_ne (pc := 190) (tgt := 214) dX12_unlike_190 (by decide) (r32 h971 rfl) (r32 (rR (x := 6)) rfl) (fun h1140 => ?_) (fun h1140 => ?_)
                · refine mr_lvS (lv' := [(0, .ref 106), (1, iv p1), (2, iv p2), (3, iv p3), (4, iv p4), (5, iv p5), (6, iv p6), (7, iv z957), (8, iv z969), (9, iv z1027)]) (List.forall_mem_cons.mpr ⟨rfl, List.forall_mem_cons.mpr ⟨rfl, List.forall_mem_cons.mpr ⟨rfl, List.forall_mem_cons.mpr ⟨rfl, List.forall_mem_cons.mpr ⟨rfl, List.forall_mem_cons.mpr ⟨rfl, List.forall_mem_cons.mpr ⟨rfl, List.forall_mem_cons.mpr ⟨rfl, List.forall_mem_cons.mpr ⟨rfl, List.forall_mem_cons.mpr ⟨rfl, fun _ h => absurd h List.not_mem_nil⟩⟩⟩⟩⟩⟩⟩⟩⟩⟩) ?_
                  exact J1055 z1027 h1028 (((W1030 h1028).1 h1139).1 h1140)
                have h1141 : 6 ≤ z969 ∧ z969 ≤ 6 := (vc_X12_unlike_W_12 h1140 h1139 h971)
                refine sv_aload_n (pc := 193) dX12_unlike_193 rfl rfl ?_
                refine gf_X12_32 (pc := 194) dX12_unlike_194 wF_X12_148 (A_106 hw) hT ?_
                refine mr_iload (pc := 197) (z := (40 * p2)) dX12_unlike_197 rfl ?_
                refine mr_iconst (pc := 199) (z := 3) dX12_unlike_199 ?_
                refine mr_iadd (pc := 200) (x := (40 * p2)) (y := 3) dX12_unlike_200 ?_
                refine la_126 (pc := 201) dX12_unlike_201 (A_126 hw) hT (rIx (n := 84000) (rAdd (e := 3) (f := 83963) (rMulL (n := 40) (e := 0) (f := 83960) hp2 rfl) (rR (x := 3)) rfl) rfl) fun z1142 q1143 h1144 => ?_
                refine sv_aload_n (pc := 202) dX12_unlike_202 rfl rfl ?_
                refine gf_X12_32 (pc := 203) dX12_unlike_203 wF_X12_148 (A_106 hw) hT ?_
                refine mr_iload (pc := 206) (z := (40 * p4)) dX12_unlike_206 rfl ?_
                refine mr_iconst (pc := 208) (z := 3) dX12_unlike_208 ?_
                refine mr_iadd (pc := 209) (x := (40 * p4)) (y := 3) dX12_unlike_209 ?_
                refine la_126 (pc := 210) dX12_unlike_210 (A_126 hw) hT (rIx (n := 84000) (rAdd (e := 3) (f := 83963) (rMulL (n := 40) (e := 0) (f := 83960) hp4 rfl) (rR (x := 3)) rfl) rfl) fun z1145 q1146 h1147 => ?_
                refine mr_isub (pc := 211) (x := z1142) (y := z1145) dX12_unlike_211 ?_
                refine mr_wrapF fun z1148 h1149 h1150 => ?_
                refine mr_istore (pc := 212) (lv' := [(9, iv z1148), (0, .ref 106), (1, iv p1), (2, iv p2), (3, iv p3), (4, iv p4), (5, iv p5), (6, iv p6), (7, iv z957), (8, iv z969), (10, iv (40 * p2)), (11, iv (40 * p4)), (12, iv z990)]) dX12_unlike_212 (by decide) rfl ?_
                refine mr_lvS (lv' := [(0, .ref 106), (1, iv p1), (2, iv p2), (3, iv p3), (4, iv p4), (5, iv p5), (6, iv p6), (7, iv z957), (8, iv z969), (9, iv z1148)]) (List.forall_mem_cons.mpr ⟨rfl, List.forall_mem_cons.mpr ⟨rfl, List.forall_mem_cons.mpr ⟨rfl, List.forall_mem_cons.mpr ⟨rfl, List.forall_mem_cons.mpr ⟨rfl, List.forall_mem_cons.mpr ⟨rfl, List.forall_mem_cons.mpr ⟨rfl, List.forall_mem_cons.mpr ⟨rfl, List.forall_mem_cons.mpr ⟨rfl, List.forall_mem_cons.mpr ⟨rfl, fun _ h => absurd h List.not_mem_nil⟩⟩⟩⟩⟩⟩⟩⟩⟩⟩) ?_
                exact J1055 z1148 h1149 ((((((W1030 h1028).1 h1139).2 h1140) z1142 q1143 h1144) z1145 q1146 h1147) z1148 h1149 h1150)
              have h1151 : 4 ≤ z969 ∧ z969 ≤ 4 := (vc_X12_unlike_W_13 h1139 h971)
              refine mr_iload (pc := 181) (z := z990) dX12_unlike_181 rfl ?_
              refine mr_if_ne (pc := 183) (tgt := 193) dX12_unlike_183 (by decide) (r32 h991 rfl) (fun h1152 => ?_) (fun h1152 => ?_)
              · have h1153 : 1 ≤ z990 ∧ z990 ≤ 1 := (vc_X12_ring_24 h1152 h991)
                refine sv_aload_n (pc := 193) dX12_unlike_193 rfl rfl ?_
                refine gf_X12_32 (pc := 194) dX12_unlike_194 wF_X12_148 (A_106 hw) hT ?_
                refine mr_iload (pc := 197) (z := (40 * p2)) dX12_unlike_197 rfl ?_
                refine mr_iconst (pc := 199) (z := 3) dX12_unlike_199 ?_
                refine mr_iadd (pc := 200) (x := (40 * p2)) (y := 3) dX12_unlike_200 ?_
                refine la_126 (pc := 201) dX12_unlike_201 (A_126 hw) hT (rIx (n := 84000) (rAdd (e := 3) (f := 83963) (rMulL (n := 40) (e := 0) (f := 83960) hp2 rfl) (rR (x := 3)) rfl) rfl) fun z1154 q1155 h1156 => ?_
                refine sv_aload_n (pc := 202) dX12_unlike_202 rfl rfl ?_
                refine gf_X12_32 (pc := 203) dX12_unlike_203 wF_X12_148 (A_106 hw) hT ?_
                refine mr_iload (pc := 206) (z := (40 * p4)) dX12_unlike_206 rfl ?_
                refine mr_iconst (pc := 208) (z := 3) dX12_unlike_208 ?_
                refine mr_iadd (pc := 209) (x := (40 * p4)) (y := 3) dX12_unlike_209 ?_
                refine la_126 (pc := 210) dX12_unlike_210 (A_126 hw) hT (rIx (n := 84000) (rAdd (e := 3) (f := 83963) (rMulL (n := 40) (e := 0) (f := 83960) hp4 rfl) (rR (x := 3)) rfl) rfl) fun z1157 q1158 h1159 => ?_
                refine mr_isub (pc := 211) (x := z1154) (y := z1157) dX12_unlike_211 ?_
                refine mr_wrapF fun z1160 h1161 h1162 => ?_
                refine mr_istore (pc := 212) (lv' := [(9, iv z1160), (0, .ref 106), (1, iv p1), (2, iv p2), (3, iv p3), (4, iv p4), (5, iv p5), (6, iv p6), (7, iv z957), (8, iv z969), (10, iv (40 * p2)), (11, iv (40 * p4)), (12, iv z990)]) dX12_unlike_212 (by decide) rfl ?_
                refine mr_lvS (lv' := [(0, .ref 106), (1, iv p1), (2, iv p2), (3, iv p3), (4, iv p4), (5, iv p5), (6, iv p6), (7, iv z957), (8, iv z969), (9, iv z1160)]) (List.forall_mem_cons.mpr ⟨rfl, List.forall_mem_cons.mpr ⟨rfl, List.forall_mem_cons.mpr ⟨rfl, List.forall_mem_cons.mpr ⟨rfl, List.forall_mem_cons.mpr ⟨rfl, List.forall_mem_cons.mpr ⟨rfl, List.forall_mem_cons.mpr ⟨rfl, List.forall_mem_cons.mpr ⟨rfl, List.forall_mem_cons.mpr ⟨rfl, List.forall_mem_cons.mpr ⟨rfl, fun _ h => absurd h List.not_mem_nil⟩⟩⟩⟩⟩⟩⟩⟩⟩⟩) ?_
                exact J1055 z1160 h1161 ((((((W1030 h1028).2 h1139).1 h1152) z1154 q1155 h1156) z1157 q1158 h1159) z1160 h1161 h1162)
              have h1163 : 0 ≤ z990 ∧ z990 ≤ 0 := (vc_X12_ring_22 h1152 h991)
              refine mr_iload (pc := 186) (z := z969) dX12_unlike_186 rfl ?_
              refine mr_bipush (pc := 188) (z := 6) dX12_unlike_188 (by decide) ?_
              refine mr_icmp_ne (pc := 190) (tgt := 214) dX12_unlike_190 (by decide) (r32 h1151 rfl) (r32 (rR (x := 6)) rfl) (fun _ => ?_) (fun h => ((vc_X12_unlike_W_16 h h1151)).elim)
              refine mr_lvS (lv' := [(0, .ref 106), (1, iv p1), (2, iv p2), (3, iv p3), (4, iv p4), (5, iv p5), (6, iv p6), (7, iv z957), (8, iv z969), (9, iv z1027)]) (List.forall_mem_cons.mpr ⟨rfl, List.forall_mem_cons.mpr ⟨rfl, List.forall_mem_cons.mpr ⟨rfl, List.forall_mem_cons.mpr ⟨rfl, List.forall_mem_cons.mpr ⟨rfl, List.forall_mem_cons.mpr ⟨rfl, List.forall_mem_cons.mpr ⟨rfl, List.forall_mem_cons.mpr ⟨rfl, List.forall_mem_cons.mpr ⟨rfl, List.forall_mem_cons.mpr ⟨rfl, fun _ h => absurd h List.not_mem_nil⟩⟩⟩⟩⟩⟩⟩⟩⟩⟩) ?_
              exact J1055 z1027 h1028 (((W1030 h1028).2 h1139).2 h1152)
            refine mr_icmp_ne (pc := 151) (tgt := 175) dX12_unlike_151 (by decide) (r32 h971 rfl) (r32 (rR (x := 3)) rfl) (fun h1164 => ?_) (fun h1164 => ?_)
            · exact J1029 z1013 h1014 ((W1016 h1014).1 h1164)
            have h1165 : 3 ≤ z969 ∧ z969 ≤ 3 := (vc_X12_unlike_W_17 h1164 h971)
            refine sv_aload_n (pc := 154) dX12_unlike_154 rfl rfl ?_
            refine gf_X12_32 (pc := 155) dX12_unlike_155 wF_X12_148 (A_106 hw) hT ?_
            refine mr_iload (pc := 158) (z := (40 * p2)) dX12_unlike_158 rfl ?_
            refine mr_iconst (pc := 160) (z := 2) dX12_unlike_160 ?_
            refine mr_iadd (pc := 161) (x := (40 * p2)) (y := 2) dX12_unlike_161 ?_
            refine la_126 (pc := 162) dX12_unlike_162 (A_126 hw) hT (rIx (n := 84000) (rAdd (e := 2) (f := 83962) (rMulL (n := 40) (e := 0) (f := 83960) hp2 rfl) (rR (x := 2)) rfl) rfl) fun z1166 q1167 h1168 => ?_
            refine sv_aload_n (pc := 163) dX12_unlike_163 rfl rfl ?_
            refine gf_X12_32 (pc := 164) dX12_unlike_164 wF_X12_148 (A_106 hw) hT ?_
            refine mr_iload (pc := 167) (z := (40 * p4)) dX12_unlike_167 rfl ?_
            refine mr_iconst (pc := 169) (z := 2) dX12_unlike_169 ?_
            refine mr_iadd (pc := 170) (x := (40 * p4)) (y := 2) dX12_unlike_170 ?_
            refine la_126 (pc := 171) dX12_unlike_171 (A_126 hw) hT (rIx (n := 84000) (rAdd (e := 2) (f := 83962) (rMulL (n := 40) (e := 0) (f := 83960) hp4 rfl) (rR (x := 2)) rfl) rfl) fun z1169 q1170 h1171 => ?_
            refine mr_isub (pc := 172) (x := z1166) (y := z1169) dX12_unlike_172 ?_
            refine mr_wrapF fun z1172 h1173 h1174 => ?_
            refine mr_istore (pc := 173) (lv' := [(9, iv z1172), (0, .ref 106), (1, iv p1), (2, iv p2), (3, iv p3), (4, iv p4), (5, iv p5), (6, iv p6), (7, iv z957), (8, iv z969), (10, iv (40 * p2)), (11, iv (40 * p4)), (12, iv z990)]) dX12_unlike_173 (by decide) rfl ?_
            refine mr_lvS (lv' := [(0, .ref 106), (1, iv p1), (2, iv p2), (3, iv p3), (4, iv p4), (5, iv p5), (6, iv p6), (7, iv z957), (8, iv z969), (9, iv z1172), (10, iv (40 * p2)), (11, iv (40 * p4)), (12, iv z990)]) (List.forall_mem_cons.mpr ⟨rfl, List.forall_mem_cons.mpr ⟨rfl, List.forall_mem_cons.mpr ⟨rfl, List.forall_mem_cons.mpr ⟨rfl, List.forall_mem_cons.mpr ⟨rfl, List.forall_mem_cons.mpr ⟨rfl, List.forall_mem_cons.mpr ⟨rfl, List.forall_mem_cons.mpr ⟨rfl, List.forall_mem_cons.mpr ⟨rfl, List.forall_mem_cons.mpr ⟨rfl, List.forall_mem_cons.mpr ⟨rfl, List.forall_mem_cons.mpr ⟨rfl, List.forall_mem_cons.mpr ⟨rfl, fun _ h => absurd h List.not_mem_nil⟩⟩⟩⟩⟩⟩⟩⟩⟩⟩⟩⟩⟩) ?_
            exact J1029 z1172 h1173 (((((W1016 h1014).2 h1164) z1166 q1167 h1168) z1169 q1170 h1171) z1172 h1173 h1174)
          refine mr_icmp_ne (pc := 124) (tgt := 148) dX12_unlike_124 (by decide) (r32 h971 rfl) (r32 (rR (x := 2)) rfl) (fun h1175 => ?_) (fun h1175 => ?_)
          · exact J1015 z1004 h1005 ((W1007 h1005).1 h1175)
          have h1176 : 2 ≤ z969 ∧ z969 ≤ 2 := (vc_X12_unlike_W_18 h1175 h971)
          refine sv_aload_n (pc := 127) dX12_unlike_127 rfl rfl ?_
          refine gf_X12_32 (pc := 128) dX12_unlike_128 wF_X12_148 (A_106 hw) hT ?_
          refine mr_iload (pc := 131) (z := (40 * p2)) dX12_unlike_131 rfl ?_
          refine mr_iconst (pc := 133) (z := 4) dX12_unlike_133 ?_
          refine mr_iadd (pc := 134) (x := (40 * p2)) (y := 4) dX12_unlike_134 ?_
          refine lk_126 (pc := 135) dX12_unlike_135 (A_126 hw) (rIx (n := 84000) (rAdd (e := 4) (f := 83964) (rMulL (n := 40) (e := 0) (f := 83960) hp2 rfl) (rR (x := 4)) rfl) rfl) q973 ?_
          refine sv_aload_n (pc := 136) dX12_unlike_136 rfl rfl ?_
          refine gf_X12_32 (pc := 137) dX12_unlike_137 wF_X12_148 (A_106 hw) hT ?_
          refine mr_iload (pc := 140) (z := (40 * p4)) dX12_unlike_140 rfl ?_
          refine mr_iconst (pc := 142) (z := 4) dX12_unlike_142 ?_
          refine mr_iadd (pc := 143) (x := (40 * p4)) (y := 4) dX12_unlike_143 ?_
          refine la_126 (pc := 144) dX12_unlike_144 (A_126 hw) hT (rIx (n := 84000) (rAdd (e := 4) (f := 83964) (rMulL (n := 40) (e := 0) (f := 83960) hp4 rfl) (rR (x := 4)) rfl) rfl) fun z1177 q1178 h1179 => ?_
          have h1180 : 0 ≤ z1177 ∧ z1177 ≤ 20 := h1179.2.2.1 (vc_X12_front_1 hp4)
          refine mr_isub (pc := 145) (x := z972) (y := z1177) dX12_unlike_145 ?_
          refine mr_istore (pc := 146) (lv' := [(9, iv (z972 - z1177)), (0, .ref 106), (1, iv p1), (2, iv p2), (3, iv p3), (4, iv p4), (5, iv p5), (6, iv p6), (7, iv z957), (8, iv z969), (10, iv (40 * p2)), (11, iv (40 * p4)), (12, iv z990)]) dX12_unlike_146 (by decide) rfl ?_
          refine mr_lvS (lv' := [(0, .ref 106), (1, iv p1), (2, iv p2), (3, iv p3), (4, iv p4), (5, iv p5), (6, iv p6), (7, iv z957), (8, iv z969), (9, iv (z972 - z1177)), (10, iv (40 * p2)), (11, iv (40 * p4)), (12, iv z990)]) (List.forall_mem_cons.mpr ⟨rfl, List.forall_mem_cons.mpr ⟨rfl, List.forall_mem_cons.mpr ⟨rfl, List.forall_mem_cons.mpr ⟨rfl, List.forall_mem_cons.mpr ⟨rfl, List.forall_mem_cons.mpr ⟨rfl, List.forall_mem_cons.mpr ⟨rfl, List.forall_mem_cons.mpr ⟨rfl, List.forall_mem_cons.mpr ⟨rfl, List.forall_mem_cons.mpr ⟨rfl, List.forall_mem_cons.mpr ⟨rfl, List.forall_mem_cons.mpr ⟨rfl, List.forall_mem_cons.mpr ⟨rfl, fun _ h => absurd h List.not_mem_nil⟩⟩⟩⟩⟩⟩⟩⟩⟩⟩⟩⟩⟩) ?_
          exact J1015 (z972 - z1177) (rW (c := (-2147483648)) (d := 2147483647) (rSub (e := (-20)) (f := 20) h975 h1180 rfl) rfl) (((W1007 h1005).2 h1175) z1177 q1178 h1179)
        refine mr_icmp_ne (pc := 97) (tgt := 121) dX12_unlike_97 (by decide) (r32 h971 rfl) (r32 (rR (x := 1)) rfl) (fun h1181 => ?_) (fun h1181 => ?_)
        · refine mr_lvS (lv' := [(0, .ref 106), (1, iv p1), (2, iv p2), (3, iv p3), (4, iv p4), (5, iv p5), (6, iv p6), (7, iv z957), (8, iv z969), (9, iv 0), (10, iv (40 * p2)), (11, iv (40 * p4)), (12, iv z990)]) (List.forall_mem_cons.mpr ⟨rfl, List.forall_mem_cons.mpr ⟨rfl, List.forall_mem_cons.mpr ⟨rfl, List.forall_mem_cons.mpr ⟨rfl, List.forall_mem_cons.mpr ⟨rfl, List.forall_mem_cons.mpr ⟨rfl, List.forall_mem_cons.mpr ⟨rfl, List.forall_mem_cons.mpr ⟨rfl, List.forall_mem_cons.mpr ⟨rfl, List.forall_mem_cons.mpr ⟨rfl, List.forall_mem_cons.mpr ⟨rfl, List.forall_mem_cons.mpr ⟨rfl, List.forall_mem_cons.mpr ⟨rfl, fun _ h => absurd h List.not_mem_nil⟩⟩⟩⟩⟩⟩⟩⟩⟩⟩⟩⟩⟩) ?_
          exact J1006 0 (rW (c := (-2147483648)) (d := 2147483647) (rR (x := 0)) rfl) ((W993 h991).1 h1181)
        have h1182 : 1 ≤ z969 ∧ z969 ≤ 1 := (vc_X12_unlike_W_20 h1181 h971)
        refine sv_aload_n (pc := 100) dX12_unlike_100 rfl rfl ?_
        refine gf_X12_32 (pc := 101) dX12_unlike_101 wF_X12_148 (A_106 hw) hT ?_
        refine mr_iload (pc := 104) (z := (40 * p4)) dX12_unlike_104 rfl ?_
        refine mr_iconst (pc := 106) (z := 1) dX12_unlike_106 ?_
        refine mr_iadd (pc := 107) (x := (40 * p4)) (y := 1) dX12_unlike_107 ?_
        refine la_126 (pc := 108) dX12_unlike_108 (A_126 hw) hT (rIx (n := 84000) (rAdd (e := 1) (f := 83961) (rMulL (n := 40) (e := 0) (f := 83960) hp4 rfl) (rR (x := 1)) rfl) rfl) fun z1183 q1184 h1185 => ?_
        refine sv_aload_n (pc := 109) dX12_unlike_109 rfl rfl ?_
        refine gf_X12_32 (pc := 110) dX12_unlike_110 wF_X12_148 (A_106 hw) hT ?_
        refine mr_iload (pc := 113) (z := (40 * p2)) dX12_unlike_113 rfl ?_
        refine mr_iconst (pc := 115) (z := 1) dX12_unlike_115 ?_
        refine mr_iadd (pc := 116) (x := (40 * p2)) (y := 1) dX12_unlike_116 ?_
        refine la_126 (pc := 117) dX12_unlike_117 (A_126 hw) hT (rIx (n := 84000) (rAdd (e := 1) (f := 83961) (rMulL (n := 40) (e := 0) (f := 83960) hp2 rfl) (rR (x := 1)) rfl) rfl) fun z1186 q1187 h1188 => ?_
        refine mr_isub (pc := 118) (x := z1183) (y := z1186) dX12_unlike_118 ?_
        refine mr_wrapF fun z1189 h1190 h1191 => ?_
        refine mr_istore (pc := 119) (lv' := [(9, iv z1189), (12, iv z990), (0, .ref 106), (1, iv p1), (2, iv p2), (3, iv p3), (4, iv p4), (5, iv p5), (6, iv p6), (7, iv z957), (8, iv z969), (10, iv (40 * p2)), (11, iv (40 * p4))]) dX12_unlike_119 (by decide) rfl ?_
        refine mr_lvS (lv' := [(0, .ref 106), (1, iv p1), (2, iv p2), (3, iv p3), (4, iv p4), (5, iv p5), (6, iv p6), (7, iv z957), (8, iv z969), (9, iv z1189), (10, iv (40 * p2)), (11, iv (40 * p4)), (12, iv z990)]) (List.forall_mem_cons.mpr ⟨rfl, List.forall_mem_cons.mpr ⟨rfl, List.forall_mem_cons.mpr ⟨rfl, List.forall_mem_cons.mpr ⟨rfl, List.forall_mem_cons.mpr ⟨rfl, List.forall_mem_cons.mpr ⟨rfl, List.forall_mem_cons.mpr ⟨rfl, List.forall_mem_cons.mpr ⟨rfl, List.forall_mem_cons.mpr ⟨rfl, List.forall_mem_cons.mpr ⟨rfl, List.forall_mem_cons.mpr ⟨rfl, List.forall_mem_cons.mpr ⟨rfl, List.forall_mem_cons.mpr ⟨rfl, fun _ h => absurd h List.not_mem_nil⟩⟩⟩⟩⟩⟩⟩⟩⟩⟩⟩⟩⟩) ?_
        exact J1006 z1189 h1190 (((((W993 h991).2 h1181) z1183 q1184 h1185) z1186 q1187 h1188) z1189 h1190 h1191)
      refine mr_if_le (pc := 49) (tgt := 91) dX12_unlike_49 (by decide) (r32 h975 rfl) (fun h1192 => ?_) (fun h1192 => ?_)
      · have h1193 : 0 ≤ z972 ∧ z972 ≤ 0 := (vc_X12_write_57 h1192 h975)
        refine mr_iconst (pc := 91) (z := 0) dX12_unlike_91 ?_
        refine mr_lvS (lv' := [(0, .ref 106), (1, iv p1), (2, iv p2), (3, iv p3), (4, iv p4), (5, iv p5), (6, iv p6), (7, iv z957), (8, iv z969), (9, iv 0), (10, iv (40 * p2)), (11, iv (40 * p4))]) (List.forall_mem_cons.mpr ⟨rfl, List.forall_mem_cons.mpr ⟨rfl, List.forall_mem_cons.mpr ⟨rfl, List.forall_mem_cons.mpr ⟨rfl, List.forall_mem_cons.mpr ⟨rfl, List.forall_mem_cons.mpr ⟨rfl, List.forall_mem_cons.mpr ⟨rfl, List.forall_mem_cons.mpr ⟨rfl, List.forall_mem_cons.mpr ⟨rfl, List.forall_mem_cons.mpr ⟨rfl, List.forall_mem_cons.mpr ⟨rfl, List.forall_mem_cons.mpr ⟨rfl, fun _ h => absurd h List.not_mem_nil⟩⟩⟩⟩⟩⟩⟩⟩⟩⟩⟩⟩) ?_
        exact J992 0 (rW (c := 0) (d := 1) (rR (x := 0)) rfl) (((((W964 z957 rfl h959).2 h966) z969 q970 h971) z972 q973 h974).1 h1192)
      have h1194 : 1 ≤ z972 ∧ z972 ≤ 20 := (vc_X12_write_59 h1192 h975)
      refine sv_aload_n (pc := 52) dX12_unlike_52 rfl rfl ?_
      refine gf_X12_32 (pc := 53) dX12_unlike_53 wF_X12_148 (A_106 hw) hT ?_
      refine mr_iload (pc := 56) (z := (40 * p4)) dX12_unlike_56 rfl ?_
      refine mr_iconst (pc := 58) (z := 4) dX12_unlike_58 ?_
      refine mr_iadd (pc := 59) (x := (40 * p4)) (y := 4) dX12_unlike_59 ?_
      refine la_126 (pc := 60) dX12_unlike_60 (A_126 hw) hT (rIx (n := 84000) (rAdd (e := 4) (f := 83964) (rMulL (n := 40) (e := 0) (f := 83960) hp4 rfl) (rR (x := 4)) rfl) rfl) fun z1195 q1196 h1197 => ?_
      have h1198 : 0 ≤ z1195 ∧ z1195 ≤ 20 := h1197.2.2.1 (vc_X12_front_1 hp4)
      refine mr_if_le (pc := 61) (tgt := 91) dX12_unlike_61 (by decide) (r32 h1198 rfl) (fun h1199 => ?_) (fun h1199 => ?_)
      · have h1200 : 0 ≤ z1195 ∧ z1195 ≤ 0 := (vc_X12_write_57 h1199 h1198)
        refine mr_iconst (pc := 91) (z := 0) dX12_unlike_91 ?_
        refine mr_lvS (lv' := [(0, .ref 106), (1, iv p1), (2, iv p2), (3, iv p3), (4, iv p4), (5, iv p5), (6, iv p6), (7, iv z957), (8, iv z969), (9, iv 0), (10, iv (40 * p2)), (11, iv (40 * p4))]) (List.forall_mem_cons.mpr ⟨rfl, List.forall_mem_cons.mpr ⟨rfl, List.forall_mem_cons.mpr ⟨rfl, List.forall_mem_cons.mpr ⟨rfl, List.forall_mem_cons.mpr ⟨rfl, List.forall_mem_cons.mpr ⟨rfl, List.forall_mem_cons.mpr ⟨rfl, List.forall_mem_cons.mpr ⟨rfl, List.forall_mem_cons.mpr ⟨rfl, List.forall_mem_cons.mpr ⟨rfl, List.forall_mem_cons.mpr ⟨rfl, List.forall_mem_cons.mpr ⟨rfl, fun _ h => absurd h List.not_mem_nil⟩⟩⟩⟩⟩⟩⟩⟩⟩⟩⟩⟩) ?_
        exact J992 0 (rW (c := 0) (d := 1) (rR (x := 0)) rfl) (((((((W964 z957 rfl h959).2 h966) z969 q970 h971) z972 q973 h974).2 h1192) z1195 q1196 h1197).1 h1199)
      have h1201 : 1 ≤ z1195 ∧ z1195 ≤ 20 := (vc_X12_write_59 h1199 h1198)
      refine sv_aload_n (pc := 64) dX12_unlike_64 rfl rfl ?_
      refine gf_X12_32 (pc := 65) dX12_unlike_65 wF_X12_148 (A_106 hw) hT ?_
      refine mr_iload (pc := 68) (z := (40 * p2)) dX12_unlike_68 rfl ?_
      refine mr_bipush (pc := 70) (z := 6) dX12_unlike_70 (by decide) ?_
      refine mr_iadd (pc := 72) (x := (40 * p2)) (y := 6) dX12_unlike_72 ?_
      refine la_126 (pc := 73) dX12_unlike_73 (A_126 hw) hT (rIx (n := 84000) (rAdd (e := 6) (f := 83966) (rMulL (n := 40) (e := 0) (f := 83960) hp2 rfl) (rR (x := 6)) rfl) rfl) fun z1202 q1203 h1204 => ?_
      refine sv_aload_n (pc := 74) dX12_unlike_74 rfl rfl ?_
      refine gf_X12_32 (pc := 75) dX12_unlike_75 wF_X12_148 (A_106 hw) hT ?_
      refine mr_iload (pc := 78) (z := (40 * p4)) dX12_unlike_78 rfl ?_
      refine mr_bipush (pc := 80) (z := 6) dX12_unlike_80 (by decide) ?_
      refine mr_iadd (pc := 82) (x := (40 * p4)) (y := 6) dX12_unlike_82 ?_
      refine la_126 (pc := 83) dX12_unlike_83 (A_126 hw) hT (rIx (n := 84000) (rAdd (e := 6) (f := 83966) (rMulL (n := 40) (e := 0) (f := 83960) hp4 rfl) (rR (x := 6)) rfl) rfl) fun z1205 q1206 h1207 => ?_
      refine mr_icmp_ne (pc := 84) (tgt := 91) dX12_unlike_84 (by decide) h1204.1 h1207.1 (fun h1208 => ?_) (fun h1208 => ?_)
      · refine mr_iconst (pc := 91) (z := 0) dX12_unlike_91 ?_
        refine mr_lvS (lv' := [(0, .ref 106), (1, iv p1), (2, iv p2), (3, iv p3), (4, iv p4), (5, iv p5), (6, iv p6), (7, iv z957), (8, iv z969), (9, iv 0), (10, iv (40 * p2)), (11, iv (40 * p4))]) (List.forall_mem_cons.mpr ⟨rfl, List.forall_mem_cons.mpr ⟨rfl, List.forall_mem_cons.mpr ⟨rfl, List.forall_mem_cons.mpr ⟨rfl, List.forall_mem_cons.mpr ⟨rfl, List.forall_mem_cons.mpr ⟨rfl, List.forall_mem_cons.mpr ⟨rfl, List.forall_mem_cons.mpr ⟨rfl, List.forall_mem_cons.mpr ⟨rfl, List.forall_mem_cons.mpr ⟨rfl, List.forall_mem_cons.mpr ⟨rfl, List.forall_mem_cons.mpr ⟨rfl, fun _ h => absurd h List.not_mem_nil⟩⟩⟩⟩⟩⟩⟩⟩⟩⟩⟩⟩) ?_
        exact J992 0 (rW (c := 0) (d := 1) (rR (x := 0)) rfl) ((((((((((W964 z957 rfl h959).2 h966) z969 q970 h971) z972 q973 h974).2 h1192) z1195 q1196 h1197).2 h1199) z1202 q1203 h1204) z1205 q1206 h1207).1 h1208)
      refine mr_iconst (pc := 87) (z := 1) dX12_unlike_87 ?_
      refine sv_goto (pc := 88) (tgt := 92) dX12_unlike_88 (by decide) ?_
      refine mr_lvS (lv' := [(0, .ref 106), (1, iv p1), (2, iv p2), (3, iv p3), (4, iv p4), (5, iv p5), (6, iv p6), (7, iv z957), (8, iv z969), (9, iv 0), (10, iv (40 * p2)), (11, iv (40 * p4))]) (List.forall_mem_cons.mpr ⟨rfl, List.forall_mem_cons.mpr ⟨rfl, List.forall_mem_cons.mpr ⟨rfl, List.forall_mem_cons.mpr ⟨rfl, List.forall_mem_cons.mpr ⟨rfl, List.forall_mem_cons.mpr ⟨rfl, List.forall_mem_cons.mpr ⟨rfl, List.forall_mem_cons.mpr ⟨rfl, List.forall_mem_cons.mpr ⟨rfl, List.forall_mem_cons.mpr ⟨rfl, List.forall_mem_cons.mpr ⟨rfl, List.forall_mem_cons.mpr ⟨rfl, fun _ h => absurd h List.not_mem_nil⟩⟩⟩⟩⟩⟩⟩⟩⟩⟩⟩⟩) ?_
      exact J992 1 (rW (c := 0) (d := 1) (rR (x := 1)) rfl) ((((((((((W964 z957 rfl h959).2 h966) z969 q970 h971) z972 q973 h974).2 h1192) z1195 q1196 h1197).2 h1199) z1202 q1203 h1204) z1205 q1206 h1207).2 h1208)
  refine mr_lvS (lv' := [(0, .ref 106), (1, iv p1), (2, iv p2), (3, iv p3), (4, iv p4), (5, iv p5), (6, iv p6), (7, iv 0)]) (List.forall_mem_cons.mpr ⟨rfl, List.forall_mem_cons.mpr ⟨rfl, List.forall_mem_cons.mpr ⟨rfl, List.forall_mem_cons.mpr ⟨rfl, List.forall_mem_cons.mpr ⟨rfl, List.forall_mem_cons.mpr ⟨rfl, List.forall_mem_cons.mpr ⟨rfl, List.forall_mem_cons.mpr ⟨rfl, fun _ h => absurd h List.not_mem_nil⟩⟩⟩⟩⟩⟩⟩⟩) ?_
  exact L958 8 0 trivial (rW (c := 0) (d := 6) (rR (x := 0)) rfl) vc_X12_wish_56 hQ
