theorem vc_X12_slot_1 {p1 p2 p3 : Int} (h0 : 0 ≤ p1 ∧ p1 ≤ 20) (h1 : 0 ≤ p2 ∧ p2 ≤ 2) (h2 : 0 ≤ p3 ∧ p3 ≤ 9) : ((((2 * p1) + p2) * 10) + p3) = 20 * p1 + 10 * p2 + p3 := by omega
set_option maxRecDepth 4000 in
set_option maxHeartbeats 4000000 in
theorem c_X12_slot {l : Launch} {D : va_G} {c : Nat → ClassId} {H0 : Heap} {sa : Nat × Nat × (Nat → Int32)} {w : mW} {μ : mM} (hw : mWF w) (hT : mT w μ) {p1 : Int} (hp1 : 0 ≤ p1 ∧ p1 ≤ 20) {p2 : Int} (hp2 : 0 ≤ p2 ∧ p2 ≤ 2) {p3 : Int} (hp3 : 0 ≤ p3 ∧ p3 ≤ 9) : sC (gG l D c H0 sa) mX12_slot 1 0 0 [iv p1, iv p2, iv p3] (mk w μ) (qP w μ (fun z => (0 ≤ z ∧ z ≤ 449) ∧ (z = 20 * p1 + 10 * p2 + p3) ∧ True)) := by
  refine sC.of rfl (by decide) (le_t rfl) ?_
  refine mr_lvE (lv' := [(0, iv p1), (1, iv p2), (2, iv p3)]) rfl ?_
  refine mr_iconst (pc := 0) (z := 2) dX12_slot_0 ?_
  refine mr_iload_n (pc := 1) (z := p1) dX12_slot_1 rfl rfl ?_
  refine mr_imul (pc := 2) (x := 2) (y := p1) dX12_slot_2 ?_
  refine mr_iload_n (pc := 3) (z := p2) dX12_slot_3 rfl rfl ?_
  refine mr_iadd (pc := 4) (x := (2 * p1)) (y := p2) dX12_slot_4 ?_
  refine mr_bipush (pc := 5) (z := 10) dX12_slot_5 (by decide) ?_
  refine mr_imul (pc := 7) (x := ((2 * p1) + p2)) (y := 10) dX12_slot_7 ?_
  refine mr_iload_n (pc := 8) (z := p3) dX12_slot_8 rfl rfl ?_
  refine mr_iadd (pc := 9) (x := (((2 * p1) + p2) * 10)) (y := p3) dX12_slot_9 ?_
  exact mr_iretP dX12_slot_10 rfl (le_t rfl) (le_t rfl) ⟨(rW (c := 0) (d := 449) (rAdd (e := 0) (f := 429) (rMulR (n := 10) (e := 0) (f := 420) (rAdd (e := 0) (f := 42) (rMulL (n := 2) (e := 0) (f := 40) hp1 rfl) hp2 rfl) rfl) hp3 rfl) rfl), (vc_X12_slot_1 hp1 hp2 hp3), trivial⟩
theorem vc_X12_sideOf_1 {f_e0 p2 : Int} (h0 : ¬ f_e0 = p2) (h1 : 0 ≤ f_e0 ∧ f_e0 ≤ 9) (h2 : (-2147483648) ≤ p2 ∧ p2 ≤ 2147483647) : (1 : Int) = 0 → f_e0 = p2 := by omega
theorem vc_X12_sideOf_2 {f_e0 p2 : Int} (h0 : ¬ f_e0 = p2) (h1 : 0 ≤ f_e0 ∧ f_e0 ≤ 9) (h2 : (-2147483648) ≤ p2 ∧ p2 ≤ 2147483647) : (1 : Int) = 1 → ¬ f_e0 = p2 := by omega
theorem vc_X12_sideOf_3 {f_e0 p2 : Int} (h0 : f_e0 = p2) (h1 : 0 ≤ f_e0 ∧ f_e0 ≤ 9) (h2 : (-2147483648) ≤ p2 ∧ p2 ≤ 2147483647) : 0 ≤ p2 ∧ p2 ≤ 9 := by omega
theorem vc_X12_sideOf_4 {f_e0 p2 : Int} (h0 : f_e0 = p2) (h1 : 0 ≤ f_e0 ∧ f_e0 ≤ 9) (h2 : 0 ≤ p2 ∧ p2 ≤ 9) : (0 : Int) = 0 → f_e0 = p2 := by omega
theorem vc_X12_sideOf_5 {f_e0 p2 : Int} (h0 : f_e0 = p2) (h1 : 0 ≤ f_e0 ∧ f_e0 ≤ 9) (h2 : 0 ≤ p2 ∧ p2 ≤ 9) : (0 : Int) = 1 → ¬ f_e0 = p2 := by omega
set_option maxRecDepth 4000 in
set_option maxHeartbeats 4000000 in
theorem c_X12_sideOf {l : Launch} {D : va_G} {c : Nat → ClassId} {H0 : Heap} {sa : Nat × Nat × (Nat → Int32)} {w : mW} {μ : mM} (hw : mWF w) (hT : mT w μ) {p1 : Int} (hp1 : 0 ≤ p1 ∧ p1 ≤ 19) {p2 : Int} (hp2 : (-2147483648) ≤ p2 ∧ p2 ≤ 2147483647) {f_e0 : Int} (q_f_e0 : μ 110 ((2 * p1).toNat) = f_e0) : sC (gG l D c H0 sa) mX12_sideOf 1 0 0 [.ref 106, iv p1, iv p2] (mk w μ) (qP w μ (fun z => (0 ≤ z ∧ z ≤ 1) ∧ (z = 0 → f_e0 = p2) ∧ (z = 1 → ¬ f_e0 = p2) ∧ True)) := by
  refine sC.of rfl (by decide) (le_t rfl) ?_
  have ht_f_e0 : (0 ≤ f_e0 ∧ f_e0 ≤ 9) := by rw [← q_f_e0]; exact hT 110 110 (A_110 hw) ((2 * p1).toNat)
  refine mr_lvE (lv' := [(0, .ref 106), (1, iv p1), (2, iv p2)]) rfl ?_
  refine sv_aload_n (pc := 0) dX12_sideOf_0 rfl rfl ?_
  refine gf_X12_7 (pc := 1) dX12_sideOf_1 wF_X12_40 (A_106 hw) hT ?_
  refine mr_iconst (pc := 4) (z := 2) dX12_sideOf_4 ?_
  refine mr_iload_n (pc := 5) (z := p1) dX12_sideOf_5 rfl rfl ?_
  refine mr_imul (pc := 6) (x := 2) (y := p1) dX12_sideOf_6 ?_
  refine lk_110 (pc := 7) dX12_sideOf_7 (A_110 hw) (rIx (n := 40) (rMulL (n := 2) (e := 0) (f := 38) hp1 rfl) rfl) q_f_e0 ?_
  refine mr_iload_n (pc := 8) (z := p2) dX12_sideOf_8 rfl rfl ?_
  refine mr_icmp_ne (pc := 9) (tgt := 16) dX12_sideOf_9 (by decide) (r32 ht_f_e0 rfl) hp2 (fun h5 => ?_) (fun h5 => ?_)
  · refine mr_iconst (pc := 16) (z := 1) dX12_sideOf_16 ?_
    exact mr_iretP dX12_sideOf_17 rfl (le_t rfl) (le_t rfl) ⟨(rW (c := 0) (d := 1) (rR (x := 1)) rfl), (vc_X12_sideOf_1 h5 ht_f_e0 hp2), (vc_X12_sideOf_2 h5 ht_f_e0 hp2), trivial⟩
  have h6 : 0 ≤ p2 ∧ p2 ≤ 9 := (vc_X12_sideOf_3 h5 ht_f_e0 hp2)
  refine mr_iconst (pc := 12) (z := 0) dX12_sideOf_12 ?_
  refine sv_goto (pc := 13) (tgt := 17) dX12_sideOf_13 (by decide) ?_
  exact mr_iretP dX12_sideOf_17 rfl (le_t rfl) (le_t rfl) ⟨(rW (c := 0) (d := 1) (rR (x := 0)) rfl), (vc_X12_sideOf_4 h5 ht_f_e0 h6), (vc_X12_sideOf_5 h5 ht_f_e0 h6), trivial⟩
theorem vc_X12_isAt_1 {f_e0 p2 : Int} (h0 : f_e0 = p2) (h1 : 0 ≤ f_e0 ∧ f_e0 ≤ 9) (h2 : (-2147483648) ≤ p2 ∧ p2 ≤ 2147483647) : 0 ≤ p2 ∧ p2 ≤ 9 := by omega
theorem vc_X12_isAt_2 {f_e0 f_e1 p2 : Int} (h0 : f_e0 = p2) (h1 : 0 ≤ f_e0 ∧ f_e0 ≤ 9) (h2 : 0 ≤ f_e1 ∧ f_e1 ≤ 9) (h3 : 0 ≤ p2 ∧ p2 ≤ 9) : (1 : Int) = 1 → f_e0 = p2 ∨ f_e1 = p2 := by omega
theorem vc_X12_isAt_3 {f_e0 f_e1 p2 : Int} (h0 : f_e0 = p2) (h1 : 0 ≤ f_e0 ∧ f_e0 ≤ 9) (h2 : 0 ≤ f_e1 ∧ f_e1 ≤ 9) (h3 : 0 ≤ p2 ∧ p2 ≤ 9) : (1 : Int) = 0 → ¬ f_e0 = p2 ∧ ¬ f_e1 = p2 := by omega
theorem vc_X12_isAt_4 {f_e0 f_e1 p2 : Int} (h0 : ¬ f_e0 = p2) (h1 : ¬ f_e1 = p2) (h2 : 0 ≤ f_e0 ∧ f_e0 ≤ 9) (h3 : 0 ≤ f_e1 ∧ f_e1 ≤ 9) (h4 : (-2147483648) ≤ p2 ∧ p2 ≤ 2147483647) : (0 : Int) = 1 → f_e0 = p2 ∨ f_e1 = p2 := by omega
theorem vc_X12_isAt_5 {f_e0 f_e1 p2 : Int} (h0 : ¬ f_e0 = p2) (h1 : ¬ f_e1 = p2) (h2 : 0 ≤ f_e0 ∧ f_e0 ≤ 9) (h3 : 0 ≤ f_e1 ∧ f_e1 ≤ 9) (h4 : (-2147483648) ≤ p2 ∧ p2 ≤ 2147483647) : (0 : Int) = 0 → ¬ f_e0 = p2 ∧ ¬ f_e1 = p2 := by omega
theorem vc_X12_isAt_6 {f_e0 f_e1 p2 : Int} (h0 : f_e1 = p2) (h1 : ¬ f_e0 = p2) (h2 : 0 ≤ f_e0 ∧ f_e0 ≤ 9) (h3 : 0 ≤ f_e1 ∧ f_e1 ≤ 9) (h4 : (-2147483648) ≤ p2 ∧ p2 ≤ 2147483647) : 0 ≤ p2 ∧ p2 ≤ 9 := by omega
theorem vc_X12_isAt_7 {f_e0 f_e1 p2 : Int} (h0 : ¬ f_e0 = p2) (h1 : f_e1 = p2) (h2 : 0 ≤ f_e0 ∧ f_e0 ≤ 9) (h3 : 0 ≤ f_e1 ∧ f_e1 ≤ 9) (h4 : 0 ≤ p2 ∧ p2 ≤ 9) : (1 : Int) = 1 → f_e0 = p2 ∨ f_e1 = p2 := by omega
theorem vc_X12_isAt_8 {f_e0 f_e1 p2 : Int} (h0 : ¬ f_e0 = p2) (h1 : f_e1 = p2) (h2 : 0 ≤ f_e0 ∧ f_e0 ≤ 9) (h3 : 0 ≤ f_e1 ∧ f_e1 ≤ 9) (h4 : 0 ≤ p2 ∧ p2 ≤ 9) : (1 : Int) = 0 → ¬ f_e0 = p2 ∧ ¬ f_e1 = p2 := by omega
set_option maxRecDepth 4000 in
set_option maxHeartbeats 4000000 in
theorem c_X12_isAt {l : Launch} {D : va_G} {c : Nat → ClassId} {H0 : Heap} {sa : Nat × Nat × (Nat → Int32)} {w : mW} {μ : mM} (hw : mWF w) (hT : mT w μ) {p1 : Int} (hp1 : 0 ≤ p1 ∧ p1 ≤ 19) {p2 : Int} (hp2 : (-2147483648) ≤ p2 ∧ p2 ≤ 2147483647) {f_e0 : Int} (q_f_e0 : μ 110 ((2 * p1).toNat) = f_e0) {f_e1 : Int} (q_f_e1 : μ 110 (((2 * p1) + 1).toNat) = f_e1) : sC (gG l D c H0 sa) mX12_isAt 1 0 0 [.ref 106, iv p1, iv p2] (mk w μ) (qP w μ (fun z => (0 ≤ z ∧ z ≤ 1) ∧ (z = 1 → f_e0 = p2 ∨ f_e1 = p2) ∧ (z = 0 → ¬ f_e0 = p2 ∧ ¬ f_e1 = p2) ∧ True)) := by
  refine sC.of rfl (by decide) (le_t rfl) ?_
  have ht_f_e0 : (0 ≤ f_e0 ∧ f_e0 ≤ 9) := by rw [← q_f_e0]; exact hT 110 110 (A_110 hw) ((2 * p1).toNat)
  have ht_f_e1 : (0 ≤ f_e1 ∧ f_e1 ≤ 9) := by rw [← q_f_e1]; exact hT 110 110 (A_110 hw) (((2 * p1) + 1).toNat)
  refine mr_lvE (lv' := [(0, .ref 106), (1, iv p1), (2, iv p2)]) rfl ?_
  refine sv_aload_n (pc := 0) dX12_isAt_0 rfl rfl ?_
  refine gf_X12_7 (pc := 1) dX12_isAt_1 wF_X12_40 (A_106 hw) hT ?_
  refine mr_iconst (pc := 4) (z := 2) dX12_isAt_4 ?_
  refine mr_iload_n (pc := 5) (z := p1) dX12_isAt_5 rfl rfl ?_
  refine mr_imul (pc := 6) (x := 2) (y := p1) dX12_isAt_6 ?_
  refine lk_110 (pc := 7) dX12_isAt_7 (A_110 hw) (rIx (n := 40) (rMulL (n := 2) (e := 0) (f := 38) hp1 rfl) rfl) q_f_e0 ?_
  refine mr_iload_n (pc := 8) (z := p2) dX12_isAt_8 rfl rfl ?_
  refine mr_icmp_eq (pc := 9) (tgt := 26) dX12_isAt_9 (by decide) (r32 ht_f_e0 rfl) hp2 (fun h9 => ?_) (fun h9 => ?_)
  · have h10 : 0 ≤ p2 ∧ p2 ≤ 9 := (vc_X12_isAt_1 h9 ht_f_e0 hp2)
    refine mr_iconst (pc := 26) (z := 1) dX12_isAt_26 ?_
    refine sv_goto (pc := 27) (tgt := 31) dX12_isAt_27 (by decide) ?_
    exact mr_zretP dX12_isAt_31 rfl (rW (c := 0) (d := 1) (rR (x := 1)) rfl) (le_t rfl) (le_t rfl) ⟨(rW (c := 0) (d := 1) (rR (x := 1)) rfl), (vc_X12_isAt_2 h9 ht_f_e0 ht_f_e1 h10), (vc_X12_isAt_3 h9 ht_f_e0 ht_f_e1 h10), trivial⟩
  refine sv_aload_n (pc := 12) dX12_isAt_12 rfl rfl ?_
  refine gf_X12_7 (pc := 13) dX12_isAt_13 wF_X12_40 (A_106 hw) hT ?_
  refine mr_iconst (pc := 16) (z := 2) dX12_isAt_16 ?_
  refine mr_iload_n (pc := 17) (z := p1) dX12_isAt_17 rfl rfl ?_
  refine mr_imul (pc := 18) (x := 2) (y := p1) dX12_isAt_18 ?_
  refine mr_iconst (pc := 19) (z := 1) dX12_isAt_19 ?_
  refine mr_iadd (pc := 20) (x := (2 * p1)) (y := 1) dX12_isAt_20 ?_
  refine lk_110 (pc := 21) dX12_isAt_21 (A_110 hw) (rIx (n := 40) (rAdd (e := 1) (f := 39) (rMulL (n := 2) (e := 0) (f := 38) hp1 rfl) (rR (x := 1)) rfl) rfl) q_f_e1 ?_
  refine mr_iload_n (pc := 22) (z := p2) dX12_isAt_22 rfl rfl ?_
  refine mr_icmp_ne (pc := 23) (tgt := 30) dX12_isAt_23 (by decide) (r32 ht_f_e1 rfl) hp2 (fun h12 => ?_) (fun h12 => ?_)
  · refine mr_iconst (pc := 30) (z := 0) dX12_isAt_30 ?_
    exact mr_zretP dX12_isAt_31 rfl (rW (c := 0) (d := 1) (rR (x := 0)) rfl) (le_t rfl) (le_t rfl) ⟨(rW (c := 0) (d := 1) (rR (x := 0)) rfl), (vc_X12_isAt_4 h9 h12 ht_f_e0 ht_f_e1 hp2), (vc_X12_isAt_5 h9 h12 ht_f_e0 ht_f_e1 hp2), trivial⟩
  have h13 : 0 ≤ p2 ∧ p2 ≤ 9 := (vc_X12_isAt_6 h12 h9 ht_f_e0 ht_f_e1 hp2)
  refine mr_iconst (pc := 26) (z := 1) dX12_isAt_26 ?_
  refine sv_goto (pc := 27) (tgt := 31) dX12_isAt_27 (by decide) ?_
  exact mr_zretP dX12_isAt_31 rfl (rW (c := 0) (d := 1) (rR (x := 1)) rfl) (le_t rfl) (le_t rfl) ⟨(rW (c := 0) (d := 1) (rR (x := 1)) rfl), (vc_X12_isAt_7 h9 h12 ht_f_e0 ht_f_e1 h13), (vc_X12_isAt_8 h9 h12 ht_f_e0 ht_f_e1 h13), trivial⟩
set_option maxRecDepth 4000 in
set_option maxHeartbeats 4000000 in
theorem c_X12_partnerOf {l : Launch} {D : va_G} {c : Nat → ClassId} {H0 : Heap} {sa : Nat × Nat × (Nat → Int32)} {w : mW} {μ : mM} (hw : mWF w) (hT : mT w μ) {p1 : Int} (hp1 : 0 ≤ p1 ∧ p1 ≤ 19) {p2 : Int} (hp2 : (-2147483648) ≤ p2 ∧ p2 ≤ 2147483647) : sC (gG l D c H0 sa) mX12_partnerOf 2 0 0 [.ref 106, iv p1, iv p2] (mk w μ) (qP w μ (fun z => (0 ≤ z ∧ z ≤ 9) ∧ True)) := by
  refine sC.of rfl (by decide) (le_t rfl) ?_
  refine mr_lvE (lv' := [(0, .ref 106), (1, iv p1), (2, iv p2)]) rfl ?_
  refine sv_aload_n (pc := 0) dX12_partnerOf_0 rfl rfl ?_
  refine gf_X12_7 (pc := 1) dX12_partnerOf_1 wF_X12_40 (A_106 hw) hT ?_
  refine mr_iconst (pc := 4) (z := 2) dX12_partnerOf_4 ?_
  refine mr_iload_n (pc := 5) (z := p1) dX12_partnerOf_5 rfl rfl ?_
  refine mr_imul (pc := 6) (x := 2) (y := p1) dX12_partnerOf_6 ?_
  refine mr_iconst (pc := 7) (z := 1) dX12_partnerOf_7 ?_
  refine mr_iadd (pc := 8) (x := (2 * p1)) (y := 1) dX12_partnerOf_8 ?_
  refine sv_aload_n (pc := 9) dX12_partnerOf_9 rfl rfl ?_
  refine mr_iload_n (pc := 10) (z := p1) dX12_partnerOf_10 rfl rfl ?_
  refine mr_iload_n (pc := 11) (z := p2) dX12_partnerOf_11 rfl rfl ?_
  obtain ⟨z1, q2⟩ : ∃ z, μ 110 ((2 * p1).toNat) = z := ⟨_, rfl⟩
  have h3 : (0 ≤ z1 ∧ z1 ≤ 9) := by rw [← q2]; exact hT 110 110 (A_110 hw) ((2 * p1).toNat)
  refine mr_cVP (pc := 12) (c_X12_sideOf hw hT hp1 hp2 q2) (gOk _ _ _ _ _) dX12_partnerOf_12 (tX12_sideOf _ _ _ _ _) ⟨wV_X12_sideOf, wL_X12_sideOf⟩ wM_X12_542 (gCX12 _ _ _ _ _) rfl (A_106 hw) rfl ⟨le_t rfl, le_t rfl⟩ ⟨le_t rfl, le_t rfl⟩ rfl (le_t rfl) fun z8 h7 => ?_
  refine mr_isub (pc := 15) (x := ((2 * p1) + 1)) (y := z8) dX12_partnerOf_15 ?_
  refine la_110 (pc := 16) dX12_partnerOf_16 (A_110 hw) hT (rIx (n := 40) (rSub (e := 0) (f := 39) (rAdd (e := 1) (f := 39) (rMulL (n := 2) (e := 0) (f := 38) hp1 rfl) (rR (x := 1)) rfl) h7.1 rfl) rfl) fun z9 q10 h11 => ?_
  exact mr_iretP dX12_partnerOf_17 rfl (le_t rfl) (le_t rfl) ⟨h11, trivial⟩
theorem vc_X12_unlike_1 {z925 : Int} (h0 : (7 - z925) < ((0 : Nat) : Int)) (h1 : 0 ≤ z925 ∧ z925 ≤ 6) : False := by omega
theorem vc_X12_unlike_2 {z925 : Int} (h0 : 6 ≤ z925) (h1 : 0 ≤ z925 ∧ z925 ≤ 6) : 6 ≤ z925 ∧ z925 ≤ 6 := by omega
theorem vc_X12_unlike_3 {z925 : Int} (h0 : z925 < 6) (h1 : 0 ≤ z925 ∧ z925 ≤ 6) : 0 ≤ z925 ∧ z925 ≤ 5 := by omega
theorem vc_X12_unlike_4 {p2 : Int} (h0 : 0 ≤ p2 ∧ p2 ≤ 2099) : ((40 * p2) + 4) % 40 = 4 := by omega
theorem vc_X12_unlike_5 {z1050 : Int} (h0 : z1050 = 0) (h1 : (-2147483648) ≤ z1050 ∧ z1050 ≤ 2147483647) : 0 ≤ z1050 ∧ z1050 ≤ 0 := by omega
theorem vc_X12_unlike_6 {N z925 : Int} (h0 : (7 - z925) < N + 1) (h1 : z925 < 6) (h2 : 0 ≤ z925 ∧ z925 ≤ 5) : (7 - (z925 + 1)) < N := by omega
theorem vc_X12_unlike_7 {z1050 : Int} (h0 : 0 ≤ z1050) (h1 : ¬ z1050 = 0) (h2 : (-2147483648) ≤ z1050 ∧ z1050 ≤ 2147483647) : 0 ≤ z1050 ∧ z1050 ≤ 2147483647 := by omega
theorem vc_X12_unlike_8 {z1050 : Int} (h0 : z1050 < 0) (h1 : ¬ z1050 = 0) (h2 : (-2147483648) ≤ z1050 ∧ z1050 ≤ 2147483647) : (-2147483648) ≤ z1050 ∧ z1050 ≤ (-1) := by omega
theorem vc_X12_unlike_9 {z936 : Int} (h0 : z936 = 5) (h1 : 0 ≤ z936 ∧ z936 ≤ 9) : 5 ≤ z936 ∧ z936 ≤ 5 := by omega
theorem vc_X12_unlike_10 {p1 p3 p6 z1062 z1069 z1074 : Int} (h0 : z1074 = (((20 * p3) + (10 * z1069)) + p6)) (h1 : (z1069 = 0 → z1062 = p1)) (h2 : (z1069 = 1 → ¬ z1062 = p1)) (h3 : 0 ≤ p1 ∧ p1 ≤ 9) (h4 : 0 ≤ p3 ∧ p3 ≤ 19) (h5 : 0 ≤ p6 ∧ p6 ≤ 9) (h6 : 0 ≤ z1062 ∧ z1062 ≤ 9) (h7 : 0 ≤ z1069 ∧ z1069 ≤ 1) (h8 : 0 ≤ z1074 ∧ z1074 ≤ 449) : 0 ≤ z1074 ∧ z1074 ≤ 399 := by omega
theorem vc_X12_unlike_11 {p1 p3 p5 p6 z1069 z1074 z1079 z1086 z1091 : Int} (h0 : z1091 = (((20 * p5) + (10 * z1086)) + p6)) (h1 : z1074 = (((20 * p3) + (10 * z1069)) + p6)) (h2 : (z1086 = 0 → z1079 = p1)) (h3 : (z1086 = 1 → ¬ z1079 = p1)) (h4 : 0 ≤ p1 ∧ p1 ≤ 9) (h5 : 0 ≤ p3 ∧ p3 ≤ 19) (h6 : 0 ≤ p5 ∧ p5 ≤ 19) (h7 : 0 ≤ p6 ∧ p6 ≤ 9) (h8 : 0 ≤ z1069 ∧ z1069 ≤ 1) (h9 : 0 ≤ z1074 ∧ z1074 ≤ 399) (h10 : 0 ≤ z1079 ∧ z1079 ≤ 9) (h11 : 0 ≤ z1086 ∧ z1086 ≤ 1) (h12 : 0 ≤ z1091 ∧ z1091 ≤ 449) : 0 ≤ z1091 ∧ z1091 ≤ 399 := by omega
theorem vc_X12_unlike_12 {z936 : Int} (h0 : z936 = 6) (h1 : ¬ z936 = 4) (h2 : 0 ≤ z936 ∧ z936 ≤ 9) : 6 ≤ z936 ∧ z936 ≤ 6 := by omega
theorem vc_X12_unlike_13 {z936 : Int} (h0 : z936 = 4) (h1 : 0 ≤ z936 ∧ z936 ≤ 9) : 4 ≤ z936 ∧ z936 ≤ 4 := by omega
theorem vc_X12_unlike_14 {z957 : Int} (h0 : ¬ z957 = 0) (h1 : 0 ≤ z957 ∧ z957 ≤ 1) : 1 ≤ z957 ∧ z957 ≤ 1 := by omega
theorem vc_X12_unlike_15 {z957 : Int} (h0 : z957 = 0) (h1 : 0 ≤ z957 ∧ z957 ≤ 1) : 0 ≤ z957 ∧ z957 ≤ 0 := by omega
theorem vc_X12_unlike_16 {z936 : Int} (h0 : z936 = 6) (h1 : 4 ≤ z936 ∧ z936 ≤ 4) : False := by omega
theorem vc_X12_unlike_17 {z936 : Int} (h0 : z936 = 3) (h1 : 0 ≤ z936 ∧ z936 ≤ 9) : 3 ≤ z936 ∧ z936 ≤ 3 := by omega
theorem vc_X12_unlike_18 {z936 : Int} (h0 : z936 = 2) (h1 : 0 ≤ z936 ∧ z936 ≤ 9) : 2 ≤ z936 ∧ z936 ≤ 2 := by omega
theorem vc_X12_unlike_19 {p4 : Int} (h0 : 0 ≤ p4 ∧ p4 ≤ 2099) : ((40 * p4) + 4) % 40 = 4 := by omega
theorem vc_X12_unlike_20 {z936 : Int} (h0 : z936 = 1) (h1 : 0 ≤ z936 ∧ z936 ≤ 9) : 1 ≤ z936 ∧ z936 ≤ 1 := by omega
theorem vc_X12_unlike_21 {z939 : Int} (h0 : z939 ≤ 0) (h1 : 0 ≤ z939 ∧ z939 ≤ 20) : 0 ≤ z939 ∧ z939 ≤ 0 := by omega
theorem vc_X12_unlike_22 {z939 : Int} (h0 : 0 < z939) (h1 : 0 ≤ z939 ∧ z939 ≤ 20) : 1 ≤ z939 ∧ z939 ≤ 20 := by omega
theorem vc_X12_unlike_23 {z1148 : Int} (h0 : z1148 ≤ 0) (h1 : 0 ≤ z1148 ∧ z1148 ≤ 20) : 0 ≤ z1148 ∧ z1148 ≤ 0 := by omega
theorem vc_X12_unlike_24 {z1148 : Int} (h0 : 0 < z1148) (h1 : 0 ≤ z1148 ∧ z1148 ≤ 20) : 1 ≤ z1148 ∧ z1148 ≤ 20 := by omega
theorem vc_X12_unlike_25  : (7 - 0) < ((8 : Nat) : Int) := by omega
set_option maxRecDepth 4000 in
set_option maxHeartbeats 4000000 in
theorem c_X12_unlike {l : Launch} {D : va_G} {c : Nat → ClassId} {H0 : Heap} {sa : Nat × Nat × (Nat → Int32)} {w : mW} {μ : mM} (hw : mWF w) (hT : mT w μ) {p1 : Int} (hp1 : 0 ≤ p1 ∧ p1 ≤ 9) {p2 : Int} (hp2 : 0 ≤ p2 ∧ p2 ≤ 2099) {p3 : Int} (hp3 : 0 ≤ p3 ∧ p3 ≤ 19) {p4 : Int} (hp4 : 0 ≤ p4 ∧ p4 ≤ 2099) {p5 : Int} (hp5 : 0 ≤ p5 ∧ p5 ≤ 19) {p6 : Int} (hp6 : 0 ≤ p6 ∧ p6 ≤ 9) : sC (gG l D c H0 sa) mX12_unlike 2 0 0 [.ref 106, iv p1, iv p2, iv p3, iv p4, iv p5, iv p6] (mk w μ) (qP w μ (fun z => ((-9) ≤ z ∧ z ≤ 9) ∧ True)) := by
  refine sC.of rfl (by decide) (le_t rfl) ?_
  refine mr_lvE (lv' := [(0, .ref 106), (1, iv p1), (2, iv p2), (3, iv p3), (4, iv p4), (5, iv p5), (6, iv p6)]) rfl ?_
  refine mr_iconst (pc := 0) (z := 0) dX12_unlike_0 ?_
  refine mr_istore (pc := 1) (lv' := [(7, iv 0), (0, .ref 106), (1, iv p1), (2, iv p2), (3, iv p3), (4, iv p4), (5, iv p5), (6, iv p6)]) dX12_unlike_1 (by decide) rfl ?_
  have L926 : ∀ (nL926 : Nat) (z925 : Int), True → (0 ≤ z925 ∧ z925 ≤ 6) → (7 - z925) < (nL926 : Int) → sV (gG l D c H0 sa) mX12_unlike (sRm 2 0 0) (sZ (gG l D c H0 sa) 0 0 (qP w μ (fun z => ((-9) ≤ z ∧ z ≤ 9) ∧ True))) 3 [(0, .ref 106), (1, iv p1), (2, iv p2), (3, iv p3), (4, iv p4), (5, iv p5), (6, iv p6), (7, iv z925)] [] (mk w μ) 0 0 := by
    intro nL926
    induction nL926 with
    | zero => intro z925 _ h927 h931; exact ((vc_X12_unlike_1 h931 h927)).elim
    | succ nL926 ih932 =>
      intro z925 _ h927 h931
      refine mr_iload (pc := 3) (z := z925) dX12_unlike_3 rfl ?_
      refine mr_bipush (pc := 5) (z := 6) dX12_unlike_5 (by decide) ?_
      refine mr_icmp_ge (pc := 7) (tgt := 284) dX12_unlike_7 (by decide) (r32 h927 rfl) (r32 (rR (x := 6)) rfl) (fun h933 => ?_) (fun h933 => ?_)
      · have h934 : 6 ≤ z925 ∧ z925 ≤ 6 := (vc_X12_unlike_2 h933 h927)
        refine mr_iconst (pc := 284) (z := 0) dX12_unlike_284 ?_
        exact mr_iretP dX12_unlike_285 rfl (le_t rfl) (le_t rfl) ⟨(rW (c := (-9)) (d := 9) (rR (x := 0)) rfl), trivial⟩
      have h935 : 0 ≤ z925 ∧ z925 ≤ 5 := (vc_X12_unlike_3 h933 h927)
      refine sv_aload_n (pc := 10) dX12_unlike_10 rfl rfl ?_
      refine gf_X12_83 (pc := 11) dX12_unlike_11 wF_X12_451 (A_106 hw) hT ?_
      refine mr_bipush (pc := 14) (z := 6) dX12_unlike_14 (by decide) ?_
      refine mr_iload_n (pc := 16) (z := p1) dX12_unlike_16 rfl rfl ?_
      refine mr_imul (pc := 17) (x := 6) (y := p1) dX12_unlike_17 ?_
      refine mr_iload (pc := 18) (z := z925) dX12_unlike_18 rfl ?_
      refine mr_iadd (pc := 20) (x := (6 * p1)) (y := z925) dX12_unlike_20 ?_
      refine la_163 (pc := 21) dX12_unlike_21 (A_163 hw) hT (rIx (n := 60) (rAdd (e := 0) (f := 59) (rMulL (n := 6) (e := 0) (f := 54) hp1 rfl) h935 rfl) rfl) fun z936 q937 h938 => ?_
      refine mr_istore (pc := 22) (lv' := [(8, iv z936), (0, .ref 106), (1, iv p1), (2, iv p2), (3, iv p3), (4, iv p4), (5, iv p5), (6, iv p6), (7, iv z925)]) dX12_unlike_22 (by decide) rfl ?_
      refine mr_iconst (pc := 24) (z := 0) dX12_unlike_24 ?_
      refine mr_istore (pc := 25) (lv' := [(9, iv 0), (8, iv z936), (0, .ref 106), (1, iv p1), (2, iv p2), (3, iv p3), (4, iv p4), (5, iv p5), (6, iv p6), (7, iv z925)]) dX12_unlike_25 (by decide) rfl ?_
      refine mr_bipush (pc := 27) (z := 40) dX12_unlike_27 (by decide) ?_
      refine mr_iload_n (pc := 29) (z := p2) dX12_unlike_29 rfl rfl ?_
      refine mr_imul (pc := 30) (x := 40) (y := p2) dX12_unlike_30 ?_
      refine mr_istore (pc := 31) (lv' := [(10, iv (40 * p2)), (9, iv 0), (8, iv z936), (0, .ref 106), (1, iv p1), (2, iv p2), (3, iv p3), (4, iv p4), (5, iv p5), (6, iv p6), (7, iv z925)]) dX12_unlike_31 (by decide) rfl ?_
      refine mr_bipush (pc := 33) (z := 40) dX12_unlike_33 (by decide) ?_
      refine mr_iload (pc := 35) (z := p4) dX12_unlike_35 rfl ?_
      refine mr_imul (pc := 37) (x := 40) (y := p4) dX12_unlike_37 ?_
      refine mr_istore (pc := 38) (lv' := [(11, iv (40 * p4)), (10, iv (40 * p2)), (9, iv 0), (8, iv z936), (0, .ref 106), (1, iv p1), (2, iv p2), (3, iv p3), (4, iv p4), (5, iv p5), (6, iv p6), (7, iv z925)]) dX12_unlike_38 (by decide) rfl ?_
      refine sv_aload_n (pc := 40) dX12_unlike_40 rfl rfl ?_
      refine gf_X12_32 (pc := 41) dX12_unlike_41 wF_X12_148 (A_106 hw) hT ?_
      refine mr_iload (pc := 44) (z := (40 * p2)) dX12_unlike_44 rfl ?_
      refine mr_iconst (pc := 46) (z := 4) dX12_unlike_46 ?_
      refine mr_iadd (pc := 47) (x := (40 * p2)) (y := 4) dX12_unlike_47 ?_
      refine la_126 (pc := 48) dX12_unlike_48 (A_126 hw) hT (rIx (n := 84000) (rAdd (e := 4) (f := 83964) (rMulL (n := 40) (e := 0) (f := 83960) hp2 rfl) (rR (x := 4)) rfl) rfl) fun z939 q940 h941 => ?_
      have h942 : 0 ≤ z939 ∧ z939 ≤ 20 := h941.2.2.1 (vc_X12_unlike_4 hp2)
      have J959 : ∀ (z957 : Int), ((0 ≤ z957 ∧ z957 ≤ 1)) → sV (gG l D c H0 sa) mX12_unlike (sRm 2 0 0) (sZ (gG l D c H0 sa) 0 0 (qP w μ (fun z => ((-9) ≤ z ∧ z ≤ 9) ∧ True))) 92 [(0, .ref 106), (1, iv p1), (2, iv p2), (3, iv p3), (4, iv p4), (5, iv p5), (6, iv p6), (7, iv z925), (8, iv z936), (9, iv 0), (10, iv (40 * p2)), (11, iv (40 * p4))] [iv z957] (mk w μ) 0 0 := by
        intro z957 h958
        refine mr_istore (pc := 92) (lv' := [(12, iv z957), (0, .ref 106), (1, iv p1), (2, iv p2), (3, iv p3), (4, iv p4), (5, iv p5), (6, iv p6), (7, iv z925), (8, iv z936), (9, iv 0), (10, iv (40 * p2)), (11, iv (40 * p4))]) dX12_unlike_92 (by decide) rfl ?_
        refine mr_iload (pc := 94) (z := z936) dX12_unlike_94 rfl ?_
        refine mr_iconst (pc := 96) (z := 1) dX12_unlike_96 ?_
        have J971 : ∀ (z969 : Int), (((-2147483648) ≤ z969 ∧ z969 ≤ 2147483647)) → sV (gG l D c H0 sa) mX12_unlike (sRm 2 0 0) (sZ (gG l D c H0 sa) 0 0 (qP w μ (fun z => ((-9) ≤ z ∧ z ≤ 9) ∧ True))) 121 [(0, .ref 106), (1, iv p1), (2, iv p2), (3, iv p3), (4, iv p4), (5, iv p5), (6, iv p6), (7, iv z925), (8, iv z936), (9, iv z969), (10, iv (40 * p2)), (11, iv (40 * p4)), (12, iv z957)] [] (mk w μ) 0 0 := by
          intro z969 h970
          refine mr_iload (pc := 121) (z := z936) dX12_unlike_121 rfl ?_
          refine mr_iconst (pc := 123) (z := 2) dX12_unlike_123 ?_
          have J979 : ∀ (z977 : Int), (((-2147483648) ≤ z977 ∧ z977 ≤ 2147483647)) → sV (gG l D c H0 sa) mX12_unlike (sRm 2 0 0) (sZ (gG l D c H0 sa) 0 0 (qP w μ (fun z => ((-9) ≤ z ∧ z ≤ 9) ∧ True))) 148 [(0, .ref 106), (1, iv p1), (2, iv p2), (3, iv p3), (4, iv p4), (5, iv p5), (6, iv p6), (7, iv z925), (8, iv z936), (9, iv z977), (10, iv (40 * p2)), (11, iv (40 * p4)), (12, iv z957)] [] (mk w μ) 0 0 := by
            intro z977 h978
            refine mr_iload (pc := 148) (z := z936) dX12_unlike_148 rfl ?_
            refine mr_iconst (pc := 150) (z := 3) dX12_unlike_150 ?_
            have J991 : ∀ (z989 : Int), (((-2147483648) ≤ z989 ∧ z989 ≤ 2147483647)) → sV (gG l D c H0 sa) mX12_unlike (sRm 2 0 0) (sZ (gG l D c H0 sa) 0 0 (qP w μ (fun z => ((-9) ≤ z ∧ z ≤ 9) ∧ True))) 175 [(0, .ref 106), (1, iv p1), (2, iv p2), (3, iv p3), (4, iv p4), (5, iv p5), (6, iv p6), (7, iv z925), (8, iv z936), (9, iv z989), (10, iv (40 * p2)), (11, iv (40 * p4)), (12, iv z957)] [] (mk w μ) 0 0 := by
              intro z989 h990
              refine mr_iload (pc := 175) (z := z936) dX12_unlike_175 rfl ?_
              refine mr_iconst (pc := 177) (z := 4) dX12_unlike_177 ?_
              have J1014 : ∀ (z1012 : Int), (((-2147483648) ≤ z1012 ∧ z1012 ≤ 2147483647)) → sV (gG l D c H0 sa) mX12_unlike (sRm 2 0 0) (sZ (gG l D c H0 sa) 0 0 (qP w μ (fun z => ((-9) ≤ z ∧ z ≤ 9) ∧ True))) 214 [(0, .ref 106), (1, iv p1), (2, iv p2), (3, iv p3), (4, iv p4), (5, iv p5), (6, iv p6), (7, iv z925), (8, iv z936), (9, iv z1012)] [] (mk w μ) 0 0 := by
                intro z1012 h1013
                refine mr_iload (pc := 214) (z := z936) dX12_unlike_214 rfl ?_
                refine mr_iconst (pc := 216) (z := 5) dX12_unlike_216 ?_
                have J1052 : ∀ (z1050 : Int), (((-2147483648) ≤ z1050 ∧ z1050 ≤ 2147483647)) → sV (gG l D c H0 sa) mX12_unlike (sRm 2 0 0) (sZ (gG l D c H0 sa) 0 0 (qP w μ (fun z => ((-9) ≤ z ∧ z ≤ 9) ∧ True))) 259 [(0, .ref 106), (1, iv p1), (2, iv p2), (3, iv p3), (4, iv p4), (5, iv p5), (6, iv p6), (7, iv z925), (8, iv z936), (9, iv z1050)] [] (mk w μ) 0 0 := by
                  intro z1050 h1051
                  refine mr_iload (pc := 259) (z := z1050) dX12_unlike_259 rfl ?_
                  refine mr_if_eq (pc := 261) (tgt := 278) dX12_unlike_261 (by decide) h1051 (fun h1053 => ?_) (fun h1053 => ?_)
                  · have h1054 : 0 ≤ z1050 ∧ z1050 ≤ 0 := (vc_X12_unlike_5 h1053 h1051)
                    refine mr_iinc (pc := 278) (lv' := [(7, iv (z925 + 1)), (0, .ref 106), (1, iv p1), (2, iv p2), (3, iv p3), (4, iv p4), (5, iv p5), (6, iv p6), (8, iv z936), (9, iv z1050)]) dX12_unlike_278 rfl (by decide) rfl ?_
                    refine sv_goto (pc := 281) (tgt := 3) dX12_unlike_281 (by decide) ?_
                    refine mr_lvS (lv' := [(0, .ref 106), (1, iv p1), (2, iv p2), (3, iv p3), (4, iv p4), (5, iv p5), (6, iv p6), (7, iv (z925 + 1))]) (List.forall_mem_cons.mpr ⟨rfl, List.forall_mem_cons.mpr ⟨rfl, List.forall_mem_cons.mpr ⟨rfl, List.forall_mem_cons.mpr ⟨rfl, List.forall_mem_cons.mpr ⟨rfl, List.forall_mem_cons.mpr ⟨rfl, List.forall_mem_cons.mpr ⟨rfl, List.forall_mem_cons.mpr ⟨rfl, fun _ h => absurd h List.not_mem_nil⟩⟩⟩⟩⟩⟩⟩⟩) ?_
                    exact ih932 (z925 + 1) trivial (rW (c := 0) (d := 6) (rAdd (e := 1) (f := 6) h935 (rR (x := 1)) rfl) rfl) (vc_X12_unlike_6 (nS h931) h933 h935)
                  refine mr_iload (pc := 264) (z := z1050) dX12_unlike_264 rfl ?_
                  refine mr_if_ge (pc := 266) (tgt := 274) dX12_unlike_266 (by decide) h1051 (fun h1057 => ?_) (fun h1057 => ?_)
                  · have h1058 : 0 ≤ z1050 ∧ z1050 ≤ 2147483647 := (vc_X12_unlike_7 h1057 h1053 h1051)
                    refine mr_iload (pc := 274) (z := z936) dX12_unlike_274 rfl ?_
                    refine mr_ineg (pc := 276) dX12_unlike_276 ?_
                    refine mr_negS ?_
                    exact mr_iretP dX12_unlike_277 rfl (le_t rfl) (le_t rfl) ⟨(rW (c := (-9)) (d := 9) (rSub (e := (-9)) (f := 0) (rR (x := 0)) h938 rfl) rfl), trivial⟩
                  have h1059 : (-2147483648) ≤ z1050 ∧ z1050 ≤ (-1) := (vc_X12_unlike_8 h1057 h1053 h1051)
                  refine mr_iload (pc := 269) (z := z936) dX12_unlike_269 rfl ?_
                  refine sv_goto (pc := 271) (tgt := 277) dX12_unlike_271 (by decide) ?_
                  exact mr_iretP dX12_unlike_277 rfl (le_t rfl) (le_t rfl) ⟨(rW (c := (-9)) (d := 9) h938 rfl), trivial⟩
                refine mr_icmp_ne (pc := 217) (tgt := 259) dX12_unlike_217 (by decide) (r32 h938 rfl) (r32 (rR (x := 5)) rfl) (fun h1060 => ?_) (fun h1060 => ?_)
                · exact J1052 z1012 h1013
                have h1061 : 5 ≤ z936 ∧ z936 ≤ 5 := (vc_X12_unlike_9 h1060 h938)
                refine sv_aload_n (pc := 220) dX12_unlike_220 rfl rfl ?_
                refine gf_X12_74 (pc := 221) dX12_unlike_221 wF_X12_424 (A_106 hw) hT ?_
                refine mr_iload_n (pc := 224) (z := p3) dX12_unlike_224 rfl rfl ?_
                refine sv_aload_n (pc := 225) dX12_unlike_225 rfl rfl ?_
                refine mr_iload_n (pc := 226) (z := p3) dX12_unlike_226 rfl rfl ?_
                refine mr_iload_n (pc := 227) (z := p1) dX12_unlike_227 rfl rfl ?_
                obtain ⟨z1062, q1063⟩ : ∃ z, μ 110 ((2 * p3).toNat) = z := ⟨_, rfl⟩
                have h1064 : (0 ≤ z1062 ∧ z1062 ≤ 9) := by rw [← q1063]; exact hT 110 110 (A_110 hw) ((2 * p3).toNat)
                refine mr_cVP (pc := 228) (c_X12_sideOf hw hT hp3 (rW (c := (-2147483648)) (d := 2147483647) hp1 rfl) q1063) (gOk _ _ _ _ _) dX12_unlike_228 (tX12_sideOf _ _ _ _ _) ⟨wV_X12_sideOf, wL_X12_sideOf⟩ wM_X12_542 (gCX12 _ _ _ _ _) rfl (A_106 hw) rfl ⟨le_t rfl, le_t rfl⟩ ⟨le_t rfl, le_t rfl⟩ rfl (le_t rfl) fun z1069 h1068 => ?_
                refine mr_iload (pc := 231) (z := p6) dX12_unlike_231 rfl ?_
                refine mr_cSP (pc := 233) (c_X12_slot hw hT (rW (c := 0) (d := 20) hp3 rfl) (rW (c := 0) (d := 2) h1068.1 rfl) hp6) (gOk _ _ _ _ _) dX12_unlike_233 (tX12_slot _ _ _ _ _) wS_X12_slot wM_X12_545 ⟨le_t rfl, le_t rfl⟩ ⟨le_t rfl, le_t rfl⟩ rfl (le_t rfl) fun z1074 h1073 => ?_
                have h1075 : 0 ≤ z1074 ∧ z1074 ≤ 399 := (vc_X12_unlike_10 h1073.2.1 h1068.2.1 h1068.2.2.1 hp1 hp3 hp6 h1064 h1068.1 h1073.1)
                refine la_154 (pc := 236) dX12_unlike_236 (A_154 hw) hT (rIx (n := 400) h1075 rfl) fun z1076 q1077 h1078 => ?_
                refine sv_aload_n (pc := 237) dX12_unlike_237 rfl rfl ?_
                refine gf_X12_74 (pc := 238) dX12_unlike_238 wF_X12_424 (A_106 hw) hT ?_
                refine mr_iload (pc := 241) (z := p5) dX12_unlike_241 rfl ?_
                refine sv_aload_n (pc := 243) dX12_unlike_243 rfl rfl ?_
                refine mr_iload (pc := 244) (z := p5) dX12_unlike_244 rfl ?_
                refine mr_iload_n (pc := 246) (z := p1) dX12_unlike_246 rfl rfl ?_
                obtain ⟨z1079, q1080⟩ : ∃ z, μ 110 ((2 * p5).toNat) = z := ⟨_, rfl⟩
                have h1081 : (0 ≤ z1079 ∧ z1079 ≤ 9) := by rw [← q1080]; exact hT 110 110 (A_110 hw) ((2 * p5).toNat)
                refine mr_cVP (pc := 247) (c_X12_sideOf hw hT hp5 (rW (c := (-2147483648)) (d := 2147483647) hp1 rfl) q1080) (gOk _ _ _ _ _) dX12_unlike_247 (tX12_sideOf _ _ _ _ _) ⟨wV_X12_sideOf, wL_X12_sideOf⟩ wM_X12_542 (gCX12 _ _ _ _ _) rfl (A_106 hw) rfl ⟨le_t rfl, le_t rfl⟩ ⟨le_t rfl, le_t rfl⟩ rfl (le_t rfl) fun z1086 h1085 => ?_
                refine mr_iload (pc := 250) (z := p6) dX12_unlike_250 rfl ?_
                refine mr_cSP (pc := 252) (c_X12_slot hw hT (rW (c := 0) (d := 20) hp5 rfl) (rW (c := 0) (d := 2) h1085.1 rfl) hp6) (gOk _ _ _ _ _) dX12_unlike_252 (tX12_slot _ _ _ _ _) wS_X12_slot wM_X12_545 ⟨le_t rfl, le_t rfl⟩ ⟨le_t rfl, le_t rfl⟩ rfl (le_t rfl) fun z1091 h1090 => ?_
                have h1092 : 0 ≤ z1091 ∧ z1091 ≤ 399 := (vc_X12_unlike_11 h1090.2.1 h1073.2.1 h1085.2.1 h1085.2.2.1 hp1 hp3 hp5 hp6 h1068.1 h1075 h1081 h1085.1 h1090.1)
                refine la_154 (pc := 255) dX12_unlike_255 (A_154 hw) hT (rIx (n := 400) h1092 rfl) fun z1093 q1094 h1095 => ?_
                refine mr_isub (pc := 256) (x := z1076) (y := z1093) dX12_unlike_256 ?_
                refine mr_istore (pc := 257) (lv' := [(9, iv (z1076 - z1093)), (0, .ref 106), (1, iv p1), (2, iv p2), (3, iv p3), (4, iv p4), (5, iv p5), (6, iv p6), (7, iv z925), (8, iv z936)]) dX12_unlike_257 (by decide) rfl ?_
                refine mr_lvS (lv' := [(0, .ref 106), (1, iv p1), (2, iv p2), (3, iv p3), (4, iv p4), (5, iv p5), (6, iv p6), (7, iv z925), (8, iv z936), (9, iv (z1076 - z1093))]) (List.forall_mem_cons.mpr ⟨rfl, List.forall_mem_cons.mpr ⟨rfl, List.forall_mem_cons.mpr ⟨rfl, List.forall_mem_cons.mpr ⟨rfl, List.forall_mem_cons.mpr ⟨rfl, List.forall_mem_cons.mpr ⟨rfl, List.forall_mem_cons.mpr ⟨rfl, List.forall_mem_cons.mpr ⟨rfl, List.forall_mem_cons.mpr ⟨rfl, List.forall_mem_cons.mpr ⟨rfl, fun _ h => absurd h List.not_mem_nil⟩⟩⟩⟩⟩⟩⟩⟩⟩⟩) ?_
                exact J1052 (z1076 - z1093) (rW (c := (-2147483648)) (d := 2147483647) (rSub (e := (-2000000000)) (f := 2000000000) h1078 h1095 rfl) rfl)
              refine mr_icmp_ne (pc := 178) (tgt := 186) dX12_unlike_178 (by decide) (r32 h938 rfl) (r32 (rR (x := 4)) rfl) (fun h1096 => ?_) (fun h1096 => ?_)
              · refine mr_iload (pc := 186) (z := z936) dX12_unlike_186 rfl ?_
                refine mr_bipush (pc := 188) (z := 6) dX12_unlike_188 (by decide) ?_
                refine mr_icmp_ne (pc := 190) (tgt := 214) dX12_unlike_190 (by decide) (r32 h938 rfl) (r32 (rR (x := 6)) rfl) (fun h1097 => ?_) (fun h1097 => ?_)
                · refine mr_lvS (lv' := [(0, .ref 106), (1, iv p1), (2, iv p2), (3, iv p3), (4, iv p4), (5, iv p5), (6, iv p6), (7, iv z925), (8, iv z936), (9, iv z989)]) (List.forall_mem_cons.mpr ⟨rfl, List.forall_mem_cons.mpr ⟨rfl, List.forall_mem_cons.mpr ⟨rfl, List.forall_mem_cons.mpr ⟨rfl, List.forall_mem_cons.mpr ⟨rfl, List.forall_mem_cons.mpr ⟨rfl, List.forall_mem_cons.mpr ⟨rfl, List.forall_mem_cons.mpr ⟨rfl, List.forall_mem_cons.mpr ⟨rfl, List.forall_mem_cons.mpr ⟨rfl, fun _ h => absurd h List.not_mem_nil⟩⟩⟩⟩⟩⟩⟩⟩⟩⟩) ?_
                  exact J1014 z989 h990
                have h1098 : 6 ≤ z936 ∧ z936 ≤ 6 := (vc_X12_unlike_12 h1097 h1096 h938)
                refine sv_aload_n (pc := 193) dX12_unlike_193 rfl rfl ?_
                refine gf_X12_32 (pc := 194) dX12_unlike_194 wF_X12_148 (A_106 hw) hT ?_
                refine mr_iload (pc := 197) (z := (40 * p2)) dX12_unlike_197 rfl ?_
                refine mr_iconst (pc := 199) (z := 3) dX12_unlike_199 ?_
                refine mr_iadd (pc := 200) (x := (40 * p2)) (y := 3) dX12_unlike_200 ?_
                refine la_126 (pc := 201) dX12_unlike_201 (A_126 hw) hT (rIx (n := 84000) (rAdd (e := 3) (f := 83963) (rMulL (n := 40) (e := 0) (f := 83960) hp2 rfl) (rR (x := 3)) rfl) rfl) fun z1099 q1100 h1101 => ?_
                refine sv_aload_n (pc := 202) dX12_unlike_202 rfl rfl ?_
                refine gf_X12_32 (pc := 203) dX12_unlike_203 wF_X12_148 (A_106 hw) hT ?_
                refine mr_iload (pc := 206) (z := (40 * p4)) dX12_unlike_206 rfl ?_
                refine mr_iconst (pc := 208) (z := 3) dX12_unlike_208 ?_
                refine mr_iadd (pc := 209) (x := (40 * p4)) (y := 3) dX12_unlike_209 ?_
                refine la_126 (pc := 210) dX12_unlike_210 (A_126 hw) hT (rIx (n := 84000) (rAdd (e := 3) (f := 83963) (rMulL (n := 40) (e := 0) (f := 83960) hp4 rfl) (rR (x := 3)) rfl) rfl) fun z1102 q1103 h1104 => ?_
                refine mr_isub (pc := 211) (x := z1099) (y := z1102) dX12_unlike_211 ?_
                refine mr_wrap fun z1105 h1106 => ?_
                refine mr_istore (pc := 212) (lv' := [(9, iv z1105), (0, .ref 106), (1, iv p1), (2, iv p2), (3, iv p3), (4, iv p4), (5, iv p5), (6, iv p6), (7, iv z925), (8, iv z936), (10, iv (40 * p2)), (11, iv (40 * p4)), (12, iv z957)]) dX12_unlike_212 (by decide) rfl ?_
                refine mr_lvS (lv' := [(0, .ref 106), (1, iv p1), (2, iv p2), (3, iv p3), (4, iv p4), (5, iv p5), (6, iv p6), (7, iv z925), (8, iv z936), (9, iv z1105)]) (List.forall_mem_cons.mpr ⟨rfl, List.forall_mem_cons.mpr ⟨rfl, List.forall_mem_cons.mpr ⟨rfl, List.forall_mem_cons.mpr ⟨rfl, List.forall_mem_cons.mpr ⟨rfl, List.forall_mem_cons.mpr ⟨rfl, List.forall_mem_cons.mpr ⟨rfl, List.forall_mem_cons.mpr ⟨rfl, List.forall_mem_cons.mpr ⟨rfl, List.forall_mem_cons.mpr ⟨rfl, fun _ h => absurd h List.not_mem_nil⟩⟩⟩⟩⟩⟩⟩⟩⟩⟩) ?_
                exact J1014 z1105 h1106
              have h1107 : 4 ≤ z936 ∧ z936 ≤ 4 := (vc_X12_unlike_13 h1096 h938)
              refine mr_iload (pc := 181) (z := z957) dX12_unlike_181 rfl ?_
              refine mr_if_ne (pc := 183) (tgt := 193) dX12_unlike_183 (by decide) (r32 h958 rfl) (fun h1108 => ?_) (fun h1108 => ?_)
              · have h1109 : 1 ≤ z957 ∧ z957 ≤ 1 := (vc_X12_unlike_14 h1108 h958)
                refine sv_aload_n (pc := 193) dX12_unlike_193 rfl rfl ?_
                refine gf_X12_32 (pc := 194) dX12_unlike_194 wF_X12_148 (A_106 hw) hT ?_
                refine mr_iload (pc := 197) (z := (40 * p2)) dX12_unlike_197 rfl ?_
                refine mr_iconst (pc := 199) (z := 3) dX12_unlike_199 ?_
                refine mr_iadd (pc := 200) (x := (40 * p2)) (y := 3) dX12_unlike_200 ?_
                refine la_126 (pc := 201) dX12_unlike_201 (A_126 hw) hT (rIx (n := 84000) (rAdd (e := 3) (f := 83963) (rMulL (n := 40) (e := 0) (f := 83960) hp2 rfl) (rR (x := 3)) rfl) rfl) fun z1110 q1111 h1112 => ?_
                refine sv_aload_n (pc := 202) dX12_unlike_202 rfl rfl ?_
                refine gf_X12_32 (pc := 203) dX12_unlike_203 wF_X12_148 (A_106 hw) hT ?_
                refine mr_iload (pc := 206) (z := (40 * p4)) dX12_unlike_206 rfl ?_
                refine mr_iconst (pc := 208) (z := 3) dX12_unlike_208 ?_
                refine mr_iadd (pc := 209) (x := (40 * p4)) (y := 3) dX12_unlike_209 ?_
                refine la_126 (pc := 210) dX12_unlike_210 (A_126 hw) hT (rIx (n := 84000) (rAdd (e := 3) (f := 83963) (rMulL (n := 40) (e := 0) (f := 83960) hp4 rfl) (rR (x := 3)) rfl) rfl) fun z1113 q1114 h1115 => ?_
                refine mr_isub (pc := 211) (x := z1110) (y := z1113) dX12_unlike_211 ?_
                refine mr_wrap fun z1116 h1117 => ?_
                refine mr_istore (pc := 212) (lv' := [(9, iv z1116), (0, .ref 106), (1, iv p1), (2, iv p2), (3, iv p3), (4, iv p4), (5, iv p5), (6, iv p6), (7, iv z925), (8, iv z936), (10, iv (40 * p2)), (11, iv (40 * p4)), (12, iv z957)]) dX12_unlike_212 (by decide) rfl ?_
                refine mr_lvS (lv' := [(0, .ref 106), (1, iv p1), (2, iv p2), (3, iv p3), (4, iv p4), (5, iv p5), (6, iv p6), (7, iv z925), (8, iv z936), (9, iv z1116)]) (List.forall_mem_cons.mpr ⟨rfl, List.forall_mem_cons.mpr ⟨rfl, List.forall_mem_cons.mpr ⟨rfl, List.forall_mem_cons.mpr ⟨rfl, List.forall_mem_cons.mpr ⟨rfl, List.forall_mem_cons.mpr ⟨rfl, List.forall_mem_cons.mpr ⟨rfl, List.forall_mem_cons.mpr ⟨rfl, List.forall_mem_cons.mpr ⟨rfl, List.forall_mem_cons.mpr ⟨rfl, fun _ h => absurd h List.not_mem_nil⟩⟩⟩⟩⟩⟩⟩⟩⟩⟩) ?_
                exact J1014 z1116 h1117
              have h1118 : 0 ≤ z957 ∧ z957 ≤ 0 := (vc_X12_unlike_15 h1108 h958)
              refine mr_iload (pc := 186) (z := z936) dX12_unlike_186 rfl ?_
              refine mr_bipush (pc := 188) (z := 6) dX12_unlike_188 (by decide) ?_
              refine mr_icmp_ne (pc := 190) (tgt := 214) dX12_unlike_190 (by decide) (r32 h1107 rfl) (r32 (rR (x := 6)) rfl) (fun _ => ?_) (fun h => ((vc_X12_unlike_16 h h1107)).elim)
              refine mr_lvS (lv' := [(0, .ref 106), (1, iv p1), (2, iv p2), (3, iv p3), (4, iv p4), (5, iv p5), (6, iv p6), (7, iv z925), (8, iv z936), (9, iv z989)]) (List.forall_mem_cons.mpr ⟨rfl, List.forall_mem_cons.mpr ⟨rfl, List.forall_mem_cons.mpr ⟨rfl, List.forall_mem_cons.mpr ⟨rfl, List.forall_mem_cons.mpr ⟨rfl, List.forall_mem_cons.mpr ⟨rfl, List.forall_mem_cons.mpr ⟨rfl, List.forall_mem_cons.mpr ⟨rfl, List.forall_mem_cons.mpr ⟨rfl, List.forall_mem_cons.mpr ⟨rfl, fun _ h => absurd h List.not_mem_nil⟩⟩⟩⟩⟩⟩⟩⟩⟩⟩) ?_
              exact J1014 z989 h990
            refine mr_icmp_ne (pc := 151) (tgt := 175) dX12_unlike_151 (by decide) (r32 h938 rfl) (r32 (rR (x := 3)) rfl) (fun h1119 => ?_) (fun h1119 => ?_)
            · exact J991 z977 h978
            have h1120 : 3 ≤ z936 ∧ z936 ≤ 3 := (vc_X12_unlike_17 h1119 h938)
            refine sv_aload_n (pc := 154) dX12_unlike_154 rfl rfl ?_
            refine gf_X12_32 (pc := 155) dX12_unlike_155 wF_X12_148 (A_106 hw) hT ?_
            refine mr_iload (pc := 158) (z := (40 * p2)) dX12_unlike_158 rfl ?_
            refine mr_iconst (pc := 160) (z := 2) dX12_unlike_160 ?_
            refine mr_iadd (pc := 161) (x := (40 * p2)) (y := 2) dX12_unlike_161 ?_
            refine la_126 (pc := 162) dX12_unlike_162 (A_126 hw) hT (rIx (n := 84000) (rAdd (e := 2) (f := 83962) (rMulL (n := 40) (e := 0) (f := 83960) hp2 rfl) (rR (x := 2)) rfl) rfl) fun z1121 q1122 h1123 => ?_
            refine sv_aload_n (pc := 163) dX12_unlike_163 rfl rfl ?_
            refine gf_X12_32 (pc := 164) dX12_unlike_164 wF_X12_148 (A_106 hw) hT ?_
            refine mr_iload (pc := 167) (z := (40 * p4)) dX12_unlike_167 rfl ?_
            refine mr_iconst (pc := 169) (z := 2) dX12_unlike_169 ?_
            refine mr_iadd (pc := 170) (x := (40 * p4)) (y := 2) dX12_unlike_170 ?_
            refine la_126 (pc := 171) dX12_unlike_171 (A_126 hw) hT (rIx (n := 84000) (rAdd (e := 2) (f := 83962) (rMulL (n := 40) (e := 0) (f := 83960) hp4 rfl) (rR (x := 2)) rfl) rfl) fun z1124 q1125 h1126 => ?_
            refine mr_isub (pc := 172) (x := z1121) (y := z1124) dX12_unlike_172 ?_
            refine mr_wrap fun z1127 h1128 => ?_
            refine mr_istore (pc := 173) (lv' := [(9, iv z1127), (0, .ref 106), (1, iv p1), (2, iv p2), (3, iv p3), (4, iv p4), (5, iv p5), (6, iv p6), (7, iv z925), (8, iv z936), (10, iv (40 * p2)), (11, iv (40 * p4)), (12, iv z957)]) dX12_unlike_173 (by decide) rfl ?_
            refine mr_lvS (lv' := [(0, .ref 106), (1, iv p1), (2, iv p2), (3, iv p3), (4, iv p4), (5, iv p5), (6, iv p6), (7, iv z925), (8, iv z936), (9, iv z1127), (10, iv (40 * p2)), (11, iv (40 * p4)), (12, iv z957)]) (List.forall_mem_cons.mpr ⟨rfl, List.forall_mem_cons.mpr ⟨rfl, List.forall_mem_cons.mpr ⟨rfl, List.forall_mem_cons.mpr ⟨rfl, List.forall_mem_cons.mpr ⟨rfl, List.forall_mem_cons.mpr ⟨rfl, List.forall_mem_cons.mpr ⟨rfl, List.forall_mem_cons.mpr ⟨rfl, List.forall_mem_cons.mpr ⟨rfl, List.forall_mem_cons.mpr ⟨rfl, List.forall_mem_cons.mpr ⟨rfl, List.forall_mem_cons.mpr ⟨rfl, List.forall_mem_cons.mpr ⟨rfl, fun _ h => absurd h List.not_mem_nil⟩⟩⟩⟩⟩⟩⟩⟩⟩⟩⟩⟩⟩) ?_
            exact J991 z1127 h1128
          refine mr_icmp_ne (pc := 124) (tgt := 148) dX12_unlike_124 (by decide) (r32 h938 rfl) (r32 (rR (x := 2)) rfl) (fun h1129 => ?_) (fun h1129 => ?_)
          · exact J979 z969 h970
          have h1130 : 2 ≤ z936 ∧ z936 ≤ 2 := (vc_X12_unlike_18 h1129 h938)
          refine sv_aload_n (pc := 127) dX12_unlike_127 rfl rfl ?_
          refine gf_X12_32 (pc := 128) dX12_unlike_128 wF_X12_148 (A_106 hw) hT ?_
          refine mr_iload (pc := 131) (z := (40 * p2)) dX12_unlike_131 rfl ?_
          refine mr_iconst (pc := 133) (z := 4) dX12_unlike_133 ?_
          refine mr_iadd (pc := 134) (x := (40 * p2)) (y := 4) dX12_unlike_134 ?_
          refine lk_126 (pc := 135) dX12_unlike_135 (A_126 hw) (rIx (n := 84000) (rAdd (e := 4) (f := 83964) (rMulL (n := 40) (e := 0) (f := 83960) hp2 rfl) (rR (x := 4)) rfl) rfl) q940 ?_
          refine sv_aload_n (pc := 136) dX12_unlike_136 rfl rfl ?_
          refine gf_X12_32 (pc := 137) dX12_unlike_137 wF_X12_148 (A_106 hw) hT ?_
          refine mr_iload (pc := 140) (z := (40 * p4)) dX12_unlike_140 rfl ?_
          refine mr_iconst (pc := 142) (z := 4) dX12_unlike_142 ?_
          refine mr_iadd (pc := 143) (x := (40 * p4)) (y := 4) dX12_unlike_143 ?_
          refine la_126 (pc := 144) dX12_unlike_144 (A_126 hw) hT (rIx (n := 84000) (rAdd (e := 4) (f := 83964) (rMulL (n := 40) (e := 0) (f := 83960) hp4 rfl) (rR (x := 4)) rfl) rfl) fun z1131 q1132 h1133 => ?_
          have h1134 : 0 ≤ z1131 ∧ z1131 ≤ 20 := h1133.2.2.1 (vc_X12_unlike_19 hp4)
          refine mr_isub (pc := 145) (x := z939) (y := z1131) dX12_unlike_145 ?_
          refine mr_istore (pc := 146) (lv' := [(9, iv (z939 - z1131)), (0, .ref 106), (1, iv p1), (2, iv p2), (3, iv p3), (4, iv p4), (5, iv p5), (6, iv p6), (7, iv z925), (8, iv z936), (10, iv (40 * p2)), (11, iv (40 * p4)), (12, iv z957)]) dX12_unlike_146 (by decide) rfl ?_
          refine mr_lvS (lv' := [(0, .ref 106), (1, iv p1), (2, iv p2), (3, iv p3), (4, iv p4), (5, iv p5), (6, iv p6), (7, iv z925), (8, iv z936), (9, iv (z939 - z1131)), (10, iv (40 * p2)), (11, iv (40 * p4)), (12, iv z957)]) (List.forall_mem_cons.mpr ⟨rfl, List.forall_mem_cons.mpr ⟨rfl, List.forall_mem_cons.mpr ⟨rfl, List.forall_mem_cons.mpr ⟨rfl, List.forall_mem_cons.mpr ⟨rfl, List.forall_mem_cons.mpr ⟨rfl, List.forall_mem_cons.mpr ⟨rfl, List.forall_mem_cons.mpr ⟨rfl, List.forall_mem_cons.mpr ⟨rfl, List.forall_mem_cons.mpr ⟨rfl, List.forall_mem_cons.mpr ⟨rfl, List.forall_mem_cons.mpr ⟨rfl, List.forall_mem_cons.mpr ⟨rfl, fun _ h => absurd h List.not_mem_nil⟩⟩⟩⟩⟩⟩⟩⟩⟩⟩⟩⟩⟩) ?_
          exact J979 (z939 - z1131) (rW (c := (-2147483648)) (d := 2147483647) (rSub (e := (-20)) (f := 20) h942 h1134 rfl) rfl)
        refine mr_icmp_ne (pc := 97) (tgt := 121) dX12_unlike_97 (by decide) (r32 h938 rfl) (r32 (rR (x := 1)) rfl) (fun h1135 => ?_) (fun h1135 => ?_)
        · refine mr_lvS (lv' := [(0, .ref 106), (1, iv p1), (2, iv p2), (3, iv p3), (4, iv p4), (5, iv p5), (6, iv p6), (7, iv z925), (8, iv z936), (9, iv 0), (10, iv (40 * p2)), (11, iv (40 * p4)), (12, iv z957)]) (List.forall_mem_cons.mpr ⟨rfl, List.forall_mem_cons.mpr ⟨rfl, List.forall_mem_cons.mpr ⟨rfl, List.forall_mem_cons.mpr ⟨rfl, List.forall_mem_cons.mpr ⟨rfl, List.forall_mem_cons.mpr ⟨rfl, List.forall_mem_cons.mpr ⟨rfl, List.forall_mem_cons.mpr ⟨rfl, List.forall_mem_cons.mpr ⟨rfl, List.forall_mem_cons.mpr ⟨rfl, List.forall_mem_cons.mpr ⟨rfl, List.forall_mem_cons.mpr ⟨rfl, List.forall_mem_cons.mpr ⟨rfl, fun _ h => absurd h List.not_mem_nil⟩⟩⟩⟩⟩⟩⟩⟩⟩⟩⟩⟩⟩) ?_
          exact J971 0 (rW (c := (-2147483648)) (d := 2147483647) (rR (x := 0)) rfl)
        have h1136 : 1 ≤ z936 ∧ z936 ≤ 1 := (vc_X12_unlike_20 h1135 h938)
        refine sv_aload_n (pc := 100) dX12_unlike_100 rfl rfl ?_
        refine gf_X12_32 (pc := 101) dX12_unlike_101 wF_X12_148 (A_106 hw) hT ?_
        refine mr_iload (pc := 104) (z := (40 * p4)) dX12_unlike_104 rfl ?_
        refine mr_iconst (pc := 106) (z := 1) dX12_unlike_106 ?_
        refine mr_iadd (pc := 107) (x := (40 * p4)) (y := 1) dX12_unlike_107 ?_
        refine la_126 (pc := 108) dX12_unlike_108 (A_126 hw) hT (rIx (n := 84000) (rAdd (e := 1) (f := 83961) (rMulL (n := 40) (e := 0) (f := 83960) hp4 rfl) (rR (x := 1)) rfl) rfl) fun z1137 q1138 h1139 => ?_
        refine sv_aload_n (pc := 109) dX12_unlike_109 rfl rfl ?_
        refine gf_X12_32 (pc := 110) dX12_unlike_110 wF_X12_148 (A_106 hw) hT ?_
        refine mr_iload (pc := 113) (z := (40 * p2)) dX12_unlike_113 rfl ?_
        refine mr_iconst (pc := 115) (z := 1) dX12_unlike_115 ?_
        refine mr_iadd (pc := 116) (x := (40 * p2)) (y := 1) dX12_unlike_116 ?_
        refine la_126 (pc := 117) dX12_unlike_117 (A_126 hw) hT (rIx (n := 84000) (rAdd (e := 1) (f := 83961) (rMulL (n := 40) (e := 0) (f := 83960) hp2 rfl) (rR (x := 1)) rfl) rfl) fun z1140 q1141 h1142 => ?_
        refine mr_isub (pc := 118) (x := z1137) (y := z1140) dX12_unlike_118 ?_
        refine mr_wrap fun z1143 h1144 => ?_
        refine mr_istore (pc := 119) (lv' := [(9, iv z1143), (12, iv z957), (0, .ref 106), (1, iv p1), (2, iv p2), (3, iv p3), (4, iv p4), (5, iv p5), (6, iv p6), (7, iv z925), (8, iv z936), (10, iv (40 * p2)), (11, iv (40 * p4))]) dX12_unlike_119 (by decide) rfl ?_
        refine mr_lvS (lv' := [(0, .ref 106), (1, iv p1), (2, iv p2), (3, iv p3), (4, iv p4), (5, iv p5), (6, iv p6), (7, iv z925), (8, iv z936), (9, iv z1143), (10, iv (40 * p2)), (11, iv (40 * p4)), (12, iv z957)]) (List.forall_mem_cons.mpr ⟨rfl, List.forall_mem_cons.mpr ⟨rfl, List.forall_mem_cons.mpr ⟨rfl, List.forall_mem_cons.mpr ⟨rfl, List.forall_mem_cons.mpr ⟨rfl, List.forall_mem_cons.mpr ⟨rfl, List.forall_mem_cons.mpr ⟨rfl, List.forall_mem_cons.mpr ⟨rfl, List.forall_mem_cons.mpr ⟨rfl, List.forall_mem_cons.mpr ⟨rfl, List.forall_mem_cons.mpr ⟨rfl, List.forall_mem_cons.mpr ⟨rfl, List.forall_mem_cons.mpr ⟨rfl, fun _ h => absurd h List.not_mem_nil⟩⟩⟩⟩⟩⟩⟩⟩⟩⟩⟩⟩⟩) ?_
        exact J971 z1143 h1144
      refine mr_if_le (pc := 49) (tgt := 91) dX12_unlike_49 (by decide) (r32 h942 rfl) (fun h1145 => ?_) (fun h1145 => ?_)
      · have h1146 : 0 ≤ z939 ∧ z939 ≤ 0 := (vc_X12_unlike_21 h1145 h942)
        refine mr_iconst (pc := 91) (z := 0) dX12_unlike_91 ?_
        refine mr_lvS (lv' := [(0, .ref 106), (1, iv p1), (2, iv p2), (3, iv p3), (4, iv p4), (5, iv p5), (6, iv p6), (7, iv z925), (8, iv z936), (9, iv 0), (10, iv (40 * p2)), (11, iv (40 * p4))]) (List.forall_mem_cons.mpr ⟨rfl, List.forall_mem_cons.mpr ⟨rfl, List.forall_mem_cons.mpr ⟨rfl, List.forall_mem_cons.mpr ⟨rfl, List.forall_mem_cons.mpr ⟨rfl, List.forall_mem_cons.mpr ⟨rfl, List.forall_mem_cons.mpr ⟨rfl, List.forall_mem_cons.mpr ⟨rfl, List.forall_mem_cons.mpr ⟨rfl, List.forall_mem_cons.mpr ⟨rfl, List.forall_mem_cons.mpr ⟨rfl, List.forall_mem_cons.mpr ⟨rfl, fun _ h => absurd h List.not_mem_nil⟩⟩⟩⟩⟩⟩⟩⟩⟩⟩⟩⟩) ?_
        exact J959 0 (rW (c := 0) (d := 1) (rR (x := 0)) rfl)
      have h1147 : 1 ≤ z939 ∧ z939 ≤ 20 := (vc_X12_unlike_22 h1145 h942)
      refine sv_aload_n (pc := 52) dX12_unlike_52 rfl rfl ?_
      refine gf_X12_32 (pc := 53) dX12_unlike_53 wF_X12_148 (A_106 hw) hT ?_
      refine mr_iload (pc := 56) (z := (40 * p4)) dX12_unlike_56 rfl ?_
      refine mr_iconst (pc := 58) (z := 4) dX12_unlike_58 ?_
      refine mr_iadd (pc := 59) (x := (40 * p4)) (y := 4) dX12_unlike_59 ?_
      refine la_126 (pc := 60) dX12_unlike_60 (A_126 hw) hT (rIx (n := 84000) (rAdd (e := 4) (f := 83964) (rMulL (n := 40) (e := 0) (f := 83960) hp4 rfl) (rR (x := 4)) rfl) rfl) fun z1148 q1149 h1150 => ?_
      have h1151 : 0 ≤ z1148 ∧ z1148 ≤ 20 := h1150.2.2.1 (vc_X12_unlike_19 hp4)
      refine mr_if_le (pc := 61) (tgt := 91) dX12_unlike_61 (by decide) (r32 h1151 rfl) (fun h1152 => ?_) (fun h1152 => ?_)
      · have h1153 : 0 ≤ z1148 ∧ z1148 ≤ 0 := (vc_X12_unlike_23 h1152 h1151)
        refine mr_iconst (pc := 91) (z := 0) dX12_unlike_91 ?_
        refine mr_lvS (lv' := [(0, .ref 106), (1, iv p1), (2, iv p2), (3, iv p3), (4, iv p4), (5, iv p5), (6, iv p6), (7, iv z925), (8, iv z936), (9, iv 0), (10, iv (40 * p2)), (11, iv (40 * p4))]) (List.forall_mem_cons.mpr ⟨rfl, List.forall_mem_cons.mpr ⟨rfl, List.forall_mem_cons.mpr ⟨rfl, List.forall_mem_cons.mpr ⟨rfl, List.forall_mem_cons.mpr ⟨rfl, List.forall_mem_cons.mpr ⟨rfl, List.forall_mem_cons.mpr ⟨rfl, List.forall_mem_cons.mpr ⟨rfl, List.forall_mem_cons.mpr ⟨rfl, List.forall_mem_cons.mpr ⟨rfl, List.forall_mem_cons.mpr ⟨rfl, List.forall_mem_cons.mpr ⟨rfl, fun _ h => absurd h List.not_mem_nil⟩⟩⟩⟩⟩⟩⟩⟩⟩⟩⟩⟩) ?_
        exact J959 0 (rW (c := 0) (d := 1) (rR (x := 0)) rfl)
      have h1154 : 1 ≤ z1148 ∧ z1148 ≤ 20 := (vc_X12_unlike_24 h1152 h1151)
      refine sv_aload_n (pc := 64) dX12_unlike_64 rfl rfl ?_
      refine gf_X12_32 (pc := 65) dX12_unlike_65 wF_X12_148 (A_106 hw) hT ?_
      refine mr_iload (pc := 68) (z := (40 * p2)) dX12_unlike_68 rfl ?_
      refine mr_bipush (pc := 70) (z := 6) dX12_unlike_70 (by decide) ?_
      refine mr_iadd (pc := 72) (x := (40 * p2)) (y := 6) dX12_unlike_72 ?_
      refine la_126 (pc := 73) dX12_unlike_73 (A_126 hw) hT (rIx (n := 84000) (rAdd (e := 6) (f := 83966) (rMulL (n := 40) (e := 0) (f := 83960) hp2 rfl) (rR (x := 6)) rfl) rfl) fun z1155 q1156 h1157 => ?_
      refine sv_aload_n (pc := 74) dX12_unlike_74 rfl rfl ?_
      refine gf_X12_32 (pc := 75) dX12_unlike_75 wF_X12_148 (A_106 hw) hT ?_
      refine mr_iload (pc := 78) (z := (40 * p4)) dX12_unlike_78 rfl ?_
      refine mr_bipush (pc := 80) (z := 6) dX12_unlike_80 (by decide) ?_
      refine mr_iadd (pc := 82) (x := (40 * p4)) (y := 6) dX12_unlike_82 ?_
      refine la_126 (pc := 83) dX12_unlike_83 (A_126 hw) hT (rIx (n := 84000) (rAdd (e := 6) (f := 83966) (rMulL (n := 40) (e := 0) (f := 83960) hp4 rfl) (rR (x := 6)) rfl) rfl) fun z1158 q1159 h1160 => ?_
      refine mr_icmp_ne (pc := 84) (tgt := 91) dX12_unlike_84 (by decide) h1157.1 h1160.1 (fun h1161 => ?_) (fun h1161 => ?_)
      · refine mr_iconst (pc := 91) (z := 0) dX12_unlike_91 ?_
        refine mr_lvS (lv' := [(0, .ref 106), (1, iv p1), (2, iv p2), (3, iv p3), (4, iv p4), (5, iv p5), (6, iv p6), (7, iv z925), (8, iv z936), (9, iv 0), (10, iv (40 * p2)), (11, iv (40 * p4))]) (List.forall_mem_cons.mpr ⟨rfl, List.forall_mem_cons.mpr ⟨rfl, List.forall_mem_cons.mpr ⟨rfl, List.forall_mem_cons.mpr ⟨rfl, List.forall_mem_cons.mpr ⟨rfl, List.forall_mem_cons.mpr ⟨rfl, List.forall_mem_cons.mpr ⟨rfl, List.forall_mem_cons.mpr ⟨rfl, List.forall_mem_cons.mpr ⟨rfl, List.forall_mem_cons.mpr ⟨rfl, List.forall_mem_cons.mpr ⟨rfl, List.forall_mem_cons.mpr ⟨rfl, fun _ h => absurd h List.not_mem_nil⟩⟩⟩⟩⟩⟩⟩⟩⟩⟩⟩⟩) ?_
        exact J959 0 (rW (c := 0) (d := 1) (rR (x := 0)) rfl)
      refine mr_iconst (pc := 87) (z := 1) dX12_unlike_87 ?_
      refine sv_goto (pc := 88) (tgt := 92) dX12_unlike_88 (by decide) ?_
      refine mr_lvS (lv' := [(0, .ref 106), (1, iv p1), (2, iv p2), (3, iv p3), (4, iv p4), (5, iv p5), (6, iv p6), (7, iv z925), (8, iv z936), (9, iv 0), (10, iv (40 * p2)), (11, iv (40 * p4))]) (List.forall_mem_cons.mpr ⟨rfl, List.forall_mem_cons.mpr ⟨rfl, List.forall_mem_cons.mpr ⟨rfl, List.forall_mem_cons.mpr ⟨rfl, List.forall_mem_cons.mpr ⟨rfl, List.forall_mem_cons.mpr ⟨rfl, List.forall_mem_cons.mpr ⟨rfl, List.forall_mem_cons.mpr ⟨rfl, List.forall_mem_cons.mpr ⟨rfl, List.forall_mem_cons.mpr ⟨rfl, List.forall_mem_cons.mpr ⟨rfl, List.forall_mem_cons.mpr ⟨rfl, fun _ h => absurd h List.not_mem_nil⟩⟩⟩⟩⟩⟩⟩⟩⟩⟩⟩⟩) ?_
      exact J959 1 (rW (c := 0) (d := 1) (rR (x := 1)) rfl)
  refine mr_lvS (lv' := [(0, .ref 106), (1, iv p1), (2, iv p2), (3, iv p3), (4, iv p4), (5, iv p5), (6, iv p6), (7, iv 0)]) (List.forall_mem_cons.mpr ⟨rfl, List.forall_mem_cons.mpr ⟨rfl, List.forall_mem_cons.mpr ⟨rfl, List.forall_mem_cons.mpr ⟨rfl, List.forall_mem_cons.mpr ⟨rfl, List.forall_mem_cons.mpr ⟨rfl, List.forall_mem_cons.mpr ⟨rfl, List.forall_mem_cons.mpr ⟨rfl, fun _ h => absurd h List.not_mem_nil⟩⟩⟩⟩⟩⟩⟩⟩) ?_
  exact L926 8 0 trivial (rW (c := 0) (d := 6) (rR (x := 0)) rfl) vc_X12_unlike_25
theorem vc_X12_beats_1 {z5 : Int} (h0 : z5 = 0) (h1 : (-9) ≤ z5 ∧ z5 ≤ 9) : 0 ≤ z5 ∧ z5 ≤ 0 := by omega
theorem vc_X12_beats_2 {z27 z32 : Int} (h0 : z27 < z32) (h1 : 0 ≤ z27 ∧ z27 ≤ 9) (h2 : 0 ≤ z32 ∧ z32 ≤ 9) : 0 ≤ z27 ∧ z27 ≤ 8 := by omega
theorem vc_X12_beats_3 {z27 z32 : Int} (h0 : z27 < z32) (h1 : 0 ≤ z27 ∧ z27 ≤ 8) (h2 : 0 ≤ z32 ∧ z32 ≤ 9) : 1 ≤ z32 ∧ z32 ≤ 9 := by omega
theorem vc_X12_beats_4 {z5 : Int} (h0 : z5 ≤ 0) (h1 : ¬ z5 = 0) (h2 : (-9) ≤ z5 ∧ z5 ≤ 9) : (-9) ≤ z5 ∧ z5 ≤ 0 := by omega
theorem vc_X12_beats_5 {z5 : Int} (h0 : 0 < z5) (h1 : ¬ z5 = 0) (h2 : (-9) ≤ z5 ∧ z5 ≤ 9) : 1 ≤ z5 ∧ z5 ≤ 9 := by omega
set_option maxRecDepth 4000 in
set_option maxHeartbeats 4000000 in
theorem c_X12_beats {l : Launch} {D : va_G} {c : Nat → ClassId} {H0 : Heap} {sa : Nat × Nat × (Nat → Int32)} {w : mW} {μ : mM} (hw : mWF w) (hT : mT w μ) {p1 : Int} (hp1 : 0 ≤ p1 ∧ p1 ≤ 9) {p2 : Int} (hp2 : 0 ≤ p2 ∧ p2 ≤ 19) {p3 : Int} (hp3 : 0 ≤ p3 ∧ p3 ≤ 19) {p4 : Int} (hp4 : 0 ≤ p4 ∧ p4 ≤ 9) : sC (gG l D c H0 sa) mX12_beats 3 0 0 [.ref 106, iv p1, iv p2, iv p3, iv p4] (mk w μ) (qP w μ (fun z => (0 ≤ z ∧ z ≤ 1) ∧ True)) := by
  refine sC.of rfl (by decide) (le_t rfl) ?_
  refine mr_lvE (lv' := [(0, .ref 106), (1, iv p1), (2, iv p2), (3, iv p3), (4, iv p4)]) rfl ?_
  refine sv_aload_n (pc := 0) dX12_beats_0 rfl rfl ?_
  refine mr_iload_n (pc := 1) (z := p1) dX12_beats_1 rfl rfl ?_
  refine mr_iconst (pc := 2) (z := 4) dX12_beats_2 ?_
  refine mr_iload_n (pc := 3) (z := p2) dX12_beats_3 rfl rfl ?_
  refine mr_iadd (pc := 4) (x := 4) (y := p2) dX12_beats_4 ?_
  refine mr_iload_n (pc := 5) (z := p2) dX12_beats_5 rfl rfl ?_
  refine mr_iconst (pc := 6) (z := 4) dX12_beats_6 ?_
  refine mr_iload_n (pc := 7) (z := p3) dX12_beats_7 rfl rfl ?_
  refine mr_iadd (pc := 8) (x := 4) (y := p3) dX12_beats_8 ?_
  refine mr_iload_n (pc := 9) (z := p3) dX12_beats_9 rfl rfl ?_
  refine mr_iload (pc := 10) (z := p4) dX12_beats_10 rfl ?_
  refine mr_cVP (pc := 12) (c_X12_unlike hw hT hp1 (rW (c := 0) (d := 2099) (rAdd (e := 4) (f := 23) (rR (x := 4)) hp2 rfl) rfl) hp2 (rW (c := 0) (d := 2099) (rAdd (e := 4) (f := 23) (rR (x := 4)) hp3 rfl) rfl) hp3 hp4) (gOk _ _ _ _ _) dX12_beats_12 (tX12_unlike _ _ _ _ _) ⟨wV_X12_unlike, wL_X12_unlike⟩ wM_X12_549 (gCX12 _ _ _ _ _) rfl (A_106 hw) rfl ⟨le_t rfl, le_t rfl⟩ ⟨le_t rfl, le_t rfl⟩ rfl (le_t rfl) fun z5 h4 => ?_
  refine mr_istore (pc := 15) (lv' := [(5, iv z5), (0, .ref 106), (1, iv p1), (2, iv p2), (3, iv p3), (4, iv p4)]) dX12_beats_15 (by decide) rfl ?_
  refine mr_iload (pc := 17) (z := z5) dX12_beats_17 rfl ?_
  refine mr_if_eq (pc := 19) (tgt := 35) dX12_beats_19 (by decide) (r32 h4.1 rfl) (fun h21 => ?_) (fun h21 => ?_)
  · have h22 : 0 ≤ z5 ∧ z5 ≤ 0 := (vc_X12_beats_1 h21 h4.1)
    refine sv_aload_n (pc := 35) dX12_beats_35 rfl rfl ?_
    refine mr_iload_n (pc := 36) (z := p2) dX12_beats_36 rfl rfl ?_
    refine mr_iload_n (pc := 37) (z := p1) dX12_beats_37 rfl rfl ?_
    refine mr_cVP (pc := 38) (c_X12_partnerOf hw hT hp2 (rW (c := (-2147483648)) (d := 2147483647) hp1 rfl)) (gOk _ _ _ _ _) dX12_beats_38 (tX12_partnerOf _ _ _ _ _) ⟨wV_X12_partnerOf, wL_X12_partnerOf⟩ wM_X12_553 (gCX12 _ _ _ _ _) rfl (A_106 hw) rfl ⟨le_t rfl, le_t rfl⟩ ⟨le_t rfl, le_t rfl⟩ rfl (le_t rfl) fun z27 h26 => ?_
    refine sv_aload_n (pc := 41) dX12_beats_41 rfl rfl ?_
    refine mr_iload_n (pc := 42) (z := p3) dX12_beats_42 rfl rfl ?_
    refine mr_iload_n (pc := 43) (z := p1) dX12_beats_43 rfl rfl ?_
    refine mr_cVP (pc := 44) (c_X12_partnerOf hw hT hp3 (rW (c := (-2147483648)) (d := 2147483647) hp1 rfl)) (gOk _ _ _ _ _) dX12_beats_44 (tX12_partnerOf _ _ _ _ _) ⟨wV_X12_partnerOf, wL_X12_partnerOf⟩ wM_X12_553 (gCX12 _ _ _ _ _) rfl (A_106 hw) rfl ⟨le_t rfl, le_t rfl⟩ ⟨le_t rfl, le_t rfl⟩ rfl (le_t rfl) fun z32 h31 => ?_
    refine mr_icmp_ge (pc := 47) (tgt := 54) dX12_beats_47 (by decide) (r32 h26.1 rfl) (r32 h31.1 rfl) (fun h35 => ?_) (fun h35 => ?_)
    · refine mr_iconst (pc := 54) (z := 0) dX12_beats_54 ?_
      exact mr_zretP dX12_beats_55 rfl (rW (c := 0) (d := 1) (rR (x := 0)) rfl) (le_t rfl) (le_t rfl) ⟨(rW (c := 0) (d := 1) (rR (x := 0)) rfl), trivial⟩
    have h36 : 0 ≤ z27 ∧ z27 ≤ 8 := (vc_X12_beats_2 h35 h26.1 h31.1)
    have h37 : 1 ≤ z32 ∧ z32 ≤ 9 := (vc_X12_beats_3 h35 h36 h31.1)
    refine mr_iconst (pc := 50) (z := 1) dX12_beats_50 ?_
    refine sv_goto (pc := 51) (tgt := 55) dX12_beats_51 (by decide) ?_
    exact mr_zretP dX12_beats_55 rfl (rW (c := 0) (d := 1) (rR (x := 1)) rfl) (le_t rfl) (le_t rfl) ⟨(rW (c := 0) (d := 1) (rR (x := 1)) rfl), trivial⟩
  refine mr_iload (pc := 22) (z := z5) dX12_beats_22 rfl ?_
  refine mr_if_le (pc := 24) (tgt := 31) dX12_beats_24 (by decide) (r32 h4.1 rfl) (fun h40 => ?_) (fun h40 => ?_)
  · have h41 : (-9) ≤ z5 ∧ z5 ≤ 0 := (vc_X12_beats_4 h40 h21 h4.1)
    refine mr_iconst (pc := 31) (z := 0) dX12_beats_31 ?_
    refine sv_goto (pc := 32) (tgt := 55) dX12_beats_32 (by decide) ?_
    exact mr_zretP dX12_beats_55 rfl (rW (c := 0) (d := 1) (rR (x := 0)) rfl) (le_t rfl) (le_t rfl) ⟨(rW (c := 0) (d := 1) (rR (x := 0)) rfl), trivial⟩
  have h42 : 1 ≤ z5 ∧ z5 ≤ 9 := (vc_X12_beats_5 h40 h21 h4.1)
  refine mr_iconst (pc := 27) (z := 1) dX12_beats_27 ?_
  refine sv_goto (pc := 28) (tgt := 55) dX12_beats_28 (by decide) ?_
  exact mr_zretP dX12_beats_55 rfl (rW (c := 0) (d := 1) (rR (x := 1)) rfl) (le_t rfl) (le_t rfl) ⟨(rW (c := 0) (d := 1) (rR (x := 1)) rfl), trivial⟩
theorem vc_X12_wrong_1 {f_code : Int} (h0 : ¬ f_code = 0) (h1 : 0 ≤ f_code ∧ f_code ≤ 4) : 1 ≤ f_code ∧ f_code ≤ 4 := by omega
theorem vc_X12_wrong_2 {f_code : Int} (h0 : ¬ f_code = 0) (h1 : 1 ≤ f_code ∧ f_code ≤ 4) : 1 ≤ f_code := by omega
theorem vc_X12_wrong_3 {f_code : Int} (h0 : ¬ f_code = 0) (h1 : 1 ≤ f_code ∧ f_code ≤ 4) : ¬ f_code = 0 → f_code = f_code := by omega
theorem vc_X12_wrong_4 {f_code : Int} (h0 : f_code = 0) (h1 : 0 ≤ f_code ∧ f_code ≤ 4) : 0 ≤ f_code ∧ f_code ≤ 0 := by omega
theorem vc_X12_wrong_5 {p1 : Int} (h0 : 1 ≤ p1 ∧ p1 ≤ 4) : 1 ≤ p1 := by omega
theorem vc_X12_wrong_6 {f_code p1 : Int} (h0 : f_code = 0) (h1 : 0 ≤ f_code ∧ f_code ≤ 0) (h2 : 1 ≤ p1 ∧ p1 ≤ 4) : ¬ f_code = 0 → p1 = f_code := by omega
set_option maxRecDepth 4000 in
set_option maxHeartbeats 4000000 in
theorem c_X12_wrong {l : Launch} {D : va_G} {c : Nat → ClassId} {H0 : Heap} {sa : Nat × Nat × (Nat → Int32)} {w : mW} {μ : mM} (hw : mWF w) (hT : mT w μ) {p1 : Int} (hp1 : 1 ≤ p1 ∧ p1 ≤ 4) {f_code : Int} (q_f_code : μ 106 37 = f_code) : sC (gG l D c H0 sa) mX12_wrong 1 0 0 [.ref 106, iv p1] (mk w μ) (qV w [106037, 106038] μ (fun μ1 => ∃ o_code : Int, μ1 106 37 = o_code ∧ (1 ≤ o_code) ∧ (¬ f_code = 0 → o_code = f_code) ∧ True)) := by
  refine sC.of rfl (by decide) (le_t rfl) ?_
  have ht_f_code : (0 ≤ f_code ∧ f_code ≤ 4) := by rw [← q_f_code]; exact hT 106 106 (A_106 hw) 37
  refine mr_lvE (lv' := [(0, .ref 106), (1, iv p1)]) rfl ?_
  refine sv_aload_n (pc := 0) dX12_wrong_0 rfl rfl ?_
  refine gk_X12_37 (pc := 1) dX12_wrong_1 wF_X12_215 (A_106 hw) q_f_code ?_
  refine mr_if_ne (pc := 4) (tgt := 20) dX12_wrong_4 (by decide) (r32 ht_f_code rfl) (fun h45 => ?_) (fun h45 => ?_)
  · have h46 : 1 ≤ f_code ∧ f_code ≤ 4 := (vc_X12_wrong_1 h45 ht_f_code)
    exact mr_vret dX12_wrong_20 rfl (le_t rfl) (le_t rfl) hT mF.refl ⟨f_code, q_f_code, (vc_X12_wrong_2 h45 h46), (vc_X12_wrong_3 h45 h46), trivial⟩
  have h47 : 0 ≤ f_code ∧ f_code ≤ 0 := (vc_X12_wrong_4 h45 ht_f_code)
  refine sv_aload_n (pc := 7) dX12_wrong_7 rfl rfl ?_
  refine mr_iload_n (pc := 8) (z := p1) dX12_wrong_8 rfl rfl ?_
  refine pf_X12_37 (pc := 9) dX12_wrong_9 wF_X12_215 (A_106 hw) hT (rW (c := 0) (d := 4) hp1 rfl) fun μ48 u49 T50 => ?_
  refine sv_aload_n (pc := 12) dX12_wrong_12 rfl rfl ?_
  refine sv_aload_n (pc := 13) dX12_wrong_13 rfl rfl ?_
  refine gf_X12_34 (pc := 14) dX12_wrong_14 wF_X12_218 (A_106 hw) T50 fun z51 q52 h53 => ?_
  refine pf_X12_38 (pc := 17) dX12_wrong_17 wF_X12_221 (A_106 hw) T50 h53 fun μ54 u55 T56 => ?_
  exact mr_vret dX12_wrong_20 rfl (le_t rfl) (le_t rfl) T56 (mF.up (mF.up mF.refl (A_106 hw) u49 rfl) (A_106 hw) u55 rfl) ⟨p1, (u55.f (Or.inr (by decide)) u49.1), (vc_X12_wrong_5 hp1), (vc_X12_wrong_6 h45 h47 hp1), trivial⟩
theorem vc_X12_byteAt_1 {f_size p1 : Int} (h0 : f_size ≤ p1) (h1 : 0 ≤ f_size ∧ f_size ≤ 1000) (h2 : 0 ≤ p1 ∧ p1 ≤ 2147483647) : 0 ≤ (-1 : Int) → p1 < f_size := by omega
theorem vc_X12_byteAt_2 {f_size p1 : Int} (h0 : f_size ≤ p1) (h1 : 0 ≤ f_size ∧ f_size ≤ 1000) (h2 : 0 ≤ p1 ∧ p1 ≤ 2147483647) : p1 < f_size → 0 ≤ (-1 : Int) := by omega
theorem vc_X12_byteAt_3 {f_size p1 : Int} (h0 : p1 < f_size) (h1 : 0 ≤ f_size ∧ f_size ≤ 1000) (h2 : 0 ≤ p1 ∧ p1 ≤ 2147483647) : 0 ≤ p1 ∧ p1 ≤ 999 := by omega
theorem vc_X12_byteAt_4 {f_size p1 : Int} (h0 : p1 < f_size) (h1 : 0 ≤ f_size ∧ f_size ≤ 1000) (h2 : 0 ≤ p1 ∧ p1 ≤ 999) : 1 ≤ f_size ∧ f_size ≤ 1000 := by omega
theorem vc_X12_byteAt_5 {f_size p1 z39 : Int} (h0 : p1 < f_size) (h1 : 1 ≤ f_size ∧ f_size ≤ 1000) (h2 : 0 ≤ p1 ∧ p1 ≤ 999) (h3 : 0 ≤ z39 ∧ z39 ≤ 255) : 0 ≤ z39 → p1 < f_size := by omega
theorem vc_X12_byteAt_6 {f_size p1 z39 : Int} (h0 : p1 < f_size) (h1 : 1 ≤ f_size ∧ f_size ≤ 1000) (h2 : 0 ≤ p1 ∧ p1 ≤ 999) (h3 : 0 ≤ z39 ∧ z39 ≤ 255) : p1 < f_size → 0 ≤ z39 := by omega
set_option maxRecDepth 4000 in
set_option maxHeartbeats 4000000 in
theorem c_X12_byteAt {l : Launch} {D : va_G} {c : Nat → ClassId} {H0 : Heap} {sa : Nat × Nat × (Nat → Int32)} {w : mW} {μ : mM} (hw : mWF w) (hT : mT w μ) {p1 : Int} (hp1 : 0 ≤ p1 ∧ p1 ≤ 2147483647) {f_size : Int} (q_f_size : μ 106 1 = f_size) : sC (gG l D c H0 sa) mX12_byteAt 1 0 0 [.ref 106, iv p1] (mk w μ) (qP w μ (fun z => ((-1) ≤ z ∧ z ≤ 255) ∧ (0 ≤ z → p1 < f_size) ∧ (p1 < f_size → 0 ≤ z) ∧ True)) := by
  refine sC.of rfl (by decide) (le_t rfl) ?_
  have ht_f_size : (0 ≤ f_size ∧ f_size ≤ 1000) := by rw [← q_f_size]; exact hT 106 106 (A_106 hw) 1
  refine mr_lvE (lv' := [(0, .ref 106), (1, iv p1)]) rfl ?_
  refine mr_iload_n (pc := 0) (z := p1) dX12_byteAt_0 rfl rfl ?_
  refine sv_aload_n (pc := 1) dX12_byteAt_1 rfl rfl ?_
  refine gk_X12_1 (pc := 2) dX12_byteAt_2 wF_X12_1 (A_106 hw) q_f_size ?_
  refine mr_icmp_ge (pc := 5) (tgt := 21) dX12_byteAt_5 (by decide) (r32 hp1 rfl) (r32 ht_f_size rfl) (fun h33 => ?_) (fun h33 => ?_)
  · refine mr_iconst (pc := 21) (z := (-1)) dX12_byteAt_21 ?_
    exact mr_iretP dX12_byteAt_22 rfl (le_t rfl) (le_t rfl) ⟨(rW (c := (-1)) (d := 255) (rR (x := (-1))) rfl), (vc_X12_byteAt_1 h33 ht_f_size hp1), (vc_X12_byteAt_2 h33 ht_f_size hp1), trivial⟩
  have h34 : 0 ≤ p1 ∧ p1 ≤ 999 := (vc_X12_byteAt_3 h33 ht_f_size hp1)
  have h35 : 1 ≤ f_size ∧ f_size ≤ 1000 := (vc_X12_byteAt_4 h33 ht_f_size h34)
  refine sv_aload_n (pc := 8) dX12_byteAt_8 rfl rfl ?_
  refine gf_X12_0 (pc := 9) dX12_byteAt_9 wF_X12_7 (A_106 hw) hT ?_
  refine mr_iload_n (pc := 12) (z := p1) dX12_byteAt_12 rfl rfl ?_
  refine la_107 (pc := 13) dX12_byteAt_13 (A_107 hw) hT (rIx (n := 1000) h34 rfl) fun z36 q37 h38 => ?_
  refine mr_sipush (pc := 14) (z := 255) dX12_byteAt_14 (by decide) ?_
  refine mr_iand (pc := 17) (x := z36) (y := 255) dX12_byteAt_17 ?_
  refine mr_gen (P := fun z => 0 ≤ z ∧ z ≤ 255) (rAndR (rR (x := 255)) rfl) fun z39 q40 h41 => ?_
  refine sv_goto (pc := 18) (tgt := 22) dX12_byteAt_18 (by decide) ?_
  exact mr_iretP dX12_byteAt_22 rfl (le_t rfl) (le_t rfl) ⟨(rW (c := (-1)) (d := 255) h41 rfl), (vc_X12_byteAt_5 h33 h35 h34 h41), (vc_X12_byteAt_6 h33 h35 h34 h41), trivial⟩
theorem vc_X12_isSign_1 {f_code : Int} (h0 : ¬ f_code = 0) (h1 : 0 ≤ f_code ∧ f_code ≤ 4) : 1 ≤ f_code ∧ f_code ≤ 4 := by omega
theorem vc_X12_isSign_2 {f_code f_number f_type p1 : Int} (h0 : ¬ f_code = 0) (h1 : 1 ≤ f_code ∧ f_code ≤ 4) (h2 : (-2147483648) ≤ f_number ∧ f_number ≤ 2147483647) (h3 : 0 ≤ f_type ∧ f_type ≤ 3) (h4 : (-2147483648) ≤ p1 ∧ p1 ≤ 2147483647) : (0 : Int) = 1 → f_code = 0 ∧ f_type = 3 ∧ f_number = p1 := by omega
theorem vc_X12_isSign_3 {f_code f_number f_type p1 : Int} (h0 : ¬ f_code = 0) (h1 : 1 ≤ f_code ∧ f_code ≤ 4) (h2 : (-2147483648) ≤ f_number ∧ f_number ≤ 2147483647) (h3 : 0 ≤ f_type ∧ f_type ≤ 3) (h4 : (-2147483648) ≤ p1 ∧ p1 ≤ 2147483647) : (0 : Int) = 0 → ¬ f_code = 0 ∨ ¬ f_type = 3 ∨ ¬ f_number = p1 := by omega
theorem vc_X12_isSign_4 {f_code : Int} (h0 : f_code = 0) (h1 : 0 ≤ f_code ∧ f_code ≤ 4) : 0 ≤ f_code ∧ f_code ≤ 0 := by omega
theorem vc_X12_isSign_5 {f_type : Int} (h0 : ¬ f_type = 3) (h1 : 0 ≤ f_type ∧ f_type ≤ 3) : 0 ≤ f_type ∧ f_type ≤ 2 := by omega
theorem vc_X12_isSign_6 {f_code f_number f_type p1 : Int} (h0 : f_code = 0) (h1 : ¬ f_type = 3) (h2 : 0 ≤ f_code ∧ f_code ≤ 0) (h3 : (-2147483648) ≤ f_number ∧ f_number ≤ 2147483647) (h4 : 0 ≤ f_type ∧ f_type ≤ 2) (h5 : (-2147483648) ≤ p1 ∧ p1 ≤ 2147483647) : (0 : Int) = 1 → f_code = 0 ∧ f_type = 3 ∧ f_number = p1 := by omega
theorem vc_X12_isSign_7 {f_code f_number f_type p1 : Int} (h0 : f_code = 0) (h1 : ¬ f_type = 3) (h2 : 0 ≤ f_code ∧ f_code ≤ 0) (h3 : (-2147483648) ≤ f_number ∧ f_number ≤ 2147483647) (h4 : 0 ≤ f_type ∧ f_type ≤ 2) (h5 : (-2147483648) ≤ p1 ∧ p1 ≤ 2147483647) : (0 : Int) = 0 → ¬ f_code = 0 ∨ ¬ f_type = 3 ∨ ¬ f_number = p1 := by omega
theorem vc_X12_isSign_8 {f_type : Int} (h0 : f_type = 3) (h1 : 0 ≤ f_type ∧ f_type ≤ 3) : 3 ≤ f_type ∧ f_type ≤ 3 := by omega
theorem vc_X12_isSign_9 {f_code f_number f_type p1 : Int} (h0 : f_code = 0) (h1 : f_type = 3) (h2 : ¬ f_number = p1) (h3 : 0 ≤ f_code ∧ f_code ≤ 0) (h4 : (-2147483648) ≤ f_number ∧ f_number ≤ 2147483647) (h5 : 3 ≤ f_type ∧ f_type ≤ 3) (h6 : (-2147483648) ≤ p1 ∧ p1 ≤ 2147483647) : (0 : Int) = 1 → f_code = 0 ∧ f_type = 3 ∧ f_number = p1 := by omega
theorem vc_X12_isSign_10 {f_code f_number f_type p1 : Int} (h0 : f_code = 0) (h1 : f_type = 3) (h2 : ¬ f_number = p1) (h3 : 0 ≤ f_code ∧ f_code ≤ 0) (h4 : (-2147483648) ≤ f_number ∧ f_number ≤ 2147483647) (h5 : 3 ≤ f_type ∧ f_type ≤ 3) (h6 : (-2147483648) ≤ p1 ∧ p1 ≤ 2147483647) : (0 : Int) = 0 → ¬ f_code = 0 ∨ ¬ f_type = 3 ∨ ¬ f_number = p1 := by omega
theorem vc_X12_isSign_11 {f_code f_number f_type p1 : Int} (h0 : f_code = 0) (h1 : f_type = 3) (h2 : f_number = p1) (h3 : 0 ≤ f_code ∧ f_code ≤ 0) (h4 : (-2147483648) ≤ f_number ∧ f_number ≤ 2147483647) (h5 : 3 ≤ f_type ∧ f_type ≤ 3) (h6 : (-2147483648) ≤ p1 ∧ p1 ≤ 2147483647) : (1 : Int) = 1 → f_code = 0 ∧ f_type = 3 ∧ f_number = p1 := by omega
theorem vc_X12_isSign_12 {f_code f_number f_type p1 : Int} (h0 : f_code = 0) (h1 : f_type = 3) (h2 : f_number = p1) (h3 : 0 ≤ f_code ∧ f_code ≤ 0) (h4 : (-2147483648) ≤ f_number ∧ f_number ≤ 2147483647) (h5 : 3 ≤ f_type ∧ f_type ≤ 3) (h6 : (-2147483648) ≤ p1 ∧ p1 ≤ 2147483647) : (1 : Int) = 0 → ¬ f_code = 0 ∨ ¬ f_type = 3 ∨ ¬ f_number = p1 := by omega
set_option maxRecDepth 4000 in
set_option maxHeartbeats 4000000 in
theorem c_X12_isSign {l : Launch} {D : va_G} {c : Nat → ClassId} {H0 : Heap} {sa : Nat × Nat × (Nat → Int32)} {w : mW} {μ : mM} (hw : mWF w) (hT : mT w μ) {p1 : Int} (hp1 : (-2147483648) ≤ p1 ∧ p1 ≤ 2147483647) {f_code : Int} (q_f_code : μ 106 37 = f_code) {f_type : Int} (q_f_type : μ 106 35 = f_type) {f_number : Int} (q_f_number : μ 106 36 = f_number) : sC (gG l D c H0 sa) mX12_isSign 1 0 0 [.ref 106, iv p1] (mk w μ) (qP w μ (fun z => (0 ≤ z ∧ z ≤ 1) ∧ (z = 1 → f_code = 0 ∧ f_type = 3 ∧ f_number = p1) ∧ (z = 0 → ¬ f_code = 0 ∨ ¬ f_type = 3 ∨ ¬ f_number = p1) ∧ True)) := by
  refine sC.of rfl (by decide) (le_t rfl) ?_
  have ht_f_code : (0 ≤ f_code ∧ f_code ≤ 4) := by rw [← q_f_code]; exact hT 106 106 (A_106 hw) 37
  have ht_f_type : (0 ≤ f_type ∧ f_type ≤ 3) := by rw [← q_f_type]; exact hT 106 106 (A_106 hw) 35
  have ht_f_number : ((-2147483648) ≤ f_number ∧ f_number ≤ 2147483647) := by rw [← q_f_number]; exact hT 106 106 (A_106 hw) 36
  refine mr_lvE (lv' := [(0, .ref 106), (1, iv p1)]) rfl ?_
  refine sv_aload_n (pc := 0) dX12_isSign_0 rfl rfl ?_
  refine gk_X12_37 (pc := 1) dX12_isSign_1 wF_X12_215 (A_106 hw) q_f_code ?_
  refine mr_if_ne (pc := 4) (tgt := 27) dX12_isSign_4 (by decide) (r32 ht_f_code rfl) (fun h17 => ?_) (fun h17 => ?_)
  · have h18 : 1 ≤ f_code ∧ f_code ≤ 4 := (vc_X12_isSign_1 h17 ht_f_code)
    refine mr_iconst (pc := 27) (z := 0) dX12_isSign_27 ?_
    exact mr_zretP dX12_isSign_28 rfl (rW (c := 0) (d := 1) (rR (x := 0)) rfl) (le_t rfl) (le_t rfl) ⟨(rW (c := 0) (d := 1) (rR (x := 0)) rfl), (vc_X12_isSign_2 h17 h18 ht_f_number ht_f_type hp1), (vc_X12_isSign_3 h17 h18 ht_f_number ht_f_type hp1), trivial⟩
  have h19 : 0 ≤ f_code ∧ f_code ≤ 0 := (vc_X12_isSign_4 h17 ht_f_code)
  refine sv_aload_n (pc := 7) dX12_isSign_7 rfl rfl ?_
  refine gk_X12_35 (pc := 8) dX12_isSign_8 wF_X12_230 (A_106 hw) q_f_type ?_
  refine mr_iconst (pc := 11) (z := 3) dX12_isSign_11 ?_
  refine mr_icmp_ne (pc := 12) (tgt := 27) dX12_isSign_12 (by decide) (r32 ht_f_type rfl) (r32 (rR (x := 3)) rfl) (fun h22 => ?_) (fun h22 => ?_)
  · have h23 : 0 ≤ f_type ∧ f_type ≤ 2 := (vc_X12_isSign_5 h22 ht_f_type)
    refine mr_iconst (pc := 27) (z := 0) dX12_isSign_27 ?_
    exact mr_zretP dX12_isSign_28 rfl (rW (c := 0) (d := 1) (rR (x := 0)) rfl) (le_t rfl) (le_t rfl) ⟨(rW (c := 0) (d := 1) (rR (x := 0)) rfl), (vc_X12_isSign_6 h17 h22 h19 ht_f_number h23 hp1), (vc_X12_isSign_7 h17 h22 h19 ht_f_number h23 hp1), trivial⟩
  have h24 : 3 ≤ f_type ∧ f_type ≤ 3 := (vc_X12_isSign_8 h22 ht_f_type)
  refine sv_aload_n (pc := 15) dX12_isSign_15 rfl rfl ?_
  refine gk_X12_36 (pc := 16) dX12_isSign_16 wF_X12_233 (A_106 hw) q_f_number ?_
  refine mr_iload_n (pc := 19) (z := p1) dX12_isSign_19 rfl rfl ?_
  refine mr_icmp_ne (pc := 20) (tgt := 27) dX12_isSign_20 (by decide) ht_f_number hp1 (fun h25 => ?_) (fun h25 => ?_)
  · refine mr_iconst (pc := 27) (z := 0) dX12_isSign_27 ?_
    exact mr_zretP dX12_isSign_28 rfl (rW (c := 0) (d := 1) (rR (x := 0)) rfl) (le_t rfl) (le_t rfl) ⟨(rW (c := 0) (d := 1) (rR (x := 0)) rfl), (vc_X12_isSign_9 h17 h22 h25 h19 ht_f_number h24 hp1), (vc_X12_isSign_10 h17 h22 h25 h19 ht_f_number h24 hp1), trivial⟩
  refine mr_iconst (pc := 23) (z := 1) dX12_isSign_23 ?_
  refine sv_goto (pc := 24) (tgt := 28) dX12_isSign_24 (by decide) ?_
  exact mr_zretP dX12_isSign_28 rfl (rW (c := 0) (d := 1) (rR (x := 1)) rfl) (le_t rfl) (le_t rfl) ⟨(rW (c := 0) (d := 1) (rR (x := 1)) rfl), (vc_X12_isSign_11 h17 h22 h25 h19 ht_f_number h24 hp1), (vc_X12_isSign_12 h17 h22 h25 h19 ht_f_number h24 hp1), trivial⟩
theorem vc_X12_isWord_1 {f_code : Int} (h0 : ¬ f_code = 0) (h1 : 0 ≤ f_code ∧ f_code ≤ 4) : 1 ≤ f_code ∧ f_code ≤ 4 := by omega
theorem vc_X12_isWord_2 {f_code f_number f_type p1 : Int} (h0 : ¬ f_code = 0) (h1 : 1 ≤ f_code ∧ f_code ≤ 4) (h2 : (-2147483648) ≤ f_number ∧ f_number ≤ 2147483647) (h3 : 0 ≤ f_type ∧ f_type ≤ 3) (h4 : (-2147483648) ≤ p1 ∧ p1 ≤ 2147483647) : (0 : Int) = 1 → f_code = 0 ∧ f_type = 1 ∧ f_number = p1 := by omega
theorem vc_X12_isWord_3 {f_code f_number f_type p1 : Int} (h0 : ¬ f_code = 0) (h1 : 1 ≤ f_code ∧ f_code ≤ 4) (h2 : (-2147483648) ≤ f_number ∧ f_number ≤ 2147483647) (h3 : 0 ≤ f_type ∧ f_type ≤ 3) (h4 : (-2147483648) ≤ p1 ∧ p1 ≤ 2147483647) : (0 : Int) = 0 → ¬ f_code = 0 ∨ ¬ f_type = 1 ∨ ¬ f_number = p1 := by omega
theorem vc_X12_isWord_4 {f_code : Int} (h0 : f_code = 0) (h1 : 0 ≤ f_code ∧ f_code ≤ 4) : 0 ≤ f_code ∧ f_code ≤ 0 := by omega
theorem vc_X12_isWord_5 {f_code f_number f_type p1 : Int} (h0 : f_code = 0) (h1 : ¬ f_type = 1) (h2 : 0 ≤ f_code ∧ f_code ≤ 0) (h3 : (-2147483648) ≤ f_number ∧ f_number ≤ 2147483647) (h4 : 0 ≤ f_type ∧ f_type ≤ 3) (h5 : (-2147483648) ≤ p1 ∧ p1 ≤ 2147483647) : (0 : Int) = 1 → f_code = 0 ∧ f_type = 1 ∧ f_number = p1 := by omega
theorem vc_X12_isWord_6 {f_code f_number f_type p1 : Int} (h0 : f_code = 0) (h1 : ¬ f_type = 1) (h2 : 0 ≤ f_code ∧ f_code ≤ 0) (h3 : (-2147483648) ≤ f_number ∧ f_number ≤ 2147483647) (h4 : 0 ≤ f_type ∧ f_type ≤ 3) (h5 : (-2147483648) ≤ p1 ∧ p1 ≤ 2147483647) : (0 : Int) = 0 → ¬ f_code = 0 ∨ ¬ f_type = 1 ∨ ¬ f_number = p1 := by omega
theorem vc_X12_isWord_7 {f_type : Int} (h0 : f_type = 1) (h1 : 0 ≤ f_type ∧ f_type ≤ 3) : 1 ≤ f_type ∧ f_type ≤ 1 := by omega
theorem vc_X12_isWord_8 {f_code f_number f_type p1 : Int} (h0 : f_code = 0) (h1 : f_type = 1) (h2 : ¬ f_number = p1) (h3 : 0 ≤ f_code ∧ f_code ≤ 0) (h4 : (-2147483648) ≤ f_number ∧ f_number ≤ 2147483647) (h5 : 1 ≤ f_type ∧ f_type ≤ 1) (h6 : (-2147483648) ≤ p1 ∧ p1 ≤ 2147483647) : (0 : Int) = 1 → f_code = 0 ∧ f_type = 1 ∧ f_number = p1 := by omega
theorem vc_X12_isWord_9 {f_code f_number f_type p1 : Int} (h0 : f_code = 0) (h1 : f_type = 1) (h2 : ¬ f_number = p1) (h3 : 0 ≤ f_code ∧ f_code ≤ 0) (h4 : (-2147483648) ≤ f_number ∧ f_number ≤ 2147483647) (h5 : 1 ≤ f_type ∧ f_type ≤ 1) (h6 : (-2147483648) ≤ p1 ∧ p1 ≤ 2147483647) : (0 : Int) = 0 → ¬ f_code = 0 ∨ ¬ f_type = 1 ∨ ¬ f_number = p1 := by omega
theorem vc_X12_isWord_10 {f_code f_number f_type p1 : Int} (h0 : f_code = 0) (h1 : f_type = 1) (h2 : f_number = p1) (h3 : 0 ≤ f_code ∧ f_code ≤ 0) (h4 : (-2147483648) ≤ f_number ∧ f_number ≤ 2147483647) (h5 : 1 ≤ f_type ∧ f_type ≤ 1) (h6 : (-2147483648) ≤ p1 ∧ p1 ≤ 2147483647) : (1 : Int) = 1 → f_code = 0 ∧ f_type = 1 ∧ f_number = p1 := by omega
theorem vc_X12_isWord_11 {f_code f_number f_type p1 : Int} (h0 : f_code = 0) (h1 : f_type = 1) (h2 : f_number = p1) (h3 : 0 ≤ f_code ∧ f_code ≤ 0) (h4 : (-2147483648) ≤ f_number ∧ f_number ≤ 2147483647) (h5 : 1 ≤ f_type ∧ f_type ≤ 1) (h6 : (-2147483648) ≤ p1 ∧ p1 ≤ 2147483647) : (1 : Int) = 0 → ¬ f_code = 0 ∨ ¬ f_type = 1 ∨ ¬ f_number = p1 := by omega
set_option maxRecDepth 4000 in
set_option maxHeartbeats 4000000 in
theorem c_X12_isWord {l : Launch} {D : va_G} {c : Nat → ClassId} {H0 : Heap} {sa : Nat × Nat × (Nat → Int32)} {w : mW} {μ : mM} (hw : mWF w) (hT : mT w μ) {p1 : Int} (hp1 : (-2147483648) ≤ p1 ∧ p1 ≤ 2147483647) {f_code : Int} (q_f_code : μ 106 37 = f_code) {f_type : Int} (q_f_type : μ 106 35 = f_type) {f_number : Int} (q_f_number : μ 106 36 = f_number) : sC (gG l D c H0 sa) mX12_isWord 1 0 0 [.ref 106, iv p1] (mk w μ) (qP w μ (fun z => (0 ≤ z ∧ z ≤ 1) ∧ (z = 1 → f_code = 0 ∧ f_type = 1 ∧ f_number = p1) ∧ (z = 0 → ¬ f_code = 0 ∨ ¬ f_type = 1 ∨ ¬ f_number = p1) ∧ True)) := by
  refine sC.of rfl (by decide) (le_t rfl) ?_
  have ht_f_code : (0 ≤ f_code ∧ f_code ≤ 4) := by rw [← q_f_code]; exact hT 106 106 (A_106 hw) 37
  have ht_f_type : (0 ≤ f_type ∧ f_type ≤ 3) := by rw [← q_f_type]; exact hT 106 106 (A_106 hw) 35
  have ht_f_number : ((-2147483648) ≤ f_number ∧ f_number ≤ 2147483647) := by rw [← q_f_number]; exact hT 106 106 (A_106 hw) 36
  refine mr_lvE (lv' := [(0, .ref 106), (1, iv p1)]) rfl ?_
  refine sv_aload_n (pc := 0) dX12_isWord_0 rfl rfl ?_
  refine gk_X12_37 (pc := 1) dX12_isWord_1 wF_X12_215 (A_106 hw) q_f_code ?_
  refine mr_if_ne (pc := 4) (tgt := 27) dX12_isWord_4 (by decide) (r32 ht_f_code rfl) (fun h13 => ?_) (fun h13 => ?_)
  · have h14 : 1 ≤ f_code ∧ f_code ≤ 4 := (vc_X12_isWord_1 h13 ht_f_code)
    refine mr_iconst (pc := 27) (z := 0) dX12_isWord_27 ?_
    exact mr_zretP dX12_isWord_28 rfl (rW (c := 0) (d := 1) (rR (x := 0)) rfl) (le_t rfl) (le_t rfl) ⟨(rW (c := 0) (d := 1) (rR (x := 0)) rfl), (vc_X12_isWord_2 h13 h14 ht_f_number ht_f_type hp1), (vc_X12_isWord_3 h13 h14 ht_f_number ht_f_type hp1), trivial⟩
  have h15 : 0 ≤ f_code ∧ f_code ≤ 0 := (vc_X12_isWord_4 h13 ht_f_code)
  refine sv_aload_n (pc := 7) dX12_isWord_7 rfl rfl ?_
  refine gk_X12_35 (pc := 8) dX12_isWord_8 wF_X12_230 (A_106 hw) q_f_type ?_
  refine mr_iconst (pc := 11) (z := 1) dX12_isWord_11 ?_
  refine mr_icmp_ne (pc := 12) (tgt := 27) dX12_isWord_12 (by decide) (r32 ht_f_type rfl) (r32 (rR (x := 1)) rfl) (fun h17 => ?_) (fun h17 => ?_)
  · refine mr_iconst (pc := 27) (z := 0) dX12_isWord_27 ?_
    exact mr_zretP dX12_isWord_28 rfl (rW (c := 0) (d := 1) (rR (x := 0)) rfl) (le_t rfl) (le_t rfl) ⟨(rW (c := 0) (d := 1) (rR (x := 0)) rfl), (vc_X12_isWord_5 h13 h17 h15 ht_f_number ht_f_type hp1), (vc_X12_isWord_6 h13 h17 h15 ht_f_number ht_f_type hp1), trivial⟩
  have h18 : 1 ≤ f_type ∧ f_type ≤ 1 := (vc_X12_isWord_7 h17 ht_f_type)
  refine sv_aload_n (pc := 15) dX12_isWord_15 rfl rfl ?_
  refine gk_X12_36 (pc := 16) dX12_isWord_16 wF_X12_233 (A_106 hw) q_f_number ?_
  refine mr_iload_n (pc := 19) (z := p1) dX12_isWord_19 rfl rfl ?_
  refine mr_icmp_ne (pc := 20) (tgt := 27) dX12_isWord_20 (by decide) ht_f_number hp1 (fun h19 => ?_) (fun h19 => ?_)
  · refine mr_iconst (pc := 27) (z := 0) dX12_isWord_27 ?_
    exact mr_zretP dX12_isWord_28 rfl (rW (c := 0) (d := 1) (rR (x := 0)) rfl) (le_t rfl) (le_t rfl) ⟨(rW (c := 0) (d := 1) (rR (x := 0)) rfl), (vc_X12_isWord_8 h13 h17 h19 h15 ht_f_number h18 hp1), (vc_X12_isWord_9 h13 h17 h19 h15 ht_f_number h18 hp1), trivial⟩
  refine mr_iconst (pc := 23) (z := 1) dX12_isWord_23 ?_
  refine sv_goto (pc := 24) (tgt := 28) dX12_isWord_24 (by decide) ?_
  exact mr_zretP dX12_isWord_28 rfl (rW (c := 0) (d := 1) (rR (x := 1)) rfl) (le_t rfl) (le_t rfl) ⟨(rW (c := 0) (d := 1) (rR (x := 1)) rfl), (vc_X12_isWord_10 h13 h17 h19 h15 ht_f_number h18 hp1), (vc_X12_isWord_11 h13 h17 h19 h15 ht_f_number h18 hp1), trivial⟩
set_option maxRecDepth 4000 in
set_option maxHeartbeats 4000000 in
theorem c_X12_freshRow {l : Launch} {D : va_G} {c : Nat → ClassId} {H0 : Heap} {sa : Nat × Nat × (Nat → Int32)} {w : mW} {μ : mM} (hw : mWF w) (hT : mT w μ) : sC (gG l D c H0 sa) mX12_freshRow 1 0 0 [.ref 106] (mk w μ) (qV w [148999, 149999, 150999] μ (fun μ1 => True)) := by
  refine sC.of rfl (by decide) (le_t rfl) ?_
  refine mr_lvE (lv' := [(0, .ref 106)]) rfl ?_
  refine sv_aload_n (pc := 0) dX12_freshRow_0 rfl rfl ?_
  refine gf_X12_63 (pc := 1) dX12_freshRow_1 wF_X12_266 (A_106 hw) hT ?_
  refine sv_aload_n (pc := 4) dX12_freshRow_4 rfl rfl ?_
  refine gf_X12_59 (pc := 5) dX12_freshRow_5 wF_X12_254 (A_106 hw) hT fun z1 q2 h3 => ?_
  refine mr_lconst (pc := 8) (z := 0) dX12_freshRow_8 (by decide) ?_
  refine ss_148 (pc := 9) dX12_freshRow_9 (A_148 hw) hT (rIx (n := 10) h3 rfl) (rW (c := -9223372036854775808) (d := 9223372036854775807) (rR (x := 0)) rfl) fun μ4 u5 T6 => ?_
  refine sv_aload_n (pc := 10) dX12_freshRow_10 rfl rfl ?_
  refine gf_X12_64 (pc := 11) dX12_freshRow_11 wF_X12_269 (A_106 hw) T6 ?_
  refine sv_aload_n (pc := 14) dX12_freshRow_14 rfl rfl ?_
  refine gk_X12_59 (pc := 15) dX12_freshRow_15 wF_X12_254 (A_106 hw) (u5.f (Or.inl (mAt.ne (A_148 hw) (A_106 hw) rfl)) q2) ?_
  refine mr_lconst (pc := 18) (z := 0) dX12_freshRow_18 (by decide) ?_
  refine ss_149 (pc := 19) dX12_freshRow_19 (A_149 hw) T6 (rIx (n := 10) h3 rfl) (rW (c := -9223372036854775808) (d := 9223372036854775807) (rR (x := 0)) rfl) fun μ7 u8 T9 => ?_
  refine sv_aload_n (pc := 20) dX12_freshRow_20 rfl rfl ?_
  refine gf_X12_65 (pc := 21) dX12_freshRow_21 wF_X12_272 (A_106 hw) T9 ?_
  refine sv_aload_n (pc := 24) dX12_freshRow_24 rfl rfl ?_
  refine gk_X12_59 (pc := 25) dX12_freshRow_25 wF_X12_254 (A_106 hw) (u8.f (Or.inl (mAt.ne (A_149 hw) (A_106 hw) rfl)) (u5.f (Or.inl (mAt.ne (A_148 hw) (A_106 hw) rfl)) q2)) ?_
  refine mr_iconst (pc := 28) (z := 1) dX12_freshRow_28 ?_
  refine ss_150 (pc := 29) dX12_freshRow_29 (A_150 hw) T9 (rIx (n := 10) h3 rfl) (rW (c := 0) (d := 1) (rR (x := 1)) rfl) fun μ10 u11 T12 => ?_
  exact mr_vret dX12_freshRow_30 rfl (le_t rfl) (le_t rfl) T12 (mF.up (mF.up (mF.up mF.refl (A_148 hw) u5 rfl) (A_149 hw) u8 rfl) (A_150 hw) u11 rfl) trivial
theorem vc_X12_openLevel_1 {f_levels : Int} (h0 : f_levels ≤ 5) (h1 : 0 ≤ f_levels ∧ f_levels ≤ 6) : 0 ≤ f_levels ∧ f_levels ≤ 5 := by omega
theorem vc_X12_openLevel_2 {f_levels : Int} (h0 : f_levels ≤ 5) (h1 : 0 ≤ f_levels ∧ f_levels ≤ 5) : (f_levels + 1) = f_levels + 1 := by omega
set_option maxRecDepth 4000 in
set_option maxHeartbeats 4000000 in
theorem c_X12_openLevel {l : Launch} {D : va_G} {c : Nat → ClassId} {H0 : Heap} {sa : Nat × Nat × (Nat → Int32)} {w : mW} {μ : mM} (hw : mWF w) (hT : mT w μ) {f_levels : Int} (q_f_levels : μ 106 59 = f_levels) (hq0 : f_levels ≤ 5) : sC (gG l D c H0 sa) mX12_openLevel 2 0 0 [.ref 106] (mk w μ) (qV w [106059, 145999, 146999, 147999, 148999, 149999, 150999] μ (fun μ1 => ∃ o_levels : Int, μ1 106 59 = o_levels ∧ (o_levels = f_levels + 1) ∧ True)) := by
  refine sC.of rfl (by decide) (le_t rfl) ?_
  have ht_f_levels : (0 ≤ f_levels ∧ f_levels ≤ 6) := by rw [← q_f_levels]; exact hT 106 106 (A_106 hw) 59
  have h1 : 0 ≤ f_levels ∧ f_levels ≤ 5 := (vc_X12_openLevel_1 hq0 ht_f_levels)
  refine mr_lvE (lv' := [(0, .ref 106)]) rfl ?_
  refine sv_aload_n (pc := 0) dX12_openLevel_0 rfl rfl ?_
  refine gf_X12_60 (pc := 1) dX12_openLevel_1 wF_X12_250 (A_106 hw) hT ?_
  refine sv_aload_n (pc := 4) dX12_openLevel_4 rfl rfl ?_
  refine gk_X12_59 (pc := 5) dX12_openLevel_5 wF_X12_254 (A_106 hw) q_f_levels ?_
  refine mr_lconst (pc := 8) (z := 0) dX12_openLevel_8 (by decide) ?_
  refine ss_145 (pc := 9) dX12_openLevel_9 (A_145 hw) hT (rIx (n := 10) h1 rfl) (rW (c := -9223372036854775808) (d := 9223372036854775807) (rR (x := 0)) rfl) fun μ50 u51 T52 => ?_
  refine sv_aload_n (pc := 10) dX12_openLevel_10 rfl rfl ?_
  refine gf_X12_61 (pc := 11) dX12_openLevel_11 wF_X12_257 (A_106 hw) T52 ?_
  refine sv_aload_n (pc := 14) dX12_openLevel_14 rfl rfl ?_
  refine gk_X12_59 (pc := 15) dX12_openLevel_15 wF_X12_254 (A_106 hw) (u51.f (Or.inl (mAt.ne (A_145 hw) (A_106 hw) rfl)) q_f_levels) ?_
  refine mr_lconst (pc := 18) (z := 0) dX12_openLevel_18 (by decide) ?_
  refine ss_146 (pc := 19) dX12_openLevel_19 (A_146 hw) T52 (rIx (n := 10) h1 rfl) (rW (c := -9223372036854775808) (d := 9223372036854775807) (rR (x := 0)) rfl) fun μ53 u54 T55 => ?_
  refine sv_aload_n (pc := 20) dX12_openLevel_20 rfl rfl ?_
  refine gf_X12_62 (pc := 21) dX12_openLevel_21 wF_X12_260 (A_106 hw) T55 ?_
  refine sv_aload_n (pc := 24) dX12_openLevel_24 rfl rfl ?_
  refine gk_X12_59 (pc := 25) dX12_openLevel_25 wF_X12_254 (A_106 hw) (u54.f (Or.inl (mAt.ne (A_146 hw) (A_106 hw) rfl)) (u51.f (Or.inl (mAt.ne (A_145 hw) (A_106 hw) rfl)) q_f_levels)) ?_
  refine mr_iconst (pc := 28) (z := 0) dX12_openLevel_28 ?_
  refine ss_147 (pc := 29) dX12_openLevel_29 (A_147 hw) T55 (rIx (n := 10) h1 rfl) (rW (c := 0) (d := 1) (rR (x := 0)) rfl) fun μ56 u57 T58 => ?_
  refine sv_aload_n (pc := 30) dX12_openLevel_30 rfl rfl ?_
  refine mr_cVV (pc := 31) (c_X12_freshRow hw T58) (gOk _ _ _ _ _) dX12_openLevel_31 (tX12_freshRow _ _ _ _ _) ⟨wV_X12_freshRow, wL_X12_freshRow⟩ wM_X12_263 (gCX12 _ _ _ _ _) rfl (A_106 hw) rfl ⟨le_t rfl, le_t rfl⟩ ⟨le_t rfl, le_t rfl⟩ rfl (le_t rfl) fun μ59 T60 F61 h62 => ?_
  refine sv_aload_n (pc := 34) dX12_openLevel_34 rfl rfl ?_
  refine sv_dup (pc := 35) dX12_openLevel_35 rfl ?_
  refine gk_X12_59 (pc := 36) dX12_openLevel_36 wF_X12_254 (A_106 hw) (F61.f (A_106 hw) rfl (u57.f (Or.inl (mAt.ne (A_147 hw) (A_106 hw) rfl)) (u54.f (Or.inl (mAt.ne (A_146 hw) (A_106 hw) rfl)) (u51.f (Or.inl (mAt.ne (A_145 hw) (A_106 hw) rfl)) q_f_levels)))) ?_
  refine mr_iconst (pc := 39) (z := 1) dX12_openLevel_39 ?_
  refine mr_iadd (pc := 40) (x := f_levels) (y := 1) dX12_openLevel_40 ?_
  refine pf_X12_59 (pc := 41) dX12_openLevel_41 wF_X12_254 (A_106 hw) T60 (rW (c := 0) (d := 6) (rAdd (e := 1) (f := 6) h1 (rR (x := 1)) rfl) rfl) fun μ63 u64 T65 => ?_
  exact mr_vret dX12_openLevel_44 rfl (le_t rfl) (le_t rfl) T65 (mF.up (mF.call (mF.up (mF.up (mF.up mF.refl (A_145 hw) u51 rfl) (A_146 hw) u54 rfl) (A_147 hw) u57 rfl) F61 rfl) (A_106 hw) u64 rfl) ⟨(f_levels + 1), u64.1, (vc_X12_openLevel_2 hq0 h1), trivial⟩
theorem vc_X12_endRow_1 {f_levels : Int} (h0 : 1 ≤ f_levels) (h1 : 0 ≤ f_levels ∧ f_levels ≤ 6) : 1 ≤ f_levels ∧ f_levels ≤ 6 := by omega
theorem vc_X12_endRow_2 {z155 : Int} (h0 : ¬ z155 = 0) (h1 : 0 ≤ z155 ∧ z155 ≤ 1) : 1 ≤ z155 ∧ z155 ≤ 1 := by omega
theorem vc_X12_endRow_3 {z155 : Int} (h0 : z155 = 0) (h1 : 0 ≤ z155 ∧ z155 ≤ 1) : 0 ≤ z155 ∧ z155 ≤ 0 := by omega
theorem vc_X12_endRow_4 {z171 : Int} (h0 : z171 = 0) (h1 : 0 ≤ z171 ∧ z171 ≤ 1) : 0 ≤ z171 ∧ z171 ≤ 0 := by omega
theorem vc_X12_endRow_5 {z171 : Int} (h0 : ¬ z171 = 0) (h1 : 0 ≤ z171 ∧ z171 ≤ 1) : 1 ≤ z171 ∧ z171 ≤ 1 := by omega
set_option maxRecDepth 4000 in
set_option maxHeartbeats 4000000 in
theorem c_X12_endRow {l : Launch} {D : va_G} {c : Nat → ClassId} {H0 : Heap} {sa : Nat × Nat × (Nat → Int32)} {w : mW} {μ : mM} (hw : mWF w) (hT : mT w μ) {f_levels : Int} (q_f_levels : μ 106 59 = f_levels) (hq0 : 1 ≤ f_levels) : sC (gG l D c H0 sa) mX12_endRow 1 0 0 [.ref 106] (mk w μ) (qV w [145999, 146999, 147999] μ (fun μ1 => True)) := by
  refine sC.of rfl (by decide) (le_t rfl) ?_
  have ht_f_levels : (0 ≤ f_levels ∧ f_levels ≤ 6) := by rw [← q_f_levels]; exact hT 106 106 (A_106 hw) 59
  have h1 : 1 ≤ f_levels ∧ f_levels ≤ 6 := (vc_X12_endRow_1 hq0 ht_f_levels)
  refine mr_lvE (lv' := [(0, .ref 106)]) rfl ?_
  refine sv_aload_n (pc := 0) dX12_endRow_0 rfl rfl ?_
  refine gk_X12_59 (pc := 1) dX12_endRow_1 wF_X12_254 (A_106 hw) q_f_levels ?_
  refine mr_iconst (pc := 4) (z := 1) dX12_endRow_4 ?_
  refine mr_isub (pc := 5) (x := f_levels) (y := 1) dX12_endRow_5 ?_
  refine mr_istore_n (pc := 6) (lv' := [(1, iv (f_levels - 1)), (0, .ref 106)]) dX12_endRow_6 rfl (by decide) rfl ?_
  refine sv_aload_n (pc := 7) dX12_endRow_7 rfl rfl ?_
  refine gf_X12_60 (pc := 8) dX12_endRow_8 wF_X12_250 (A_106 hw) hT ?_
  refine mr_iload_n (pc := 11) (z := (f_levels - 1)) dX12_endRow_11 rfl rfl ?_
  refine sv_dup2 (pc := 12) dX12_endRow_12 rfl rfl ?_
  refine la_145 (pc := 13) dX12_endRow_13 (A_145 hw) hT (rIx (n := 10) (rSub (e := 0) (f := 5) h1 (rR (x := 1)) rfl) rfl) fun z131 q132 h133 => ?_
  refine sv_aload_n (pc := 14) dX12_endRow_14 rfl rfl ?_
  refine gf_X12_63 (pc := 15) dX12_endRow_15 wF_X12_266 (A_106 hw) hT ?_
  refine mr_iload_n (pc := 18) (z := (f_levels - 1)) dX12_endRow_18 rfl rfl ?_
  refine la_148 (pc := 19) dX12_endRow_19 (A_148 hw) hT (rIx (n := 10) (rSub (e := 0) (f := 5) h1 (rR (x := 1)) rfl) rfl) fun z134 q135 h136 => ?_
  refine mr_lor (pc := 20) dX12_endRow_20 ?_
  refine mr_genL (r64i _) fun z137 q138 h139 => ?_
  refine ss_145 (pc := 21) dX12_endRow_21 (A_145 hw) hT (rIx (n := 10) (rSub (e := 0) (f := 5) h1 (rR (x := 1)) rfl) rfl) h139 fun μ140 u141 T142 => ?_
  refine sv_aload_n (pc := 22) dX12_endRow_22 rfl rfl ?_
  refine gf_X12_61 (pc := 23) dX12_endRow_23 wF_X12_257 (A_106 hw) T142 ?_
  refine mr_iload_n (pc := 26) (z := (f_levels - 1)) dX12_endRow_26 rfl rfl ?_
  refine sv_dup2 (pc := 27) dX12_endRow_27 rfl rfl ?_
  refine la_146 (pc := 28) dX12_endRow_28 (A_146 hw) T142 (rIx (n := 10) (rSub (e := 0) (f := 5) h1 (rR (x := 1)) rfl) rfl) fun z143 q144 h145 => ?_
  refine sv_aload_n (pc := 29) dX12_endRow_29 rfl rfl ?_
  refine gf_X12_64 (pc := 30) dX12_endRow_30 wF_X12_269 (A_106 hw) T142 ?_
  refine mr_iload_n (pc := 33) (z := (f_levels - 1)) dX12_endRow_33 rfl rfl ?_
  refine la_149 (pc := 34) dX12_endRow_34 (A_149 hw) T142 (rIx (n := 10) (rSub (e := 0) (f := 5) h1 (rR (x := 1)) rfl) rfl) fun z146 q147 h148 => ?_
  refine mr_lor (pc := 35) dX12_endRow_35 ?_
  refine mr_genL (r64i _) fun z149 q150 h151 => ?_
  refine ss_146 (pc := 36) dX12_endRow_36 (A_146 hw) T142 (rIx (n := 10) (rSub (e := 0) (f := 5) h1 (rR (x := 1)) rfl) rfl) h151 fun μ152 u153 T154 => ?_
  refine sv_aload_n (pc := 37) dX12_endRow_37 rfl rfl ?_
  refine gf_X12_62 (pc := 38) dX12_endRow_38 wF_X12_260 (A_106 hw) T154 ?_
  refine mr_iload_n (pc := 41) (z := (f_levels - 1)) dX12_endRow_41 rfl rfl ?_
  refine sv_aload_n (pc := 42) dX12_endRow_42 rfl rfl ?_
  refine gf_X12_62 (pc := 43) dX12_endRow_43 wF_X12_260 (A_106 hw) T154 ?_
  refine mr_iload_n (pc := 46) (z := (f_levels - 1)) dX12_endRow_46 rfl rfl ?_
  refine la_147 (pc := 47) dX12_endRow_47 (A_147 hw) T154 (rIx (n := 10) (rSub (e := 0) (f := 5) h1 (rR (x := 1)) rfl) rfl) fun z155 q156 h157 => ?_
  refine mr_if_ne (pc := 48) (tgt := 60) dX12_endRow_48 (by decide) (r32 h157 rfl) (fun h165 => ?_) (fun h165 => ?_)
  · have h166 : 1 ≤ z155 ∧ z155 ≤ 1 := (vc_X12_endRow_2 h165 h157)
    refine mr_iconst (pc := 60) (z := 1) dX12_endRow_60 ?_
    refine sv_goto (pc := 61) (tgt := 65) dX12_endRow_61 (by decide) ?_
    refine ss_147 (pc := 65) dX12_endRow_65 (A_147 hw) T154 (rIx (n := 10) (rSub (e := 0) (f := 5) h1 (rR (x := 1)) rfl) rfl) (rW (c := 0) (d := 1) (rR (x := 1)) rfl) fun μ167 u168 T169 => ?_
    exact mr_vret dX12_endRow_66 rfl (le_t rfl) (le_t rfl) T169 (mF.up (mF.up (mF.up mF.refl (A_145 hw) u141 rfl) (A_146 hw) u153 rfl) (A_147 hw) u168 rfl) trivial
  have h170 : 0 ≤ z155 ∧ z155 ≤ 0 := (vc_X12_endRow_3 h165 h157)
  refine sv_aload_n (pc := 51) dX12_endRow_51 rfl rfl ?_
  refine gf_X12_65 (pc := 52) dX12_endRow_52 wF_X12_272 (A_106 hw) T154 ?_
  refine mr_iload_n (pc := 55) (z := (f_levels - 1)) dX12_endRow_55 rfl rfl ?_
  refine la_150 (pc := 56) dX12_endRow_56 (A_150 hw) T154 (rIx (n := 10) (rSub (e := 0) (f := 5) h1 (rR (x := 1)) rfl) rfl) fun z171 q172 h173 => ?_
  refine mr_if_eq (pc := 57) (tgt := 64) dX12_endRow_57 (by decide) (r32 h173 rfl) (fun h176 => ?_) (fun h176 => ?_)
  · have h177 : 0 ≤ z171 ∧ z171 ≤ 0 := (vc_X12_endRow_4 h176 h173)
    refine mr_iconst (pc := 64) (z := 0) dX12_endRow_64 ?_
    refine ss_147 (pc := 65) dX12_endRow_65 (A_147 hw) T154 (rIx (n := 10) (rSub (e := 0) (f := 5) h1 (rR (x := 1)) rfl) rfl) (rW (c := 0) (d := 1) (rR (x := 0)) rfl) fun μ178 u179 T180 => ?_
    exact mr_vret dX12_endRow_66 rfl (le_t rfl) (le_t rfl) T180 (mF.up (mF.up (mF.up mF.refl (A_145 hw) u141 rfl) (A_146 hw) u153 rfl) (A_147 hw) u179 rfl) trivial
  have h181 : 1 ≤ z171 ∧ z171 ≤ 1 := (vc_X12_endRow_5 h176 h173)
  refine mr_iconst (pc := 60) (z := 1) dX12_endRow_60 ?_
  refine sv_goto (pc := 61) (tgt := 65) dX12_endRow_61 (by decide) ?_
  refine ss_147 (pc := 65) dX12_endRow_65 (A_147 hw) T154 (rIx (n := 10) (rSub (e := 0) (f := 5) h1 (rR (x := 1)) rfl) rfl) (rW (c := 0) (d := 1) (rR (x := 1)) rfl) fun μ182 u183 T184 => ?_
  exact mr_vret dX12_endRow_66 rfl (le_t rfl) (le_t rfl) T184 (mF.up (mF.up (mF.up mF.refl (A_145 hw) u141 rfl) (A_146 hw) u153 rfl) (A_147 hw) u183 rfl) trivial
set_option maxRecDepth 4000 in
set_option maxHeartbeats 4000000 in
theorem c_X12_fault {l : Launch} {D : va_G} {c : Nat → ClassId} {H0 : Heap} {sa : Nat × Nat × (Nat → Int32)} {w : mW} {μ : mM} (hw : mWF w) (hT : mT w μ) : sC (gG l D c H0 sa) mX12_fault 1 0 0 [.ref 106] (mk w μ) (qP w μ (fun z => ((-2147483648) ≤ z ∧ z ≤ 2147483647) ∧ True)) := by
  refine sC.of rfl (by decide) (le_t rfl) ?_
  refine mr_lvE (lv' := [(0, .ref 106)]) rfl ?_
  refine sv_aload_n (pc := 0) dX12_fault_0 rfl rfl ?_
  refine gf_X12_66 (pc := 1) dX12_fault_1 wF_X12_376 (A_106 hw) hT fun z1 q2 h3 => ?_
  exact mr_iretP dX12_fault_4 rfl (le_t rfl) (le_t rfl) ⟨(rW (c := (-2147483648)) (d := 2147483647) h3 rfl), trivial⟩
theorem vc_X12_related_1 {p1 p3 : Int} (h0 : p3 < p1) (h1 : (-2147483648) ≤ p1 ∧ p1 ≤ 2147483647) (h2 : (-2147483648) ≤ p3 ∧ p3 ≤ 2147483647) : (-2147483647) ≤ p1 ∧ p1 ≤ 2147483647 := by omega
theorem vc_X12_related_2 {p1 p3 : Int} (h0 : p3 < p1) (h1 : (-2147483647) ≤ p1 ∧ p1 ≤ 2147483647) (h2 : (-2147483648) ≤ p3 ∧ p3 ≤ 2147483647) : (-2147483648) ≤ p3 ∧ p3 ≤ 2147483646 := by omega
theorem vc_X12_related_3 {p2 : Int} (h0 : p2 = 61) (h1 : ¬ p2 = 60) (h2 : (-2147483648) ≤ p2 ∧ p2 ≤ 2147483647) : 61 ≤ p2 ∧ p2 ≤ 61 := by omega
theorem vc_X12_related_4 {p2 : Int} (h0 : p2 = 60) (h1 : (-2147483648) ≤ p2 ∧ p2 ≤ 2147483647) : 60 ≤ p2 ∧ p2 ≤ 60 := by omega
theorem vc_X12_related_5 {p1 p3 : Int} (h0 : p1 < p3) (h1 : (-2147483648) ≤ p1 ∧ p1 ≤ 2147483647) (h2 : (-2147483648) ≤ p3 ∧ p3 ≤ 2147483647) : (-2147483648) ≤ p1 ∧ p1 ≤ 2147483646 := by omega
theorem vc_X12_related_6 {p1 p3 : Int} (h0 : p1 < p3) (h1 : (-2147483648) ≤ p1 ∧ p1 ≤ 2147483646) (h2 : (-2147483648) ≤ p3 ∧ p3 ≤ 2147483647) : (-2147483647) ≤ p3 ∧ p3 ≤ 2147483647 := by omega
set_option maxRecDepth 4000 in
set_option maxHeartbeats 4000000 in
theorem c_X12_related {l : Launch} {D : va_G} {c : Nat → ClassId} {H0 : Heap} {sa : Nat × Nat × (Nat → Int32)} {w : mW} {μ : mM} (hw : mWF w) (hT : mT w μ) {p1 : Int} (hp1 : (-2147483648) ≤ p1 ∧ p1 ≤ 2147483647) {p2 : Int} (hp2 : (-2147483648) ≤ p2 ∧ p2 ≤ 2147483647) {p3 : Int} (hp3 : (-2147483648) ≤ p3 ∧ p3 ≤ 2147483647) : sC (gG l D c H0 sa) mX12_related 1 0 0 [.ref 106, iv p1, iv p2, iv p3] (mk w μ) (qP w μ (fun z => (0 ≤ z ∧ z ≤ 1) ∧ True)) := by
  refine sC.of rfl (by decide) (le_t rfl) ?_
  refine mr_lvE (lv' := [(0, .ref 106), (1, iv p1), (2, iv p2), (3, iv p3)]) rfl ?_
  refine mr_iload_n (pc := 0) (z := p2) dX12_related_0 rfl rfl ?_
  refine mr_bipush (pc := 1) (z := 60) dX12_related_1 (by decide) ?_
  refine mr_icmp_ne (pc := 3) (tgt := 19) dX12_related_3 (by decide) hp2 (r32 (rR (x := 60)) rfl) (fun h7 => ?_) (fun h7 => ?_)
  · refine mr_iload_n (pc := 19) (z := p2) dX12_related_19 rfl rfl ?_
    refine mr_bipush (pc := 20) (z := 61) dX12_related_20 (by decide) ?_
    refine mr_icmp_ne (pc := 22) (tgt := 38) dX12_related_22 (by decide) hp2 (r32 (rR (x := 61)) rfl) (fun h11 => ?_) (fun h11 => ?_)
    · refine mr_iload_n (pc := 38) (z := p1) dX12_related_38 rfl rfl ?_
      refine mr_iload_n (pc := 39) (z := p3) dX12_related_39 rfl rfl ?_
      refine mr_icmp_le (pc := 40) (tgt := 47) dX12_related_40 (by decide) hp1 hp3 (fun h14 => ?_) (fun h14 => ?_)
      · refine mr_iconst (pc := 47) (z := 0) dX12_related_47 ?_
        exact mr_zretP dX12_related_48 rfl (rW (c := 0) (d := 1) (rR (x := 0)) rfl) (le_t rfl) (le_t rfl) ⟨(rW (c := 0) (d := 1) (rR (x := 0)) rfl), trivial⟩
      have h15 : (-2147483647) ≤ p1 ∧ p1 ≤ 2147483647 := (vc_X12_related_1 h14 hp1 hp3)
      have h16 : (-2147483648) ≤ p3 ∧ p3 ≤ 2147483646 := (vc_X12_related_2 h14 h15 hp3)
      refine mr_iconst (pc := 43) (z := 1) dX12_related_43 ?_
      refine sv_goto (pc := 44) (tgt := 48) dX12_related_44 (by decide) ?_
      exact mr_zretP dX12_related_48 rfl (rW (c := 0) (d := 1) (rR (x := 1)) rfl) (le_t rfl) (le_t rfl) ⟨(rW (c := 0) (d := 1) (rR (x := 1)) rfl), trivial⟩
    have h17 : 61 ≤ p2 ∧ p2 ≤ 61 := (vc_X12_related_3 h11 h7 hp2)
    refine mr_iload_n (pc := 25) (z := p1) dX12_related_25 rfl rfl ?_
    refine mr_iload_n (pc := 26) (z := p3) dX12_related_26 rfl rfl ?_
    refine mr_icmp_ne (pc := 27) (tgt := 34) dX12_related_27 (by decide) hp1 hp3 (fun h18 => ?_) (fun h18 => ?_)
    · refine mr_iconst (pc := 34) (z := 0) dX12_related_34 ?_
      refine sv_goto (pc := 35) (tgt := 48) dX12_related_35 (by decide) ?_
      exact mr_zretP dX12_related_48 rfl (rW (c := 0) (d := 1) (rR (x := 0)) rfl) (le_t rfl) (le_t rfl) ⟨(rW (c := 0) (d := 1) (rR (x := 0)) rfl), trivial⟩
    refine mr_iconst (pc := 30) (z := 1) dX12_related_30 ?_
    refine sv_goto (pc := 31) (tgt := 48) dX12_related_31 (by decide) ?_
    exact mr_zretP dX12_related_48 rfl (rW (c := 0) (d := 1) (rR (x := 1)) rfl) (le_t rfl) (le_t rfl) ⟨(rW (c := 0) (d := 1) (rR (x := 1)) rfl), trivial⟩
  have h19 : 60 ≤ p2 ∧ p2 ≤ 60 := (vc_X12_related_4 h7 hp2)
  refine mr_iload_n (pc := 6) (z := p1) dX12_related_6 rfl rfl ?_
  refine mr_iload_n (pc := 7) (z := p3) dX12_related_7 rfl rfl ?_
  refine mr_icmp_ge (pc := 8) (tgt := 15) dX12_related_8 (by decide) hp1 hp3 (fun h22 => ?_) (fun h22 => ?_)
  · refine mr_iconst (pc := 15) (z := 0) dX12_related_15 ?_
    refine sv_goto (pc := 16) (tgt := 48) dX12_related_16 (by decide) ?_
    exact mr_zretP dX12_related_48 rfl (rW (c := 0) (d := 1) (rR (x := 0)) rfl) (le_t rfl) (le_t rfl) ⟨(rW (c := 0) (d := 1) (rR (x := 0)) rfl), trivial⟩
  have h23 : (-2147483648) ≤ p1 ∧ p1 ≤ 2147483646 := (vc_X12_related_5 h22 hp1 hp3)
  have h24 : (-2147483647) ≤ p3 ∧ p3 ≤ 2147483647 := (vc_X12_related_6 h22 h23 hp3)
  refine mr_iconst (pc := 11) (z := 1) dX12_related_11 ?_
  refine sv_goto (pc := 12) (tgt := 48) dX12_related_12 (by decide) ?_
  exact mr_zretP dX12_related_48 rfl (rW (c := 0) (d := 1) (rR (x := 1)) rfl) (le_t rfl) (le_t rfl) ⟨(rW (c := 0) (d := 1) (rR (x := 1)) rfl), trivial⟩
theorem vc_X12_waysMatch_1 {p3 : Int} (h0 : 0 ≤ p3 ∧ p3 ≤ 2099) : ((40 * p3) + 4) % 40 = 4 := by omega
theorem vc_X12_waysMatch_2 {z4 : Int} (h0 : ¬ z4 = 0) (h1 : 0 ≤ z4 ∧ z4 ≤ 20) : 1 ≤ z4 ∧ z4 ≤ 20 := by omega
theorem vc_X12_waysMatch_3 {z2392 : Int} (h0 : (21 - z2392) < ((0 : Nat) : Int)) (h1 : 0 ≤ z2392 ∧ z2392 ≤ 20) : False := by omega
theorem vc_X12_waysMatch_4 {z2392 z4 : Int} (h0 : z4 ≤ z2392) (h1 : ¬ z4 = 0) (h2 : 0 ≤ z2392 ∧ z2392 ≤ 20) (h3 : 1 ≤ z4 ∧ z4 ≤ 20) : 1 ≤ z2392 ∧ z2392 ≤ 20 := by omega
theorem vc_X12_waysMatch_5 {z2570 : Int} (h0 : z2570 = 0) (h1 : (-1) ≤ z2570 ∧ z2570 ≤ 1) : 0 ≤ z2570 ∧ z2570 ≤ 0 := by omega
theorem vc_X12_waysMatch_6 {z2392 z4 : Int} (h0 : z2392 < z4) (h1 : ¬ z4 = 0) (h2 : 0 ≤ z2392 ∧ z2392 ≤ 20) (h3 : 1 ≤ z4 ∧ z4 ≤ 20) : 0 ≤ z2392 ∧ z2392 ≤ 19 := by omega
theorem vc_X12_waysMatch_7 {z4109 : Int} (h0 : (41 - z4109) < ((0 : Nat) : Int)) (h1 : 0 ≤ z4109 ∧ z4109 ≤ 40) : False := by omega
theorem vc_X12_waysMatch_8 {z4476 : Int} (h0 : (41 - z4476) < ((0 : Nat) : Int)) (h1 : 0 ≤ z4476 ∧ z4476 ≤ 40) : False := by omega
theorem vc_X12_waysMatch_9 {N z2392 z4 : Int} (h0 : (21 - z2392) < N + 1) (h1 : z2392 < z4) (h2 : ¬ z4 = 0) (h3 : 0 ≤ z2392 ∧ z2392 ≤ 19) (h4 : 1 ≤ z4 ∧ z4 ≤ 20) : (21 - (z2392 + 1)) < N := by omega
theorem vc_X12_waysMatch_10 {z4109 z4119 z4476 : Int} (h0 : z4476 < z4119) (h1 : z4119 ≤ z4109) (h2 : 0 ≤ z4109 ∧ z4109 ≤ 40) (h3 : 0 ≤ z4119 ∧ z4119 ≤ 40) (h4 : 0 ≤ z4476 ∧ z4476 ≤ 40) : 0 ≤ z4476 ∧ z4476 ≤ 39 := by omega
theorem vc_X12_waysMatch_11 {z4109 z4119 z4476 : Int} (h0 : z4476 < z4119) (h1 : z4119 ≤ z4109) (h2 : 0 ≤ z4109 ∧ z4109 ≤ 40) (h3 : 0 ≤ z4119 ∧ z4119 ≤ 40) (h4 : 0 ≤ z4476 ∧ z4476 ≤ 39) : 1 ≤ z4119 ∧ z4119 ≤ 40 := by omega
theorem vc_X12_waysMatch_12 {N z4109 z4119 z4476 : Int} (h0 : (41 - z4476) < N + 1) (h1 : z4476 < z4119) (h2 : z4119 ≤ z4109) (h3 : 0 ≤ z4109 ∧ z4109 ≤ 40) (h4 : 1 ≤ z4119 ∧ z4119 ≤ 40) (h5 : 0 ≤ z4476 ∧ z4476 ≤ 39) : (41 - (z4476 + 1)) < N := by omega
theorem vc_X12_waysMatch_13 {z4513 : Int} (h0 : z4513 = 0) (h1 : (-1) ≤ z4513 ∧ z4513 ≤ 1) : 0 ≤ z4513 ∧ z4513 ≤ 0 := by omega
theorem vc_X12_waysMatch_14  : (41 - 0) < ((42 : Nat) : Int) := by omega
theorem vc_X12_waysMatch_15 {z4109 z4119 : Int} (h0 : z4109 < z4119) (h1 : 0 ≤ z4109 ∧ z4109 ≤ 40) (h2 : 0 ≤ z4119 ∧ z4119 ≤ 40) : 0 ≤ z4109 ∧ z4109 ≤ 39 := by omega
theorem vc_X12_waysMatch_16 {z4109 z4119 : Int} (h0 : z4109 < z4119) (h1 : 0 ≤ z4109 ∧ z4109 ≤ 39) (h2 : 0 ≤ z4119 ∧ z4119 ≤ 40) : 1 ≤ z4119 ∧ z4119 ≤ 40 := by omega
theorem vc_X12_waysMatch_17 {N z4109 z4119 : Int} (h0 : (41 - z4109) < N + 1) (h1 : z4109 < z4119) (h2 : 0 ≤ z4109 ∧ z4109 ≤ 39) (h3 : 1 ≤ z4119 ∧ z4119 ≤ 40) : (41 - (z4109 + 1)) < N := by omega
theorem vc_X12_waysMatch_18 {z4539 : Int} (h0 : z4539 = 0) (h1 : (-1) ≤ z4539 ∧ z4539 ≤ 1) : 0 ≤ z4539 ∧ z4539 ≤ 0 := by omega
theorem vc_X12_waysMatch_19 {z4566 : Int} (h0 : z4566 < 0) (h1 : (-2147483648) ≤ z4566 ∧ z4566 ≤ 2147483647) : (-2147483648) ≤ z4566 ∧ z4566 ≤ (-1) := by omega
theorem vc_X12_waysMatch_20 {z4566 : Int} (h0 : 0 ≤ z4566) (h1 : (-2147483648) ≤ z4566 ∧ z4566 ≤ 2147483647) : 0 ≤ z4566 ∧ z4566 ≤ 2147483647 := by omega
theorem vc_X12_waysMatch_21 {p3 z2392 z4566 z4596 : Int} (h0 : z4566 = z4596) (h1 : 0 ≤ z4566) (h2 : ((((40 * p3) + 6) + z2392) % 40 = 0 → -1 ≤ z4596 ∧ z4596 ≤ 9)) (h3 : ((((40 * p3) + 6) + z2392) % 40 = 4 → 0 ≤ z4596 ∧ z4596 ≤ 20)) (h4 : ((((40 * p3) + 6) + z2392) % 40 = 5 → 0 ≤ z4596 ∧ z4596 ≤ 8)) (h5 : 0 ≤ p3 ∧ p3 ≤ 2099) (h6 : 0 ≤ z2392 ∧ z2392 ≤ 19) (h7 : 0 ≤ z4566 ∧ z4566 ≤ 2147483647) (h8 : (-2147483648) ≤ z4596 ∧ z4596 ≤ 2147483647) : 0 ≤ z4596 ∧ z4596 ≤ 2147483647 := by omega
theorem vc_X12_waysMatch_22  : (21 - 0) < ((22 : Nat) : Int) := by omega
theorem vc_X12_waysMatch_23 {z4 : Int} (h0 : z4 = 0) (h1 : 0 ≤ z4 ∧ z4 ≤ 20) : 0 ≤ z4 ∧ z4 ≤ 0 := by omega
set_option maxRecDepth 4000 in
set_option maxHeartbeats 4000000 in
theorem c_X12_waysMatch {l : Launch} {D : va_G} {c : Nat → ClassId} {H0 : Heap} {sa : Nat × Nat × (Nat → Int32)} {w : mW} {μ : mM} (hw : mWF w) (hT : mT w μ) {p1 : Int} (hp1 : 0 ≤ p1 ∧ p1 ≤ 11) {p2 : Int} (hp2 : 0 ≤ p2 ∧ p2 ≤ 3899) {p3 : Int} (hp3 : 0 ≤ p3 ∧ p3 ≤ 2099) : sC (gG l D c H0 sa) mX12_waysMatch 1 0 0 [.ref 106, iv p1, iv p2, iv p3] (mk w μ) (qP w μ (fun z => (0 ≤ z ∧ z ≤ 1) ∧ True)) := by
  refine sC.of rfl (by decide) (le_t rfl) ?_
  refine mr_lvE (lv' := [(0, .ref 106), (1, iv p1), (2, iv p2), (3, iv p3)]) rfl ?_
  refine sv_aload_n (pc := 0) dX12_waysMatch_0 rfl rfl ?_
  refine gf_X12_50 (pc := 1) dX12_waysMatch_1 wF_X12_305 (A_106 hw) hT ?_
  refine mr_iload_n (pc := 4) (z := p2) dX12_waysMatch_4 rfl rfl ?_
  refine la_137 (pc := 5) dX12_waysMatch_5 (A_137 hw) hT (rIx (n := 3900) hp2 rfl) fun z1 q2 h3 => ?_
  refine mr_lstore (pc := 6) (lv' := [(4, jv z1), (0, .ref 106), (1, iv p1), (2, iv p2), (3, iv p3)]) dX12_waysMatch_6 (by decide) rfl ?_
  refine sv_aload_n (pc := 8) dX12_waysMatch_8 rfl rfl ?_
  refine gf_X12_32 (pc := 9) dX12_waysMatch_9 wF_X12_148 (A_106 hw) hT ?_
  refine mr_bipush (pc := 12) (z := 40) dX12_waysMatch_12 (by decide) ?_
  refine mr_iload_n (pc := 14) (z := p3) dX12_waysMatch_14 rfl rfl ?_
  refine mr_imul (pc := 15) (x := 40) (y := p3) dX12_waysMatch_15 ?_
  refine mr_iconst (pc := 16) (z := 4) dX12_waysMatch_16 ?_
  refine mr_iadd (pc := 17) (x := (40 * p3)) (y := 4) dX12_waysMatch_17 ?_
  refine la_126 (pc := 18) dX12_waysMatch_18 (A_126 hw) hT (rIx (n := 84000) (rAdd (e := 4) (f := 83964) (rMulL (n := 40) (e := 0) (f := 83960) hp3 rfl) (rR (x := 4)) rfl) rfl) fun z4 q5 h6 => ?_
  have h7 : 0 ≤ z4 ∧ z4 ≤ 20 := h6.2.2.1 (vc_X12_waysMatch_1 hp3)
  refine mr_istore (pc := 19) (lv' := [(6, iv z4), (4, jv z1), (0, .ref 106), (1, iv p1), (2, iv p2), (3, iv p3)]) dX12_waysMatch_19 (by decide) rfl ?_
  refine mr_iload (pc := 21) (z := z4) dX12_waysMatch_21 rfl ?_
  refine mr_if_ne (pc := 23) (tgt := 33) dX12_waysMatch_23 (by decide) (r32 h7 rfl) (fun h8 => ?_) (fun h8 => ?_)
  · have h9 : 1 ≤ z4 ∧ z4 ≤ 20 := (vc_X12_waysMatch_2 h8 h7)
    refine mr_lconst (pc := 33) (z := 0) dX12_waysMatch_33 (by decide) ?_
    refine mr_lstore (pc := 34) (lv' := [(7, jv 0), (6, iv z4), (4, jv z1), (0, .ref 106), (1, iv p1), (2, iv p2), (3, iv p3)]) dX12_waysMatch_34 (by decide) rfl ?_
    refine mr_iconst (pc := 36) (z := 0) dX12_waysMatch_36 ?_
    refine mr_istore (pc := 37) (lv' := [(9, iv 0), (7, jv 0), (6, iv z4), (4, jv z1), (0, .ref 106), (1, iv p1), (2, iv p2), (3, iv p3)]) dX12_waysMatch_37 (by decide) rfl ?_
    have L2395 : ∀ (nL2395 : Nat) (z2394 z2393 z2392 : Int), True → ((-9223372036854775808) ≤ z2394 ∧ z2394 ≤ 9223372036854775807) → ((-9223372036854775808) ≤ z2393 ∧ z2393 ≤ 9223372036854775807) → (0 ≤ z2392 ∧ z2392 ≤ 20) → (21 - z2392) < (nL2395 : Int) → sV (gG l D c H0 sa) mX12_waysMatch (sRm 1 0 0) (sZ (gG l D c H0 sa) 0 0 (qP w μ (fun z => (0 ≤ z ∧ z ≤ 1) ∧ True))) 39 [(0, .ref 106), (1, iv p1), (2, iv p2), (3, iv p3), (4, jv z2394), (6, iv z4), (7, jv z2393), (9, iv z2392)] [] (mk w μ) 0 0 := by
      intro nL2395
      induction nL2395 with
      | zero => intro z2394 z2393 z2392 _ h2396 h2397 h2398 h2402; exact ((vc_X12_waysMatch_3 h2402 h2398)).elim
      | succ nL2395 ih2403 =>
        intro z2394 z2393 z2392 _ h2396 h2397 h2398 h2402
        refine mr_iload (pc := 39) (z := z2392) dX12_waysMatch_39 rfl ?_
        refine mr_iload (pc := 41) (z := z4) dX12_waysMatch_41 rfl ?_
        refine mr_icmp_ge (pc := 43) (tgt := 193) dX12_waysMatch_43 (by decide) (r32 h2398 rfl) (r32 h9 rfl) (fun h2562 => ?_) (fun h2562 => ?_)
        · have h2563 : 1 ≤ z2392 ∧ z2392 ≤ 20 := (vc_X12_waysMatch_4 h2562 h8 h2398 h9)
          refine mr_lload (pc := 193) (z := z2393) dX12_waysMatch_193 rfl ?_
          refine sv_aload_n (pc := 195) dX12_waysMatch_195 rfl rfl ?_
          refine gf_X12_51 (pc := 196) dX12_waysMatch_196 wF_X12_308 (A_106 hw) hT ?_
          refine mr_iload_n (pc := 199) (z := p2) dX12_waysMatch_199 rfl rfl ?_
          refine la_138 (pc := 200) dX12_waysMatch_200 (A_138 hw) hT (rIx (n := 3900) hp2 rfl) fun z2564 q2565 h2566 => ?_
          refine mr_land (pc := 201) dX12_waysMatch_201 ?_
          refine mr_genL (r64i _) fun z2567 q2568 h2569 => ?_
          refine mr_lconst (pc := 202) (z := 0) dX12_waysMatch_202 (by decide) ?_
          refine mr_lcmp (pc := 203) dX12_waysMatch_203 ?_
          refine mr_gen (P := fun z => (-1) ≤ z ∧ z ≤ 1) (lg_cmp_r _ _) fun z2570 q2571 h2572 => ?_
          refine mr_if_eq (pc := 204) (tgt := 211) dX12_waysMatch_204 (by decide) (r32 h2572 rfl) (fun h2574 => ?_) (fun h2574 => ?_)
          · have h2575 : 0 ≤ z2570 ∧ z2570 ≤ 0 := (vc_X12_waysMatch_5 h2574 h2572)
            refine mr_iconst (pc := 211) (z := 0) dX12_waysMatch_211 ?_
            exact mr_zretP dX12_waysMatch_212 rfl (rW (c := 0) (d := 1) (rR (x := 0)) rfl) (le_t rfl) (le_t rfl) ⟨(rW (c := 0) (d := 1) (rR (x := 0)) rfl), trivial⟩
          refine mr_iconst (pc := 207) (z := 1) dX12_waysMatch_207 ?_
          refine sv_goto (pc := 208) (tgt := 212) dX12_waysMatch_208 (by decide) ?_
          exact mr_zretP dX12_waysMatch_212 rfl (rW (c := 0) (d := 1) (rR (x := 1)) rfl) (le_t rfl) (le_t rfl) ⟨(rW (c := 0) (d := 1) (rR (x := 1)) rfl), trivial⟩
        have h2576 : 0 ≤ z2392 ∧ z2392 ≤ 19 := (vc_X12_waysMatch_6 h2562 h8 h2398 h9)
        refine mr_lconst (pc := 46) (z := 0) dX12_waysMatch_46 (by decide) ?_
        refine mr_lstore (pc := 47) (lv' := [(7, jv 0), (0, .ref 106), (1, iv p1), (2, iv p2), (3, iv p3), (4, jv z2394), (6, iv z4), (9, iv z2392)]) dX12_waysMatch_47 (by decide) rfl ?_
        refine mr_iconst (pc := 49) (z := 0) dX12_waysMatch_49 ?_
        refine mr_istore (pc := 50) (lv' := [(10, iv 0), (7, jv 0), (0, .ref 106), (1, iv p1), (2, iv p2), (3, iv p3), (4, jv z2394), (6, iv z4), (9, iv z2392)]) dX12_waysMatch_50 (by decide) rfl ?_
        have L4111 : ∀ (nL4111 : Nat) (z4110 z4109 : Int), True → ((-9223372036854775808) ≤ z4110 ∧ z4110 ≤ 9223372036854775807) → (0 ≤ z4109 ∧ z4109 ≤ 40) → (41 - z4109) < (nL4111 : Int) → sV (gG l D c H0 sa) mX12_waysMatch (sRm 1 0 0) (sZ (gG l D c H0 sa) 0 0 (qP w μ (fun z => (0 ≤ z ∧ z ≤ 1) ∧ True))) 52 [(0, .ref 106), (1, iv p1), (2, iv p2), (3, iv p3), (4, jv z2394), (6, iv z4), (7, jv z4110), (9, iv z2392), (10, iv z4109)] [] (mk w μ) 0 0 := by
          intro nL4111
          induction nL4111 with
          | zero => intro z4110 z4109 _ h4112 h4113 h4117; exact ((vc_X12_waysMatch_7 h4117 h4113)).elim
          | succ nL4111 ih4118 =>
            intro z4110 z4109 _ h4112 h4113 h4117
            refine mr_iload (pc := 52) (z := z4109) dX12_waysMatch_52 rfl ?_
            refine sv_aload_n (pc := 54) dX12_waysMatch_54 rfl rfl ?_
            refine gf_X12_55 (pc := 55) dX12_waysMatch_55 wF_X12_292 (A_106 hw) hT ?_
            refine mr_iload_n (pc := 58) (z := p1) dX12_waysMatch_58 rfl rfl ?_
            refine la_142 (pc := 59) dX12_waysMatch_59 (A_142 hw) hT (rIx (n := 13) hp1 rfl) fun z4119 q4120 h4121 => ?_
            refine mr_icmp_ge (pc := 60) (tgt := 135) dX12_waysMatch_60 (by decide) (r32 h4113 rfl) (r32 h4121 rfl) (fun h4155 => ?_) (fun h4155 => ?_)
            · refine mr_lconst (pc := 135) (z := 0) dX12_waysMatch_135 (by decide) ?_
              refine mr_lstore (pc := 136) (lv' := [(4, jv 0), (0, .ref 106), (1, iv p1), (2, iv p2), (3, iv p3), (6, iv z4), (7, jv z4110), (9, iv z2392), (10, iv z4109)]) dX12_waysMatch_136 (by decide) rfl ?_
              refine mr_iconst (pc := 138) (z := 0) dX12_waysMatch_138 ?_
              refine mr_istore (pc := 139) (lv' := [(10, iv 0), (4, jv 0), (0, .ref 106), (1, iv p1), (2, iv p2), (3, iv p3), (6, iv z4), (7, jv z4110), (9, iv z2392)]) dX12_waysMatch_139 (by decide) rfl ?_
              have L4478 : ∀ (nL4478 : Nat) (z4477 z4476 : Int), True → ((-9223372036854775808) ≤ z4477 ∧ z4477 ≤ 9223372036854775807) → (0 ≤ z4476 ∧ z4476 ≤ 40) → (41 - z4476) < (nL4478 : Int) → sV (gG l D c H0 sa) mX12_waysMatch (sRm 1 0 0) (sZ (gG l D c H0 sa) 0 0 (qP w μ (fun z => (0 ≤ z ∧ z ≤ 1) ∧ True))) 141 [(0, .ref 106), (1, iv p1), (2, iv p2), (3, iv p3), (4, jv z4477), (6, iv z4), (7, jv z4110), (9, iv z2392), (10, iv z4476)] [] (mk w μ) 0 0 := by
                intro nL4478
                induction nL4478 with
                | zero => intro z4477 z4476 _ h4479 h4480 h4484; exact ((vc_X12_waysMatch_8 h4484 h4480)).elim
                | succ nL4478 ih4485 =>
                  intro z4477 z4476 _ h4479 h4480 h4484
                  refine mr_iload (pc := 141) (z := z4476) dX12_waysMatch_141 rfl ?_
                  refine sv_aload_n (pc := 143) dX12_waysMatch_143 rfl rfl ?_
                  refine gf_X12_55 (pc := 144) dX12_waysMatch_144 wF_X12_292 (A_106 hw) hT ?_
                  refine mr_iload_n (pc := 147) (z := p1) dX12_waysMatch_147 rfl rfl ?_
                  refine lk_142 (pc := 148) dX12_waysMatch_148 (A_142 hw) (rIx (n := 13) hp1 rfl) q4120 ?_
                  refine mr_icmp_ge (pc := 149) (tgt := 187) dX12_waysMatch_149 (by decide) (r32 h4480 rfl) (r32 h4121 rfl) (fun h4504 => ?_) (fun h4504 => ?_)
                  · refine mr_iinc (pc := 187) (lv' := [(9, iv (z2392 + 1)), (0, .ref 106), (1, iv p1), (2, iv p2), (3, iv p3), (4, jv z4477), (6, iv z4), (7, jv z4110), (10, iv z4476)]) dX12_waysMatch_187 rfl (by decide) rfl ?_
                    refine sv_goto (pc := 190) (tgt := 39) dX12_waysMatch_190 (by decide) ?_
                    refine mr_lvS (lv' := [(0, .ref 106), (1, iv p1), (2, iv p2), (3, iv p3), (4, jv z4477), (6, iv z4), (7, jv z4110), (9, iv (z2392 + 1))]) (List.forall_mem_cons.mpr ⟨rfl, List.forall_mem_cons.mpr ⟨rfl, List.forall_mem_cons.mpr ⟨rfl, List.forall_mem_cons.mpr ⟨rfl, List.forall_mem_cons.mpr ⟨rfl, List.forall_mem_cons.mpr ⟨rfl, List.forall_mem_cons.mpr ⟨rfl, List.forall_mem_cons.mpr ⟨rfl, fun _ h => absurd h List.not_mem_nil⟩⟩⟩⟩⟩⟩⟩⟩) ?_
                    exact ih2403 z4477 z4110 (z2392 + 1) trivial h4479 h4112 (rW (c := 0) (d := 20) (rAdd (e := 1) (f := 20) h2576 (rR (x := 1)) rfl) rfl) (vc_X12_waysMatch_9 (nS h2402) h2562 h8 h2576 h9)
                  have h4505 : 0 ≤ z4476 ∧ z4476 ≤ 39 := (vc_X12_waysMatch_10 h4504 h4155 h4113 h4121 h4480)
                  have h4506 : 1 ≤ z4119 ∧ z4119 ≤ 40 := (vc_X12_waysMatch_11 h4504 h4155 h4113 h4121 h4505)
                  refine mr_lload (pc := 152) (z := z4110) dX12_waysMatch_152 rfl ?_
                  refine mr_iload (pc := 154) (z := z4476) dX12_waysMatch_154 rfl ?_
                  refine mr_lshr (pc := 156) dX12_waysMatch_156 ?_
                  refine mr_genL (r64i _) fun z4507 q4508 h4509 => ?_
                  refine mr_lconst (pc := 157) (z := 1) dX12_waysMatch_157 (by decide) ?_
                  refine mr_land (pc := 158) dX12_waysMatch_158 ?_
                  refine mr_genL (r64i _) fun z4510 q4511 h4512 => ?_
                  refine mr_lconst (pc := 159) (z := 1) dX12_waysMatch_159 (by decide) ?_
                  refine mr_lcmp (pc := 160) dX12_waysMatch_160 ?_
                  refine mr_gen (P := fun z => (-1) ≤ z ∧ z ≤ 1) (lg_cmp_r _ _) fun z4513 q4514 h4515 => ?_
                  refine mr_if_ne (pc := 161) (tgt := 181) dX12_waysMatch_161 (by decide) (r32 h4515 rfl) (fun h4523 => ?_) (fun h4523 => ?_)
                  · refine mr_iinc (pc := 181) (lv' := [(10, iv (z4476 + 1)), (0, .ref 106), (1, iv p1), (2, iv p2), (3, iv p3), (4, jv z4477), (6, iv z4), (7, jv z4110), (9, iv z2392)]) dX12_waysMatch_181 rfl (by decide) rfl ?_
                    refine sv_goto (pc := 184) (tgt := 141) dX12_waysMatch_184 (by decide) ?_
                    refine mr_lvS (lv' := [(0, .ref 106), (1, iv p1), (2, iv p2), (3, iv p3), (4, jv z4477), (6, iv z4), (7, jv z4110), (9, iv z2392), (10, iv (z4476 + 1))]) (List.forall_mem_cons.mpr ⟨rfl, List.forall_mem_cons.mpr ⟨rfl, List.forall_mem_cons.mpr ⟨rfl, List.forall_mem_cons.mpr ⟨rfl, List.forall_mem_cons.mpr ⟨rfl, List.forall_mem_cons.mpr ⟨rfl, List.forall_mem_cons.mpr ⟨rfl, List.forall_mem_cons.mpr ⟨rfl, List.forall_mem_cons.mpr ⟨rfl, fun _ h => absurd h List.not_mem_nil⟩⟩⟩⟩⟩⟩⟩⟩⟩) ?_
                    exact ih4485 z4477 (z4476 + 1) trivial h4479 (rW (c := 0) (d := 40) (rAdd (e := 1) (f := 40) h4505 (rR (x := 1)) rfl) rfl) (vc_X12_waysMatch_12 (nS h4484) h4504 h4155 h4113 h4506 h4505)
                  have h4524 : 0 ≤ z4513 ∧ z4513 ≤ 0 := (vc_X12_waysMatch_13 h4523 h4515)
                  refine mr_lload (pc := 164) (z := z4477) dX12_waysMatch_164 rfl ?_
                  refine sv_aload_n (pc := 166) dX12_waysMatch_166 rfl rfl ?_
                  refine gf_X12_57 (pc := 167) dX12_waysMatch_167 wF_X12_275 (A_106 hw) hT ?_
                  refine mr_bipush (pc := 170) (z := 41) dX12_waysMatch_170 (by decide) ?_
                  refine mr_iload_n (pc := 172) (z := p1) dX12_waysMatch_172 rfl rfl ?_
                  refine mr_imul (pc := 173) (x := 41) (y := p1) dX12_waysMatch_173 ?_
                  refine mr_iload (pc := 174) (z := z4476) dX12_waysMatch_174 rfl ?_
                  refine mr_iadd (pc := 176) (x := (41 * p1)) (y := z4476) dX12_waysMatch_176 ?_
                  refine la_144 (pc := 177) dX12_waysMatch_177 (A_144 hw) hT (rIx (n := 533) (rAdd (e := 0) (f := 490) (rMulL (n := 41) (e := 0) (f := 451) hp1 rfl) h4505 rfl) rfl) fun z4525 q4526 h4527 => ?_
                  refine mr_lor (pc := 178) dX12_waysMatch_178 ?_
                  refine mr_genL (r64i _) fun z4528 q4529 h4530 => ?_
                  refine mr_lstore (pc := 179) (lv' := [(4, jv z4528), (0, .ref 106), (1, iv p1), (2, iv p2), (3, iv p3), (6, iv z4), (7, jv z4110), (9, iv z2392), (10, iv z4476)]) dX12_waysMatch_179 (by decide) rfl ?_
                  refine mr_iinc (pc := 181) (lv' := [(10, iv (z4476 + 1)), (4, jv z4528), (0, .ref 106), (1, iv p1), (2, iv p2), (3, iv p3), (6, iv z4), (7, jv z4110), (9, iv z2392)]) dX12_waysMatch_181 rfl (by decide) rfl ?_
                  refine sv_goto (pc := 184) (tgt := 141) dX12_waysMatch_184 (by decide) ?_
                  refine mr_lvS (lv' := [(0, .ref 106), (1, iv p1), (2, iv p2), (3, iv p3), (4, jv z4528), (6, iv z4), (7, jv z4110), (9, iv z2392), (10, iv (z4476 + 1))]) (List.forall_mem_cons.mpr ⟨rfl, List.forall_mem_cons.mpr ⟨rfl, List.forall_mem_cons.mpr ⟨rfl, List.forall_mem_cons.mpr ⟨rfl, List.forall_mem_cons.mpr ⟨rfl, List.forall_mem_cons.mpr ⟨rfl, List.forall_mem_cons.mpr ⟨rfl, List.forall_mem_cons.mpr ⟨rfl, List.forall_mem_cons.mpr ⟨rfl, fun _ h => absurd h List.not_mem_nil⟩⟩⟩⟩⟩⟩⟩⟩⟩) ?_
                  exact ih4485 z4528 (z4476 + 1) trivial h4530 (rW (c := 0) (d := 40) (rAdd (e := 1) (f := 40) h4505 (rR (x := 1)) rfl) rfl) (vc_X12_waysMatch_12 (nS h4484) h4504 h4155 h4113 h4506 h4505)
              refine mr_lvS (lv' := [(0, .ref 106), (1, iv p1), (2, iv p2), (3, iv p3), (4, jv 0), (6, iv z4), (7, jv z4110), (9, iv z2392), (10, iv 0)]) (List.forall_mem_cons.mpr ⟨rfl, List.forall_mem_cons.mpr ⟨rfl, List.forall_mem_cons.mpr ⟨rfl, List.forall_mem_cons.mpr ⟨rfl, List.forall_mem_cons.mpr ⟨rfl, List.forall_mem_cons.mpr ⟨rfl, List.forall_mem_cons.mpr ⟨rfl, List.forall_mem_cons.mpr ⟨rfl, List.forall_mem_cons.mpr ⟨rfl, fun _ h => absurd h List.not_mem_nil⟩⟩⟩⟩⟩⟩⟩⟩⟩) ?_
              exact L4478 42 0 0 trivial (rW (c := -9223372036854775808) (d := 9223372036854775807) (rR (x := 0)) rfl) (rW (c := 0) (d := 40) (rR (x := 0)) rfl) vc_X12_waysMatch_14
            have h4531 : 0 ≤ z4109 ∧ z4109 ≤ 39 := (vc_X12_waysMatch_15 h4155 h4113 h4121)
            have h4532 : 1 ≤ z4119 ∧ z4119 ≤ 40 := (vc_X12_waysMatch_16 h4155 h4531 h4121)
            refine mr_lload (pc := 63) (z := z2394) dX12_waysMatch_63 rfl ?_
            refine mr_iload (pc := 65) (z := z4109) dX12_waysMatch_65 rfl ?_
            refine mr_lshr (pc := 67) dX12_waysMatch_67 ?_
            refine mr_genL (r64i _) fun z4533 q4534 h4535 => ?_
            refine mr_lconst (pc := 68) (z := 1) dX12_waysMatch_68 (by decide) ?_
            refine mr_land (pc := 69) dX12_waysMatch_69 ?_
            refine mr_genL (r64i _) fun z4536 q4537 h4538 => ?_
            refine mr_lconst (pc := 70) (z := 1) dX12_waysMatch_70 (by decide) ?_
            refine mr_lcmp (pc := 71) dX12_waysMatch_71 ?_
            refine mr_gen (P := fun z => (-1) ≤ z ∧ z ≤ 1) (lg_cmp_r _ _) fun z4539 q4540 h4541 => ?_
            refine mr_if_ne (pc := 72) (tgt := 129) dX12_waysMatch_72 (by decide) (r32 h4541 rfl) (fun h4564 => ?_) (fun h4564 => ?_)
            · refine mr_iinc (pc := 129) (lv' := [(10, iv (z4109 + 1)), (0, .ref 106), (1, iv p1), (2, iv p2), (3, iv p3), (4, jv z2394), (6, iv z4), (7, jv z4110), (9, iv z2392)]) dX12_waysMatch_129 rfl (by decide) rfl ?_
              refine sv_goto (pc := 132) (tgt := 52) dX12_waysMatch_132 (by decide) ?_
              refine mr_lvS (lv' := [(0, .ref 106), (1, iv p1), (2, iv p2), (3, iv p3), (4, jv z2394), (6, iv z4), (7, jv z4110), (9, iv z2392), (10, iv (z4109 + 1))]) (List.forall_mem_cons.mpr ⟨rfl, List.forall_mem_cons.mpr ⟨rfl, List.forall_mem_cons.mpr ⟨rfl, List.forall_mem_cons.mpr ⟨rfl, List.forall_mem_cons.mpr ⟨rfl, List.forall_mem_cons.mpr ⟨rfl, List.forall_mem_cons.mpr ⟨rfl, List.forall_mem_cons.mpr ⟨rfl, List.forall_mem_cons.mpr ⟨rfl, fun _ h => absurd h List.not_mem_nil⟩⟩⟩⟩⟩⟩⟩⟩⟩) ?_
              exact ih4118 z4110 (z4109 + 1) trivial h4112 (rW (c := 0) (d := 40) (rAdd (e := 1) (f := 40) h4531 (rR (x := 1)) rfl) rfl) (vc_X12_waysMatch_17 (nS h4117) h4155 h4531 h4532)
            have h4565 : 0 ≤ z4539 ∧ z4539 ≤ 0 := (vc_X12_waysMatch_18 h4564 h4541)
            refine sv_aload_n (pc := 75) dX12_waysMatch_75 rfl rfl ?_
            refine gf_X12_56 (pc := 76) dX12_waysMatch_76 wF_X12_295 (A_106 hw) hT ?_
            refine mr_bipush (pc := 79) (z := 41) dX12_waysMatch_79 (by decide) ?_
            refine mr_iload_n (pc := 81) (z := p1) dX12_waysMatch_81 rfl rfl ?_
            refine mr_imul (pc := 82) (x := 41) (y := p1) dX12_waysMatch_82 ?_
            refine mr_iload (pc := 83) (z := z4109) dX12_waysMatch_83 rfl ?_
            refine mr_iadd (pc := 85) (x := (41 * p1)) (y := z4109) dX12_waysMatch_85 ?_
            refine la_143 (pc := 86) dX12_waysMatch_86 (A_143 hw) hT (rIx (n := 533) (rAdd (e := 0) (f := 490) (rMulL (n := 41) (e := 0) (f := 451) hp1 rfl) h4531 rfl) rfl) fun z4566 q4567 h4568 => ?_
            refine mr_if_lt (pc := 87) (tgt := 120) dX12_waysMatch_87 (by decide) h4568 (fun h4587 => ?_) (fun h4587 => ?_)
            · have h4588 : (-2147483648) ≤ z4566 ∧ z4566 ≤ (-1) := (vc_X12_waysMatch_19 h4587 h4568)
              refine mr_lload (pc := 120) (z := z4110) dX12_waysMatch_120 rfl ?_
              refine mr_lconst (pc := 122) (z := 1) dX12_waysMatch_122 (by decide) ?_
              refine mr_iload (pc := 123) (z := z4109) dX12_waysMatch_123 rfl ?_
              refine mr_lshl (pc := 125) dX12_waysMatch_125 ?_
              refine mr_genL (r64i _) fun z4589 q4590 h4591 => ?_
              refine mr_lor (pc := 126) dX12_waysMatch_126 ?_
              refine mr_genL (r64i _) fun z4592 q4593 h4594 => ?_
              refine mr_lstore (pc := 127) (lv' := [(7, jv z4592), (0, .ref 106), (1, iv p1), (2, iv p2), (3, iv p3), (4, jv z2394), (6, iv z4), (9, iv z2392), (10, iv z4109)]) dX12_waysMatch_127 (by decide) rfl ?_
              refine mr_iinc (pc := 129) (lv' := [(10, iv (z4109 + 1)), (7, jv z4592), (0, .ref 106), (1, iv p1), (2, iv p2), (3, iv p3), (4, jv z2394), (6, iv z4), (9, iv z2392)]) dX12_waysMatch_129 rfl (by decide) rfl ?_
              refine sv_goto (pc := 132) (tgt := 52) dX12_waysMatch_132 (by decide) ?_
              refine mr_lvS (lv' := [(0, .ref 106), (1, iv p1), (2, iv p2), (3, iv p3), (4, jv z2394), (6, iv z4), (7, jv z4592), (9, iv z2392), (10, iv (z4109 + 1))]) (List.forall_mem_cons.mpr ⟨rfl, List.forall_mem_cons.mpr ⟨rfl, List.forall_mem_cons.mpr ⟨rfl, List.forall_mem_cons.mpr ⟨rfl, List.forall_mem_cons.mpr ⟨rfl, List.forall_mem_cons.mpr ⟨rfl, List.forall_mem_cons.mpr ⟨rfl, List.forall_mem_cons.mpr ⟨rfl, List.forall_mem_cons.mpr ⟨rfl, fun _ h => absurd h List.not_mem_nil⟩⟩⟩⟩⟩⟩⟩⟩⟩) ?_
              exact ih4118 z4592 (z4109 + 1) trivial h4594 (rW (c := 0) (d := 40) (rAdd (e := 1) (f := 40) h4531 (rR (x := 1)) rfl) rfl) (vc_X12_waysMatch_17 (nS h4117) h4155 h4531 h4532)
            have h4595 : 0 ≤ z4566 ∧ z4566 ≤ 2147483647 := (vc_X12_waysMatch_20 h4587 h4568)
            refine sv_aload_n (pc := 90) dX12_waysMatch_90 rfl rfl ?_
            refine gf_X12_56 (pc := 91) dX12_waysMatch_91 wF_X12_295 (A_106 hw) hT ?_
            refine mr_bipush (pc := 94) (z := 41) dX12_waysMatch_94 (by decide) ?_
            refine mr_iload_n (pc := 96) (z := p1) dX12_waysMatch_96 rfl rfl ?_
            refine mr_imul (pc := 97) (x := 41) (y := p1) dX12_waysMatch_97 ?_
            refine mr_iload (pc := 98) (z := z4109) dX12_waysMatch_98 rfl ?_
            refine mr_iadd (pc := 100) (x := (41 * p1)) (y := z4109) dX12_waysMatch_100 ?_
            refine lk_143 (pc := 101) dX12_waysMatch_101 (A_143 hw) (rIx (n := 533) (rAdd (e := 0) (f := 490) (rMulL (n := 41) (e := 0) (f := 451) hp1 rfl) h4531 rfl) rfl) q4567 ?_
            refine sv_aload_n (pc := 102) dX12_waysMatch_102 rfl rfl ?_
            refine gf_X12_32 (pc := 103) dX12_waysMatch_103 wF_X12_148 (A_106 hw) hT ?_
            refine mr_bipush (pc := 106) (z := 40) dX12_waysMatch_106 (by decide) ?_
            refine mr_iload_n (pc := 108) (z := p3) dX12_waysMatch_108 rfl rfl ?_
            refine mr_imul (pc := 109) (x := 40) (y := p3) dX12_waysMatch_109 ?_
            refine mr_bipush (pc := 110) (z := 6) dX12_waysMatch_110 (by decide) ?_
            refine mr_iadd (pc := 112) (x := (40 * p3)) (y := 6) dX12_waysMatch_112 ?_
            refine mr_iload (pc := 113) (z := z2392) dX12_waysMatch_113 rfl ?_
            refine mr_iadd (pc := 115) (x := ((40 * p3) + 6)) (y := z2392) dX12_waysMatch_115 ?_
            refine la_126 (pc := 116) dX12_waysMatch_116 (A_126 hw) hT (rIx (n := 84000) (rAdd (e := 6) (f := 83985) (rAdd (e := 6) (f := 83966) (rMulL (n := 40) (e := 0) (f := 83960) hp3 rfl) (rR (x := 6)) rfl) h2576 rfl) rfl) fun z4596 q4597 h4598 => ?_
            refine mr_icmp_ne (pc := 117) (tgt := 129) dX12_waysMatch_117 (by decide) (r32 h4595 rfl) h4598.1 (fun h4606 => ?_) (fun h4606 => ?_)
            · refine mr_iinc (pc := 129) (lv' := [(10, iv (z4109 + 1)), (0, .ref 106), (1, iv p1), (2, iv p2), (3, iv p3), (4, jv z2394), (6, iv z4), (7, jv z4110), (9, iv z2392)]) dX12_waysMatch_129 rfl (by decide) rfl ?_
              refine sv_goto (pc := 132) (tgt := 52) dX12_waysMatch_132 (by decide) ?_
              refine mr_lvS (lv' := [(0, .ref 106), (1, iv p1), (2, iv p2), (3, iv p3), (4, jv z2394), (6, iv z4), (7, jv z4110), (9, iv z2392), (10, iv (z4109 + 1))]) (List.forall_mem_cons.mpr ⟨rfl, List.forall_mem_cons.mpr ⟨rfl, List.forall_mem_cons.mpr ⟨rfl, List.forall_mem_cons.mpr ⟨rfl, List.forall_mem_cons.mpr ⟨rfl, List.forall_mem_cons.mpr ⟨rfl, List.forall_mem_cons.mpr ⟨rfl, List.forall_mem_cons.mpr ⟨rfl, List.forall_mem_cons.mpr ⟨rfl, fun _ h => absurd h List.not_mem_nil⟩⟩⟩⟩⟩⟩⟩⟩⟩) ?_
              exact ih4118 z4110 (z4109 + 1) trivial h4112 (rW (c := 0) (d := 40) (rAdd (e := 1) (f := 40) h4531 (rR (x := 1)) rfl) rfl) (vc_X12_waysMatch_17 (nS h4117) h4155 h4531 h4532)
            have h4607 : 0 ≤ z4596 ∧ z4596 ≤ 2147483647 := (vc_X12_waysMatch_21 h4606 h4587 h4598.2.1 h4598.2.2.1 h4598.2.2.2 hp3 h2576 h4595 h4598.1)
            refine mr_lload (pc := 120) (z := z4110) dX12_waysMatch_120 rfl ?_
            refine mr_lconst (pc := 122) (z := 1) dX12_waysMatch_122 (by decide) ?_
            refine mr_iload (pc := 123) (z := z4109) dX12_waysMatch_123 rfl ?_
            refine mr_lshl (pc := 125) dX12_waysMatch_125 ?_
            refine mr_genL (r64i _) fun z4608 q4609 h4610 => ?_
            refine mr_lor (pc := 126) dX12_waysMatch_126 ?_
            refine mr_genL (r64i _) fun z4611 q4612 h4613 => ?_
            refine mr_lstore (pc := 127) (lv' := [(7, jv z4611), (0, .ref 106), (1, iv p1), (2, iv p2), (3, iv p3), (4, jv z2394), (6, iv z4), (9, iv z2392), (10, iv z4109)]) dX12_waysMatch_127 (by decide) rfl ?_
            refine mr_iinc (pc := 129) (lv' := [(10, iv (z4109 + 1)), (7, jv z4611), (0, .ref 106), (1, iv p1), (2, iv p2), (3, iv p3), (4, jv z2394), (6, iv z4), (9, iv z2392)]) dX12_waysMatch_129 rfl (by decide) rfl ?_
            refine sv_goto (pc := 132) (tgt := 52) dX12_waysMatch_132 (by decide) ?_
            refine mr_lvS (lv' := [(0, .ref 106), (1, iv p1), (2, iv p2), (3, iv p3), (4, jv z2394), (6, iv z4), (7, jv z4611), (9, iv z2392), (10, iv (z4109 + 1))]) (List.forall_mem_cons.mpr ⟨rfl, List.forall_mem_cons.mpr ⟨rfl, List.forall_mem_cons.mpr ⟨rfl, List.forall_mem_cons.mpr ⟨rfl, List.forall_mem_cons.mpr ⟨rfl, List.forall_mem_cons.mpr ⟨rfl, List.forall_mem_cons.mpr ⟨rfl, List.forall_mem_cons.mpr ⟨rfl, List.forall_mem_cons.mpr ⟨rfl, fun _ h => absurd h List.not_mem_nil⟩⟩⟩⟩⟩⟩⟩⟩⟩) ?_
            exact ih4118 z4611 (z4109 + 1) trivial h4613 (rW (c := 0) (d := 40) (rAdd (e := 1) (f := 40) h4531 (rR (x := 1)) rfl) rfl) (vc_X12_waysMatch_17 (nS h4117) h4155 h4531 h4532)
        refine mr_lvS (lv' := [(0, .ref 106), (1, iv p1), (2, iv p2), (3, iv p3), (4, jv z2394), (6, iv z4), (7, jv 0), (9, iv z2392), (10, iv 0)]) (List.forall_mem_cons.mpr ⟨rfl, List.forall_mem_cons.mpr ⟨rfl, List.forall_mem_cons.mpr ⟨rfl, List.forall_mem_cons.mpr ⟨rfl, List.forall_mem_cons.mpr ⟨rfl, List.forall_mem_cons.mpr ⟨rfl, List.forall_mem_cons.mpr ⟨rfl, List.forall_mem_cons.mpr ⟨rfl, List.forall_mem_cons.mpr ⟨rfl, fun _ h => absurd h List.not_mem_nil⟩⟩⟩⟩⟩⟩⟩⟩⟩) ?_
        exact L4111 42 0 0 trivial (rW (c := -9223372036854775808) (d := 9223372036854775807) (rR (x := 0)) rfl) (rW (c := 0) (d := 40) (rR (x := 0)) rfl) vc_X12_waysMatch_14
    refine mr_lvS (lv' := [(0, .ref 106), (1, iv p1), (2, iv p2), (3, iv p3), (4, jv z1), (6, iv z4), (7, jv 0), (9, iv 0)]) (List.forall_mem_cons.mpr ⟨rfl, List.forall_mem_cons.mpr ⟨rfl, List.forall_mem_cons.mpr ⟨rfl, List.forall_mem_cons.mpr ⟨rfl, List.forall_mem_cons.mpr ⟨rfl, List.forall_mem_cons.mpr ⟨rfl, List.forall_mem_cons.mpr ⟨rfl, List.forall_mem_cons.mpr ⟨rfl, fun _ h => absurd h List.not_mem_nil⟩⟩⟩⟩⟩⟩⟩⟩) ?_
    exact L2395 22 z1 0 0 trivial h3 (rW (c := -9223372036854775808) (d := 9223372036854775807) (rR (x := 0)) rfl) (rW (c := 0) (d := 20) (rR (x := 0)) rfl) vc_X12_waysMatch_22
  have h4614 : 0 ≤ z4 ∧ z4 ≤ 0 := (vc_X12_waysMatch_23 h8 h7)
  refine sv_aload_n (pc := 26) dX12_waysMatch_26 rfl rfl ?_
  refine gf_X12_52 (pc := 27) dX12_waysMatch_27 wF_X12_311 (A_106 hw) hT ?_
  refine mr_iload_n (pc := 30) (z := p2) dX12_waysMatch_30 rfl rfl ?_
  refine la_139 (pc := 31) dX12_waysMatch_31 (A_139 hw) hT (rIx (n := 3900) hp2 rfl) fun z4615 q4616 h4617 => ?_
  exact mr_zretP dX12_waysMatch_32 rfl h4617 (le_t rfl) (le_t rfl) ⟨h4617, trivial⟩
