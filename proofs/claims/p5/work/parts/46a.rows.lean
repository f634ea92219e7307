theorem vc_X12_slot_1 {p1 p2 p3 : Int} (h0 : 0 ≤ p1 ∧ p1 ≤ 20) (h1 : 0 ≤ p2 ∧ p2 ≤ 2) (h2 : 0 ≤ p3 ∧ p3 ≤ 9) : ((((2 * p1) + p2) * 10) + p3) = 20 * p1 + 10 * p2 + p3 := by omega
set_option maxRecDepth 4000 in
set_option maxHeartbeats 4000000 in
theorem c_X12_slot {l : Launch} {D : va_G} {c : Nat → ClassId} {H0 : Heap} {sa : Nat × Nat × (Nat → Int32)} {w : mW} {μ : mM} (hw : mWF w) (hT : mT w μ) {p1 : Int} (hp1 : 0 ≤ p1 ∧ p1 ≤ 20) {p2 : Int} (hp2 : 0 ≤ p2 ∧ p2 ≤ 2) {p3 : Int} (hp3 : 0 ≤ p3 ∧ p3 ≤ 9) : sC (gG l D c H0 sa) mX12_slot 1 0 0 [iv p1, iv p2, iv p3] (mk w μ) (qP w μ (fun z => (0 ≤ z ∧ z ≤ 449) ∧ (z = 20 * p1 + 10 * p2 + p3) ∧ True)) := by
  refine sC.of rfl (by decide) (le_t rfl) ?_
  refine mr_lvE (lv' := [(0, iv p1), (1, iv p2), (2, iv p3)]) rfl ?_
  refine mr_iconst (pc := 0) (z := 2) dX12_slot_0 ?_
  refine mr_iload_n (pc := 1) (z := p1) dX12_slot_1 rfl rfl ?_
  refine mr_imul (pc := 2) (x := 2) (y := p1) dX12_slot_2 ?_
  refine mr_iload_n (pc := 3) (z := p2) dX12_slot_3 rfl rfl ?_
  refine mr_iadd (pc := 4) (x := (2 * p1)) (y := p2) dX12_slot_4 ?_
  refine mr_bipush (pc := 5) (z := 10) dX12_slot_5 (by decide) ?_
  refine mr_imul (pc := 7) (x := ((2 * p1) + p2)) (y := 10) dX12_slot_7 ?_
  refine mr_iload_n (pc := 8) (z := p3) dX12_slot_8 rfl rfl ?_
  refine mr_iadd (pc := 9) (x := (((2 * p1) + p2) * 10)) (y := p3) dX12_slot_9 ?_
  exact mr_iretP dX12_slot_10 rfl (le_t rfl) (le_t rfl) ⟨(rW (c := 0) (d := 449) (rAdd (e := 0) (f := 429) (rMulR (n := 10) (e := 0) (f := 420) (rAdd (e := 0) (f := 42) (rMulL (n := 2) (e := 0) (f := 40) hp1 rfl) hp2 rfl) rfl) hp3 rfl) rfl), (vc_X12_slot_1 hp1 hp2 hp3), trivial⟩
theorem vc_X12_sideOf_1 {f_e0 p2 : Int} (h0 : ¬ f_e0 = p2) (h1 : 0 ≤ f_e0 ∧ f_e0 ≤ 9) (h2 : (-2147483648) ≤ p2 ∧ p2 ≤ 2147483647) : (1 : Int) = 0 → f_e0 = p2 := by omega
theorem vc_X12_sideOf_2 {f_e0 p2 : Int} (h0 : ¬ f_e0 = p2) (h1 : 0 ≤ f_e0 ∧ f_e0 ≤ 9) (h2 : (-2147483648) ≤ p2 ∧ p2 ≤ 2147483647) : (1 : Int) = 1 → ¬ f_e0 = p2 := by omega
theorem vc_X12_sideOf_3 {f_e0 p2 : Int} (h0 : f_e0 = p2) (h1 : 0 ≤ f_e0 ∧ f_e0 ≤ 9) (h2 : (-2147483648) ≤ p2 ∧ p2 ≤ 2147483647) : 0 ≤ p2 ∧ p2 ≤ 9 := by omega
theorem vc_X12_sideOf_4 {f_e0 p2 : Int} (h0 : f_e0 = p2) (h1 : 0 ≤ f_e0 ∧ f_e0 ≤ 9) (h2 : 0 ≤ p2 ∧ p2 ≤ 9) : (0 : Int) = 0 → f_e0 = p2 := by omega
theorem vc_X12_sideOf_5 {f_e0 p2 : Int} (h0 : f_e0 = p2) (h1 : 0 ≤ f_e0 ∧ f_e0 ≤ 9) (h2 : 0 ≤ p2 ∧ p2 ≤ 9) : (0 : Int) = 1 → ¬ f_e0 = p2 := by omega
set_option maxRecDepth 4000 in
set_option maxHeartbeats 4000000 in
theorem c_X12_sideOf {l : Launch} {D : va_G} {c : Nat → ClassId} {H0 : Heap} {sa : Nat × Nat × (Nat → Int32)} {w : mW} {μ : mM} (hw : mWF w) (hT : mT w μ) {p1 : Int} (hp1 : 0 ≤ p1 ∧ p1 ≤ 19) {p2 : Int} (hp2 : (-2147483648) ≤ p2 ∧ p2 ≤ 2147483647) {f_e0 : Int} (q_f_e0 : μ 110 ((2 * p1).toNat) = f_e0) : sC (gG l D c H0 sa) mX12_sideOf 1 0 0 [.ref 106, iv p1, iv p2] (mk w μ) (qP w μ (fun z => (0 ≤ z ∧ z ≤ 1) ∧ (z = 0 → f_e0 = p2) ∧ (z = 1 → ¬ f_e0 = p2) ∧ True)) := by
  refine sC.of rfl (by decide) (le_t rfl) ?_
  have ht_f_e0 : (0 ≤ f_e0 ∧ f_e0 ≤ 9) := by rw [← q_f_e0]; exact hT 110 110 (A_110 hw) ((2 * p1).toNat)
  refine mr_lvE (lv' := [(0, .ref 106), (1, iv p1), (2, iv p2)]) rfl ?_
  refine sv_aload_n (pc := 0) dX12_sideOf_0 rfl rfl ?_
  refine gf_X12_7 (pc := 1) dX12_sideOf_1 wF_X12_40 (A_106 hw) hT ?_
  refine mr_iconst (pc := 4) (z := 2) dX12_sideOf_4 ?_
  refine mr_iload_n (pc := 5) (z := p1) dX12_sideOf_5 rfl rfl ?_
  refine mr_imul (pc := 6) (x := 2) (y := p1) dX12_sideOf_6 ?_
  refine lk_110 (pc := 7) dX12_sideOf_7 (A_110 hw) (rIx (n := 40) (rMulL (n := 2) (e := 0) (f := 38) hp1 rfl) rfl) q_f_e0 ?_
  refine mr_iload_n (pc := 8) (z := p2) dX12_sideOf_8 rfl rfl ?_
  refine mr_icmp_ne (pc := 9) (tgt := 16) dX12_sideOf_9 (by decide) (r32 ht_f_e0 rfl) hp2 (fun h5 => ?_) (fun h5 => ?_)
  · refine mr_iconst (pc := 16) (z := 1) dX12_sideOf_16 ?_
    exact mr_iretP dX12_sideOf_17 rfl (le_t rfl) (le_t rfl) ⟨(rW (c := 0) (d := 1) (rR (x := 1)) rfl), (vc_X12_sideOf_1 h5 ht_f_e0 hp2), (vc_X12_sideOf_2 h5 ht_f_e0 hp2), trivial⟩
  have h6 : 0 ≤ p2 ∧ p2 ≤ 9 := (vc_X12_sideOf_3 h5 ht_f_e0 hp2)
  refine mr_iconst (pc := 12) (z := 0) dX12_sideOf_12 ?_
  refine sv_goto (pc := 13) (tgt := 17) dX12_sideOf_13 (by decide) ?_
  exact mr_iretP dX12_sideOf_17 rfl (le_t rfl) (le_t rfl) ⟨(rW (c := 0) (d := 1) (rR (x := 0)) rfl), (vc_X12_sideOf_4 h5 ht_f_e0 h6), (vc_X12_sideOf_5 h5 ht_f_e0 h6), trivial⟩
theorem vc_X12_isAt_1 {f_e0 p2 : Int} (h0 : f_e0 = p2) (h1 : 0 ≤ f_e0 ∧ f_e0 ≤ 9) (h2 : (-2147483648) ≤ p2 ∧ p2 ≤ 2147483647) : 0 ≤ p2 ∧ p2 ≤ 9 := by omega
theorem vc_X12_isAt_2 {f_e0 f_e1 p2 : Int} (h0 : f_e0 = p2) (h1 : 0 ≤ f_e0 ∧ f_e0 ≤ 9) (h2 : 0 ≤ f_e1 ∧ f_e1 ≤ 9) (h3 : 0 ≤ p2 ∧ p2 ≤ 9) : (1 : Int) = 1 → f_e0 = p2 ∨ f_e1 = p2 := by omega
theorem vc_X12_isAt_3 {f_e0 f_e1 p2 : Int} (h0 : f_e0 = p2) (h1 : 0 ≤ f_e0 ∧ f_e0 ≤ 9) (h2 : 0 ≤ f_e1 ∧ f_e1 ≤ 9) (h3 : 0 ≤ p2 ∧ p2 ≤ 9) : (1 : Int) = 0 → ¬ f_e0 = p2 ∧ ¬ f_e1 = p2 := by omega
theorem vc_X12_isAt_4 {f_e0 f_e1 p2 : Int} (h0 : ¬ f_e0 = p2) (h1 : ¬ f_e1 = p2) (h2 : 0 ≤ f_e0 ∧ f_e0 ≤ 9) (h3 : 0 ≤ f_e1 ∧ f_e1 ≤ 9) (h4 : (-2147483648) ≤ p2 ∧ p2 ≤ 2147483647) : (0 : Int) = 1 → f_e0 = p2 ∨ f_e1 = p2 := by omega
theorem vc_X12_isAt_5 {f_e0 f_e1 p2 : Int} (h0 : ¬ f_e0 = p2) (h1 : ¬ f_e1 = p2) (h2 : 0 ≤ f_e0 ∧ f_e0 ≤ 9) (h3 : 0 ≤ f_e1 ∧ f_e1 ≤ 9) (h4 : (-2147483648) ≤ p2 ∧ p2 ≤ 2147483647) : (0 : Int) = 0 → ¬ f_e0 = p2 ∧ ¬ f_e1 = p2 := by omega
theorem vc_X12_isAt_6 {f_e0 f_e1 p2 : Int} (h0 : f_e1 = p2) (h1 : ¬ f_e0 = p2) (h2 : 0 ≤ f_e0 ∧ f_e0 ≤ 9) (h3 : 0 ≤ f_e1 ∧ f_e1 ≤ 9) (h4 : (-2147483648) ≤ p2 ∧ p2 ≤ 2147483647) : 0 ≤ p2 ∧ p2 ≤ 9 := by omega
theorem vc_X12_isAt_7 {f_e0 f_e1 p2 : Int} (h0 : ¬ f_e0 = p2) (h1 : f_e1 = p2) (h2 : 0 ≤ f_e0 ∧ f_e0 ≤ 9) (h3 : 0 ≤ f_e1 ∧ f_e1 ≤ 9) (h4 : 0 ≤ p2 ∧ p2 ≤ 9) : (1 : Int) = 1 → f_e0 = p2 ∨ f_e1 = p2 := by omega
theorem vc_X12_isAt_8 {f_e0 f_e1 p2 : Int} (h0 : ¬ f_e0 = p2) (h1 : f_e1 = p2) (h2 : 0 ≤ f_e0 ∧ f_e0 ≤ 9) (h3 : 0 ≤ f_e1 ∧ f_e1 ≤ 9) (h4 : 0 ≤ p2 ∧ p2 ≤ 9) : (1 : Int) = 0 → ¬ f_e0 = p2 ∧ ¬ f_e1 = p2 := by omega
set_option maxRecDepth 4000 in
set_option maxHeartbeats 4000000 in
theorem c_X12_isAt {l : Launch} {D : va_G} {c : Nat → ClassId} {H0 : Heap} {sa : Nat × Nat × (Nat → Int32)} {w : mW} {μ : mM} (hw : mWF w) (hT : mT w μ) {p1 : Int} (hp1 : 0 ≤ p1 ∧ p1 ≤ 19) {p2 : Int} (hp2 : (-2147483648) ≤ p2 ∧ p2 ≤ 2147483647) {f_e0 : Int} (q_f_e0 : μ 110 ((2 * p1).toNat) = f_e0) {f_e1 : Int} (q_f_e1 : μ 110 (((2 * p1) + 1).toNat) = f_e1) : sC (gG l D c H0 sa) mX12_isAt 1 0 0 [.ref 106, iv p1, iv p2] (mk w μ) (qP w μ (fun z => (0 ≤ z ∧ z ≤ 1) ∧ (z = 1 → f_e0 = p2 ∨ f_e1 = p2) ∧ (z = 0 → ¬ f_e0 = p2 ∧ ¬ f_e1 = p2) ∧ True)) := by
  refine sC.of rfl (by decide) (le_t rfl) ?_
  have ht_f_e0 : (0 ≤ f_e0 ∧ f_e0 ≤ 9) := by rw [← q_f_e0]; exact hT 110 110 (A_110 hw) ((2 * p1).toNat)
  have ht_f_e1 : (0 ≤ f_e1 ∧ f_e1 ≤ 9) := by rw [← q_f_e1]; exact hT 110 110 (A_110 hw) (((2 * p1) + 1).toNat)
  refine mr_lvE (lv' := [(0, .ref 106), (1, iv p1), (2, iv p2)]) rfl ?_
  refine sv_aload_n (pc := 0) dX12_isAt_0 rfl rfl ?_
  refine gf_X12_7 (pc := 1) dX12_isAt_1 wF_X12_40 (A_106 hw) hT ?_
  refine mr_iconst (pc := 4) (z := 2) dX12_isAt_4 ?_
  refine mr_iload_n (pc := 5) (z := p1) dX12_isAt_5 rfl rfl ?_
  refine mr_imul (pc := 6) (x := 2) (y := p1) dX12_isAt_6 ?_
  refine lk_110 (pc := 7) dX12_isAt_7 (A_110 hw) (rIx (n := 40) (rMulL (n := 2) (e := 0) (f := 38) hp1 rfl) rfl) q_f_e0 ?_
  refine mr_iload_n (pc := 8) (z := p2) dX12_isAt_8 rfl rfl ?_
  refine mr_icmp_eq (pc := 9) (tgt := 26) dX12_isAt_9 (by decide) (r32 ht_f_e0 rfl) hp2 (fun h9 => ?_) (fun h9 => ?_)
  · have h10 : 0 ≤ p2 ∧ p2 ≤ 9 := (vc_X12_isAt_1 h9 ht_f_e0 hp2)
    refine mr_iconst (pc := 26) (z := 1) dX12_isAt_26 ?_
    refine sv_goto (pc := 27) (tgt := 31) dX12_isAt_27 (by decide) ?_
    exact mr_zretP dX12_isAt_31 rfl (rW (c := 0) (d := 1) (rR (x := 1)) rfl) (le_t rfl) (le_t rfl) ⟨(rW (c := 0) (d := 1) (rR (x := 1)) rfl), (vc_X12_isAt_2 h9 ht_f_e0 ht_f_e1 h10), (vc_X12_isAt_3 h9 ht_f_e0 ht_f_e1 h10), trivial⟩
  refine sv_aload_n (pc := 12) dX12_isAt_12 rfl rfl ?_
  refine gf_X12_7 (pc := 13) dX12_isAt_13 wF_X12_40 (A_106 hw) hT ?_
  refine mr_iconst (pc := 16) (z := 2) dX12_isAt_16 ?_
  refine mr_iload_n (pc := 17) (z := p1) dX12_isAt_17 rfl rfl ?_
  refine mr_imul (pc := 18) (x := 2) (y := p1) dX12_isAt_18 ?_
  refine mr_iconst (pc := 19) (z := 1) dX12_isAt_19 ?_
  refine mr_iadd (pc := 20) (x := (2 * p1)) (y := 1) dX12_isAt_20 ?_
  refine lk_110 (pc := 21) dX12_isAt_21 (A_110 hw) (rIx (n := 40) (rAdd (e := 1) (f := 39) (rMulL (n := 2) (e := 0) (f := 38) hp1 rfl) (rR (x := 1)) rfl) rfl) q_f_e1 ?_
  refine mr_iload_n (pc := 22) (z := p2) dX12_isAt_22 rfl rfl ?_
  refine mr_icmp_ne (pc := 23) (tgt := 30) dX12_isAt_23 (by decide) (r32 ht_f_e1 rfl) hp2 (fun h12 => ?_) (fun h12 => ?_)
  · refine mr_iconst (pc := 30) (z := 0) dX12_isAt_30 ?_
    exact mr_zretP dX12_isAt_31 rfl (rW (c := 0) (d := 1) (rR (x := 0)) rfl) (le_t rfl) (le_t rfl) ⟨(rW (c := 0) (d := 1) (rR (x := 0)) rfl), (vc_X12_isAt_4 h9 h12 ht_f_e0 ht_f_e1 hp2), (vc_X12_isAt_5 h9 h12 ht_f_e0 ht_f_e1 hp2), trivial⟩
  have h13 : 0 ≤ p2 ∧ p2 ≤ 9 := (vc_X12_isAt_6 h12 h9 ht_f_e0 ht_f_e1 hp2)
  refine mr_iconst (pc := 26) (z := 1) dX12_isAt_26 ?_
  refine sv_goto (pc := 27) (tgt := 31) dX12_isAt_27 (by decide) ?_
  exact mr_zretP dX12_isAt_31 rfl (rW (c := 0) (d := 1) (rR (x := 1)) rfl) (le_t rfl) (le_t rfl) ⟨(rW (c := 0) (d := 1) (rR (x := 1)) rfl), (vc_X12_isAt_7 h9 h12 ht_f_e0 ht_f_e1 h13), (vc_X12_isAt_8 h9 h12 ht_f_e0 ht_f_e1 h13), trivial⟩
set_option maxRecDepth 4000 in
set_option maxHeartbeats 4000000 in
theorem c_X12_partnerOf {l : Launch} {D : va_G} {c : Nat → ClassId} {H0 : Heap} {sa : Nat × Nat × (Nat → Int32)} {w : mW} {μ : mM} (hw : mWF w) (hT : mT w μ) {p1 : Int} (hp1 : 0 ≤ p1 ∧ p1 ≤ 19) {p2 : Int} (hp2 : (-2147483648) ≤ p2 ∧ p2 ≤ 2147483647) : sC (gG l D c H0 sa) mX12_partnerOf 2 0 0 [.ref 106, iv p1, iv p2] (mk w μ) (qP w μ (fun z => (0 ≤ z ∧ z ≤ 9) ∧ True)) := by
  refine sC.of rfl (by decide) (le_t rfl) ?_
  refine mr_lvE (lv' := [(0, .ref 106), (1, iv p1), (2, iv p2)]) rfl ?_
  refine sv_aload_n (pc := 0) dX12_partnerOf_0 rfl rfl ?_
  refine gf_X12_7 (pc := 1) dX12_partnerOf_1 wF_X12_40 (A_106 hw) hT ?_
  refine mr_iconst (pc := 4) (z := 2) dX12_partnerOf_4 ?_
  refine mr_iload_n (pc := 5) (z := p1) dX12_partnerOf_5 rfl rfl ?_
  refine mr_imul (pc := 6) (x := 2) (y := p1) dX12_partnerOf_6 ?_
  refine mr_iconst (pc := 7) (z := 1) dX12_partnerOf_7 ?_
  refine mr_iadd (pc := 8) (x := (2 * p1)) (y := 1) dX12_partnerOf_8 ?_
  refine sv_aload_n (pc := 9) dX12_partnerOf_9 rfl rfl ?_
  refine mr_iload_n (pc := 10) (z := p1) dX12_partnerOf_10 rfl rfl ?_
  refine mr_iload_n (pc := 11) (z := p2) dX12_partnerOf_11 rfl rfl ?_
  obtain ⟨z1, q2⟩ : ∃ z, μ 110 ((2 * p1).toNat) = z := ⟨_, rfl⟩
  have h3 : (0 ≤ z1 ∧ z1 ≤ 9) := by rw [← q2]; exact hT 110 110 (A_110 hw) ((2 * p1).toNat)
  refine mr_cVP (pc := 12) (c_X12_sideOf hw hT hp1 hp2 q2) (gOk _ _ _ _ _) dX12_partnerOf_12 (tX12_sideOf _ _ _ _ _) ⟨wV_X12_sideOf, wL_X12_sideOf⟩ wM_X12_542 (gCX12 _ _ _ _ _) rfl (A_106 hw) rfl ⟨le_t rfl, le_t rfl⟩ ⟨le_t rfl, le_t rfl⟩ rfl (le_t rfl) fun z8 h7 => ?_
  refine mr_isub (pc := 15) (x := ((2 * p1) + 1)) (y := z8) dX12_partnerOf_15 ?_
  refine la_110 (pc := 16) dX12_partnerOf_16 (A_110 hw) hT (rIx (n := 40) (rSub (e := 0) (f := 39) (rAdd (e := 1) (f := 39) (rMulL (n := 2) (e := 0) (f := 38) hp1 rfl) (rR (x := 1)) rfl) h7.1 rfl) rfl) fun z9 q10 h11 => ?_
  exact mr_iretP dX12_partnerOf_17 rfl (le_t rfl) (le_t rfl) ⟨h11, trivial⟩
theorem vc_X12_unlike_1 {z925 : Int} (h0 : (7 - z925) < ((0 : Nat) : Int)) (h1 : 0 ≤ z925 ∧ z925 ≤ 6) : False := by omega
theorem vc_X12_unlike_2 {z925 : Int} (h0 : 6 ≤ z925) (h1 : 0 ≤ z925 ∧ z925 ≤ 6) : 6 ≤ z925 ∧ z925 ≤ 6 := by omega
theorem vc_X12_unlike_3 {z925 : Int} (h0 : z925 < 6) (h1 : 0 ≤ z925 ∧ z925 ≤ 6) : 0 ≤ z925 ∧ z925 ≤ 5 := by omega
theorem vc_X12_unlike_4 {p2 : Int} (h0 : 0 ≤ p2 ∧ p2 ≤ 2099) : ((40 * p2) + 4) % 40 = 4 := by omega
theorem vc_X12_unlike_5 {z1050 : Int} (h0 : z1050 = 0) (h1 : (-2147483648) ≤ z1050 ∧ z1050 ≤ 2147483647) : 0 ≤ z1050 ∧ z1050 ≤ 0 := by omega
theorem vc_X12_unlike_6 {N z925 : Int} (h0 : (7 - z925) < N + 1) (h1 : z925 < 6) (h2 : 0 ≤ z925 ∧ z925 ≤ 5) : (7 - (z925 + 1)) < N := by omega
theorem vc_X12_unlike_7 {z1050 : Int} (h0 : 0 ≤ z1050) (h1 : ¬ z1050 = 0) (h2 : (-2147483648) ≤ z1050 ∧ z1050 ≤ 2147483647) : 0 ≤ z1050 ∧ z1050 ≤ 2147483647 := by omega
theorem vc_X12_unlike_8 {z1050 : Int} (h0 : z1050 < 0) (h1 : ¬ z1050 = 0) (h2 : (-2147483648) ≤ z1050 ∧ z1050 ≤ 2147483647) : (-2147483648) ≤ z1050 ∧ z1050 ≤ (-1) := by omega
theorem vc_X12_unlike_9 {z936 : Int} (h0 : z936 = 5) (h1 : 0 ≤ z936 ∧ z936 ≤ 9) : 5 ≤ z936 ∧ z936 ≤ 5 := by omega
theorem vc_X12_unlike_10 {p1 p3 p6 z1062 z1069 z1074 : Int} (h0 : z1074 = (((20 * p3) + (10 * z1069)) + p6)) (h1 : (z1069 = 0 → z1062 = p1)) (h2 : (z1069 = 1 → ¬ z1062 = p1)) (h3 : 0 ≤ p1 ∧ p1 ≤ 9) (h4 : 0 ≤ p3 ∧ p3 ≤ 19) (h5 : 0 ≤ p6 ∧ p6 ≤ 9) (h6 : 0 ≤ z1062 ∧ z1062 ≤ 9) (h7 : 0 ≤ z1069 ∧ z1069 ≤ 1) (h8 : 0 ≤ z1074 ∧ z1074 ≤ 449) : 0 ≤ z1074 ∧ z1074 ≤ 399 := by omega
theorem vc_X12_unlike_11 {p1 p3 p5 p6 z1069 z1074 z1079 z1086 z1091 : Int} (h0 : z1091 = (((20 * p5) + (10 * z1086)) + p6)) (h1 : z1074 = (((20 * p3) + (10 * z1069)) + p6)) (h2 : (z1086 = 0 → z1079 = p1)) (h3 : (z1086 = 1 → ¬ z1079 = p1)) (h4 : 0 ≤ p1 ∧ p1 ≤ 9) (h5 : 0 ≤ p3 ∧ p3 ≤ 19) (h6 : 0 ≤ p5 ∧ p5 ≤ 19) (h7 : 0 ≤ p6 ∧ p6 ≤ 9) (h8 : 0 ≤ z1069 ∧ z1069 ≤ 1) (h9 : 0 ≤ z1074 ∧ z1074 ≤ 399) (h10 : 0 ≤ z1079 ∧ z1079 ≤ 9) (h11 : 0 ≤ z1086 ∧ z1086 ≤ 1) (h12 : 0 ≤ z1091 ∧ z1091 ≤ 449) : 0 ≤ z1091 ∧ z1091 ≤ 399 := by omega
theorem vc_X12_unlike_12 {z936 : Int} (h0 : z936 = 6) (h1 : ¬ z936 = 4) (h2 : 0 ≤ z936 ∧ z936 ≤ 9) : 6 ≤ z936 ∧ z936 ≤ 6 := by omega
theorem vc_X12_unlike_13 {z936 : Int} (h0 : z936 = 4) (h1 : 0 ≤ z936 ∧ z936 ≤ 9) : 4 ≤ z936 ∧ z936 ≤ 4 := by omega
theorem vc_X12_unlike_14 {z957 : Int} (h0 : ¬ z957 = 0) (h1 : 0 ≤ z957 ∧ z957 ≤ 1) : 1 ≤ z957 ∧ z957 ≤ 1 := by omega
theorem vc_X12_unlike_15 {z957 : Int} (h0 : z957 = 0) (h1 : 0 ≤ z957 ∧ z957 ≤ 1) : 0 ≤ z957 ∧ z957 ≤ 0 := by omega
theorem vc_X12_unlike_16 {z936 : Int} (h0 : z936 = 6) (h1 : 4 ≤ z936 ∧ z936 ≤ 4) : False := by omega
theorem vc_X12_unlike_17 {z936 : Int} (h0 : z936 = 3) (h1 : 0 ≤ z936 ∧ z936 ≤ 9) : 3 ≤ z936 ∧ z936 ≤ 3 := by omega
theorem vc_X12_unlike_18 {z936 : Int} (h0 : z936 = 2) (h1 : 0 ≤ z936 ∧ z936 ≤ 9) : 2 ≤ z936 ∧ z936 ≤ 2 := by omega
theorem vc_X12_unlike_19 {p4 : Int} (h0 : 0 ≤ p4 ∧ p4 ≤ 2099) : ((40 * p4) + 4) % 40 = 4 := by omega
theorem vc_X12_unlike_20 {z936 : Int} (h0 : z936 = 1) (h1 : 0 ≤ z936 ∧ z936 ≤ 9) : 1 ≤ z936 ∧ z936 ≤ 1 := by omega
theorem vc_X12_unlike_21 {z939 : Int} (h0 : z939 ≤ 0) (h1 : 0 ≤ z939 ∧ z939 ≤ 20) : 0 ≤ z939 ∧ z939 ≤ 0 := by omega
theorem vc_X12_unlike_22 {z939 : Int} (h0 : 0 < z939) (h1 : 0 ≤ z939 ∧ z939 ≤ 20) : 1 ≤ z939 ∧ z939 ≤ 20 := by omega
theorem vc_X12_unlike_23 {z1148 : Int} (h0 : z1148 ≤ 0) (h1 : 0 ≤ z1148 ∧ z1148 ≤ 20) : 0 ≤ z1148 ∧ z1148 ≤ 0 := by omega
theorem vc_X12_unlike_24 {z1148 : Int} (h0 : 0 < z1148) (h1 : 0 ≤ z1148 ∧ z1148 ≤ 20) : 1 ≤ z1148 ∧ z1148 ≤ 20 := by omega
theorem vc_X12_unlike_25  : (7 - 0) < ((8 : Nat) : Int) := by omega
set_option maxRecDepth 4000 in
set_option maxHeartbeats 4000000 in
theorem c_X12_unlike {l : Launch} {D : va_G} {c : Nat → ClassId} {H0 : Heap} {sa : Nat × Nat × (Nat → Int32)} {w : mW} {μ : mM} (hw : mWF w) (hT : mT w μ) {p1 : Int} (hp1 : 0 ≤ p1 ∧ p1 ≤ 9) {p2 : Int} (hp2 : 0 ≤ p2 ∧ p2 ≤ 2099) {p3 : Int} (hp3 : 0 ≤ p3 ∧ p3 ≤ 19) {p4 : Int} (hp4 : 0 ≤ p4 ∧ p4 ≤ 2099) {p5 : Int} (hp5 : 0 ≤ p5 ∧ p5 ≤ 19) {p6 : Int} (hp6 : 0 ≤ p6 ∧ p6 ≤ 9) : sC (gG l D c H0 sa) mX12_unlike 2 0 0 [.ref 106, iv p1, iv p2, iv p3, iv p4, iv p5, iv p6] (mk w μ) (qP w μ (fun z => ((-9) ≤ z ∧ z ≤ 9) ∧ True)) := by
  refine sC.of rfl (by decide) (le_t rfl) ?_
  refine mr_lvE (lv' := [(0, .ref 106), (1, iv p1), (2, iv p2), (3, iv p3), (4, iv p4), (5, iv p5), (6, iv p6)]) rfl ?_
  refine mr_iconst (pc := 0) (z := 0) dX12_unlike_0 ?_
  refine mr_istore (pc := 1) (lv' := [(7, iv 0), (0, .ref 106), (1, iv p1), (2, iv p2), (3, iv p3), (4, iv p4), (5, iv p5), (6, iv p6)]) dX12_unlike_1 (by decide) rfl ?_
  have L926 : ∀ (nL926 : Nat) (z925 : Int), True → (0 ≤ z925 ∧ z925 ≤ 6) → (7 - z925) < (nL926 : Int) → sV (gG l D c H0 sa) mX12_unlike (sRm 2 0 0) (sZ (gG l D c H0 sa) 0 0 (qP w μ (fun z => ((-9) ≤ z ∧ z ≤ 9) ∧ True))) 3 [(0, .ref 106), (1, iv p1), (2, iv p2), (3, iv p3), (4, iv p4), (5, iv p5), (6, iv p6), (7, iv z925)] [] (mk w μ) 0 0 := by
    intro nL926
    induction nL926 with
    | zero => intro z925 _ h927 h931; exact ((vc_X12_unlike_1 h931 h927)).elim
    | succ nL926 ih932 =>
      intro z925 _ h927 h931
      refine mr_iload (pc := 3) (z := z925) dX12_unlike_3 rfl ?_
      refine mr_bipush (pc := 5) (z := 6) dX12_unlike_5 (by decide) ?_
      refine mr_icmp_ge (pc := 7) (tgt := 284) dX12_unlike_7 (by decide) (r32 h927 rfl) (r32 (rR (x := 6)) rfl) (fun h933 => ?_) (fun h933 => ?_)
      · have h934 : 6 ≤ z925 ∧ z925 ≤ 6 := (vc_X12_unlike_2 h933 h927)
        refine mr_iconst (pc := 284) (z := 0) dX12_unlike_284 ?_
        exact mr_iretP dX12_unlike_285 rfl (le_t rfl) (le_t rfl) ⟨(rW (c := (-9)) (d := 9) (rR (x := 0)) rfl), trivial⟩
      have h935 : 0 ≤ z925 ∧ z925 ≤ 5 := (vc_X12_unlike_3 h933 h927)
      refine sv_aload_n (pc := 10) dX12_unlike_10 rfl rfl ?_
      refine gf_X12_83 (pc := 11) dX12_unlike_11 wF_X12_451 (A_106 hw) hT ?_
      refine mr_bipush (pc := 14) (z := 6) dX12_unlike_14 (by decide) ?_
      refine mr_iload_n (pc := 16) (z := p1) dX12_unlike_16 rfl rfl ?_
      refine mr_imul (pc := 17) (x := 6) (y := p1) dX12_unlike_17 ?_
      refine mr_iload (pc := 18) (z := z925) dX12_unlike_18 rfl ?_
      refine mr_iadd (pc := 20) (x := (6 * p1)) (y := z925) dX12_unlike_20 ?_
      refine la_163 (pc := 21) dX12_unlike_21 (A_163 hw) hT (rIx (n := 60) (rAdd (e := 0) (f := 59) (rMulL (n := 6) (e := 0) (f := 54) hp1 rfl) h935 rfl) rfl) fun z936 q937 h938 => ?_
      refine mr_istore (pc := 22) (lv' := [(8, iv z936), (0, .ref 106), (1, iv p1), (2, iv p2), (3, iv p3), (4, iv p4), (5, iv p5), (6, iv p6), (7, iv z925)]) dX12_unlike_22 (by decide) rfl ?_
      refine mr_iconst (pc := 24) (z := 0) dX12_unlike_24 ?_
      refine mr_istore (pc := 25) (lv' := [(9, iv 0), (8, iv z936), (0, .ref 106), (1, iv p1), (2, iv p2), (3, iv p3), (4, iv p4), (5, iv p5), (6, iv p6), (7, iv z925)]) dX12_unlike_25 (by decide) rfl ?_
      refine mr_bipush (pc := 27) (z := 40) dX12_unlike_27 (by decide) ?_
      refine mr_iload_n (pc := 29) (z := p2) dX12_unlike_29 rfl rfl ?_
      refine mr_imul (pc := 30) (x := 40) (y := p2) dX12_unlike_30 ?_
      refine mr_istore (pc := 31) (lv' := [(10, iv (40 * p2)), (9, iv 0), (8, iv z936), (0, .ref 106), (1, iv p1), (2, iv p2), (3, iv p3), (4, iv p4), (5, iv p5), (6, iv p6), (7, iv z925)]) dX12_unlike_31 (by decide) rfl ?_
      refine mr_bipush (pc := 33) (z := 40) dX12_unlike_33 (by decide) ?_
      refine mr_iload (pc := 35) (z := p4) dX12_unlike_35 rfl ?_
      refine mr_imul (pc := 37) (x := 40) (y := p4) dX12_unlike_37 ?_
      refine mr_istore (pc := 38) (lv' := [(11, iv (40 * p4)), (10, iv (40 * p2)), (9, iv 0), (8, iv z936), (0, .ref 106), (1, iv p1), (2, iv p2), (3, iv p3), (4, iv p4), (5, iv p5), (6, iv p6), (7, iv z925)]) dX12_unlike_38 (by decide) rfl ?_
      refine sv_aload_n (pc := 40) dX12_unlike_40 rfl rfl ?_
      refine gf_X12_32 (pc := 41) dX12_unlike_41 wF_X12_148 (A_106 hw) hT ?_
      refine mr_iload (pc := 44) (z := (40 * p2)) dX12_unlike_44 rfl ?_
      refine mr_iconst (pc := 46) (z := 4) dX12_unlike_46 ?_
      refine mr_iadd (pc := 47) (x := (40 * p2)) (y := 4) dX12_unlike_47 ?_
      refine la_126 (pc := 48) dX12_unlike_48 (A_126 hw) hT (rIx (n := 84000) (rAdd (e := 4) (f := 83964) (rMulL (n := 40) (e := 0) (f := 83960) hp2 rfl) (rR (x := 4)) rfl) rfl) fun z939 q940 h941 => ?_
      have h942 : 0 ≤ z939 ∧ z939 ≤ 20 := h941.2.2.1 (vc_X12_unlike_4 hp2)
      have J959 : ∀ (z957 : Int), ((0 ≤ z957 ∧ z957 ≤ 1)) → sV (gG l D c H0 sa) mX12_unlike (sRm 2 0 0) (sZ (gG l D c H0 sa) 0 0 (qP w μ (fun z => ((-9) ≤ z ∧ z ≤ 9) ∧ True))) 92 [(0, .ref 106), (1, iv p1), (2, iv p2), (3, iv p3), (4, iv p4), (5, iv p5), (6, iv p6), (7, iv z925), (8, iv z936), (9, iv 0), (10, iv (40 * p2)), (11, iv (40 * p4))] [iv z957] (mk w μ) 0 0 := by
        intro z957 h958
        refine mr_istore (pc := 92) (lv' := [(12, iv z957), (0, .ref 106), (1, iv p1), (2, iv p2), (3, iv p3), (4, iv p4), (5, iv p5), (6, iv p6), (7, iv z925), (8, iv z936), (9, iv 0), (10, iv (40 * p2)), (11, iv (40 * p4))]) dX12_unlike_92 (by decide) rfl ?_
        refine mr_iload (pc := 94) (z := z936) dX12_unlike_94 rfl ?_
        refine mr_iconst (pc := 96) (z := 1) dX12_unlike_96 ?_
        have J971 : ∀ (z969 : Int), (((-2147483648) ≤ z969 ∧ z969 ≤ 2147483647)) → sV (gG l D c H0 sa) mX12_unlike (sRm 2 0 0) (sZ (gG l D c H0 sa) 0 0 (qP w μ (fun z => ((-9) ≤ z ∧ z ≤ 9) ∧ True))) 121 [(0, .ref 106), (1, iv p1), (2, iv p2), (3, iv p3), (4, iv p4), (5, iv p5), (6, iv p6), (7, iv z925), (8, iv z936), (9, iv z969), (10, iv (40 * p2)), (11, iv (40 * p4)), (12, iv z957)] [] (mk w μ) 0 0 := by
          intro z969 h970
          refine mr_iload (pc := 121) (z := z936) dX12_unlike_121 rfl ?_
          refine mr_iconst (pc := 123) (z := 2) dX12_unlike_123 ?_
          have J979 : ∀ (z977 : Int), (((-2147483648) ≤ z977 ∧ z977 ≤ 2147483647)) → sV (gG l D c H0 sa) mX12_unlike (sRm 2 0 0) (sZ (gG l D c H0 sa) 0 0 (qP w μ (fun z => ((-9) ≤ z ∧ z ≤ 9) ∧ True))) 148 [(0, .ref 106), (1, iv p1), (2, iv p2), (3, iv p3), (4, iv p4), (5, iv p5), (6, iv p6), (7, iv z925), (8, iv z936), (9, iv z977), (10, iv (40 * p2)), (11, iv (40 * p4)), (12, iv z957)] [] (mk w μ) 0 0 := by
            intro z977 h978
            refine mr_iload (pc := 148) (z := z936) dX12_unlike_148 rfl ?_
            refine mr_iconst (pc := 150) (z := 3) dX12_unlike_150 ?_
            have J991 : ∀ (z989 : Int), (((-2147483648) ≤ z989 ∧ z989 ≤ 2147483647)) → sV (gG l D c H0 sa) mX12_unlike (sRm 2 0 0) (sZ (gG l D c H0 sa) 0 0 (qP w μ (fun z => ((-9) ≤ z ∧ z ≤ 9) ∧ True))) 175 [(0, .ref 106), (1, iv p1), (2, iv p2), (3, iv p3), (4, iv p4), (5, iv p5), (6, iv p6), (7, iv z925), (8, iv z936), (9, iv z989), (10, iv (40 * p2)), (11, iv (40 * p4)), (12, iv z957)] [] (mk w μ) 0 0 := by
              intro z989 h990
              refine mr_iload (pc := 175) (z := z936) dX12_unlike_175 rfl ?_
              refine mr_iconst (pc := 177) (z := 4) dX12_unlike_177 ?_
              have J1014 : ∀ (z1012 : Int), (((-2147483648) ≤ z1012 ∧ z1012 ≤ 2147483647)) → sV (gG l D c H0 sa) mX12_unlike (sRm 2 0 0) (sZ (gG l D c H0 sa) 0 0 (qP w μ (fun z => ((-9) ≤ z ∧ z ≤ 9) ∧ True))) 214 [(0, .ref 106), (1, iv p1), (2, iv p2), (3, iv p3), (4, iv p4), (5, iv p5), (6, iv p6), (7, iv z925), (8, iv z936), (9, iv z1012)] [] (mk w μ) 0 0 := by
                intro z1012 h1013
                refine mr_iload (pc := 214) (z := z936) dX12_unlike_214 rfl ?_
                refine mr_iconst (pc := 216) (z := 5) dX12_unlike_216 ?_
                have J1052 : ∀ (z1050 : Int), (((-2147483648) ≤ z1050 ∧ z1050 ≤ 2147483647)) → sV (gG l D c H0 sa) mX12_unlike (sRm 2 0 0) (sZ (gG l D c H0 sa) 0 0 (qP w μ (fun z => ((-9) ≤ z ∧ z ≤ 9) ∧ True))) 259 [(0, .ref 106), (1, iv p1), (2, iv p2), (3, iv p3), (4, iv p4), (5, iv p5), (6, iv p6), (7, iv z925), (8, iv z936), (9, iv z1050)] [] (mk w μ) 0 0 := by
                  intro z1050 h1051
                  refine mr_iload (pc := 259) (z := z1050) dX12_unlike_259 rfl ?_
                  refine mr_if_eq (pc := 261) (tgt := 278) dX12_unlike_261 (by decide) h1051 (fun h1053 => ?_) (fun h1053 => ?_)
                  · have h1054 : 0 ≤ z1050 ∧ z1050 ≤ 0 := (vc_X12_unlike_5 h1053 h1051)
                    refine mr_iinc (pc := 278) (lv' := [(7, iv (z925 + 1)), (0, .ref 106), (1, iv p1), (2, iv p2), (3, iv p3), (4, iv p4), (5, iv p5), (6, iv p6), (8, iv z936), (9, iv z1050)]) dX12_unlike_278 rfl (by decide) rfl ?_
                    refine sv_goto (pc := 281) (tgt := 3) dX12_unlike_281 (by decide) ?_
                    refine mr_lvS (lv' := [(0, .ref 106), (1, iv p1), (2, iv p2), (3, iv p3), (4, iv p4), (5, iv p5), (6, iv p6), (7, iv (z925 + 1))]) (List.forall_mem_cons.mpr ⟨rfl, List.forall_mem_cons.mpr ⟨rfl, List.forall_mem_cons.mpr ⟨rfl, List.forall_mem_cons.mpr ⟨rfl, List.forall_mem_cons.mpr ⟨rfl, List.forall_mem_cons.mpr ⟨rfl, List.forall_mem_cons.mpr ⟨rfl, List.forall_mem_cons.mpr ⟨rfl, fun _ h => absurd h List.not_mem_nil⟩⟩⟩⟩⟩⟩⟩⟩) ?_
                    exact ih932 (z925 + 1) trivial (rW (c := 0) (d := 6) (rAdd (e := 1) (f := 6) h935 (rR (x := 1)) rfl) rfl) (vc_X12_unlike_6 (nS h931) h933 h935)
                  refine mr_iload (pc := 264) (z := z1050) dX12_unlike_264 rfl ?_
                  refine mr_if_ge (pc := 266) (tgt := 274) dX12_unlike_266 (by decide) h1051 (fun h1057 => ?_) (fun h1057 => ?_)
                  · have h1058 : 0 ≤ z1050 ∧ z1050 ≤ 2147483647 := (vc_X12_unlike_7 h1057 h1053 h1051)
                    refine mr_iload (pc := 274) (z := z936) dX12_unlike_274 rfl ?_
                    refine mr_ineg (pc := 276) dX12_unlike_276 ?_
                    refine mr_negS ?_
                    exact mr_iretP dX12_unlike_277 rfl (le_t rfl) (le_t rfl) ⟨(rW (c := (-9)) (d := 9) (rSub (e := (-9)) (f := 0) (rR (x := 0)) h938 rfl) rfl), trivial⟩
                  have h1059 : (-2147483648) ≤ z1050 ∧ z1050 ≤ (-1) := (vc_X12_unlike_8 h1057 h1053 h1051)
                  refine mr_iload (pc := 269) (z := z936) dX12_unlike_269 rfl ?_
                  refine sv_goto (pc := 271) (tgt := 277) dX12_unlike_271 (by decide) ?_
                  exact mr_iretP dX12_unlike_277 rfl (le_t rfl) (le_t rfl) ⟨(rW (c := (-9)) (d := 9) h938 rfl), trivial⟩
                refine mr_icmp_ne (pc := 217) (tgt := 259) dX12_unlike_217 (by decide) (r32 h938 rfl) (r32 (rR (x := 5)) rfl) (fun h1060 => ?_) (fun h1060 => ?_)
                · exact J1052 z1012 h1013
                have h1061 : 5 ≤ z936 ∧ z936 ≤ 5 := (vc_X12_unlike_9 h1060 h938)
                refine sv_aload_n (pc := 220) dX12_unlike_220 rfl rfl ?_
                refine gf_X12_74 (pc := 221) dX12_unlike_221 wF_X12_424 (A_106 hw) hT ?_
                refine mr_iload_n (pc := 224) (z := p3) dX12_unlike_224 rfl rfl ?_
                refine sv_aload_n (pc := 225) dX12_unlike_225 rfl rfl ?_
                refine mr_iload_n (pc := 226) (z := p3) dX12_unlike_226 rfl rfl ?_
                refine mr_iload_n (pc := 227) (z := p1) dX12_unlike_227 rfl rfl ?_
                obtain ⟨z1062, q1063⟩ : ∃ z, μ 110 ((2 * p3).toNat) = z := ⟨_, rfl⟩
                have h1064 : (0 ≤ z1062 ∧ z1062 ≤ 9) := by rw [← q1063]; exact hT 110 110 (A_110 hw) ((2 * p3).toNat)
                refine mr_cVP (pc := 228) (c_X12_sideOf hw hT hp3 (rW (c := (-2147483648)) (d := 2147483647) hp1 rfl) q1063) (gOk _ _ _ _ _) dX12_unlike_228 (tX12_sideOf _ _ _ _ _) ⟨wV_X12_sideOf, wL_X12_sideOf⟩ wM_X12_542 (gCX12 _ _ _ _ _) rfl (A_106 hw) rfl ⟨le_t rfl, le_t rfl⟩ ⟨le_t rfl, le_t rfl⟩ rfl (le_t rfl) fun z1069 h1068 => ?_
                refine mr_iload (pc := 231) (z := p6) dX12_unlike_231 rfl ?_
                refine mr_cSP (pc := 233) (c_X12_slot hw hT (rW (c := 0) (d := 20) hp3 rfl) (rW (c := 0) (d := 2) h1068.1 rfl) hp6) (gOk _ _ _ _ _) dX12_unlike_233 (tX12_slot _ _ _ _ _) wS_X12_slot wM_X12_545 ⟨le_t rfl, le_t rfl⟩ ⟨le_t rfl, le_t rfl⟩ rfl (le_t rfl) fun z1074 h1073 => ?_
                have h1075 : 0 ≤ z1074 ∧ z1074 ≤ 399 := (vc_X12_unlike_10 h1073.2.1 h1068.2.1 h1068.2.2.1 hp1 hp3 hp6 h1064 h1068.1 h1073.1)
                refine la_154 (pc := 236) dX12_unlike_236 (A_154 hw) hT (rIx (n := 400) h1075 rfl) fun z1076 q1077 h1078 => ?_
                refine sv_aload_n (pc := 237) dX12_unlike_237 rfl rfl ?_
                refine gf_X12_74 (pc := 238) dX12_unlike_238 wF_X12_424 (A_106 hw) hT ?_
                refine mr_iload (pc := 241) (z := p5) dX12_unlike_241 rfl ?_
                refine sv_aload_n (pc := 243) dX12_unlike_243 rfl rfl ?_
                refine mr_iload (pc := 244) (z := p5) dX12_unlike_244 rfl ?_
                refine mr_iload_n (pc := 246) (z := p1) dX12_unlike_246 rfl rfl ?_
                obtain ⟨z1079, q1080⟩ : ∃ z, μ 110 ((2 * p5).toNat) = z := ⟨_, rfl⟩
                have h1081 : (0 ≤ z1079 ∧ z1079 ≤ 9) := by rw [← q1080]; exact hT 110 110 (A_110 hw) ((2 * p5).toNat)
                refine mr_cVP (pc := 247) (c_X12_sideOf hw hT hp5 (rW (c := (-2147483648)) (d := 2147483647) hp1 rfl) q1080) (gOk _ _ _ _ _) dX12_unlike_247 (tX12_sideOf _ _ _ _ _) ⟨wV_X12_sideOf, wL_X12_sideOf⟩ wM_X12_542 (gCX12 _ _ _ _ _) rfl (A_106 hw) rfl ⟨le_t rfl, le_t rfl⟩ ⟨le_t rfl, le_t rfl⟩ rfl (le_t rfl) fun z1086 h1085 => ?_
                refine mr_iload (pc := 250) (z := p6) dX12_unlike_250 rfl ?_
                refine mr_cSP (pc := 252) (c_X12_slot hw hT (rW (c := 0) (d := 20) hp5 rfl) (rW (c := 0) (d := 2) h1085.1 rfl) hp6) (gOk _ _ _ _ _) dX12_unlike_252 (tX12_slot _ _ _ _ _) wS_X12_slot wM_X12_545 ⟨le_t rfl, le_t rfl⟩ ⟨le_t rfl, le_t rfl⟩ rfl (le_t rfl) fun z1091 h1090 => ?_
                have h1092 : 0 ≤ z1091 ∧ z1091 ≤ 399 := (vc_X12_unlike_11 h1090.2.1 h1073.2.1 h1085.2.1 h1085.2.2.1 hp1 hp3 hp5 hp6 h1068.1 h1075 h1081 h1085.1 h1090.1)
                refine la_154 (pc := 255) dX12_unlike_255 (A_154 hw) hT (rIx (n := 400) h1092 rfl) fun z1093 q1094 h1095 => ?_
                refine mr_isub (pc := 256) (x := z1076) (y := z1093) dX12_unlike_256 ?_
                refine mr_istore (pc := 257) (lv' := [(9, iv (z1076 - z1093)), (0, .ref 106), (1, iv p1), (2, iv p2), (3, iv p3), (4, iv p4), (5, iv p5), (6, iv p6), (7, iv z925), (8, iv z936)]) dX12_unlike_257 (by decide) rfl ?_
                refine mr_lvS (lv' := [(0, .ref 106), (1, iv p1), (2, iv p2), (3, iv p3), (4, iv p4), (5, iv p5), (6, iv p6), (7, iv z925), (8, iv z936), (9, iv (z1076 - z1093))]) (List.forall_mem_cons.mpr ⟨rfl, List.forall_mem_cons.mpr ⟨rfl, List.forall_mem_cons.mpr ⟨rfl, List.forall_mem_cons.mpr ⟨rfl, List.forall_mem_cons.mpr ⟨rfl, List.forall_mem_cons.mpr ⟨rfl, List.forall_mem_cons.mpr ⟨rfl, List.forall_mem_cons.mpr ⟨rfl, List.forall_mem_cons.mpr ⟨rfl, List.forall_mem_cons.mpr ⟨rfl, fun _ h => absurd h List.not_mem_nil⟩⟩⟩⟩⟩⟩⟩⟩⟩⟩) ?_
                exact J1052 (z1076 - z1093) (rW (c := (-2147483648)) (d := 2147483647) (rSub (e := (-2000000000)) (f := 2000000000) h1078 h1095 rfl) rfl)
              refine mr_icmp_ne (pc := 178) (tgt := 186) dX12_unlike_178 (by decide) (r32 h938 rfl) (r32 (rR (x := 4)) rfl) (fun h1096 => ?_) (fun h1096 => ?_)
              · refine mr_iload (pc := 186) (z := z936) dX12_unlike_186 rfl ?_
                refine mr_bipush (pc := 188) (z := 6) dX12_unlike_188 (by decide) ?_
                refine mr_icmp_ne (pc := 190) (tgt := 214) dX12_unlike_190 (by decide) (r32 h938 rfl) (r32 (rR (x := 6)) rfl) (fun h1097 => ?_) (fun h1097 => ?_)
                · refine mr_lvS (lv' := [(0, .ref 106), (1, iv p1), (2, iv p2), (3, iv p3), (4, iv p4), (5, iv p5), (6, iv p6), (7, iv z925), (8, iv z936), (9, iv z989)]) (List.forall_mem_cons.mpr ⟨rfl, List.forall_mem_cons.mpr ⟨rfl, List.forall_mem_cons.mpr ⟨rfl, List.forall_mem_cons.mpr ⟨rfl, List.forall_mem_cons.mpr ⟨rfl, List.forall_mem_cons.mpr ⟨rfl, List.forall_mem_cons.mpr ⟨rfl, List.forall_mem_cons.mpr ⟨rfl, List.forall_mem_cons.mpr ⟨rfl, List.forall_mem_cons.mpr ⟨rfl, fun _ h => absurd h List.not_mem_nil⟩⟩⟩⟩⟩⟩⟩⟩⟩⟩) ?_
                  exact J1014 z989 h990
                have h1098 : 6 ≤ z936 ∧ z936 ≤ 6 := (vc_X12_unlike_12 h1097 h1096 h938)
                refine sv_aload_n (pc := 193) dX12_unlike_193 rfl rfl ?_
                refine gf_X12_32 (pc := 194) dX12_unlike_194 wF_X12_148 (A_106 hw) hT ?_
                refine mr_iload (pc := 197) (z := (40 * p2)) dX12_unlike_197 rfl ?_
                refine mr_iconst (pc := 199) (z := 3) dX12_unlike_199 ?_
                refine mr_iadd (pc := 200) (x := (40 * p2)) (y := 3) dX12_unlike_200 ?_
                refine la_126 (pc := 201) dX12_unlike_201 (A_126 hw) hT (rIx (n := 84000) (rAdd (e := 3) (f := 83963) (rMulL (n := 40) (e := 0) (f := 83960) hp2 rfl) (rR (x := 3)) rfl) rfl) fun z1099 q1100 h1101 => ?_
                refine sv_aload_n (pc := 202) dX12_unlike_202 rfl rfl ?_
                refine gf_X12_32 (pc := 203) dX12_unlike_203 wF_X12_148 (A_106 hw) hT ?_
                refine mr_iload (pc := 206) (z := (40 * p4)) dX12_unlike_206 rfl ?_
                refine mr_iconst (pc := 208) (z := 3) dX12_unlike_208 ?_
                refine mr_iadd (pc := 209) (x := (40 * p4)) (y := 3) dX12_unlike_209 ?_
                refine la_126 (pc := 210) dX12_unlike_210 (A_126 hw) hT (rIx (n := 84000) (rAdd (e := 3) (f := 83963) (rMulL (n := 40) (e := 0) (f := 83960) hp4 rfl) (rR (x := 3)) rfl) rfl) fun z1102 q1103 h1104 => ?_
                refine mr_isub (pc := 211) (x := z1099) (y := z1102) dX12_unlike_211 ?_
                refine mr_wrap fun z1105 h1106 => ?_
                refine mr_istore (pc := 212) (lv' := [(9, iv z1105), (0, .ref 106), (1, iv p1), (2, iv p2), (3, iv p3), (4, iv p4), (5, iv p5), (6, iv p6), (7, iv z925), (8, iv z936), (10, iv (40 * p2)), (11, iv (40 * p4)), (12, iv z957)]) dX12_unlike_212 (by decide) rfl ?_
                refine mr_lvS (lv' := [(0, .ref 106), (1, iv p1), (2, iv p2), (3, iv p3), (4, iv p4), (5, iv p5), (6, iv p6), (7, iv z925), (8, iv z936), (9, iv z1105)]) (List.forall_mem_cons.mpr ⟨rfl, List.forall_mem_cons.mpr ⟨rfl, List.forall_mem_cons.mpr ⟨rfl, List.forall_mem_cons.mpr ⟨rfl, List.forall_mem_cons.mpr ⟨rfl, List.forall_mem_cons.mpr ⟨rfl, List.forall_mem_cons.mpr ⟨rfl, List.forall_mem_cons.mpr ⟨rfl, List.forall_mem_cons.mpr ⟨rfl, List.forall_mem_cons.mpr ⟨rfl, fun _ h => absurd h List.not_mem_nil⟩⟩⟩⟩⟩⟩⟩⟩⟩⟩) ?_
                exact J1014 z1105 h1106
              have h1107 : 4 ≤ z936 ∧ z936 ≤ 4 := (vc_X12_unlike_13 h1096 h938)
              refine mr_iload (pc := 181) (z := z957) dX12_unlike_181 rfl ?_
              refine mr_if_ne (pc := 183) (tgt := 193) dX12_unlike_183 (by decide) (r32 h958 rfl) (fun h1108 => ?_) (fun h1108 => ?_)
              · have h1109 : 1 ≤ z957 ∧ z957 ≤ 1 := (vc_X12_unlike_14 h1108 h958)
                refine sv_aload_n (pc := 193) dX12_unlike_193 rfl rfl ?_
                refine gf_X12_32 (pc := 194) dX12_unlike_194 wF_X12_148 (A_106 hw) hT ?_
                refine mr_iload (pc := 197) (z := (40 * p2)) dX12_unlike_197 rfl ?_
                refine mr_iconst (pc := 199) (z := 3) dX12_unlike_199 ?_
                refine mr_iadd (pc := 200) (x := (40 * p2)) (y := 3) dX12_unlike_200 ?_
                refine la_126 (pc := 201) dX12_unlike_201 (A_126 hw) hT (rIx (n := 84000) (rAdd (e := 3) (f := 83963) (rMulL (n := 40) (e := 0) (f := 83960) hp2 rfl) (rR (x := 3)) rfl) rfl) fun z1110 q1111 h1112 => ?_
                refine sv_aload_n (pc := 202) dX12_unlike_202 rfl rfl ?_
                refine gf_X12_32 (pc := 203) dX12_unlike_203 wF_X12_148 (A_106 hw) hT ?_
                refine mr_iload (pc := 206) (z := (40 * p4)) dX12_unlike_206 rfl ?_
                refine mr_iconst (pc := 208) (z := 3) dX12_unlike_208 ?_
                refine mr_iadd (pc := 209) (x := (40 * p4)) (y := 3) dX12_unlike_209 ?_
                refine la_126 (pc := 210) dX12_unlike_210 (A_126 hw) hT (rIx (n := 84000) (rAdd (e := 3) (f := 83963) (rMulL (n := 40) (e := 0) (f := 83960) hp4 rfl) (rR (x := 3)) rfl) rfl) fun z1113 q1114 h1115 => ?_
                refine mr_isub (pc := 211) (x := z1110) (y := z1113) dX12_unlike_211 ?_
                refine mr_wrap fun z1116 h1117 => ?_
                refine mr_istore (pc := 212) (lv' := [(9, iv z1116), (0, .ref 106), (1, iv p1), (2, iv p2), (3, iv p3), (4, iv p4), (5, iv p5), (6, iv p6), (7, iv z925), (8, iv z936), (10, iv (40 * p2)), (11, iv (40 * p4)), (12, iv z957)]) dX12_unlike_212 (by decide) rfl ?_
                refine mr_lvS (lv' := [(0, .ref 106), (1, iv p1), (2, iv p2), (3, iv p3), (4, iv p4), (5, iv p5), (6, iv p6), (7, iv z925), (8, iv z936), (9, iv z1116)]) (List.forall_mem_cons.mpr ⟨rfl, List.forall_mem_cons.mpr ⟨rfl, List.forall_mem_cons.mpr ⟨rfl, List.forall_mem_cons.mpr ⟨rfl, List.forall_mem_cons.mpr ⟨rfl, List.forall_mem_cons.mpr ⟨rfl, List.forall_mem_cons.mpr ⟨rfl, List.forall_mem_cons.mpr ⟨rfl, List.forall_mem_cons.mpr ⟨rfl, List.forall_mem_cons.mpr ⟨rfl, fun _ h => absurd h List.not_mem_nil⟩⟩⟩⟩⟩⟩⟩⟩⟩⟩) ?_
                exact J1014 z1116 h1117
              have h1118 : 0 ≤ z957 ∧ z957 ≤ 0 := (vc_X12_unlike_15 h1108 h958)
              refine mr_iload (pc := 186) (z := z936) dX12_unlike_186 rfl ?_
              refine mr_bipush (pc := 188) (z := 6) dX12_unlike_188 (by decide) ?_
              refine mr_icmp_ne (pc := 190) (tgt := 214) dX12_unlike_190 (by decide) (r32 h1107 rfl) (r32 (rR (x := 6)) rfl) (fun _ => ?_) (fun h => ((vc_X12_unlike_16 h h1107)).elim)
              refine mr_lvS (lv' := [(0, .ref 106), (1, iv p1), (2, iv p2), (3, iv p3), (4, iv p4), (5, iv p5), (6, iv p6), (7, iv z925), (8, iv z936), (9, iv z989)]) (List.forall_mem_cons.mpr ⟨rfl, List.forall_mem_cons.mpr ⟨rfl, List.forall_mem_cons.mpr ⟨rfl, List.forall_mem_cons.mpr ⟨rfl, List.forall_mem_cons.mpr ⟨rfl, List.forall_mem_cons.mpr ⟨rfl, List.forall_mem_cons.mpr ⟨rfl, List.forall_mem_cons.mpr ⟨rfl, List.forall_mem_cons.mpr ⟨rfl, List.forall_mem_cons.mpr ⟨rfl, fun _ h => absurd h List.not_mem_nil⟩⟩⟩⟩⟩⟩⟩⟩⟩⟩) ?_
              exact J1014 z989 h990
            refine mr_icmp_ne (pc := 151) (tgt := 175) dX12_unlike_151 (by decide) (r32 h938 rfl) (r32 (rR (x := 3)) rfl) (fun h1119 => ?_) (fun h1119 => ?_)
            · exact J991 z977 h978
            have h1120 : 3 ≤ z936 ∧ z936 ≤ 3 := (vc_X12_unlike_17 h1119 h938)
            refine sv_aload_n (pc := 154) dX12_unlike_154 rfl rfl ?_
            refine gf_X12_32 (pc := 155) dX12_unlike_155 wF_X12_148 (A_106 hw) hT ?_
            refine mr_iload (pc := 158) (z := (40 * p2)) dX12_unlike_158 rfl ?_
            refine mr_iconst (pc := 160) (z := 2) dX12_unlike_160 ?_
            refine mr_iadd (pc := 161) (x := (40 * p2)) (y := 2) dX12_unlike_161 ?_
            refine la_126 (pc := 162) dX12_unlike_162 (A_126 hw) hT (rIx (n := 84000) (rAdd (e := 2) (f := 83962) (rMulL (n := 40) (e := 0) (f := 83960) hp2 rfl) (rR (x := 2)) rfl) rfl) fun z1121 q1122 h1123 => ?_
            refine sv_aload_n (pc := 163) dX12_unlike_163 rfl rfl ?_
            refine gf_X12_32 (pc := 164) dX12_unlike_164 wF_X12_148 (A_106 hw) hT ?_
            refine mr_iload (pc := 167) (z := (40 * p4)) dX12_unlike_167 rfl ?_
            refine mr_iconst (pc := 169) (z := 2) dX12_unlike_169 ?_
            refine mr_iadd (pc := 170) (x := (40 * p4)) (y := 2) dX12_unlike_170 ?_
            refine la_126 (pc := 171) dX12_unlike_171 (A_126 hw) hT (rIx (n := 84000) (rAdd (e := 2) (f := 83962) (rMulL (n := 40) (e := 0) (f := 83960) hp4 rfl) (rR (x := 2)) rfl) rfl) fun z1124 q1125 h1126 => ?_
            refine mr_isub (pc := 172) (x := z1121) (y := z1124) dX12_unlike_172 ?_
            refine mr_wrap fun z1127 h1128 => ?_
            refine mr_istore (pc := 173) (lv' := [(9, iv z1127), (0, .ref 106), (1, iv p1), (2, iv p2), (3, iv p3), (4, iv p4), (5, iv p5), (6, iv p6), (7, iv z925), (8, iv z936), (10, iv (40 * p2)), (11, iv (40 * p4)), (12, iv z957)]) dX12_unlike_173 (by decide) rfl ?_
            refine mr_lvS (lv' := [(0, .ref 106), (1, iv p1), (2, iv p2), (3, iv p3), (4, iv p4), (5, iv p5), (6, iv p6), (7, iv z925), (8, iv z936), (9, iv z1127), (10, iv (40 * p2)), (11, iv (40 * p4)), (12, iv z957)]) (List.forall_mem_cons.mpr ⟨rfl, List.forall_mem_cons.mpr ⟨rfl, List.forall_mem_cons.mpr ⟨rfl, List.forall_mem_cons.mpr ⟨rfl, List.forall_mem_cons.mpr ⟨rfl, List.forall_mem_cons.mpr ⟨rfl, List.forall_mem_cons.mpr ⟨rfl, List.forall_mem_cons.mpr ⟨rfl, List.forall_mem_cons.mpr ⟨rfl, List.forall_mem_cons.mpr ⟨rfl, List.forall_mem_cons.mpr ⟨rfl, List.forall_mem_cons.mpr ⟨rfl, List.forall_mem_cons.mpr ⟨rfl, fun _ h => absurd h List.not_mem_nil⟩⟩⟩⟩⟩⟩⟩⟩⟩⟩⟩⟩⟩) ?_
            exact J991 z1127 h1128
          refine mr_icmp_ne (pc := 124) (tgt := 148) dX12_unlike_124 (by decide) (r32 h938 rfl) (r32 (rR (x := 2)) rfl) (fun h1129 => ?_) (fun h1129 => ?_)
          · exact J979 z969 h970
          have h1130 : 2 ≤ z936 ∧ z936 ≤ 2 := (vc_X12_unlike_18 h1129 h938)
          refine sv_aload_n (pc := 127) dX12_unlike_127 rfl rfl ?_
          refine gf_X12_32 (pc := 128) dX12_unlike_128 wF_X12_148 (A_106 hw) hT ?_
          refine mr_iload (pc := 131) (z := (40 * p2)) dX12_unlike_131 rfl ?_
          refine mr_iconst (pc := 133) (z := 4) dX12_unlike_133 ?_
          refine mr_iadd (pc := 134) (x := (40 * p2)) (y := 4) dX12_unlike_134 ?_
          refine lk_126 (pc := 135) dX12_unlike_135 (A_126 hw) (rIx (n := 84000) (rAdd (e := 4) (f := 83964) (rMulL (n := 40) (e := 0) (f := 83960) hp2 rfl) (rR (x := 4)) rfl) rfl) q940 ?_
          refine sv_aload_n (pc := 136) dX12_unlike_136 rfl rfl ?_
          refine gf_X12_32 (pc := 137) dX12_unlike_137 wF_X12_148 (A_106 hw) hT ?_
          refine mr_iload (pc := 140) (z := (40 * p4)) dX12_unlike_140 rfl ?_
          refine mr_iconst (pc := 142) (z := 4) dX12_unlike_142 ?_
          refine mr_iadd (pc := 143) (x := (40 * p4)) (y := 4) dX12_unlike_143 ?_
          refine la_126 (pc := 144) dX12_unlike_144 (A_126 hw) hT (rIx (n := 84000) (rAdd (e := 4) (f := 83964) (rMulL (n := 40) (e := 0) (f := 83960) hp4 rfl) (rR (x := 4)) rfl) rfl) fun z1131 q1132 h1133 => ?_
          have h1134 : 0 ≤ z1131 ∧ z1131 ≤ 20 := h1133.2.2.1 (vc_X12_unlike_19 hp4)
          refine mr_isub (pc := 145) (x := z939) (y := z1131) dX12_unlike_145 ?_
          refine mr_istore (pc := 146) (lv' := [(9, iv (z939 - z1131)), (0, .ref 106), (1, iv p1), (2, iv p2), (3, iv p3), (4, iv p4), (5, iv p5), (6, iv p6), (7, iv z925), (8, iv z936), (10, iv (40 * p2)), (11, iv (40 * p4)), (12, iv z957)]) dX12_unlike_146 (by decide) rfl ?_
          refine mr_lvS (lv' := [(0, .ref 106), (1, iv p1), (2, iv p2), (3, iv p3), (4, iv p4), (5, iv p5), (6, iv p6), (7, iv z925), (8, iv z936), (9, iv (z939 - z1131)), (10, iv (40 * p2)), (11, iv (40 * p4)), (12, iv z957)]) (List.forall_mem_cons.mpr ⟨rfl, List.forall_mem_cons.mpr ⟨rfl, List.forall_mem_cons.mpr ⟨rfl, List.forall_mem_cons.mpr ⟨rfl, List.forall_mem_cons.mpr ⟨rfl, List.forall_mem_cons.mpr ⟨rfl, List.forall_mem_cons.mpr ⟨rfl, List.forall_mem_cons.mpr ⟨rfl, List.forall_mem_cons.mpr ⟨rfl, List.forall_mem_cons.mpr ⟨rfl, List.forall_mem_cons.mpr ⟨rfl, List.forall_mem_cons.mpr ⟨rfl, List.forall_mem_cons.mpr ⟨rfl, fun _ h => absurd h List.not_mem_nil⟩⟩⟩⟩⟩⟩⟩⟩⟩⟩⟩⟩⟩) ?_
          exact J979 (z939 - z1131) (rW (c := (-2147483648)) (d := 2147483647) (rSub (e := (-20)) (f := 20) h942 h1134 rfl) rfl)
        refine mr_icmp_ne (pc := 97) (tgt := 121) dX12_unlike_97 (by decide) (r32 h938 rfl) (r32 (rR (x := 1)) rfl) (fun h1135 => ?_) (fun h1135 => ?_)
        · refine mr_lvS (lv' := [(0, .ref 106), (1, iv p1), (2, iv p2), (3, iv p3), (4, iv p4), (5, iv p5), (6, iv p6), (7, iv z925), (8, iv z936), (9, iv 0), (10, iv (40 * p2)), (11, iv (40 * p4)), (12, iv z957)]) (List.forall_mem_cons.mpr ⟨rfl, List.forall_mem_cons.mpr ⟨rfl, List.forall_mem_cons.mpr ⟨rfl, List.forall_mem_cons.mpr ⟨rfl, List.forall_mem_cons.mpr ⟨rfl, List.forall_mem_cons.mpr ⟨rfl, List.forall_mem_cons.mpr ⟨rfl, List.forall_mem_cons.mpr ⟨rfl, List.forall_mem_cons.mpr ⟨rfl, List.forall_mem_cons.mpr ⟨rfl, List.forall_mem_cons.mpr ⟨rfl, List.forall_mem_cons.mpr ⟨rfl, List.forall_mem_cons.mpr ⟨rfl, fun _ h => absurd h List.not_mem_nil⟩⟩⟩⟩⟩⟩⟩⟩⟩⟩⟩⟩⟩) ?_
          exact J971 0 (rW (c := (-2147483648)) (d := 2147483647) (rR (x := 0)) rfl)
        have h1136 : 1 ≤ z936 ∧ z936 ≤ 1 := (vc_X12_unlike_20 h1135 h938)
        refine sv_aload_n (pc := 100) dX12_unlike_100 rfl rfl ?_
        refine gf_X12_32 (pc := 101) dX12_unlike_101 wF_X12_148 (A_106 hw) hT ?_
        refine mr_iload (pc := 104) (z := (40 * p4)) dX12_unlike_104 rfl ?_
        refine mr_iconst (pc := 106) (z := 1) dX12_unlike_106 ?_
        refine mr_iadd (pc := 107) (x := (40 * p4)) (y := 1) dX12_unlike_107 ?_
        refine la_126 (pc := 108) dX12_unlike_108 (A_126 hw) hT (rIx (n := 84000) (rAdd (e := 1) (f := 83961) (rMulL (n := 40) (e := 0) (f := 83960) hp4 rfl) (rR (x := 1)) rfl) rfl) fun z1137 q1138 h1139 => ?_
        refine sv_aload_n (pc := 109) dX12_unlike_109 rfl rfl ?_
        refine gf_X12_32 (pc := 110) dX12_unlike_110 wF_X12_148 (A_106 hw) hT ?_
        refine mr_iload (pc := 113) (z := (40 * p2)) dX12_unlike_113 rfl ?_
        refine mr_iconst (pc := 115) (z := 1) dX12_unlike_115 ?_
        refine mr_iadd (pc := 116) (x := (40 * p2)) (y := 1) dX12_unlike_116 ?_
        refine la_126 (pc := 117) dX12_unlike_117 (A_126 hw) hT (rIx (n := 84000) (rAdd (e := 1) (f := 83961) (rMulL (n := 40) (e := 0) (f := 83960) hp2 rfl) (rR (x := 1)) rfl) rfl) fun z1140 q1141 h1142 => ?_
        refine mr_isub (pc := 118) (x := z1137) (y := z1140) dX12_unlike_118 ?_
        refine mr_wrap fun z1143 h1144 => ?_
        refine mr_istore (pc := 119) (lv' := [(9, iv z1143), (12, iv z957), (0, .ref 106), (1, iv p1), (2, iv p2), (3, iv p3), (4, iv p4), (5, iv p5), (6, iv p6), (7, iv z925), (8, iv z936), (10, iv (40 * p2)), (11, iv (40 * p4))]) dX12_unlike_119 (by decide) rfl ?_
        refine mr_lvS (lv' := [(0, .ref 106), (1, iv p1), (2, iv p2), (3, iv p3), (4, iv p4), (5, iv p5), (6, iv p6), (7, iv z925), (8, iv z936), (9, iv z1143), (10, iv (40 * p2)), (11, iv (40 * p4)), (12, iv z957)]) (List.forall_mem_cons.mpr ⟨rfl, List.forall_mem_cons.mpr ⟨rfl, List.forall_mem_cons.mpr ⟨rfl, List.forall_mem_cons.mpr ⟨rfl, List.forall_mem_cons.mpr ⟨rfl, List.forall_mem_cons.mpr ⟨rfl, List.forall_mem_cons.mpr ⟨rfl, List.forall_mem_cons.mpr ⟨rfl, List.forall_mem_cons.mpr ⟨rfl, List.forall_mem_cons.mpr ⟨rfl, List.forall_mem_cons.mpr ⟨rfl, List.forall_mem_cons.mpr ⟨rfl, List.forall_mem_cons.mpr ⟨rfl, fun _ h => absurd h List.not_mem_nil⟩⟩⟩⟩⟩⟩⟩⟩⟩⟩⟩⟩⟩) ?_
        exact J971 z1143 h1144
      refine mr_if_le (pc := 49) (tgt := 91) dX12_unlike_49 (by decide) (r32 h942 rfl) (fun h1145 => ?_) (fun h1145 => ?_)
      · have h1146 : 0 ≤ z939 ∧ z939 ≤ 0 := (vc_X12_unlike_21 h1145 h942)
        refine mr_iconst (pc := 91) (z := 0) dX12_unlike_91 ?_
        refine mr_lvS (lv' := [(0, .ref 106), (1, iv p1), (2, iv p2), (3, iv p3), (4, iv p4), (5, iv p5), (6, iv p6), (7, iv z925), (8, iv z936), (9, iv 0), (10, iv (40 * p2)), (11, iv (40 * p4))]) (List.forall_mem_cons.mpr ⟨rfl, List.forall_mem_cons.mpr ⟨rfl, List.forall_mem_cons.mpr ⟨rfl, List.forall_mem_cons.mpr ⟨rfl, List.forall_mem_cons.mpr ⟨rfl, List.forall_mem_cons.mpr ⟨rfl, List.forall_mem_cons.mpr ⟨rfl, List.forall_mem_cons.mpr ⟨rfl, List.forall_mem_cons.mpr ⟨rfl, List.forall_mem_cons.mpr ⟨rfl, List.forall_mem_cons.mpr ⟨rfl, List.forall_mem_cons.mpr ⟨rfl, fun _ h => absurd h List.not_mem_nil⟩⟩⟩⟩⟩⟩⟩⟩⟩⟩⟩⟩) ?_
        exact J959 0 (rW (c := 0) (d := 1) (rR (x := 0)) rfl)
      have h1147 : 1 ≤ z939 ∧ z939 ≤ 20 := (vc_X12_unlike_22 h1145 h942)
      refine sv_aload_n (pc := 52) dX12_unlike_52 rfl rfl ?_
      refine gf_X12_32 (pc := 53) dX12_unlike_53 wF_X12_148 (A_106 hw) hT ?_
      refine mr_iload (pc := 56) (z := (40 * p4)) dX12_unlike_56 rfl ?_
      refine mr_iconst (pc := 58) (z := 4) dX12_unlike_58 ?_
      refine mr_iadd (pc := 59) (x := (40 * p4)) (y := 4) dX12_unlike_59 ?_
      refine la_126 (pc := 60) dX12_unlike_60 (A_126 hw) hT (rIx (n := 84000) (rAdd (e := 4) (f := 83964) (rMulL (n := 40) (e := 0) (f := 83960) hp4 rfl) (rR (x := 4)) rfl) rfl) fun z1148 q1149 h1150 => ?_
      have h1151 : 0 ≤ z1148 ∧ z1148 ≤ 20 := h1150.2.2.1 (vc_X12_unlike_19 hp4)
      refine mr_if_le (pc := 61) (tgt := 91) dX12_unlike_61 (by decide) (r32 h1151 rfl) (fun h1152 => ?_) (fun h1152 => ?_)
      · have h1153 : 0 ≤ z1148 ∧ z1148 ≤ 0 := (vc_X12_unlike_23 h1152 h1151)
        refine mr_iconst (pc := 91) (z := 0) dX12_unlike_91 ?_
        refine mr_lvS (lv' := [(0, .ref 106), (1, iv p1), (2, iv p2), (3, iv p3), (4, iv p4), (5, iv p5), (6, iv p6), (7, iv z925), (8, iv z936), (9, iv 0), (10, iv (40 * p2)), (11, iv (40 * p4))]) (List.forall_mem_cons.mpr ⟨rfl, List.forall_mem_cons.mpr ⟨rfl, List.forall_mem_cons.mpr ⟨rfl, List.forall_mem_cons.mpr ⟨rfl, List.forall_mem_cons.mpr ⟨rfl, List.forall_mem_cons.mpr ⟨rfl, List.forall_mem_cons.mpr ⟨rfl, List.forall_mem_cons.mpr ⟨rfl, List.forall_mem_cons.mpr ⟨rfl, List.forall_mem_cons.mpr ⟨rfl, List.forall_mem_cons.mpr ⟨rfl, List.forall_mem_cons.mpr ⟨rfl, fun _ h => absurd h List.not_mem_nil⟩⟩⟩⟩⟩⟩⟩⟩⟩⟩⟩⟩) ?_
        exact J959 0 (rW (c := 0) (d := 1) (rR (x := 0)) rfl)
      have h1154 : 1 ≤ z1148 ∧ z1148 ≤ 20 := (vc_X12_unlike_24 h1152 h1151)
      refine sv_aload_n (pc := 64) dX12_unlike_64 rfl rfl ?_
      refine gf_X12_32 (pc := 65) dX12_unlike_65 wF_X12_148 (A_106 hw) hT ?_
      refine mr_iload (pc := 68) (z := (40 * p2)) dX12_unlike_68 rfl ?_
      refine mr_bipush (pc := 70) (z := 6) dX12_unlike_70 (by decide) ?_
      refine mr_iadd (pc := 72) (x := (40 * p2)) (y := 6) dX12_unlike_72 ?_
      refine la_126 (pc := 73) dX12_unlike_73 (A_126 hw) hT (rIx (n := 84000) (rAdd (e := 6) (f := 83966) (rMulL (n := 40) (e := 0) (f := 83960) hp2 rfl) (rR (x := 6)) rfl) rfl) fun z1155 q1156 h1157 => ?_
      refine sv_aload_n (pc := 74) dX12_unlike_74 rfl rfl ?_
      refine gf_X12_32 (pc := 75) dX12_unlike_75 wF_X12_148 (A_106 hw) hT ?_
      refine mr_iload (pc := 78) (z := (40 * p4)) dX12_unlike_78 rfl ?_
      refine mr_bipush (pc := 80) (z := 6) dX12_unlike_80 (by decide) ?_
      refine mr_iadd (pc := 82) (x := (40 * p4)) (y := 6) dX12_unlike_82 ?_
      refine la_126 (pc := 83) dX12_unlike_83 (A_126 hw) hT (rIx (n := 84000) (rAdd (e := 6) (f := 83966) (rMulL (n := 40) (e := 0) (f := 83960) hp4 rfl) (rR (x := 6)) rfl) rfl) fun z1158 q1159 h1160 => ?_
      refine mr_icmp_ne (pc := 84) (tgt := 91) dX12_unlike_84 (by decide) h1157.1 h1160.1 (fun h1161 => ?_) (fun h1161 => ?_)
      · refine mr_iconst (pc := 91) (z := 0) dX12_unlike_91 ?_
        refine mr_lvS (lv' := [(0, .ref 106), (1, iv p1), (2, iv p2), (3, iv p3), (4, iv p4), (5, iv p5), (6, iv p6), (7, iv z925), (8, iv z936), (9, iv 0), (10, iv (40 * p2)), (11, iv (40 * p4))]) (List.forall_mem_cons.mpr ⟨rfl, List.forall_mem_cons.mpr ⟨rfl, List.forall_mem_cons.mpr ⟨rfl, List.forall_mem_cons.mpr ⟨rfl, List.forall_mem_cons.mpr ⟨rfl, List.forall_mem_cons.mpr ⟨rfl, List.forall_mem_cons.mpr ⟨rfl, List.forall_mem_cons.mpr ⟨rfl, List.forall_mem_cons.mpr ⟨rfl, List.forall_mem_cons.mpr ⟨rfl, List.forall_mem_cons.mpr ⟨rfl, List.forall_mem_cons.mpr ⟨rfl, fun _ h => absurd h List.not_mem_nil⟩⟩⟩⟩⟩⟩⟩⟩⟩⟩⟩⟩) ?_
        exact J959 0 (rW (c := 0) (d := 1) (rR (x := 0)) rfl)
      refine mr_iconst (pc := 87) (z := 1) dX12_unlike_87 ?_
      refine sv_goto (pc := 88) (tgt := 92) dX12_unlike_88 (by decide) ?_
      refine mr_lvS (lv' := [(0, .ref 106), (1, iv p1), (2, iv p2), (3, iv p3), (4, iv p4), (5, iv p5), (6, iv p6), (7, iv z925), (8, iv z936), (9, iv 0), (10, iv (40 * p2)), (11, iv (40 * p4))]) (List.forall_mem_cons.mpr ⟨rfl, List.forall_mem_cons.mpr ⟨rfl, List.forall_mem_cons.mpr ⟨rfl, List.forall_mem_cons.mpr ⟨rfl, List.forall_mem_cons.mpr ⟨rfl, List.forall_mem_cons.mpr ⟨rfl, List.forall_mem_cons.mpr ⟨rfl, List.forall_mem_cons.mpr ⟨rfl, List.forall_mem_cons.mpr ⟨rfl, List.forall_mem_cons.mpr ⟨rfl, List.forall_mem_cons.mpr ⟨rfl, List.forall_mem_cons.mpr ⟨rfl, fun _ h => absurd h List.not_mem_nil⟩⟩⟩⟩⟩⟩⟩⟩⟩⟩⟩⟩) ?_
      exact J959 1 (rW (c := 0) (d := 1) (rR (x := 1)) rfl)
  refine mr_lvS (lv' := [(0, .ref 106), (1, iv p1), (2, iv p2), (3, iv p3), (4, iv p4), (5, iv p5), (6, iv p6), (7, iv 0)]) (List.forall_mem_cons.mpr ⟨rfl, List.forall_mem_cons.mpr ⟨rfl, List.forall_mem_cons.mpr ⟨rfl, List.forall_mem_cons.mpr ⟨rfl, List.forall_mem_cons.mpr ⟨rfl, List.forall_mem_cons.mpr ⟨rfl, List.forall_mem_cons.mpr ⟨rfl, List.forall_mem_cons.mpr ⟨rfl, fun _ h => absurd h List.not_mem_nil⟩⟩⟩⟩⟩⟩⟩⟩) ?_
  exact L926 8 0 trivial (rW (c := 0) (d := 6) (rR (x := 0)) rfl) vc_X12_unlike_25
theorem vc_X12_beats_1 {z5 : Int} (h0 : z5 = 0) (h1 : (-9) ≤ z5 ∧ z5 ≤ 9) : 0 ≤ z5 ∧ z5 ≤ 0 := by omega
theorem vc_X12_beats_2 {z27 z32 : Int} (h0 : z27 < z32) (h1 : 0 ≤ z27 ∧ z27 ≤ 9) (h2 : 0 ≤ z32 ∧ z32 ≤ 9) : 0 ≤ z27 ∧ z27 ≤ 8 := by omega
theorem vc_X12_beats_3 {z27 z32 : Int} (h0 : z27 < z32) (h1 : 0 ≤ z27 ∧ z27 ≤ 8) (h2 : 0 ≤ z32 ∧ z32 ≤ 9) : 1 ≤ z32 ∧ z32 ≤ 9 := by omega
theorem vc_X12_beats_4 {z5 : Int} (h0 : z5 ≤ 0) (h1 : ¬ z5 = 0) (h2 : (-9) ≤ z5 ∧ z5 ≤ 9) : (-9) ≤ z5 ∧ z5 ≤ 0 := by omega
theorem vc_X12_beats_5 {z5 : Int} (h0 : 0 < z5) (h1 : ¬ z5 = 0) (h2 : (-9) ≤ z5 ∧ z5 ≤ 9) : 1 ≤ z5 ∧ z5 ≤ 9 := by omega
set_option maxRecDepth 4000 in
set_option maxHeartbeats 4000000 in
theorem c_X12_beats {l : Launch} {D : va_G} {c : Nat → ClassId} {H0 : Heap} {sa : Nat × Nat × (Nat → Int32)} {w : mW} {μ : mM} (hw : mWF w) (hT : mT w μ) {p1 : Int} (hp1 : 0 ≤ p1 ∧ p1 ≤ 9) {p2 : Int} (hp2 : 0 ≤ p2 ∧ p2 ≤ 19) {p3 : Int} (hp3 : 0 ≤ p3 ∧ p3 ≤ 19) {p4 : Int} (hp4 : 0 ≤ p4 ∧ p4 ≤ 9) : sC (gG l D c H0 sa) mX12_beats 3 0 0 [.ref 106, iv p1, iv p2, iv p3, iv p4] (mk w μ) (qP w μ (fun z => (0 ≤ z ∧ z ≤ 1) ∧ True)) := by
  refine sC.of rfl (by decide) (le_t rfl) ?_
  refine mr_lvE (lv' := [(0, .ref 106), (1, iv p1), (2, iv p2), (3, iv p3), (4, iv p4)]) rfl ?_
  refine sv_aload_n (pc := 0) dX12_beats_0 rfl rfl ?_
  refine mr_iload_n (pc := 1) (z := p1) dX12_beats_1 rfl rfl ?_
  refine mr_iconst (pc := 2) (z := 4) dX12_beats_2 ?_
  refine mr_iload_n (pc := 3) (z := p2) dX12_beats_3 rfl rfl ?_
  refine mr_iadd (pc := 4) (x := 4) (y := p2) dX12_beats_4 ?_
  refine mr_iload_n (pc := 5) (z := p2) dX12_beats_5 rfl rfl ?_
  refine mr_iconst (pc := 6) (z := 4) dX12_beats_6 ?_
  refine mr_iload_n (pc := 7) (z := p3) dX12_beats_7 rfl rfl ?_
  refine mr_iadd (pc := 8) (x := 4) (y := p3) dX12_beats_8 ?_
  refine mr_iload_n (pc := 9) (z := p3) dX12_beats_9 rfl rfl ?_
  refine mr_iload (pc := 10) (z := p4) dX12_beats_10 rfl ?_
  refine mr_cVP (pc := 12) (c_X12_unlike hw hT hp1 (rW (c := 0) (d := 2099) (rAdd (e := 4) (f := 23) (rR (x := 4)) hp2 rfl) rfl) hp2 (rW (c := 0) (d := 2099) (rAdd (e := 4) (f := 23) (rR (x := 4)) hp3 rfl) rfl) hp3 hp4) (gOk _ _ _ _ _) dX12_beats_12 (tX12_unlike _ _ _ _ _) ⟨wV_X12_unlike, wL_X12_unlike⟩ wM_X12_549 (gCX12 _ _ _ _ _) rfl (A_106 hw) rfl ⟨le_t rfl, le_t rfl⟩ ⟨le_t rfl, le_t rfl⟩ rfl (le_t rfl) fun z5 h4 => ?_
  refine mr_istore (pc := 15) (lv' := [(5, iv z5), (0, .ref 106), (1, iv p1), (2, iv p2), (3, iv p3), (4, iv p4)]) dX12_beats_15 (by decide) rfl ?_
  refine mr_iload (pc := 17) (z := z5) dX12_beats_17 rfl ?_
  refine mr_if_eq (pc := 19) (tgt := 35) dX12_beats_19 (by decide) (r32 h4.1 rfl) (fun h21 => ?_) (fun h21 => ?_)
  · have h22 : 0 ≤ z5 ∧ z5 ≤ 0 := (vc_X12_beats_1 h21 h4.1)
    refine sv_aload_n (pc := 35) dX12_beats_35 rfl rfl ?_
    refine mr_iload_n (pc := 36) (z := p2) dX12_beats_36 rfl rfl ?_
    refine mr_iload_n (pc := 37) (z := p1) dX12_beats_37 rfl rfl ?_
    refine mr_cVP (pc := 38) (c_X12_partnerOf hw hT hp2 (rW (c := (-2147483648)) (d := 2147483647) hp1 rfl)) (gOk _ _ _ _ _) dX12_beats_38 (tX12_partnerOf _ _ _ _ _) ⟨wV_X12_partnerOf, wL_X12_partnerOf⟩ wM_X12_553 (gCX12 _ _ _ _ _) rfl (A_106 hw) rfl ⟨le_t rfl, le_t rfl⟩ ⟨le_t rfl, le_t rfl⟩ rfl (le_t rfl) fun z27 h26 => ?_
    refine sv_aload_n (pc := 41) dX12_beats_41 rfl rfl ?_
    refine mr_iload_n (pc := 42) (z := p3) dX12_beats_42 rfl rfl ?_
    refine mr_iload_n (pc := 43) (z := p1) dX12_beats_43 rfl rfl ?_
    refine mr_cVP (pc := 44) (c_X12_partnerOf hw hT hp3 (rW (c := (-2147483648)) (d := 2147483647) hp1 rfl)) (gOk _ _ _ _ _) dX12_beats_44 (tX12_partnerOf _ _ _ _ _) ⟨wV_X12_partnerOf, wL_X12_partnerOf⟩ wM_X12_553 (gCX12 _ _ _ _ _) rfl (A_106 hw) rfl ⟨le_t rfl, le_t rfl⟩ ⟨le_t rfl, le_t rfl⟩ rfl (le_t rfl) fun z32 h31 => ?_
    refine mr_icmp_ge (pc := 47) (tgt := 54) dX12_beats_47 (by decide) (r32 h26.1 rfl) (r32 h31.1 rfl) (fun h35 => ?_) (fun h35 => ?_)
    · refine mr_iconst (pc := 54) (z := 0) dX12_beats_54 ?_
      exact mr_zretP dX12_beats_55 rfl (rW (c := 0) (d := 1) (rR (x := 0)) rfl) (le_t rfl) (le_t rfl) ⟨(rW (c := 0) (d := 1) (rR (x := 0)) rfl), trivial⟩
    have h36 : 0 ≤ z27 ∧ z27 ≤ 8 := (vc_X12_beats_2 h35 h26.1 h31.1)
    have h37 : 1 ≤ z32 ∧ z32 ≤ 9 := (vc_X12_beats_3 h35 h36 h31.1)
    refine mr_iconst (pc := 50) (z := 1) dX12_beats_50 ?_
    refine sv_goto (pc := 51) (tgt := 55) dX12_beats_51 (by decide) ?_
    exact mr_zretP dX12_beats_55 rfl (rW (c := 0) (d := 1) (rR (x := 1)) rfl) (le_t rfl) (le_t rfl) ⟨(rW (c := 0) (d := 1) (rR (x := 1)) rfl), trivial⟩
  refine mr_iload (pc := 22) (z := z5) dX12_beats_22 rfl ?_
  refine mr_if_le (pc := 24) (tgt := 31) dX12_beats_24 (by decide) (r32 h4.1 rfl) (fun h40 => ?_) (fun h40 => ?_)
  · have h41 : (-9) ≤ z5 ∧ z5 ≤ 0 := (vc_X12_beats_4 h40 h21 h4.1)
    refine mr_iconst (pc := 31) (z := 0) dX12_beats_31 ?_
    refine sv_goto (pc := 32) (tgt := 55) dX12_beats_32 (by decide) ?_
    exact mr_zretP dX12_beats_55 rfl (rW (c := 0) (d := 1) (rR (x := 0)) rfl) (le_t rfl) (le_t rfl) ⟨(rW (c := 0) (d := 1) (rR (x := 0)) rfl), trivial⟩
  have h42 : 1 ≤ z5 ∧ z5 ≤ 9 := (vc_X12_beats_5 h40 h21 h4.1)
  refine mr_iconst (pc := 27) (z := 1) dX12_beats_27 ?_
  refine sv_goto (pc := 28) (tgt := 55) dX12_beats_28 (by decide) ?_
  exact mr_zretP dX12_beats_55 rfl (rW (c := 0) (d := 1) (rR (x := 1)) rfl) (le_t rfl) (le_t rfl) ⟨(rW (c := 0) (d := 1) (rR (x := 1)) rfl), trivial⟩
theorem vc_X12_best_1 {z160 : Int} (h0 : (21 - z160) < ((0 : Nat) : Int)) (h1 : 0 ≤ z160 ∧ z160 ≤ 20) : False := by omega
theorem vc_X12_best_2 {z161 : Int} (h0 : (-99999999) ≤ z161 ∧ z161 ≤ 19) (h1 : z161 = (-99999999) ∨ (0 ≤ z161 ∧ z161 ≤ 19)) : z161 = -99999999 ∨ (0 ≤ z161 ∧ z161 ≤ 19) := by omega
theorem vc_X12_best_3 {z160 z171 : Int} (h0 : z160 < z171) (h1 : 0 ≤ z160 ∧ z160 ≤ 20) (h2 : 0 ≤ z171 ∧ z171 ≤ 20) : 0 ≤ z160 ∧ z160 ≤ 19 := by omega
theorem vc_X12_best_4 {z160 z171 : Int} (h0 : z160 < z171) (h1 : 0 ≤ z160 ∧ z160 ≤ 19) (h2 : 0 ≤ z171 ∧ z171 ≤ 20) : 1 ≤ z171 ∧ z171 ≤ 20 := by omega
theorem vc_X12_best_5 {z193 : Int} (h0 : z193 = 0) (h1 : 0 ≤ z193 ∧ z193 ≤ 1) : 0 ≤ z193 ∧ z193 ≤ 0 := by omega
theorem vc_X12_best_6 {N z160 z171 : Int} (h0 : (21 - z160) < N + 1) (h1 : z160 < z171) (h2 : 0 ≤ z160 ∧ z160 ≤ 19) (h3 : 1 ≤ z171 ∧ z171 ≤ 20) : (21 - (z160 + 1)) < N := by omega
theorem vc_X12_best_7 {z161 : Int} (h0 : (-99999999) ≤ z161 ∧ z161 ≤ 19) (h1 : z161 = (-99999999) ∨ (0 ≤ z161 ∧ z161 ≤ 19)) : z161 = (-99999999) ∨ (0 ≤ z161 ∧ z161 ≤ 19) := by omega
theorem vc_X12_best_8 {z193 : Int} (h0 : ¬ z193 = 0) (h1 : 0 ≤ z193 ∧ z193 ≤ 1) : 1 ≤ z193 ∧ z193 ≤ 1 := by omega
theorem vc_X12_best_9 {z161 : Int} (h0 : z161 = (-99999999)) (h1 : (-99999999) ≤ z161 ∧ z161 ≤ 19) (h2 : z161 = (-99999999) ∨ (0 ≤ z161 ∧ z161 ≤ 19)) : (-99999999) ≤ z161 ∧ z161 ≤ (-99999999) := by omega
theorem vc_X12_best_10 {z160 z171 : Int} (h0 : z160 < z171) (h1 : 0 ≤ z160 ∧ z160 ≤ 19) (h2 : 1 ≤ z171 ∧ z171 ≤ 20) : z160 = (-99999999) ∨ (0 ≤ z160 ∧ z160 ≤ 19) := by omega
theorem vc_X12_best_11 {z161 : Int} (h0 : ¬ z161 = (-99999999)) (h1 : (-99999999) ≤ z161 ∧ z161 ≤ 19) (h2 : z161 = (-99999999) ∨ (0 ≤ z161 ∧ z161 ≤ 19)) : 0 ≤ z161 ∧ z161 ≤ 19 := by omega
theorem vc_X12_best_12 {z226 : Int} (h0 : z226 = 0) (h1 : 0 ≤ z226 ∧ z226 ≤ 1) : 0 ≤ z226 ∧ z226 ≤ 0 := by omega
theorem vc_X12_best_13 {z161 : Int} (h0 : ¬ z161 = (-99999999)) (h1 : 0 ≤ z161 ∧ z161 ≤ 19) (h2 : z161 = (-99999999) ∨ (0 ≤ z161 ∧ z161 ≤ 19)) : z161 = (-99999999) ∨ (0 ≤ z161 ∧ z161 ≤ 19) := by omega
theorem vc_X12_best_14 {z226 : Int} (h0 : ¬ z226 = 0) (h1 : 0 ≤ z226 ∧ z226 ≤ 1) : 1 ≤ z226 ∧ z226 ≤ 1 := by omega
theorem vc_X12_best_15  : (21 - 0) < ((22 : Nat) : Int) := by omega
theorem vc_X12_best_16  : (((-99999999) : Int) : Int) = ((-99999999) : Int) ∨ ((0 : Int) ≤ (((-99999999) : Int) : Int) ∧ (((-99999999) : Int) : Int) ≤ (19 : Int)) := by omega
set_option maxRecDepth 4000 in
set_option maxHeartbeats 4000000 in
theorem c_X12_best {l : Launch} {D : va_G} {c : Nat → ClassId} {H0 : Heap} {sa : Nat × Nat × (Nat → Int32)} {w : mW} {μ : mM} (hw : mWF w) (hT : mT w μ) {p1 : Int} (hp1 : 0 ≤ p1 ∧ p1 ≤ 9) {p2 : Int} (hp2 : 0 ≤ p2 ∧ p2 ≤ 9) : sC (gG l D c H0 sa) mX12_best 4 0 0 [.ref 106, iv p1, iv p2] (mk w μ) (qP w μ (fun z => ((-99999999) ≤ z ∧ z ≤ 19) ∧ (z = -99999999 ∨ (0 ≤ z ∧ z ≤ 19)) ∧ True)) := by
  refine sC.of rfl (by decide) (le_t rfl) ?_
  refine mr_lvE (lv' := [(0, .ref 106), (1, iv p1), (2, iv p2)]) rfl ?_
  refine mr_ldc (pc := 0) (z := (-99999999)) dX12_best_0 wG_X12_29 (by decide) ?_
  refine mr_istore_n (pc := 2) (lv' := [(3, iv (-99999999)), (0, .ref 106), (1, iv p1), (2, iv p2)]) dX12_best_2 rfl (by decide) rfl ?_
  refine mr_iconst (pc := 3) (z := 0) dX12_best_3 ?_
  refine mr_istore (pc := 4) (lv' := [(4, iv 0), (3, iv (-99999999)), (0, .ref 106), (1, iv p1), (2, iv p2)]) dX12_best_4 (by decide) rfl ?_
  have L162 : ∀ (nL162 : Nat) (z161 z160 : Int), True → ((-99999999) ≤ z161 ∧ z161 ≤ 19) → (0 ≤ z160 ∧ z160 ≤ 20) → (z161 = (-99999999) ∨ (0 ≤ z161 ∧ z161 ≤ 19)) → (21 - z160) < (nL162 : Int) → sV (gG l D c H0 sa) mX12_best (sRm 4 0 0) (sZ (gG l D c H0 sa) 0 0 (qP w μ (fun z => ((-99999999) ≤ z ∧ z ≤ 19) ∧ (z = -99999999 ∨ (0 ≤ z ∧ z ≤ 19)) ∧ True))) 6 [(0, .ref 106), (1, iv p1), (2, iv p2), (3, iv z161), (4, iv z160)] [] (mk w μ) 0 0 := by
    intro nL162
    induction nL162 with
    | zero => intro z161 z160 _ h163 h164 h168 h169; exact ((vc_X12_best_1 h169 h164)).elim
    | succ nL162 ih170 =>
      intro z161 z160 _ h163 h164 h168 h169
      refine mr_iload (pc := 6) (z := z160) dX12_best_6 rfl ?_
      refine sv_aload_n (pc := 8) dX12_best_8 rfl rfl ?_
      refine gf_X12_6 (pc := 9) dX12_best_9 wF_X12_37 (A_106 hw) hT fun z171 q172 h173 => ?_
      refine mr_icmp_ge (pc := 12) (tgt := 52) dX12_best_12 (by decide) (r32 h164 rfl) (r32 h173 rfl) (fun h190 => ?_) (fun h190 => ?_)
      · refine mr_iload_n (pc := 52) (z := z161) dX12_best_52 rfl rfl ?_
        exact mr_iretP dX12_best_53 rfl (le_t rfl) (le_t rfl) ⟨h163, (vc_X12_best_2 h163 h168), trivial⟩
      have h191 : 0 ≤ z160 ∧ z160 ≤ 19 := (vc_X12_best_3 h190 h164 h173)
      have h192 : 1 ≤ z171 ∧ z171 ≤ 20 := (vc_X12_best_4 h190 h191 h173)
      refine sv_aload_n (pc := 15) dX12_best_15 rfl rfl ?_
      refine gf_X12_85 (pc := 16) dX12_best_16 wF_X12_457 (A_106 hw) hT ?_
      refine mr_iload (pc := 19) (z := z160) dX12_best_19 rfl ?_
      refine la_165 (pc := 21) dX12_best_21 (A_165 hw) hT (rIx (n := 20) h191 rfl) fun z193 q194 h195 => ?_
      refine mr_if_eq (pc := 22) (tgt := 46) dX12_best_22 (by decide) (r32 h195 rfl) (fun h207 => ?_) (fun h207 => ?_)
      · have h208 : 0 ≤ z193 ∧ z193 ≤ 0 := (vc_X12_best_5 h207 h195)
        refine mr_iinc (pc := 46) (lv' := [(4, iv (z160 + 1)), (0, .ref 106), (1, iv p1), (2, iv p2), (3, iv z161)]) dX12_best_46 rfl (by decide) rfl ?_
        refine sv_goto (pc := 49) (tgt := 6) dX12_best_49 (by decide) ?_
        refine mr_lvS (lv' := [(0, .ref 106), (1, iv p1), (2, iv p2), (3, iv z161), (4, iv (z160 + 1))]) (List.forall_mem_cons.mpr ⟨rfl, List.forall_mem_cons.mpr ⟨rfl, List.forall_mem_cons.mpr ⟨rfl, List.forall_mem_cons.mpr ⟨rfl, List.forall_mem_cons.mpr ⟨rfl, fun _ h => absurd h List.not_mem_nil⟩⟩⟩⟩⟩) ?_
        exact ih170 z161 (z160 + 1) trivial h163 (rW (c := 0) (d := 20) (rAdd (e := 1) (f := 20) h191 (rR (x := 1)) rfl) rfl) (vc_X12_best_7 h163 h168) (vc_X12_best_6 (nS h169) h190 h191 h192)
      have h209 : 1 ≤ z193 ∧ z193 ≤ 1 := (vc_X12_best_8 h207 h195)
      refine mr_iload_n (pc := 25) (z := z161) dX12_best_25 rfl rfl ?_
      refine mr_ldc (pc := 26) (z := (-99999999)) dX12_best_26 wG_X12_29 (by decide) ?_
      refine mr_icmp_eq (pc := 28) (tgt := 43) dX12_best_28 (by decide) (r32 h163 rfl) (r32 (rR (x := (-99999999))) rfl) (fun h219 => ?_) (fun h219 => ?_)
      · have h220 : (-99999999) ≤ z161 ∧ z161 ≤ (-99999999) := (vc_X12_best_9 h219 h163 h168)
        refine mr_iload (pc := 43) (z := z160) dX12_best_43 rfl ?_
        refine mr_istore_n (pc := 45) (lv' := [(3, iv z160), (0, .ref 106), (1, iv p1), (2, iv p2), (4, iv z160)]) dX12_best_45 rfl (by decide) rfl ?_
        refine mr_iinc (pc := 46) (lv' := [(4, iv (z160 + 1)), (3, iv z160), (0, .ref 106), (1, iv p1), (2, iv p2)]) dX12_best_46 rfl (by decide) rfl ?_
        refine sv_goto (pc := 49) (tgt := 6) dX12_best_49 (by decide) ?_
        refine mr_lvS (lv' := [(0, .ref 106), (1, iv p1), (2, iv p2), (3, iv z160), (4, iv (z160 + 1))]) (List.forall_mem_cons.mpr ⟨rfl, List.forall_mem_cons.mpr ⟨rfl, List.forall_mem_cons.mpr ⟨rfl, List.forall_mem_cons.mpr ⟨rfl, List.forall_mem_cons.mpr ⟨rfl, fun _ h => absurd h List.not_mem_nil⟩⟩⟩⟩⟩) ?_
        exact ih170 z160 (z160 + 1) trivial (rW (c := (-99999999)) (d := 19) h191 rfl) (rW (c := 0) (d := 20) (rAdd (e := 1) (f := 20) h191 (rR (x := 1)) rfl) rfl) (vc_X12_best_10 h190 h191 h192) (vc_X12_best_6 (nS h169) h190 h191 h192)
      have h221 : 0 ≤ z161 ∧ z161 ≤ 19 := (vc_X12_best_11 h219 h163 h168)
      refine sv_aload_n (pc := 31) dX12_best_31 rfl rfl ?_
      refine mr_iload_n (pc := 32) (z := p1) dX12_best_32 rfl rfl ?_
      refine mr_iload (pc := 33) (z := z160) dX12_best_33 rfl ?_
      refine mr_iload_n (pc := 35) (z := z161) dX12_best_35 rfl rfl ?_
      refine mr_iload_n (pc := 36) (z := p2) dX12_best_36 rfl rfl ?_
      refine mr_cVP (pc := 37) (c_X12_beats hw hT hp1 h191 h221 hp2) (gOk _ _ _ _ _) dX12_best_37 (tX12_beats _ _ _ _ _) ⟨wV_X12_beats, wL_X12_beats⟩ wM_X12_568 (gCX12 _ _ _ _ _) rfl (A_106 hw) rfl ⟨le_t rfl, le_t rfl⟩ ⟨le_t rfl, le_t rfl⟩ rfl (le_t rfl) fun z226 h225 => ?_
      refine mr_if_eq (pc := 40) (tgt := 46) dX12_best_40 (by decide) (r32 h225.1 rfl) (fun h229 => ?_) (fun h229 => ?_)
      · have h230 : 0 ≤ z226 ∧ z226 ≤ 0 := (vc_X12_best_12 h229 h225.1)
        refine mr_iinc (pc := 46) (lv' := [(4, iv (z160 + 1)), (0, .ref 106), (1, iv p1), (2, iv p2), (3, iv z161)]) dX12_best_46 rfl (by decide) rfl ?_
        refine sv_goto (pc := 49) (tgt := 6) dX12_best_49 (by decide) ?_
        refine mr_lvS (lv' := [(0, .ref 106), (1, iv p1), (2, iv p2), (3, iv z161), (4, iv (z160 + 1))]) (List.forall_mem_cons.mpr ⟨rfl, List.forall_mem_cons.mpr ⟨rfl, List.forall_mem_cons.mpr ⟨rfl, List.forall_mem_cons.mpr ⟨rfl, List.forall_mem_cons.mpr ⟨rfl, fun _ h => absurd h List.not_mem_nil⟩⟩⟩⟩⟩) ?_
        exact ih170 z161 (z160 + 1) trivial (rW (c := (-99999999)) (d := 19) h221 rfl) (rW (c := 0) (d := 20) (rAdd (e := 1) (f := 20) h191 (rR (x := 1)) rfl) rfl) (vc_X12_best_13 h219 h221 h168) (vc_X12_best_6 (nS h169) h190 h191 h192)
      have h231 : 1 ≤ z226 ∧ z226 ≤ 1 := (vc_X12_best_14 h229 h225.1)
      refine mr_iload (pc := 43) (z := z160) dX12_best_43 rfl ?_
      refine mr_istore_n (pc := 45) (lv' := [(3, iv z160), (0, .ref 106), (1, iv p1), (2, iv p2), (4, iv z160)]) dX12_best_45 rfl (by decide) rfl ?_
      refine mr_iinc (pc := 46) (lv' := [(4, iv (z160 + 1)), (3, iv z160), (0, .ref 106), (1, iv p1), (2, iv p2)]) dX12_best_46 rfl (by decide) rfl ?_
      refine sv_goto (pc := 49) (tgt := 6) dX12_best_49 (by decide) ?_
      refine mr_lvS (lv' := [(0, .ref 106), (1, iv p1), (2, iv p2), (3, iv z160), (4, iv (z160 + 1))]) (List.forall_mem_cons.mpr ⟨rfl, List.forall_mem_cons.mpr ⟨rfl, List.forall_mem_cons.mpr ⟨rfl, List.forall_mem_cons.mpr ⟨rfl, List.forall_mem_cons.mpr ⟨rfl, fun _ h => absurd h List.not_mem_nil⟩⟩⟩⟩⟩) ?_
      exact ih170 z160 (z160 + 1) trivial (rW (c := (-99999999)) (d := 19) h191 rfl) (rW (c := 0) (d := 20) (rAdd (e := 1) (f := 20) h191 (rR (x := 1)) rfl) rfl) (vc_X12_best_10 h190 h191 h192) (vc_X12_best_6 (nS h169) h190 h191 h192)
  refine mr_lvS (lv' := [(0, .ref 106), (1, iv p1), (2, iv p2), (3, iv (-99999999)), (4, iv 0)]) (List.forall_mem_cons.mpr ⟨rfl, List.forall_mem_cons.mpr ⟨rfl, List.forall_mem_cons.mpr ⟨rfl, List.forall_mem_cons.mpr ⟨rfl, List.forall_mem_cons.mpr ⟨rfl, fun _ h => absurd h List.not_mem_nil⟩⟩⟩⟩⟩) ?_
  exact L162 22 (-99999999) 0 trivial (rW (c := (-99999999)) (d := 19) (rR (x := (-99999999))) rfl) (rW (c := 0) (d := 20) (rR (x := 0)) rfl) vc_X12_best_16 vc_X12_best_15
theorem vc_X12_wordOf_1 {z113 : Int} (h0 : z113 = 0) (h1 : (-1) ≤ z113 ∧ z113 ≤ 1) : 0 ≤ z113 ∧ z113 ≤ 0 := by omega
theorem vc_X12_wordOf_2 {z109 : Int} (h0 : z109 = 0) (h1 : (-1) ≤ z109 ∧ z109 ≤ 1) : 0 ≤ z109 ∧ z109 ≤ 0 := by omega
theorem vc_X12_wordOf_3 {z105 : Int} (h0 : z105 = 0) (h1 : (-1) ≤ z105 ∧ z105 ≤ 1) : 0 ≤ z105 ∧ z105 ≤ 0 := by omega
theorem vc_X12_wordOf_4 {z101 : Int} (h0 : z101 = 0) (h1 : (-1) ≤ z101 ∧ z101 ≤ 1) : 0 ≤ z101 ∧ z101 ≤ 0 := by omega
theorem vc_X12_wordOf_5 {z97 : Int} (h0 : z97 = 0) (h1 : (-1) ≤ z97 ∧ z97 ≤ 1) : 0 ≤ z97 ∧ z97 ≤ 0 := by omega
theorem vc_X12_wordOf_6 {z93 : Int} (h0 : z93 = 0) (h1 : (-1) ≤ z93 ∧ z93 ≤ 1) : 0 ≤ z93 ∧ z93 ≤ 0 := by omega
theorem vc_X12_wordOf_7 {z89 : Int} (h0 : z89 = 0) (h1 : (-1) ≤ z89 ∧ z89 ≤ 1) : 0 ≤ z89 ∧ z89 ≤ 0 := by omega
theorem vc_X12_wordOf_8 {z85 : Int} (h0 : z85 = 0) (h1 : (-1) ≤ z85 ∧ z85 ≤ 1) : 0 ≤ z85 ∧ z85 ≤ 0 := by omega
theorem vc_X12_wordOf_9 {z81 : Int} (h0 : z81 = 0) (h1 : (-1) ≤ z81 ∧ z81 ≤ 1) : 0 ≤ z81 ∧ z81 ≤ 0 := by omega
theorem vc_X12_wordOf_10 {z77 : Int} (h0 : z77 = 0) (h1 : (-1) ≤ z77 ∧ z77 ≤ 1) : 0 ≤ z77 ∧ z77 ≤ 0 := by omega
theorem vc_X12_wordOf_11 {z73 : Int} (h0 : z73 = 0) (h1 : (-1) ≤ z73 ∧ z73 ≤ 1) : 0 ≤ z73 ∧ z73 ≤ 0 := by omega
theorem vc_X12_wordOf_12 {z69 : Int} (h0 : z69 = 0) (h1 : (-1) ≤ z69 ∧ z69 ≤ 1) : 0 ≤ z69 ∧ z69 ≤ 0 := by omega
theorem vc_X12_wordOf_13 {z65 : Int} (h0 : z65 = 0) (h1 : (-1) ≤ z65 ∧ z65 ≤ 1) : 0 ≤ z65 ∧ z65 ≤ 0 := by omega
theorem vc_X12_wordOf_14 {z61 : Int} (h0 : z61 = 0) (h1 : (-1) ≤ z61 ∧ z61 ≤ 1) : 0 ≤ z61 ∧ z61 ≤ 0 := by omega
theorem vc_X12_wordOf_15 {z57 : Int} (h0 : z57 = 0) (h1 : (-1) ≤ z57 ∧ z57 ≤ 1) : 0 ≤ z57 ∧ z57 ≤ 0 := by omega
theorem vc_X12_wordOf_16 {z53 : Int} (h0 : z53 = 0) (h1 : (-1) ≤ z53 ∧ z53 ≤ 1) : 0 ≤ z53 ∧ z53 ≤ 0 := by omega
theorem vc_X12_wordOf_17 {z49 : Int} (h0 : z49 = 0) (h1 : (-1) ≤ z49 ∧ z49 ≤ 1) : 0 ≤ z49 ∧ z49 ≤ 0 := by omega
theorem vc_X12_wordOf_18 {z45 : Int} (h0 : z45 = 0) (h1 : (-1) ≤ z45 ∧ z45 ≤ 1) : 0 ≤ z45 ∧ z45 ≤ 0 := by omega
theorem vc_X12_wordOf_19 {z41 : Int} (h0 : z41 = 0) (h1 : (-1) ≤ z41 ∧ z41 ≤ 1) : 0 ≤ z41 ∧ z41 ≤ 0 := by omega
theorem vc_X12_wordOf_20 {z37 : Int} (h0 : z37 = 0) (h1 : (-1) ≤ z37 ∧ z37 ≤ 1) : 0 ≤ z37 ∧ z37 ≤ 0 := by omega
theorem vc_X12_wordOf_21 {z33 : Int} (h0 : z33 = 0) (h1 : (-1) ≤ z33 ∧ z33 ≤ 1) : 0 ≤ z33 ∧ z33 ≤ 0 := by omega
theorem vc_X12_wordOf_22 {z29 : Int} (h0 : z29 = 0) (h1 : (-1) ≤ z29 ∧ z29 ≤ 1) : 0 ≤ z29 ∧ z29 ≤ 0 := by omega
theorem vc_X12_wordOf_23 {z25 : Int} (h0 : z25 = 0) (h1 : (-1) ≤ z25 ∧ z25 ≤ 1) : 0 ≤ z25 ∧ z25 ≤ 0 := by omega
theorem vc_X12_wordOf_24 {z21 : Int} (h0 : z21 = 0) (h1 : (-1) ≤ z21 ∧ z21 ≤ 1) : 0 ≤ z21 ∧ z21 ≤ 0 := by omega
theorem vc_X12_wordOf_25 {z17 : Int} (h0 : z17 = 0) (h1 : (-1) ≤ z17 ∧ z17 ≤ 1) : 0 ≤ z17 ∧ z17 ≤ 0 := by omega
theorem vc_X12_wordOf_26 {z13 : Int} (h0 : z13 = 0) (h1 : (-1) ≤ z13 ∧ z13 ≤ 1) : 0 ≤ z13 ∧ z13 ≤ 0 := by omega
theorem vc_X12_wordOf_27 {z9 : Int} (h0 : z9 = 0) (h1 : (-1) ≤ z9 ∧ z9 ≤ 1) : 0 ≤ z9 ∧ z9 ≤ 0 := by omega
theorem vc_X12_wordOf_28 {z5 : Int} (h0 : z5 = 0) (h1 : (-1) ≤ z5 ∧ z5 ≤ 1) : 0 ≤ z5 ∧ z5 ≤ 0 := by omega
theorem vc_X12_wordOf_29 {z1 : Int} (h0 : z1 = 0) (h1 : (-1) ≤ z1 ∧ z1 ≤ 1) : 0 ≤ z1 ∧ z1 ≤ 0 := by omega
set_option maxRecDepth 4000 in
set_option maxHeartbeats 4000000 in
theorem c_X12_wordOf {l : Launch} {D : va_G} {c : Nat → ClassId} {H0 : Heap} {sa : Nat × Nat × (Nat → Int32)} {w : mW} {μ : mM} (hw : mWF w) (hT : mT w μ) {p1 : Int} (hp1 : (-9223372036854775808) ≤ p1 ∧ p1 ≤ 9223372036854775807) : sC (gG l D c H0 sa) mX12_wordOf 1 0 0 [jv p1] (mk w μ) (qP w μ (fun z => ((-2147483648) ≤ z ∧ z ≤ 2147483647) ∧ True)) := by
  refine sC.of rfl (by decide) (le_t rfl) ?_
  refine mr_lvE (lv' := [(0, jv p1)]) rfl ?_
  refine mr_lload_n (pc := 0) (z := p1) dX12_wordOf_0 rfl rfl ?_
  refine mr_ldc2 (pc := 1) (z := 26217) dX12_wordOf_1 wH_X12_157 (by decide) ?_
  refine mr_lcmp (pc := 4) dX12_wordOf_4 ?_
  refine mr_gen (P := fun z => (-1) ≤ z ∧ z ≤ 1) (lg_cmp_r _ _) fun z1 q2 h3 => ?_
  refine mr_if_ne (pc := 5) (tgt := 10) dX12_wordOf_5 (by decide) (r32 h3 rfl) (fun h4 => ?_) (fun h4 => ?_)
  · refine mr_lload_n (pc := 10) (z := p1) dX12_wordOf_10 rfl rfl ?_
    refine mr_ldc2 (pc := 11) (z := 6581857) dX12_wordOf_11 wH_X12_159 (by decide) ?_
    refine mr_lcmp (pc := 14) dX12_wordOf_14 ?_
    refine mr_gen (P := fun z => (-1) ≤ z ∧ z ≤ 1) (lg_cmp_r _ _) fun z5 q6 h7 => ?_
    refine mr_if_ne (pc := 15) (tgt := 20) dX12_wordOf_15 (by decide) (r32 h7 rfl) (fun h8 => ?_) (fun h8 => ?_)
    · refine mr_lload_n (pc := 20) (z := p1) dX12_wordOf_20 rfl rfl ?_
      refine mr_ldc2 (pc := 21) (z := 1852139636) dX12_wordOf_21 wH_X12_161 (by decide) ?_
      refine mr_lcmp (pc := 24) dX12_wordOf_24 ?_
      refine mr_gen (P := fun z => (-1) ≤ z ∧ z ≤ 1) (lg_cmp_r _ _) fun z9 q10 h11 => ?_
      refine mr_if_ne (pc := 25) (tgt := 30) dX12_wordOf_25 (by decide) (r32 h11 rfl) (fun h12 => ?_) (fun h12 => ?_)
      · refine mr_lload_n (pc := 30) (z := p1) dX12_wordOf_30 rfl rfl ?_
        refine mr_ldc2 (pc := 31) (z := 7630702) dX12_wordOf_31 wH_X12_163 (by decide) ?_
        refine mr_lcmp (pc := 34) dX12_wordOf_34 ?_
        refine mr_gen (P := fun z => (-1) ≤ z ∧ z ≤ 1) (lg_cmp_r _ _) fun z13 q14 h15 => ?_
        refine mr_if_ne (pc := 35) (tgt := 40) dX12_wordOf_35 (by decide) (r32 h15 rfl) (fun h16 => ?_) (fun h16 => ?_)
        · refine mr_lload_n (pc := 40) (z := p1) dX12_wordOf_40 rfl rfl ?_
          refine mr_ldc2 (pc := 41) (z := 28265) dX12_wordOf_41 wH_X12_165 (by decide) ?_
          refine mr_lcmp (pc := 44) dX12_wordOf_44 ?_
          refine mr_gen (P := fun z => (-1) ≤ z ∧ z ≤ 1) (lg_cmp_r _ _) fun z17 q18 h19 => ?_
          refine mr_if_ne (pc := 45) (tgt := 50) dX12_wordOf_45 (by decide) (r32 h19 rfl) (fun h20 => ?_) (fun h20 => ?_)
          · refine mr_lload_n (pc := 50) (z := p1) dX12_wordOf_50 rfl rfl ?_
            refine mr_ldc2 (pc := 51) (z := 28532) dX12_wordOf_51 wH_X12_167 (by decide) ?_
            refine mr_lcmp (pc := 54) dX12_wordOf_54 ?_
            refine mr_gen (P := fun z => (-1) ≤ z ∧ z ≤ 1) (lg_cmp_r _ _) fun z21 q22 h23 => ?_
            refine mr_if_ne (pc := 55) (tgt := 60) dX12_wordOf_55 (by decide) (r32 h23 rfl) (fun h24 => ?_) (fun h24 => ?_)
            · refine mr_lload_n (pc := 60) (z := p1) dX12_wordOf_60 rfl rfl ?_
              refine mr_ldc2 (pc := 61) (z := 7954807) dX12_wordOf_61 wH_X12_169 (by decide) ?_
              refine mr_lcmp (pc := 64) dX12_wordOf_64 ?_
              refine mr_gen (P := fun z => (-1) ≤ z ∧ z ≤ 1) (lg_cmp_r _ _) fun z25 q26 h27 => ?_
              refine mr_if_ne (pc := 65) (tgt := 71) dX12_wordOf_65 (by decide) (r32 h27 rfl) (fun h28 => ?_) (fun h28 => ?_)
              · refine mr_lload_n (pc := 71) (z := p1) dX12_wordOf_71 rfl rfl ?_
                refine mr_ldc2 (pc := 72) (z := 7958113) dX12_wordOf_72 wH_X12_171 (by decide) ?_
                refine mr_lcmp (pc := 75) dX12_wordOf_75 ?_
                refine mr_gen (P := fun z => (-1) ≤ z ∧ z ≤ 1) (lg_cmp_r _ _) fun z29 q30 h31 => ?_
                refine mr_if_ne (pc := 76) (tgt := 82) dX12_wordOf_76 (by decide) (r32 h31 rfl) (fun h32 => ?_) (fun h32 => ?_)
                · refine mr_lload_n (pc := 82) (z := p1) dX12_wordOf_82 rfl rfl ?_
                  refine mr_ldc2 (pc := 83) (z := 1802658157) dX12_wordOf_83 wH_X12_173 (by decide) ?_
                  refine mr_lcmp (pc := 86) dX12_wordOf_86 ?_
                  refine mr_gen (P := fun z => (-1) ≤ z ∧ z ≤ 1) (lg_cmp_r _ _) fun z33 q34 h35 => ?_
                  refine mr_if_ne (pc := 87) (tgt := 93) dX12_wordOf_87 (by decide) (r32 h35 rfl) (fun h36 => ?_) (fun h36 => ?_)
                  · refine mr_lload_n (pc := 93) (z := p1) dX12_wordOf_93 rfl rfl ?_
                    refine mr_ldc2 (pc := 94) (z := 1836020326) dX12_wordOf_94 wH_X12_175 (by decide) ?_
                    refine mr_lcmp (pc := 97) dX12_wordOf_97 ?_
                    refine mr_gen (P := fun z => (-1) ≤ z ∧ z ≤ 1) (lg_cmp_r _ _) fun z37 q38 h39 => ?_
                    refine mr_if_ne (pc := 98) (tgt := 104) dX12_wordOf_98 (by decide) (r32 h39 rfl) (fun h40 => ?_) (fun h40 => ?_)
                    · refine mr_lload_n (pc := 104) (z := p1) dX12_wordOf_104 rfl rfl ?_
                      refine mr_ldc2 (pc := 105) (z := 6646132) dX12_wordOf_105 wH_X12_177 (by decide) ?_
                      refine mr_lcmp (pc := 108) dX12_wordOf_108 ?_
                      refine mr_gen (P := fun z => (-1) ≤ z ∧ z ≤ 1) (lg_cmp_r _ _) fun z41 q42 h43 => ?_
                      refine mr_if_ne (pc := 109) (tgt := 115) dX12_wordOf_109 (by decide) (r32 h43 rfl) (fun h44 => ?_) (fun h44 => ?_)
                      · refine mr_lload_n (pc := 115) (z := p1) dX12_wordOf_115 rfl rfl ?_
                        refine mr_ldc2 (pc := 116) (z := 114849160783212) dX12_wordOf_116 wH_X12_179 (by decide) ?_
                        refine mr_lcmp (pc := 119) dX12_wordOf_119 ?_
                        refine mr_gen (P := fun z => (-1) ≤ z ∧ z ≤ 1) (lg_cmp_r _ _) fun z45 q46 h47 => ?_
                        refine mr_if_ne (pc := 120) (tgt := 126) dX12_wordOf_120 (by decide) (r32 h47 rfl) (fun h48 => ?_) (fun h48 => ?_)
                        · refine mr_lload_n (pc := 126) (z := p1) dX12_wordOf_126 rfl rfl ?_
                          refine mr_ldc2 (pc := 127) (z := 1752394103) dX12_wordOf_127 wH_X12_181 (by decide) ?_
                          refine mr_lcmp (pc := 130) dX12_wordOf_130 ?_
                          refine mr_gen (P := fun z => (-1) ≤ z ∧ z ≤ 1) (lg_cmp_r _ _) fun z49 q50 h51 => ?_
                          refine mr_if_ne (pc := 131) (tgt := 137) dX12_wordOf_131 (by decide) (r32 h51 rfl) (fun h52 => ?_) (fun h52 => ?_)
                          · refine mr_lload_n (pc := 137) (z := p1) dX12_wordOf_137 rfl rfl ?_
                            refine mr_ldc2 (pc := 138) (z := 1953722211) dX12_wordOf_138 wH_X12_183 (by decide) ?_
                            refine mr_lcmp (pc := 141) dX12_wordOf_141 ?_
                            refine mr_gen (P := fun z => (-1) ≤ z ∧ z ≤ 1) (lg_cmp_r _ _) fun z53 q54 h55 => ?_
                            refine mr_if_ne (pc := 142) (tgt := 148) dX12_wordOf_142 (by decide) (r32 h55 rfl) (fun h56 => ?_) (fun h56 => ?_)
                            · refine mr_lload_n (pc := 148) (z := p1) dX12_wordOf_148 rfl rfl ?_
                              refine mr_ldc2 (pc := 149) (z := 121398985585263) dX12_wordOf_149 wH_X12_185 (by decide) ?_
                              refine mr_lcmp (pc := 152) dX12_wordOf_152 ?_
                              refine mr_gen (P := fun z => (-1) ≤ z ∧ z ≤ 1) (lg_cmp_r _ _) fun z57 q58 h59 => ?_
                              refine mr_if_ne (pc := 153) (tgt := 159) dX12_wordOf_153 (by decide) (r32 h59 rfl) (fun h60 => ?_) (fun h60 => ?_)
                              · refine mr_lload_n (pc := 159) (z := p1) dX12_wordOf_159 rfl rfl ?_
                                refine mr_ldc2 (pc := 160) (z := 499967814002) dX12_wordOf_160 wH_X12_187 (by decide) ?_
                                refine mr_lcmp (pc := 163) dX12_wordOf_163 ?_
                                refine mr_gen (P := fun z => (-1) ≤ z ∧ z ≤ 1) (lg_cmp_r _ _) fun z61 q62 h63 => ?_
                                refine mr_if_ne (pc := 164) (tgt := 170) dX12_wordOf_164 (by decide) (r32 h63 rfl) (fun h64 => ?_) (fun h64 => ?_)
                                · refine mr_lload_n (pc := 170) (z := p1) dX12_wordOf_170 rfl rfl ?_
                                  refine mr_ldc2 (pc := 171) (z := 8243115018434082147) dX12_wordOf_171 wH_X12_189 (by decide) ?_
                                  refine mr_lcmp (pc := 174) dX12_wordOf_174 ?_
                                  refine mr_gen (P := fun z => (-1) ≤ z ∧ z ≤ 1) (lg_cmp_r _ _) fun z65 q66 h67 => ?_
                                  refine mr_if_ne (pc := 175) (tgt := 181) dX12_wordOf_175 (by decide) (r32 h67 rfl) (fun h68 => ?_) (fun h68 => ?_)
                                  · refine mr_lload_n (pc := 181) (z := p1) dX12_wordOf_181 rfl rfl ?_
                                    refine mr_ldc2 (pc := 182) (z := 8243105097092919920) dX12_wordOf_182 wH_X12_191 (by decide) ?_
                                    refine mr_lcmp (pc := 185) dX12_wordOf_185 ?_
                                    refine mr_gen (P := fun z => (-1) ≤ z ∧ z ≤ 1) (lg_cmp_r _ _) fun z69 q70 h71 => ?_
                                    refine mr_if_ne (pc := 186) (tgt := 192) dX12_wordOf_186 (by decide) (r32 h71 rfl) (fun h72 => ?_) (fun h72 => ?_)
                                    · refine mr_lload_n (pc := 192) (z := p1) dX12_wordOf_192 rfl rfl ?_
                                      refine mr_ldc2 (pc := 193) (z := 465491554661) dX12_wordOf_193 wH_X12_193 (by decide) ?_
                                      refine mr_lcmp (pc := 196) dX12_wordOf_196 ?_
                                      refine mr_gen (P := fun z => (-1) ≤ z ∧ z ≤ 1) (lg_cmp_r _ _) fun z73 q74 h75 => ?_
                                      refine mr_if_ne (pc := 197) (tgt := 203) dX12_wordOf_197 (by decide) (r32 h75 rfl) (fun h76 => ?_) (fun h76 => ?_)
                                      · refine mr_lload_n (pc := 203) (z := p1) dX12_wordOf_203 rfl rfl ?_
                                        refine mr_ldc2 (pc := 204) (z := 7235947) dX12_wordOf_204 wH_X12_195 (by decide) ?_
                                        refine mr_lcmp (pc := 207) dX12_wordOf_207 ?_
                                        refine mr_gen (P := fun z => (-1) ≤ z ∧ z ≤ 1) (lg_cmp_r _ _) fun z77 q78 h79 => ?_
                                        refine mr_if_ne (pc := 208) (tgt := 214) dX12_wordOf_208 (by decide) (r32 h79 rfl) (fun h80 => ?_) (fun h80 => ?_)
                                        · refine mr_lload_n (pc := 214) (z := p1) dX12_wordOf_214 rfl rfl ?_
                                          refine mr_ldc2 (pc := 215) (z := 431265440118) dX12_wordOf_215 wH_X12_197 (by decide) ?_
                                          refine mr_lcmp (pc := 218) dX12_wordOf_218 ?_
                                          refine mr_gen (P := fun z => (-1) ≤ z ∧ z ≤ 1) (lg_cmp_r _ _) fun z81 q82 h83 => ?_
                                          refine mr_if_ne (pc := 219) (tgt := 225) dX12_wordOf_219 (by decide) (r32 h83 rfl) (fun h84 => ?_) (fun h84 => ?_)
                                          · refine mr_lload_n (pc := 225) (z := p1) dX12_wordOf_225 rfl rfl ?_
                                            refine mr_ldc2 (pc := 226) (z := 31093567915781749) dX12_wordOf_226 wH_X12_199 (by decide) ?_
                                            refine mr_lcmp (pc := 229) dX12_wordOf_229 ?_
                                            refine mr_gen (P := fun z => (-1) ≤ z ∧ z ≤ 1) (lg_cmp_r _ _) fun z85 q86 h87 => ?_
                                            refine mr_if_ne (pc := 230) (tgt := 236) dX12_wordOf_230 (by decide) (r32 h87 rfl) (fun h88 => ?_) (fun h88 => ?_)
                                            · refine mr_lload_n (pc := 236) (z := p1) dX12_wordOf_236 rfl rfl ?_
                                              refine mr_ldc2 (pc := 237) (z := 6578530) dX12_wordOf_237 wH_X12_201 (by decide) ?_
                                              refine mr_lcmp (pc := 240) dX12_wordOf_240 ?_
                                              refine mr_gen (P := fun z => (-1) ≤ z ∧ z ≤ 1) (lg_cmp_r _ _) fun z89 q90 h91 => ?_
                                              refine mr_if_ne (pc := 241) (tgt := 247) dX12_wordOf_241 (by decide) (r32 h91 rfl) (fun h92 => ?_) (fun h92 => ?_)
                                              · refine mr_lload_n (pc := 247) (z := p1) dX12_wordOf_247 rfl rfl ?_
                                                refine mr_ldc2 (pc := 248) (z := 7628140) dX12_wordOf_248 wH_X12_203 (by decide) ?_
                                                refine mr_lcmp (pc := 251) dX12_wordOf_251 ?_
                                                refine mr_gen (P := fun z => (-1) ≤ z ∧ z ≤ 1) (lg_cmp_r _ _) fun z93 q94 h95 => ?_
                                                refine mr_if_ne (pc := 252) (tgt := 258) dX12_wordOf_252 (by decide) (r32 h95 rfl) (fun h96 => ?_) (fun h96 => ?_)
                                                · refine mr_lload_n (pc := 258) (z := p1) dX12_wordOf_258 rfl rfl ?_
                                                  refine mr_ldc2 (pc := 259) (z := 7496034) dX12_wordOf_259 wH_X12_205 (by decide) ?_
                                                  refine mr_lcmp (pc := 262) dX12_wordOf_262 ?_
                                                  refine mr_gen (P := fun z => (-1) ≤ z ∧ z ≤ 1) (lg_cmp_r _ _) fun z97 q98 h99 => ?_
                                                  refine mr_if_ne (pc := 263) (tgt := 269) dX12_wordOf_263 (by decide) (r32 h99 rfl) (fun h100 => ?_) (fun h100 => ?_)
                                                  · refine mr_lload_n (pc := 269) (z := p1) dX12_wordOf_269 rfl rfl ?_
                                                    refine mr_ldc2 (pc := 270) (z := 6579297) dX12_wordOf_270 wH_X12_207 (by decide) ?_
                                                    refine mr_lcmp (pc := 273) dX12_wordOf_273 ?_
                                                    refine mr_gen (P := fun z => (-1) ≤ z ∧ z ≤ 1) (lg_cmp_r _ _) fun z101 q102 h103 => ?_
                                                    refine mr_if_ne (pc := 274) (tgt := 280) dX12_wordOf_274 (by decide) (r32 h103 rfl) (fun h104 => ?_) (fun h104 => ?_)
                                                    · refine mr_lload_n (pc := 280) (z := p1) dX12_wordOf_280 rfl rfl ?_
                                                      refine mr_ldc2 (pc := 281) (z := 1886351972) dX12_wordOf_281 wH_X12_209 (by decide) ?_
                                                      refine mr_lcmp (pc := 284) dX12_wordOf_284 ?_
                                                      refine mr_gen (P := fun z => (-1) ≤ z ∧ z ≤ 1) (lg_cmp_r _ _) fun z105 q106 h107 => ?_
                                                      refine mr_if_ne (pc := 285) (tgt := 291) dX12_wordOf_285 (by decide) (r32 h107 rfl) (fun h108 => ?_) (fun h108 => ?_)
                                                      · refine mr_lload_n (pc := 291) (z := p1) dX12_wordOf_291 rfl rfl ?_
                                                        refine mr_ldc2 (pc := 292) (z := 1701998445) dX12_wordOf_292 wH_X12_211 (by decide) ?_
                                                        refine mr_lcmp (pc := 295) dX12_wordOf_295 ?_
                                                        refine mr_gen (P := fun z => (-1) ≤ z ∧ z ≤ 1) (lg_cmp_r _ _) fun z109 q110 h111 => ?_
                                                        refine mr_if_ne (pc := 296) (tgt := 302) dX12_wordOf_296 (by decide) (r32 h111 rfl) (fun h112 => ?_) (fun h112 => ?_)
                                                        · refine mr_lload_n (pc := 302) (z := p1) dX12_wordOf_302 rfl rfl ?_
                                                          refine mr_ldc2 (pc := 303) (z := 1819042147) dX12_wordOf_303 wH_X12_213 (by decide) ?_
                                                          refine mr_lcmp (pc := 306) dX12_wordOf_306 ?_
                                                          refine mr_gen (P := fun z => (-1) ≤ z ∧ z ≤ 1) (lg_cmp_r _ _) fun z113 q114 h115 => ?_
                                                          refine mr_if_ne (pc := 307) (tgt := 313) dX12_wordOf_307 (by decide) (r32 h115 rfl) (fun h116 => ?_) (fun h116 => ?_)
                                                          · refine mr_iconst (pc := 313) (z := (-1)) dX12_wordOf_313 ?_
                                                            exact mr_iretP dX12_wordOf_314 rfl (le_t rfl) (le_t rfl) ⟨(rW (c := (-2147483648)) (d := 2147483647) (rR (x := (-1))) rfl), trivial⟩
                                                          have h117 : 0 ≤ z113 ∧ z113 ≤ 0 := (vc_X12_wordOf_1 h116 h115)
                                                          refine mr_bipush (pc := 310) (z := 28) dX12_wordOf_310 (by decide) ?_
                                                          exact mr_iretP dX12_wordOf_312 rfl (le_t rfl) (le_t rfl) ⟨(rW (c := (-2147483648)) (d := 2147483647) (rR (x := 28)) rfl), trivial⟩
                                                        have h118 : 0 ≤ z109 ∧ z109 ≤ 0 := (vc_X12_wordOf_2 h112 h111)
                                                        refine mr_bipush (pc := 299) (z := 27) dX12_wordOf_299 (by decide) ?_
                                                        exact mr_iretP dX12_wordOf_301 rfl (le_t rfl) (le_t rfl) ⟨(rW (c := (-2147483648)) (d := 2147483647) (rR (x := 27)) rfl), trivial⟩
                                                      have h119 : 0 ≤ z105 ∧ z105 ≤ 0 := (vc_X12_wordOf_3 h108 h107)
                                                      refine mr_bipush (pc := 288) (z := 26) dX12_wordOf_288 (by decide) ?_
                                                      exact mr_iretP dX12_wordOf_290 rfl (le_t rfl) (le_t rfl) ⟨(rW (c := (-2147483648)) (d := 2147483647) (rR (x := 26)) rfl), trivial⟩
                                                    have h120 : 0 ≤ z101 ∧ z101 ≤ 0 := (vc_X12_wordOf_4 h104 h103)
                                                    refine mr_bipush (pc := 277) (z := 25) dX12_wordOf_277 (by decide) ?_
                                                    exact mr_iretP dX12_wordOf_279 rfl (le_t rfl) (le_t rfl) ⟨(rW (c := (-2147483648)) (d := 2147483647) (rR (x := 25)) rfl), trivial⟩
                                                  have h121 : 0 ≤ z97 ∧ z97 ≤ 0 := (vc_X12_wordOf_5 h100 h99)
                                                  refine mr_bipush (pc := 266) (z := 24) dX12_wordOf_266 (by decide) ?_
                                                  exact mr_iretP dX12_wordOf_268 rfl (le_t rfl) (le_t rfl) ⟨(rW (c := (-2147483648)) (d := 2147483647) (rR (x := 24)) rfl), trivial⟩
                                                have h122 : 0 ≤ z93 ∧ z93 ≤ 0 := (vc_X12_wordOf_6 h96 h95)
                                                refine mr_bipush (pc := 255) (z := 23) dX12_wordOf_255 (by decide) ?_
                                                exact mr_iretP dX12_wordOf_257 rfl (le_t rfl) (le_t rfl) ⟨(rW (c := (-2147483648)) (d := 2147483647) (rR (x := 23)) rfl), trivial⟩
                                              have h123 : 0 ≤ z89 ∧ z89 ≤ 0 := (vc_X12_wordOf_7 h92 h91)
                                              refine mr_bipush (pc := 244) (z := 22) dX12_wordOf_244 (by decide) ?_
                                              exact mr_iretP dX12_wordOf_246 rfl (le_t rfl) (le_t rfl) ⟨(rW (c := (-2147483648)) (d := 2147483647) (rR (x := 22)) rfl), trivial⟩
                                            have h124 : 0 ≤ z85 ∧ z85 ≤ 0 := (vc_X12_wordOf_8 h88 h87)
                                            refine mr_bipush (pc := 233) (z := 21) dX12_wordOf_233 (by decide) ?_
                                            exact mr_iretP dX12_wordOf_235 rfl (le_t rfl) (le_t rfl) ⟨(rW (c := (-2147483648)) (d := 2147483647) (rR (x := 21)) rfl), trivial⟩
                                          have h125 : 0 ≤ z81 ∧ z81 ≤ 0 := (vc_X12_wordOf_9 h84 h83)
                                          refine mr_bipush (pc := 222) (z := 20) dX12_wordOf_222 (by decide) ?_
                                          exact mr_iretP dX12_wordOf_224 rfl (le_t rfl) (le_t rfl) ⟨(rW (c := (-2147483648)) (d := 2147483647) (rR (x := 20)) rfl), trivial⟩
                                        have h126 : 0 ≤ z77 ∧ z77 ≤ 0 := (vc_X12_wordOf_10 h80 h79)
                                        refine mr_bipush (pc := 211) (z := 19) dX12_wordOf_211 (by decide) ?_
                                        exact mr_iretP dX12_wordOf_213 rfl (le_t rfl) (le_t rfl) ⟨(rW (c := (-2147483648)) (d := 2147483647) (rR (x := 19)) rfl), trivial⟩
                                      have h127 : 0 ≤ z73 ∧ z73 ≤ 0 := (vc_X12_wordOf_11 h76 h75)
                                      refine mr_bipush (pc := 200) (z := 18) dX12_wordOf_200 (by decide) ?_
                                      exact mr_iretP dX12_wordOf_202 rfl (le_t rfl) (le_t rfl) ⟨(rW (c := (-2147483648)) (d := 2147483647) (rR (x := 18)) rfl), trivial⟩
                                    have h128 : 0 ≤ z69 ∧ z69 ≤ 0 := (vc_X12_wordOf_12 h72 h71)
                                    refine mr_bipush (pc := 189) (z := 17) dX12_wordOf_189 (by decide) ?_
                                    exact mr_iretP dX12_wordOf_191 rfl (le_t rfl) (le_t rfl) ⟨(rW (c := (-2147483648)) (d := 2147483647) (rR (x := 17)) rfl), trivial⟩
                                  have h129 : 0 ≤ z65 ∧ z65 ≤ 0 := (vc_X12_wordOf_13 h68 h67)
                                  refine mr_bipush (pc := 178) (z := 16) dX12_wordOf_178 (by decide) ?_
                                  exact mr_iretP dX12_wordOf_180 rfl (le_t rfl) (le_t rfl) ⟨(rW (c := (-2147483648)) (d := 2147483647) (rR (x := 16)) rfl), trivial⟩
                                have h130 : 0 ≤ z61 ∧ z61 ≤ 0 := (vc_X12_wordOf_14 h64 h63)
                                refine mr_bipush (pc := 167) (z := 15) dX12_wordOf_167 (by decide) ?_
                                exact mr_iretP dX12_wordOf_169 rfl (le_t rfl) (le_t rfl) ⟨(rW (c := (-2147483648)) (d := 2147483647) (rR (x := 15)) rfl), trivial⟩
                              have h131 : 0 ≤ z57 ∧ z57 ≤ 0 := (vc_X12_wordOf_15 h60 h59)
                              refine mr_bipush (pc := 156) (z := 14) dX12_wordOf_156 (by decide) ?_
                              exact mr_iretP dX12_wordOf_158 rfl (le_t rfl) (le_t rfl) ⟨(rW (c := (-2147483648)) (d := 2147483647) (rR (x := 14)) rfl), trivial⟩
                            have h132 : 0 ≤ z53 ∧ z53 ≤ 0 := (vc_X12_wordOf_16 h56 h55)
                            refine mr_bipush (pc := 145) (z := 13) dX12_wordOf_145 (by decide) ?_
                            exact mr_iretP dX12_wordOf_147 rfl (le_t rfl) (le_t rfl) ⟨(rW (c := (-2147483648)) (d := 2147483647) (rR (x := 13)) rfl), trivial⟩
                          have h133 : 0 ≤ z49 ∧ z49 ≤ 0 := (vc_X12_wordOf_17 h52 h51)
                          refine mr_bipush (pc := 134) (z := 12) dX12_wordOf_134 (by decide) ?_
                          exact mr_iretP dX12_wordOf_136 rfl (le_t rfl) (le_t rfl) ⟨(rW (c := (-2147483648)) (d := 2147483647) (rR (x := 12)) rfl), trivial⟩
                        have h134 : 0 ≤ z45 ∧ z45 ≤ 0 := (vc_X12_wordOf_18 h48 h47)
                        refine mr_bipush (pc := 123) (z := 11) dX12_wordOf_123 (by decide) ?_
                        exact mr_iretP dX12_wordOf_125 rfl (le_t rfl) (le_t rfl) ⟨(rW (c := (-2147483648)) (d := 2147483647) (rR (x := 11)) rfl), trivial⟩
                      have h135 : 0 ≤ z41 ∧ z41 ≤ 0 := (vc_X12_wordOf_19 h44 h43)
                      refine mr_bipush (pc := 112) (z := 10) dX12_wordOf_112 (by decide) ?_
                      exact mr_iretP dX12_wordOf_114 rfl (le_t rfl) (le_t rfl) ⟨(rW (c := (-2147483648)) (d := 2147483647) (rR (x := 10)) rfl), trivial⟩
                    have h136 : 0 ≤ z37 ∧ z37 ≤ 0 := (vc_X12_wordOf_20 h40 h39)
                    refine mr_bipush (pc := 101) (z := 9) dX12_wordOf_101 (by decide) ?_
                    exact mr_iretP dX12_wordOf_103 rfl (le_t rfl) (le_t rfl) ⟨(rW (c := (-2147483648)) (d := 2147483647) (rR (x := 9)) rfl), trivial⟩
                  have h137 : 0 ≤ z33 ∧ z33 ≤ 0 := (vc_X12_wordOf_21 h36 h35)
                  refine mr_bipush (pc := 90) (z := 8) dX12_wordOf_90 (by decide) ?_
                  exact mr_iretP dX12_wordOf_92 rfl (le_t rfl) (le_t rfl) ⟨(rW (c := (-2147483648)) (d := 2147483647) (rR (x := 8)) rfl), trivial⟩
                have h138 : 0 ≤ z29 ∧ z29 ≤ 0 := (vc_X12_wordOf_22 h32 h31)
                refine mr_bipush (pc := 79) (z := 7) dX12_wordOf_79 (by decide) ?_
                exact mr_iretP dX12_wordOf_81 rfl (le_t rfl) (le_t rfl) ⟨(rW (c := (-2147483648)) (d := 2147483647) (rR (x := 7)) rfl), trivial⟩
              have h139 : 0 ≤ z25 ∧ z25 ≤ 0 := (vc_X12_wordOf_23 h28 h27)
              refine mr_bipush (pc := 68) (z := 6) dX12_wordOf_68 (by decide) ?_
              exact mr_iretP dX12_wordOf_70 rfl (le_t rfl) (le_t rfl) ⟨(rW (c := (-2147483648)) (d := 2147483647) (rR (x := 6)) rfl), trivial⟩
            have h140 : 0 ≤ z21 ∧ z21 ≤ 0 := (vc_X12_wordOf_24 h24 h23)
            refine mr_iconst (pc := 58) (z := 5) dX12_wordOf_58 ?_
            exact mr_iretP dX12_wordOf_59 rfl (le_t rfl) (le_t rfl) ⟨(rW (c := (-2147483648)) (d := 2147483647) (rR (x := 5)) rfl), trivial⟩
          have h141 : 0 ≤ z17 ∧ z17 ≤ 0 := (vc_X12_wordOf_25 h20 h19)
          refine mr_iconst (pc := 48) (z := 4) dX12_wordOf_48 ?_
          exact mr_iretP dX12_wordOf_49 rfl (le_t rfl) (le_t rfl) ⟨(rW (c := (-2147483648)) (d := 2147483647) (rR (x := 4)) rfl), trivial⟩
        have h142 : 0 ≤ z13 ∧ z13 ≤ 0 := (vc_X12_wordOf_26 h16 h15)
        refine mr_iconst (pc := 38) (z := 3) dX12_wordOf_38 ?_
        exact mr_iretP dX12_wordOf_39 rfl (le_t rfl) (le_t rfl) ⟨(rW (c := (-2147483648)) (d := 2147483647) (rR (x := 3)) rfl), trivial⟩
      have h143 : 0 ≤ z9 ∧ z9 ≤ 0 := (vc_X12_wordOf_27 h12 h11)
      refine mr_iconst (pc := 28) (z := 2) dX12_wordOf_28 ?_
      exact mr_iretP dX12_wordOf_29 rfl (le_t rfl) (le_t rfl) ⟨(rW (c := (-2147483648)) (d := 2147483647) (rR (x := 2)) rfl), trivial⟩
    have h144 : 0 ≤ z5 ∧ z5 ≤ 0 := (vc_X12_wordOf_28 h8 h7)
    refine mr_iconst (pc := 18) (z := 1) dX12_wordOf_18 ?_
    exact mr_iretP dX12_wordOf_19 rfl (le_t rfl) (le_t rfl) ⟨(rW (c := (-2147483648)) (d := 2147483647) (rR (x := 1)) rfl), trivial⟩
  have h145 : 0 ≤ z1 ∧ z1 ≤ 0 := (vc_X12_wordOf_29 h4 h3)
  refine mr_iconst (pc := 8) (z := 0) dX12_wordOf_8 ?_
  exact mr_iretP dX12_wordOf_9 rfl (le_t rfl) (le_t rfl) ⟨(rW (c := (-2147483648)) (d := 2147483647) (rR (x := 0)) rfl), trivial⟩
theorem vc_X12_wrong_1 {f_code : Int} (h0 : ¬ f_code = 0) (h1 : 0 ≤ f_code ∧ f_code ≤ 4) : 1 ≤ f_code ∧ f_code ≤ 4 := by omega
theorem vc_X12_wrong_2 {f_code : Int} (h0 : ¬ f_code = 0) (h1 : 1 ≤ f_code ∧ f_code ≤ 4) : 1 ≤ f_code := by omega
theorem vc_X12_wrong_3 {f_code : Int} (h0 : ¬ f_code = 0) (h1 : 1 ≤ f_code ∧ f_code ≤ 4) : ¬ f_code = 0 → f_code = f_code := by omega
theorem vc_X12_wrong_4 {f_code : Int} (h0 : f_code = 0) (h1 : 0 ≤ f_code ∧ f_code ≤ 4) : 0 ≤ f_code ∧ f_code ≤ 0 := by omega
theorem vc_X12_wrong_5 {p1 : Int} (h0 : 1 ≤ p1 ∧ p1 ≤ 4) : 1 ≤ p1 := by omega
theorem vc_X12_wrong_6 {f_code p1 : Int} (h0 : f_code = 0) (h1 : 0 ≤ f_code ∧ f_code ≤ 0) (h2 : 1 ≤ p1 ∧ p1 ≤ 4) : ¬ f_code = 0 → p1 = f_code := by omega
set_option maxRecDepth 4000 in
set_option maxHeartbeats 4000000 in
theorem c_X12_wrong {l : Launch} {D : va_G} {c : Nat → ClassId} {H0 : Heap} {sa : Nat × Nat × (Nat → Int32)} {w : mW} {μ : mM} (hw : mWF w) (hT : mT w μ) {p1 : Int} (hp1 : 1 ≤ p1 ∧ p1 ≤ 4) {f_code : Int} (q_f_code : μ 106 37 = f_code) : sC (gG l D c H0 sa) mX12_wrong 1 0 0 [.ref 106, iv p1] (mk w μ) (qV w [106037, 106038] μ (fun μ1 => ∃ o_code : Int, μ1 106 37 = o_code ∧ (1 ≤ o_code) ∧ (¬ f_code = 0 → o_code = f_code) ∧ True)) := by
  refine sC.of rfl (by decide) (le_t rfl) ?_
  have ht_f_code : (0 ≤ f_code ∧ f_code ≤ 4) := by rw [← q_f_code]; exact hT 106 106 (A_106 hw) 37
  refine mr_lvE (lv' := [(0, .ref 106), (1, iv p1)]) rfl ?_
  refine sv_aload_n (pc := 0) dX12_wrong_0 rfl rfl ?_
  refine gk_X12_37 (pc := 1) dX12_wrong_1 wF_X12_215 (A_106 hw) q_f_code ?_
  refine mr_if_ne (pc := 4) (tgt := 20) dX12_wrong_4 (by decide) (r32 ht_f_code rfl) (fun h45 => ?_) (fun h45 => ?_)
  · have h46 : 1 ≤ f_code ∧ f_code ≤ 4 := (vc_X12_wrong_1 h45 ht_f_code)
    exact mr_vret dX12_wrong_20 rfl (le_t rfl) (le_t rfl) hT mF.refl ⟨f_code, q_f_code, (vc_X12_wrong_2 h45 h46), (vc_X12_wrong_3 h45 h46), trivial⟩
  have h47 : 0 ≤ f_code ∧ f_code ≤ 0 := (vc_X12_wrong_4 h45 ht_f_code)
  refine sv_aload_n (pc := 7) dX12_wrong_7 rfl rfl ?_
  refine mr_iload_n (pc := 8) (z := p1) dX12_wrong_8 rfl rfl ?_
  refine pf_X12_37 (pc := 9) dX12_wrong_9 wF_X12_215 (A_106 hw) hT (rW (c := 0) (d := 4) hp1 rfl) fun μ48 u49 T50 => ?_
  refine sv_aload_n (pc := 12) dX12_wrong_12 rfl rfl ?_
  refine sv_aload_n (pc := 13) dX12_wrong_13 rfl rfl ?_
  refine gf_X12_34 (pc := 14) dX12_wrong_14 wF_X12_218 (A_106 hw) T50 fun z51 q52 h53 => ?_
  refine pf_X12_38 (pc := 17) dX12_wrong_17 wF_X12_221 (A_106 hw) T50 h53 fun μ54 u55 T56 => ?_
  exact mr_vret dX12_wrong_20 rfl (le_t rfl) (le_t rfl) T56 (mF.up (mF.up mF.refl (A_106 hw) u49 rfl) (A_106 hw) u55 rfl) ⟨p1, (u55.f (Or.inr (by decide)) u49.1), (vc_X12_wrong_5 hp1), (vc_X12_wrong_6 h45 h47 hp1), trivial⟩
theorem vc_X12_byteAt_1 {f_size p1 : Int} (h0 : f_size ≤ p1) (h1 : 0 ≤ f_size ∧ f_size ≤ 1000) (h2 : 0 ≤ p1 ∧ p1 ≤ 2147483647) : 0 ≤ (-1 : Int) → p1 < f_size := by omega
theorem vc_X12_byteAt_2 {f_size p1 : Int} (h0 : f_size ≤ p1) (h1 : 0 ≤ f_size ∧ f_size ≤ 1000) (h2 : 0 ≤ p1 ∧ p1 ≤ 2147483647) : p1 < f_size → 0 ≤ (-1 : Int) := by omega
theorem vc_X12_byteAt_3 {f_size p1 : Int} (h0 : p1 < f_size) (h1 : 0 ≤ f_size ∧ f_size ≤ 1000) (h2 : 0 ≤ p1 ∧ p1 ≤ 2147483647) : 0 ≤ p1 ∧ p1 ≤ 999 := by omega
theorem vc_X12_byteAt_4 {f_size p1 : Int} (h0 : p1 < f_size) (h1 : 0 ≤ f_size ∧ f_size ≤ 1000) (h2 : 0 ≤ p1 ∧ p1 ≤ 999) : 1 ≤ f_size ∧ f_size ≤ 1000 := by omega
theorem vc_X12_byteAt_5 {f_size p1 z39 : Int} (h0 : p1 < f_size) (h1 : 1 ≤ f_size ∧ f_size ≤ 1000) (h2 : 0 ≤ p1 ∧ p1 ≤ 999) (h3 : 0 ≤ z39 ∧ z39 ≤ 255) : 0 ≤ z39 → p1 < f_size := by omega
theorem vc_X12_byteAt_6 {f_size p1 z39 : Int} (h0 : p1 < f_size) (h1 : 1 ≤ f_size ∧ f_size ≤ 1000) (h2 : 0 ≤ p1 ∧ p1 ≤ 999) (h3 : 0 ≤ z39 ∧ z39 ≤ 255) : p1 < f_size → 0 ≤ z39 := by omega
set_option maxRecDepth 4000 in
set_option maxHeartbeats 4000000 in
theorem c_X12_byteAt {l : Launch} {D : va_G} {c : Nat → ClassId} {H0 : Heap} {sa : Nat × Nat × (Nat → Int32)} {w : mW} {μ : mM} (hw : mWF w) (hT : mT w μ) {p1 : Int} (hp1 : 0 ≤ p1 ∧ p1 ≤ 2147483647) {f_size : Int} (q_f_size : μ 106 1 = f_size) : sC (gG l D c H0 sa) mX12_byteAt 1 0 0 [.ref 106, iv p1] (mk w μ) (qP w μ (fun z => ((-1) ≤ z ∧ z ≤ 255) ∧ (0 ≤ z → p1 < f_size) ∧ (p1 < f_size → 0 ≤ z) ∧ True)) := by
  refine sC.of rfl (by decide) (le_t rfl) ?_
  have ht_f_size : (0 ≤ f_size ∧ f_size ≤ 1000) := by rw [← q_f_size]; exact hT 106 106 (A_106 hw) 1
  refine mr_lvE (lv' := [(0, .ref 106), (1, iv p1)]) rfl ?_
  refine mr_iload_n (pc := 0) (z := p1) dX12_byteAt_0 rfl rfl ?_
  refine sv_aload_n (pc := 1) dX12_byteAt_1 rfl rfl ?_
  refine gk_X12_1 (pc := 2) dX12_byteAt_2 wF_X12_1 (A_106 hw) q_f_size ?_
  refine mr_icmp_ge (pc := 5) (tgt := 21) dX12_byteAt_5 (by decide) (r32 hp1 rfl) (r32 ht_f_size rfl) (fun h33 => ?_) (fun h33 => ?_)
  · refine mr_iconst (pc := 21) (z := (-1)) dX12_byteAt_21 ?_
    exact mr_iretP dX12_byteAt_22 rfl (le_t rfl) (le_t rfl) ⟨(rW (c := (-1)) (d := 255) (rR (x := (-1))) rfl), (vc_X12_byteAt_1 h33 ht_f_size hp1), (vc_X12_byteAt_2 h33 ht_f_size hp1), trivial⟩
  have h34 : 0 ≤ p1 ∧ p1 ≤ 999 := (vc_X12_byteAt_3 h33 ht_f_size hp1)
  have h35 : 1 ≤ f_size ∧ f_size ≤ 1000 := (vc_X12_byteAt_4 h33 ht_f_size h34)
  refine sv_aload_n (pc := 8) dX12_byteAt_8 rfl rfl ?_
  refine gf_X12_0 (pc := 9) dX12_byteAt_9 wF_X12_7 (A_106 hw) hT ?_
  refine mr_iload_n (pc := 12) (z := p1) dX12_byteAt_12 rfl rfl ?_
  refine la_107 (pc := 13) dX12_byteAt_13 (A_107 hw) hT (rIx (n := 1000) h34 rfl) fun z36 q37 h38 => ?_
  refine mr_sipush (pc := 14) (z := 255) dX12_byteAt_14 (by decide) ?_
  refine mr_iand (pc := 17) (x := z36) (y := 255) dX12_byteAt_17 ?_
  refine mr_gen (P := fun z => 0 ≤ z ∧ z ≤ 255) (rAndR (rR (x := 255)) rfl) fun z39 q40 h41 => ?_
  refine sv_goto (pc := 18) (tgt := 22) dX12_byteAt_18 (by decide) ?_
  exact mr_iretP dX12_byteAt_22 rfl (le_t rfl) (le_t rfl) ⟨(rW (c := (-1)) (d := 255) h41 rfl), (vc_X12_byteAt_5 h33 h35 h34 h41), (vc_X12_byteAt_6 h33 h35 h34 h41), trivial⟩
theorem vc_X12_isSign_1 {f_code : Int} (h0 : ¬ f_code = 0) (h1 : 0 ≤ f_code ∧ f_code ≤ 4) : 1 ≤ f_code ∧ f_code ≤ 4 := by omega
theorem vc_X12_isSign_2 {f_code f_number f_type p1 : Int} (h0 : ¬ f_code = 0) (h1 : 1 ≤ f_code ∧ f_code ≤ 4) (h2 : (-2147483648) ≤ f_number ∧ f_number ≤ 2147483647) (h3 : 0 ≤ f_type ∧ f_type ≤ 3) (h4 : (-2147483648) ≤ p1 ∧ p1 ≤ 2147483647) : (0 : Int) = 1 → f_code = 0 ∧ f_type = 3 ∧ f_number = p1 := by omega
theorem vc_X12_isSign_3 {f_code f_number f_type p1 : Int} (h0 : ¬ f_code = 0) (h1 : 1 ≤ f_code ∧ f_code ≤ 4) (h2 : (-2147483648) ≤ f_number ∧ f_number ≤ 2147483647) (h3 : 0 ≤ f_type ∧ f_type ≤ 3) (h4 : (-2147483648) ≤ p1 ∧ p1 ≤ 2147483647) : (0 : Int) = 0 → ¬ f_code = 0 ∨ ¬ f_type = 3 ∨ ¬ f_number = p1 := by omega
theorem vc_X12_isSign_4 {f_code : Int} (h0 : f_code = 0) (h1 : 0 ≤ f_code ∧ f_code ≤ 4) : 0 ≤ f_code ∧ f_code ≤ 0 := by omega
theorem vc_X12_isSign_5 {f_type : Int} (h0 : ¬ f_type = 3) (h1 : 0 ≤ f_type ∧ f_type ≤ 3) : 0 ≤ f_type ∧ f_type ≤ 2 := by omega
theorem vc_X12_isSign_6 {f_code f_number f_type p1 : Int} (h0 : f_code = 0) (h1 : ¬ f_type = 3) (h2 : 0 ≤ f_code ∧ f_code ≤ 0) (h3 : (-2147483648) ≤ f_number ∧ f_number ≤ 2147483647) (h4 : 0 ≤ f_type ∧ f_type ≤ 2) (h5 : (-2147483648) ≤ p1 ∧ p1 ≤ 2147483647) : (0 : Int) = 1 → f_code = 0 ∧ f_type = 3 ∧ f_number = p1 := by omega
theorem vc_X12_isSign_7 {f_code f_number f_type p1 : Int} (h0 : f_code = 0) (h1 : ¬ f_type = 3) (h2 : 0 ≤ f_code ∧ f_code ≤ 0) (h3 : (-2147483648) ≤ f_number ∧ f_number ≤ 2147483647) (h4 : 0 ≤ f_type ∧ f_type ≤ 2) (h5 : (-2147483648) ≤ p1 ∧ p1 ≤ 2147483647) : (0 : Int) = 0 → ¬ f_code = 0 ∨ ¬ f_type = 3 ∨ ¬ f_number = p1 := by omega
theorem vc_X12_isSign_8 {f_type : Int} (h0 : f_type = 3) (h1 : 0 ≤ f_type ∧ f_type ≤ 3) : 3 ≤ f_type ∧ f_type ≤ 3 := by omega
theorem vc_X12_isSign_9 {f_code f_number f_type p1 : Int} (h0 : f_code = 0) (h1 : f_type = 3) (h2 : ¬ f_number = p1) (h3 : 0 ≤ f_code ∧ f_code ≤ 0) (h4 : (-2147483648) ≤ f_number ∧ f_number ≤ 2147483647) (h5 : 3 ≤ f_type ∧ f_type ≤ 3) (h6 : (-2147483648) ≤ p1 ∧ p1 ≤ 2147483647) : (0 : Int) = 1 → f_code = 0 ∧ f_type = 3 ∧ f_number = p1 := by omega
theorem vc_X12_isSign_10 {f_code f_number f_type p1 : Int} (h0 : f_code = 0) (h1 : f_type = 3) (h2 : ¬ f_number = p1) (h3 : 0 ≤ f_code ∧ f_code ≤ 0) (h4 : (-2147483648) ≤ f_number ∧ f_number ≤ 2147483647) (h5 : 3 ≤ f_type ∧ f_type ≤ 3) (h6 : (-2147483648) ≤ p1 ∧ p1 ≤ 2147483647) : (0 : Int) = 0 → ¬ f_code = 0 ∨ ¬ f_type = 3 ∨ ¬ f_number = p1 := by omega
theorem vc_X12_isSign_11 {f_code f_number f_type p1 : Int} (h0 : f_code = 0) (h1 : f_type = 3) (h2 : f_number = p1) (h3 : 0 ≤ f_code ∧ f_code ≤ 0) (h4 : (-2147483648) ≤ f_number ∧ f_number ≤ 2147483647) (h5 : 3 ≤ f_type ∧ f_type ≤ 3) (h6 : (-2147483648) ≤ p1 ∧ p1 ≤ 2147483647) : (1 : Int) = 1 → f_code = 0 ∧ f_type = 3 ∧ f_number = p1 := by omega
theorem vc_X12_isSign_12 {f_code f_number f_type p1 : Int} (h0 : f_code = 0) (h1 : f_type = 3) (h2 : f_number = p1) (h3 : 0 ≤ f_code ∧ f_code ≤ 0) (h4 : (-2147483648) ≤ f_number ∧ f_number ≤ 2147483647) (h5 : 3 ≤ f_type ∧ f_type ≤ 3) (h6 : (-2147483648) ≤ p1 ∧ p1 ≤ 2147483647) : (1 : Int) = 0 → ¬ f_code = 0 ∨ ¬ f_type = 3 ∨ ¬ f_number = p1 := by omega
set_option maxRecDepth 4000 in
set_option maxHeartbeats 4000000 in
theorem c_X12_isSign {l : Launch} {D : va_G} {c : Nat → ClassId} {H0 : Heap} {sa : Nat × Nat × (Nat → Int32)} {w : mW} {μ : mM} (hw : mWF w) (hT : mT w μ) {p1 : Int} (hp1 : (-2147483648) ≤ p1 ∧ p1 ≤ 2147483647) {f_code : Int} (q_f_code : μ 106 37 = f_code) {f_type : Int} (q_f_type : μ 106 35 = f_type) {f_number : Int} (q_f_number : μ 106 36 = f_number) : sC (gG l D c H0 sa) mX12_isSign 1 0 0 [.ref 106, iv p1] (mk w μ) (qP w μ (fun z => (0 ≤ z ∧ z ≤ 1) ∧ (z = 1 → f_code = 0 ∧ f_type = 3 ∧ f_number = p1) ∧ (z = 0 → ¬ f_code = 0 ∨ ¬ f_type = 3 ∨ ¬ f_number = p1) ∧ True)) := by
  refine sC.of rfl (by decide) (le_t rfl) ?_
  have ht_f_code : (0 ≤ f_code ∧ f_code ≤ 4) := by rw [← q_f_code]; exact hT 106 106 (A_106 hw) 37
  have ht_f_type : (0 ≤ f_type ∧ f_type ≤ 3) := by rw [← q_f_type]; exact hT 106 106 (A_106 hw) 35
  have ht_f_number : ((-2147483648) ≤ f_number ∧ f_number ≤ 2147483647) := by rw [← q_f_number]; exact hT 106 106 (A_106 hw) 36
  refine mr_lvE (lv' := [(0, .ref 106), (1, iv p1)]) rfl ?_
  refine sv_aload_n (pc := 0) dX12_isSign_0 rfl rfl ?_
  refine gk_X12_37 (pc := 1) dX12_isSign_1 wF_X12_215 (A_106 hw) q_f_code ?_
  refine mr_if_ne (pc := 4) (tgt := 27) dX12_isSign_4 (by decide) (r32 ht_f_code rfl) (fun h17 => ?_) (fun h17 => ?_)
  · have h18 : 1 ≤ f_code ∧ f_code ≤ 4 := (vc_X12_isSign_1 h17 ht_f_code)
    refine mr_iconst (pc := 27) (z := 0) dX12_isSign_27 ?_
    exact mr_zretP dX12_isSign_28 rfl (rW (c := 0) (d := 1) (rR (x := 0)) rfl) (le_t rfl) (le_t rfl) ⟨(rW (c := 0) (d := 1) (rR (x := 0)) rfl), (vc_X12_isSign_2 h17 h18 ht_f_number ht_f_type hp1), (vc_X12_isSign_3 h17 h18 ht_f_number ht_f_type hp1), trivial⟩
  have h19 : 0 ≤ f_code ∧ f_code ≤ 0 := (vc_X12_isSign_4 h17 ht_f_code)
  refine sv_aload_n (pc := 7) dX12_isSign_7 rfl rfl ?_
  refine gk_X12_35 (pc := 8) dX12_isSign_8 wF_X12_230 (A_106 hw) q_f_type ?_
  refine mr_iconst (pc := 11) (z := 3) dX12_isSign_11 ?_
  refine mr_icmp_ne (pc := 12) (tgt := 27) dX12_isSign_12 (by decide) (r32 ht_f_type rfl) (r32 (rR (x := 3)) rfl) (fun h22 => ?_) (fun h22 => ?_)
  · have h23 : 0 ≤ f_type ∧ f_type ≤ 2 := (vc_X12_isSign_5 h22 ht_f_type)
    refine mr_iconst (pc := 27) (z := 0) dX12_isSign_27 ?_
    exact mr_zretP dX12_isSign_28 rfl (rW (c := 0) (d := 1) (rR (x := 0)) rfl) (le_t rfl) (le_t rfl) ⟨(rW (c := 0) (d := 1) (rR (x := 0)) rfl), (vc_X12_isSign_6 h17 h22 h19 ht_f_number h23 hp1), (vc_X12_isSign_7 h17 h22 h19 ht_f_number h23 hp1), trivial⟩
  have h24 : 3 ≤ f_type ∧ f_type ≤ 3 := (vc_X12_isSign_8 h22 ht_f_type)
  refine sv_aload_n (pc := 15) dX12_isSign_15 rfl rfl ?_
  refine gk_X12_36 (pc := 16) dX12_isSign_16 wF_X12_233 (A_106 hw) q_f_number ?_
  refine mr_iload_n (pc := 19) (z := p1) dX12_isSign_19 rfl rfl ?_
  refine mr_icmp_ne (pc := 20) (tgt := 27) dX12_isSign_20 (by decide) ht_f_number hp1 (fun h25 => ?_) (fun h25 => ?_)
  · refine mr_iconst (pc := 27) (z := 0) dX12_isSign_27 ?_
    exact mr_zretP dX12_isSign_28 rfl (rW (c := 0) (d := 1) (rR (x := 0)) rfl) (le_t rfl) (le_t rfl) ⟨(rW (c := 0) (d := 1) (rR (x := 0)) rfl), (vc_X12_isSign_9 h17 h22 h25 h19 ht_f_number h24 hp1), (vc_X12_isSign_10 h17 h22 h25 h19 ht_f_number h24 hp1), trivial⟩
  refine mr_iconst (pc := 23) (z := 1) dX12_isSign_23 ?_
  refine sv_goto (pc := 24) (tgt := 28) dX12_isSign_24 (by decide) ?_
  exact mr_zretP dX12_isSign_28 rfl (rW (c := 0) (d := 1) (rR (x := 1)) rfl) (le_t rfl) (le_t rfl) ⟨(rW (c := 0) (d := 1) (rR (x := 1)) rfl), (vc_X12_isSign_11 h17 h22 h25 h19 ht_f_number h24 hp1), (vc_X12_isSign_12 h17 h22 h25 h19 ht_f_number h24 hp1), trivial⟩
theorem vc_X12_isWord_1 {f_code : Int} (h0 : ¬ f_code = 0) (h1 : 0 ≤ f_code ∧ f_code ≤ 4) : 1 ≤ f_code ∧ f_code ≤ 4 := by omega
theorem vc_X12_isWord_2 {f_code f_number f_type p1 : Int} (h0 : ¬ f_code = 0) (h1 : 1 ≤ f_code ∧ f_code ≤ 4) (h2 : (-2147483648) ≤ f_number ∧ f_number ≤ 2147483647) (h3 : 0 ≤ f_type ∧ f_type ≤ 3) (h4 : (-2147483648) ≤ p1 ∧ p1 ≤ 2147483647) : (0 : Int) = 1 → f_code = 0 ∧ f_type = 1 ∧ f_number = p1 := by omega
theorem vc_X12_isWord_3 {f_code f_number f_type p1 : Int} (h0 : ¬ f_code = 0) (h1 : 1 ≤ f_code ∧ f_code ≤ 4) (h2 : (-2147483648) ≤ f_number ∧ f_number ≤ 2147483647) (h3 : 0 ≤ f_type ∧ f_type ≤ 3) (h4 : (-2147483648) ≤ p1 ∧ p1 ≤ 2147483647) : (0 : Int) = 0 → ¬ f_code = 0 ∨ ¬ f_type = 1 ∨ ¬ f_number = p1 := by omega
theorem vc_X12_isWord_4 {f_code : Int} (h0 : f_code = 0) (h1 : 0 ≤ f_code ∧ f_code ≤ 4) : 0 ≤ f_code ∧ f_code ≤ 0 := by omega
theorem vc_X12_isWord_5 {f_code f_number f_type p1 : Int} (h0 : f_code = 0) (h1 : ¬ f_type = 1) (h2 : 0 ≤ f_code ∧ f_code ≤ 0) (h3 : (-2147483648) ≤ f_number ∧ f_number ≤ 2147483647) (h4 : 0 ≤ f_type ∧ f_type ≤ 3) (h5 : (-2147483648) ≤ p1 ∧ p1 ≤ 2147483647) : (0 : Int) = 1 → f_code = 0 ∧ f_type = 1 ∧ f_number = p1 := by omega
theorem vc_X12_isWord_6 {f_code f_number f_type p1 : Int} (h0 : f_code = 0) (h1 : ¬ f_type = 1) (h2 : 0 ≤ f_code ∧ f_code ≤ 0) (h3 : (-2147483648) ≤ f_number ∧ f_number ≤ 2147483647) (h4 : 0 ≤ f_type ∧ f_type ≤ 3) (h5 : (-2147483648) ≤ p1 ∧ p1 ≤ 2147483647) : (0 : Int) = 0 → ¬ f_code = 0 ∨ ¬ f_type = 1 ∨ ¬ f_number = p1 := by omega
theorem vc_X12_isWord_7 {f_type : Int} (h0 : f_type = 1) (h1 : 0 ≤ f_type ∧ f_type ≤ 3) : 1 ≤ f_type ∧ f_type ≤ 1 := by omega
theorem vc_X12_isWord_8 {f_code f_number f_type p1 : Int} (h0 : f_code = 0) (h1 : f_type = 1) (h2 : ¬ f_number = p1) (h3 : 0 ≤ f_code ∧ f_code ≤ 0) (h4 : (-2147483648) ≤ f_number ∧ f_number ≤ 2147483647) (h5 : 1 ≤ f_type ∧ f_type ≤ 1) (h6 : (-2147483648) ≤ p1 ∧ p1 ≤ 2147483647) : (0 : Int) = 1 → f_code = 0 ∧ f_type = 1 ∧ f_number = p1 := by omega
theorem vc_X12_isWord_9 {f_code f_number f_type p1 : Int} (h0 : f_code = 0) (h1 : f_type = 1) (h2 : ¬ f_number = p1) (h3 : 0 ≤ f_code ∧ f_code ≤ 0) (h4 : (-2147483648) ≤ f_number ∧ f_number ≤ 2147483647) (h5 : 1 ≤ f_type ∧ f_type ≤ 1) (h6 : (-2147483648) ≤ p1 ∧ p1 ≤ 2147483647) : (0 : Int) = 0 → ¬ f_code = 0 ∨ ¬ f_type = 1 ∨ ¬ f_number = p1 := by omega
theorem vc_X12_isWord_10 {f_code f_number f_type p1 : Int} (h0 : f_code = 0) (h1 : f_type = 1) (h2 : f_number = p1) (h3 : 0 ≤ f_code ∧ f_code ≤ 0) (h4 : (-2147483648) ≤ f_number ∧ f_number ≤ 2147483647) (h5 : 1 ≤ f_type ∧ f_type ≤ 1) (h6 : (-2147483648) ≤ p1 ∧ p1 ≤ 2147483647) : (1 : Int) = 1 → f_code = 0 ∧ f_type = 1 ∧ f_number = p1 := by omega
theorem vc_X12_isWord_11 {f_code f_number f_type p1 : Int} (h0 : f_code = 0) (h1 : f_type = 1) (h2 : f_number = p1) (h3 : 0 ≤ f_code ∧ f_code ≤ 0) (h4 : (-2147483648) ≤ f_number ∧ f_number ≤ 2147483647) (h5 : 1 ≤ f_type ∧ f_type ≤ 1) (h6 : (-2147483648) ≤ p1 ∧ p1 ≤ 2147483647) : (1 : Int) = 0 → ¬ f_code = 0 ∨ ¬ f_type = 1 ∨ ¬ f_number = p1 := by omega
set_option maxRecDepth 4000 in
set_option maxHeartbeats 4000000 in
theorem c_X12_isWord {l : Launch} {D : va_G} {c : Nat → ClassId} {H0 : Heap} {sa : Nat × Nat × (Nat → Int32)} {w : mW} {μ : mM} (hw : mWF w) (hT : mT w μ) {p1 : Int} (hp1 : (-2147483648) ≤ p1 ∧ p1 ≤ 2147483647) {f_code : Int} (q_f_code : μ 106 37 = f_code) {f_type : Int} (q_f_type : μ 106 35 = f_type) {f_number : Int} (q_f_number : μ 106 36 = f_number) : sC (gG l D c H0 sa) mX12_isWord 1 0 0 [.ref 106, iv p1] (mk w μ) (qP w μ (fun z => (0 ≤ z ∧ z ≤ 1) ∧ (z = 1 → f_code = 0 ∧ f_type = 1 ∧ f_number = p1) ∧ (z = 0 → ¬ f_code = 0 ∨ ¬ f_type = 1 ∨ ¬ f_number = p1) ∧ True)) := by
  refine sC.of rfl (by decide) (le_t rfl) ?_
  have ht_f_code : (0 ≤ f_code ∧ f_code ≤ 4) := by rw [← q_f_code]; exact hT 106 106 (A_106 hw) 37
  have ht_f_type : (0 ≤ f_type ∧ f_type ≤ 3) := by rw [← q_f_type]; exact hT 106 106 (A_106 hw) 35
  have ht_f_number : ((-2147483648) ≤ f_number ∧ f_number ≤ 2147483647) := by rw [← q_f_number]; exact hT 106 106 (A_106 hw) 36
  refine mr_lvE (lv' := [(0, .ref 106), (1, iv p1)]) rfl ?_
  refine sv_aload_n (pc := 0) dX12_isWord_0 rfl rfl ?_
  refine gk_X12_37 (pc := 1) dX12_isWord_1 wF_X12_215 (A_106 hw) q_f_code ?_
  refine mr_if_ne (pc := 4) (tgt := 27) dX12_isWord_4 (by decide) (r32 ht_f_code rfl) (fun h13 => ?_) (fun h13 => ?_)
  · have h14 : 1 ≤ f_code ∧ f_code ≤ 4 := (vc_X12_isWord_1 h13 ht_f_code)
    refine mr_iconst (pc := 27) (z := 0) dX12_isWord_27 ?_
    exact mr_zretP dX12_isWord_28 rfl (rW (c := 0) (d := 1) (rR (x := 0)) rfl) (le_t rfl) (le_t rfl) ⟨(rW (c := 0) (d := 1) (rR (x := 0)) rfl), (vc_X12_isWord_2 h13 h14 ht_f_number ht_f_type hp1), (vc_X12_isWord_3 h13 h14 ht_f_number ht_f_type hp1), trivial⟩
  have h15 : 0 ≤ f_code ∧ f_code ≤ 0 := (vc_X12_isWord_4 h13 ht_f_code)
  refine sv_aload_n (pc := 7) dX12_isWord_7 rfl rfl ?_
  refine gk_X12_35 (pc := 8) dX12_isWord_8 wF_X12_230 (A_106 hw) q_f_type ?_
  refine mr_iconst (pc := 11) (z := 1) dX12_isWord_11 ?_
  refine mr_icmp_ne (pc := 12) (tgt := 27) dX12_isWord_12 (by decide) (r32 ht_f_type rfl) (r32 (rR (x := 1)) rfl) (fun h17 => ?_) (fun h17 => ?_)
  · refine mr_iconst (pc := 27) (z := 0) dX12_isWord_27 ?_
    exact mr_zretP dX12_isWord_28 rfl (rW (c := 0) (d := 1) (rR (x := 0)) rfl) (le_t rfl) (le_t rfl) ⟨(rW (c := 0) (d := 1) (rR (x := 0)) rfl), (vc_X12_isWord_5 h13 h17 h15 ht_f_number ht_f_type hp1), (vc_X12_isWord_6 h13 h17 h15 ht_f_number ht_f_type hp1), trivial⟩
  have h18 : 1 ≤ f_type ∧ f_type ≤ 1 := (vc_X12_isWord_7 h17 ht_f_type)
  refine sv_aload_n (pc := 15) dX12_isWord_15 rfl rfl ?_
  refine gk_X12_36 (pc := 16) dX12_isWord_16 wF_X12_233 (A_106 hw) q_f_number ?_
  refine mr_iload_n (pc := 19) (z := p1) dX12_isWord_19 rfl rfl ?_
  refine mr_icmp_ne (pc := 20) (tgt := 27) dX12_isWord_20 (by decide) ht_f_number hp1 (fun h19 => ?_) (fun h19 => ?_)
  · refine mr_iconst (pc := 27) (z := 0) dX12_isWord_27 ?_
    exact mr_zretP dX12_isWord_28 rfl (rW (c := 0) (d := 1) (rR (x := 0)) rfl) (le_t rfl) (le_t rfl) ⟨(rW (c := 0) (d := 1) (rR (x := 0)) rfl), (vc_X12_isWord_8 h13 h17 h19 h15 ht_f_number h18 hp1), (vc_X12_isWord_9 h13 h17 h19 h15 ht_f_number h18 hp1), trivial⟩
  refine mr_iconst (pc := 23) (z := 1) dX12_isWord_23 ?_
  refine sv_goto (pc := 24) (tgt := 28) dX12_isWord_24 (by decide) ?_
  exact mr_zretP dX12_isWord_28 rfl (rW (c := 0) (d := 1) (rR (x := 1)) rfl) (le_t rfl) (le_t rfl) ⟨(rW (c := 0) (d := 1) (rR (x := 1)) rfl), (vc_X12_isWord_10 h13 h17 h19 h15 ht_f_number h18 hp1), (vc_X12_isWord_11 h13 h17 h19 h15 ht_f_number h18 hp1), trivial⟩
set_option maxRecDepth 4000 in
set_option maxHeartbeats 4000000 in
theorem c_X12_freshRow {l : Launch} {D : va_G} {c : Nat → ClassId} {H0 : Heap} {sa : Nat × Nat × (Nat → Int32)} {w : mW} {μ : mM} (hw : mWF w) (hT : mT w μ) : sC (gG l D c H0 sa) mX12_freshRow 1 0 0 [.ref 106] (mk w μ) (qV w [148999, 149999, 150999] μ (fun μ1 => True)) := by
  refine sC.of rfl (by decide) (le_t rfl) ?_
  refine mr_lvE (lv' := [(0, .ref 106)]) rfl ?_
  refine sv_aload_n (pc := 0) dX12_freshRow_0 rfl rfl ?_
  refine gf_X12_63 (pc := 1) dX12_freshRow_1 wF_X12_266 (A_106 hw) hT ?_
  refine sv_aload_n (pc := 4) dX12_freshRow_4 rfl rfl ?_
  refine gf_X12_59 (pc := 5) dX12_freshRow_5 wF_X12_254 (A_106 hw) hT fun z1 q2 h3 => ?_
  refine mr_lconst (pc := 8) (z := 0) dX12_freshRow_8 (by decide) ?_
  refine ss_148 (pc := 9) dX12_freshRow_9 (A_148 hw) hT (rIx (n := 10) h3 rfl) (rW (c := -9223372036854775808) (d := 9223372036854775807) (rR (x := 0)) rfl) fun μ4 u5 T6 => ?_
  refine sv_aload_n (pc := 10) dX12_freshRow_10 rfl rfl ?_
  refine gf_X12_64 (pc := 11) dX12_freshRow_11 wF_X12_269 (A_106 hw) T6 ?_
  refine sv_aload_n (pc := 14) dX12_freshRow_14 rfl rfl ?_
  refine gk_X12_59 (pc := 15) dX12_freshRow_15 wF_X12_254 (A_106 hw) (u5.f (Or.inl (mAt.ne (A_148 hw) (A_106 hw) rfl)) q2) ?_
  refine mr_lconst (pc := 18) (z := 0) dX12_freshRow_18 (by decide) ?_
  refine ss_149 (pc := 19) dX12_freshRow_19 (A_149 hw) T6 (rIx (n := 10) h3 rfl) (rW (c := -9223372036854775808) (d := 9223372036854775807) (rR (x := 0)) rfl) fun μ7 u8 T9 => ?_
  refine sv_aload_n (pc := 20) dX12_freshRow_20 rfl rfl ?_
  refine gf_X12_65 (pc := 21) dX12_freshRow_21 wF_X12_272 (A_106 hw) T9 ?_
  refine sv_aload_n (pc := 24) dX12_freshRow_24 rfl rfl ?_
  refine gk_X12_59 (pc := 25) dX12_freshRow_25 wF_X12_254 (A_106 hw) (u8.f (Or.inl (mAt.ne (A_149 hw) (A_106 hw) rfl)) (u5.f (Or.inl (mAt.ne (A_148 hw) (A_106 hw) rfl)) q2)) ?_
  refine mr_iconst (pc := 28) (z := 1) dX12_freshRow_28 ?_
  refine ss_150 (pc := 29) dX12_freshRow_29 (A_150 hw) T9 (rIx (n := 10) h3 rfl) (rW (c := 0) (d := 1) (rR (x := 1)) rfl) fun μ10 u11 T12 => ?_
  exact mr_vret dX12_freshRow_30 rfl (le_t rfl) (le_t rfl) T12 (mF.up (mF.up (mF.up mF.refl (A_148 hw) u5 rfl) (A_149 hw) u8 rfl) (A_150 hw) u11 rfl) trivial
theorem vc_X12_openLevel_1 {f_levels : Int} (h0 : f_levels ≤ 5) (h1 : 0 ≤ f_levels ∧ f_levels ≤ 6) : 0 ≤ f_levels ∧ f_levels ≤ 5 := by omega
theorem vc_X12_openLevel_2 {f_levels : Int} (h0 : f_levels ≤ 5) (h1 : 0 ≤ f_levels ∧ f_levels ≤ 5) : (f_levels + 1) = f_levels + 1 := by omega
set_option maxRecDepth 4000 in
set_option maxHeartbeats 4000000 in
theorem c_X12_openLevel {l : Launch} {D : va_G} {c : Nat → ClassId} {H0 : Heap} {sa : Nat × Nat × (Nat → Int32)} {w : mW} {μ : mM} (hw : mWF w) (hT : mT w μ) {f_levels : Int} (q_f_levels : μ 106 59 = f_levels) (hq0 : f_levels ≤ 5) : sC (gG l D c H0 sa) mX12_openLevel 2 0 0 [.ref 106] (mk w μ) (qV w [106059, 145999, 146999, 147999, 148999, 149999, 150999] μ (fun μ1 => ∃ o_levels : Int, μ1 106 59 = o_levels ∧ (o_levels = f_levels + 1) ∧ True)) := by
  refine sC.of rfl (by decide) (le_t rfl) ?_
  have ht_f_levels : (0 ≤ f_levels ∧ f_levels ≤ 6) := by rw [← q_f_levels]; exact hT 106 106 (A_106 hw) 59
  have h1 : 0 ≤ f_levels ∧ f_levels ≤ 5 := (vc_X12_openLevel_1 hq0 ht_f_levels)
  refine mr_lvE (lv' := [(0, .ref 106)]) rfl ?_
  refine sv_aload_n (pc := 0) dX12_openLevel_0 rfl rfl ?_
  refine gf_X12_60 (pc := 1) dX12_openLevel_1 wF_X12_250 (A_106 hw) hT ?_
  refine sv_aload_n (pc := 4) dX12_openLevel_4 rfl rfl ?_
  refine gk_X12_59 (pc := 5) dX12_openLevel_5 wF_X12_254 (A_106 hw) q_f_levels ?_
  refine mr_lconst (pc := 8) (z := 0) dX12_openLevel_8 (by decide) ?_
  refine ss_145 (pc := 9) dX12_openLevel_9 (A_145 hw) hT (rIx (n := 10) h1 rfl) (rW (c := -9223372036854775808) (d := 9223372036854775807) (rR (x := 0)) rfl) fun μ50 u51 T52 => ?_
  refine sv_aload_n (pc := 10) dX12_openLevel_10 rfl rfl ?_
  refine gf_X12_61 (pc := 11) dX12_openLevel_11 wF_X12_257 (A_106 hw) T52 ?_
  refine sv_aload_n (pc := 14) dX12_openLevel_14 rfl rfl ?_
  refine gk_X12_59 (pc := 15) dX12_openLevel_15 wF_X12_254 (A_106 hw) (u51.f (Or.inl (mAt.ne (A_145 hw) (A_106 hw) rfl)) q_f_levels) ?_
  refine mr_lconst (pc := 18) (z := 0) dX12_openLevel_18 (by decide) ?_
  refine ss_146 (pc := 19) dX12_openLevel_19 (A_146 hw) T52 (rIx (n := 10) h1 rfl) (rW (c := -9223372036854775808) (d := 9223372036854775807) (rR (x := 0)) rfl) fun μ53 u54 T55 => ?_
  refine sv_aload_n (pc := 20) dX12_openLevel_20 rfl rfl ?_
  refine gf_X12_62 (pc := 21) dX12_openLevel_21 wF_X12_260 (A_106 hw) T55 ?_
  refine sv_aload_n (pc := 24) dX12_openLevel_24 rfl rfl ?_
  refine gk_X12_59 (pc := 25) dX12_openLevel_25 wF_X12_254 (A_106 hw) (u54.f (Or.inl (mAt.ne (A_146 hw) (A_106 hw) rfl)) (u51.f (Or.inl (mAt.ne (A_145 hw) (A_106 hw) rfl)) q_f_levels)) ?_
  refine mr_iconst (pc := 28) (z := 0) dX12_openLevel_28 ?_
  refine ss_147 (pc := 29) dX12_openLevel_29 (A_147 hw) T55 (rIx (n := 10) h1 rfl) (rW (c := 0) (d := 1) (rR (x := 0)) rfl) fun μ56 u57 T58 => ?_
  refine sv_aload_n (pc := 30) dX12_openLevel_30 rfl rfl ?_
  refine mr_cVV (pc := 31) (c_X12_freshRow hw T58) (gOk _ _ _ _ _) dX12_openLevel_31 (tX12_freshRow _ _ _ _ _) ⟨wV_X12_freshRow, wL_X12_freshRow⟩ wM_X12_263 (gCX12 _ _ _ _ _) rfl (A_106 hw) rfl ⟨le_t rfl, le_t rfl⟩ ⟨le_t rfl, le_t rfl⟩ rfl (le_t rfl) fun μ59 T60 F61 h62 => ?_
  refine sv_aload_n (pc := 34) dX12_openLevel_34 rfl rfl ?_
  refine sv_dup (pc := 35) dX12_openLevel_35 rfl ?_
  refine gk_X12_59 (pc := 36) dX12_openLevel_36 wF_X12_254 (A_106 hw) (F61.f (A_106 hw) rfl (u57.f (Or.inl (mAt.ne (A_147 hw) (A_106 hw) rfl)) (u54.f (Or.inl (mAt.ne (A_146 hw) (A_106 hw) rfl)) (u51.f (Or.inl (mAt.ne (A_145 hw) (A_106 hw) rfl)) q_f_levels)))) ?_
  refine mr_iconst (pc := 39) (z := 1) dX12_openLevel_39 ?_
  refine mr_iadd (pc := 40) (x := f_levels) (y := 1) dX12_openLevel_40 ?_
  refine pf_X12_59 (pc := 41) dX12_openLevel_41 wF_X12_254 (A_106 hw) T60 (rW (c := 0) (d := 6) (rAdd (e := 1) (f := 6) h1 (rR (x := 1)) rfl) rfl) fun μ63 u64 T65 => ?_
  exact mr_vret dX12_openLevel_44 rfl (le_t rfl) (le_t rfl) T65 (mF.up (mF.call (mF.up (mF.up (mF.up mF.refl (A_145 hw) u51 rfl) (A_146 hw) u54 rfl) (A_147 hw) u57 rfl) F61 rfl) (A_106 hw) u64 rfl) ⟨(f_levels + 1), u64.1, (vc_X12_openLevel_2 hq0 h1), trivial⟩
theorem vc_X12_endRow_1 {f_levels : Int} (h0 : 1 ≤ f_levels) (h1 : 0 ≤ f_levels ∧ f_levels ≤ 6) : 1 ≤ f_levels ∧ f_levels ≤ 6 := by omega
theorem vc_X12_endRow_2 {z155 : Int} (h0 : ¬ z155 = 0) (h1 : 0 ≤ z155 ∧ z155 ≤ 1) : 1 ≤ z155 ∧ z155 ≤ 1 := by omega
theorem vc_X12_endRow_3 {z155 : Int} (h0 : z155 = 0) (h1 : 0 ≤ z155 ∧ z155 ≤ 1) : 0 ≤ z155 ∧ z155 ≤ 0 := by omega
theorem vc_X12_endRow_4 {z171 : Int} (h0 : z171 = 0) (h1 : 0 ≤ z171 ∧ z171 ≤ 1) : 0 ≤ z171 ∧ z171 ≤ 0 := by omega
theorem vc_X12_endRow_5 {z171 : Int} (h0 : ¬ z171 = 0) (h1 : 0 ≤ z171 ∧ z171 ≤ 1) : 1 ≤ z171 ∧ z171 ≤ 1 := by omega
set_option maxRecDepth 4000 in
set_option maxHeartbeats 4000000 in
theorem c_X12_endRow {l : Launch} {D : va_G} {c : Nat → ClassId} {H0 : Heap} {sa : Nat × Nat × (Nat → Int32)} {w : mW} {μ : mM} (hw : mWF w) (hT : mT w μ) {f_levels : Int} (q_f_levels : μ 106 59 = f_levels) (hq0 : 1 ≤ f_levels) : sC (gG l D c H0 sa) mX12_endRow 1 0 0 [.ref 106] (mk w μ) (qV w [145999, 146999, 147999] μ (fun μ1 => True)) := by
  refine sC.of rfl (by decide) (le_t rfl) ?_
  have ht_f_levels : (0 ≤ f_levels ∧ f_levels ≤ 6) := by rw [← q_f_levels]; exact hT 106 106 (A_106 hw) 59
  have h1 : 1 ≤ f_levels ∧ f_levels ≤ 6 := (vc_X12_endRow_1 hq0 ht_f_levels)
  refine mr_lvE (lv' := [(0, .ref 106)]) rfl ?_
  refine sv_aload_n (pc := 0) dX12_endRow_0 rfl rfl ?_
  refine gk_X12_59 (pc := 1) dX12_endRow_1 wF_X12_254 (A_106 hw) q_f_levels ?_
  refine mr_iconst (pc := 4) (z := 1) dX12_endRow_4 ?_
  refine mr_isub (pc := 5) (x := f_levels) (y := 1) dX12_endRow_5 ?_
  refine mr_istore_n (pc := 6) (lv' := [(1, iv (f_levels - 1)), (0, .ref 106)]) dX12_endRow_6 rfl (by decide) rfl ?_
  refine sv_aload_n (pc := 7) dX12_endRow_7 rfl rfl ?_
  refine gf_X12_60 (pc := 8) dX12_endRow_8 wF_X12_250 (A_106 hw) hT ?_
  refine mr_iload_n (pc := 11) (z := (f_levels - 1)) dX12_endRow_11 rfl rfl ?_
  refine sv_dup2 (pc := 12) dX12_endRow_12 rfl rfl ?_
  refine la_145 (pc := 13) dX12_endRow_13 (A_145 hw) hT (rIx (n := 10) (rSub (e := 0) (f := 5) h1 (rR (x := 1)) rfl) rfl) fun z131 q132 h133 => ?_
  refine sv_aload_n (pc := 14) dX12_endRow_14 rfl rfl ?_
  refine gf_X12_63 (pc := 15) dX12_endRow_15 wF_X12_266 (A_106 hw) hT ?_
  refine mr_iload_n (pc := 18) (z := (f_levels - 1)) dX12_endRow_18 rfl rfl ?_
  refine la_148 (pc := 19) dX12_endRow_19 (A_148 hw) hT (rIx (n := 10) (rSub (e := 0) (f := 5) h1 (rR (x := 1)) rfl) rfl) fun z134 q135 h136 => ?_
  refine mr_lor (pc := 20) dX12_endRow_20 ?_
  refine mr_genL (r64i _) fun z137 q138 h139 => ?_
  refine ss_145 (pc := 21) dX12_endRow_21 (A_145 hw) hT (rIx (n := 10) (rSub (e := 0) (f := 5) h1 (rR (x := 1)) rfl) rfl) h139 fun μ140 u141 T142 => ?_
  refine sv_aload_n (pc := 22) dX12_endRow_22 rfl rfl ?_
  refine gf_X12_61 (pc := 23) dX12_endRow_23 wF_X12_257 (A_106 hw) T142 ?_
  refine mr_iload_n (pc := 26) (z := (f_levels - 1)) dX12_endRow_26 rfl rfl ?_
  refine sv_dup2 (pc := 27) dX12_endRow_27 rfl rfl ?_
  refine la_146 (pc := 28) dX12_endRow_28 (A_146 hw) T142 (rIx (n := 10) (rSub (e := 0) (f := 5) h1 (rR (x := 1)) rfl) rfl) fun z143 q144 h145 => ?_
  refine sv_aload_n (pc := 29) dX12_endRow_29 rfl rfl ?_
  refine gf_X12_64 (pc := 30) dX12_endRow_30 wF_X12_269 (A_106 hw) T142 ?_
  refine mr_iload_n (pc := 33) (z := (f_levels - 1)) dX12_endRow_33 rfl rfl ?_
  refine la_149 (pc := 34) dX12_endRow_34 (A_149 hw) T142 (rIx (n := 10) (rSub (e := 0) (f := 5) h1 (rR (x := 1)) rfl) rfl) fun z146 q147 h148 => ?_
  refine mr_lor (pc := 35) dX12_endRow_35 ?_
  refine mr_genL (r64i _) fun z149 q150 h151 => ?_
  refine ss_146 (pc := 36) dX12_endRow_36 (A_146 hw) T142 (rIx (n := 10) (rSub (e := 0) (f := 5) h1 (rR (x := 1)) rfl) rfl) h151 fun μ152 u153 T154 => ?_
  refine sv_aload_n (pc := 37) dX12_endRow_37 rfl rfl ?_
  refine gf_X12_62 (pc := 38) dX12_endRow_38 wF_X12_260 (A_106 hw) T154 ?_
  refine mr_iload_n (pc := 41) (z := (f_levels - 1)) dX12_endRow_41 rfl rfl ?_
  refine sv_aload_n (pc := 42) dX12_endRow_42 rfl rfl ?_
  refine gf_X12_62 (pc := 43) dX12_endRow_43 wF_X12_260 (A_106 hw) T154 ?_
  refine mr_iload_n (pc := 46) (z := (f_levels - 1)) dX12_endRow_46 rfl rfl ?_
  refine la_147 (pc := 47) dX12_endRow_47 (A_147 hw) T154 (rIx (n := 10) (rSub (e := 0) (f := 5) h1 (rR (x := 1)) rfl) rfl) fun z155 q156 h157 => ?_
  refine mr_if_ne (pc := 48) (tgt := 60) dX12_endRow_48 (by decide) (r32 h157 rfl) (fun h165 => ?_) (fun h165 => ?_)
  · have h166 : 1 ≤ z155 ∧ z155 ≤ 1 := (vc_X12_endRow_2 h165 h157)
    refine mr_iconst (pc := 60) (z := 1) dX12_endRow_60 ?_
    refine sv_goto (pc := 61) (tgt := 65) dX12_endRow_61 (by decide) ?_
    refine ss_147 (pc := 65) dX12_endRow_65 (A_147 hw) T154 (rIx (n := 10) (rSub (e := 0) (f := 5) h1 (rR (x := 1)) rfl) rfl) (rW (c := 0) (d := 1) (rR (x := 1)) rfl) fun μ167 u168 T169 => ?_
    exact mr_vret dX12_endRow_66 rfl (le_t rfl) (le_t rfl) T169 (mF.up (mF.up (mF.up mF.refl (A_145 hw) u141 rfl) (A_146 hw) u153 rfl) (A_147 hw) u168 rfl) trivial
  have h170 : 0 ≤ z155 ∧ z155 ≤ 0 := (vc_X12_endRow_3 h165 h157)
  refine sv_aload_n (pc := 51) dX12_endRow_51 rfl rfl ?_
  refine gf_X12_65 (pc := 52) dX12_endRow_52 wF_X12_272 (A_106 hw) T154 ?_
  refine mr_iload_n (pc := 55) (z := (f_levels - 1)) dX12_endRow_55 rfl rfl ?_
  refine la_150 (pc := 56) dX12_endRow_56 (A_150 hw) T154 (rIx (n := 10) (rSub (e := 0) (f := 5) h1 (rR (x := 1)) rfl) rfl) fun z171 q172 h173 => ?_
  refine mr_if_eq (pc := 57) (tgt := 64) dX12_endRow_57 (by decide) (r32 h173 rfl) (fun h176 => ?_) (fun h176 => ?_)
  · have h177 : 0 ≤ z171 ∧ z171 ≤ 0 := (vc_X12_endRow_4 h176 h173)
    refine mr_iconst (pc := 64) (z := 0) dX12_endRow_64 ?_
    refine ss_147 (pc := 65) dX12_endRow_65 (A_147 hw) T154 (rIx (n := 10) (rSub (e := 0) (f := 5) h1 (rR (x := 1)) rfl) rfl) (rW (c := 0) (d := 1) (rR (x := 0)) rfl) fun μ178 u179 T180 => ?_
    exact mr_vret dX12_endRow_66 rfl (le_t rfl) (le_t rfl) T180 (mF.up (mF.up (mF.up mF.refl (A_145 hw) u141 rfl) (A_146 hw) u153 rfl) (A_147 hw) u179 rfl) trivial
  have h181 : 1 ≤ z171 ∧ z171 ≤ 1 := (vc_X12_endRow_5 h176 h173)
  refine mr_iconst (pc := 60) (z := 1) dX12_endRow_60 ?_
  refine sv_goto (pc := 61) (tgt := 65) dX12_endRow_61 (by decide) ?_
  refine ss_147 (pc := 65) dX12_endRow_65 (A_147 hw) T154 (rIx (n := 10) (rSub (e := 0) (f := 5) h1 (rR (x := 1)) rfl) rfl) (rW (c := 0) (d := 1) (rR (x := 1)) rfl) fun μ182 u183 T184 => ?_
  exact mr_vret dX12_endRow_66 rfl (le_t rfl) (le_t rfl) T184 (mF.up (mF.up (mF.up mF.refl (A_145 hw) u141 rfl) (A_146 hw) u153 rfl) (A_147 hw) u183 rfl) trivial
theorem vc_X12_follows_1 {z269 : Int} (h0 : (42 - z269) < ((0 : Nat) : Int)) (h1 : 0 ≤ z269 ∧ z269 ≤ 41) : False := by omega
theorem vc_X12_follows_2 {z269 : Int} (h0 : 41 ≤ z269) (h1 : 0 ≤ z269 ∧ z269 ≤ 41) : 41 ≤ z269 ∧ z269 ≤ 41 := by omega
theorem vc_X12_follows_3 {z269 : Int} (h0 : z269 < 41) (h1 : 0 ≤ z269 ∧ z269 ≤ 41) : 0 ≤ z269 ∧ z269 ≤ 40 := by omega
theorem vc_X12_follows_4 {N z269 : Int} (h0 : (42 - z269) < N + 1) (h1 : z269 < 41) (h2 : 0 ≤ z269 ∧ z269 ≤ 40) : (42 - (z269 + 1)) < N := by omega
theorem vc_X12_follows_5 {z311 : Int} (h0 : z311 = 0) (h1 : (-1) ≤ z311 ∧ z311 ≤ 1) : 0 ≤ z311 ∧ z311 ≤ 0 := by omega
theorem vc_X12_follows_6  : (42 - 0) < ((43 : Nat) : Int) := by omega
set_option maxRecDepth 4000 in
set_option maxHeartbeats 4000000 in
theorem c_X12_follows {l : Launch} {D : va_G} {c : Nat → ClassId} {H0 : Heap} {sa : Nat × Nat × (Nat → Int32)} {w : mW} {μ : mM} (hw : mWF w) (hT : mT w μ) {p1 : Int} (hp1 : (-9223372036854775808) ≤ p1 ∧ p1 ≤ 9223372036854775807) {p2 : Int} (hp2 : (-9223372036854775808) ≤ p2 ∧ p2 ≤ 9223372036854775807) : sC (gG l D c H0 sa) mX12_follows 1 0 0 [.ref 106, jv p1, jv p2] (mk w μ) (qV w [144999] μ (fun μ1 => True)) := by
  refine sC.of rfl (by decide) (le_t rfl) ?_
  refine mr_lvE (lv' := [(0, .ref 106), (1, jv p1), (3, jv p2)]) rfl ?_
  refine mr_iconst (pc := 0) (z := 0) dX12_follows_0 ?_
  refine mr_istore (pc := 1) (lv' := [(5, iv 0), (0, .ref 106), (1, jv p1), (3, jv p2)]) dX12_follows_1 (by decide) rfl ?_
  have L271 : ∀ (nL271 : Nat) (z269 : Int) (μ270 : mM), mT w μ270 → mF [144999] w μ μ270 → (0 ≤ z269 ∧ z269 ≤ 41) → (42 - z269) < (nL271 : Int) → sV (gG l D c H0 sa) mX12_follows (sRm 1 0 0) (sZ (gG l D c H0 sa) 0 0 (qV w [144999] μ (fun μ1 => True))) 3 [(0, .ref 106), (1, jv p1), (3, jv p2), (5, iv z269)] [] (mk w μ270) 0 0 := by
    intro nL271
    induction nL271 with
    | zero => intro z269 μ270 T273 F274 h272 h276; exact ((vc_X12_follows_1 h276 h272)).elim
    | succ nL271 ih277 =>
      intro z269 μ270 T273 F274 h272 h276
      refine mr_iload (pc := 3) (z := z269) dX12_follows_3 rfl ?_
      refine mr_bipush (pc := 5) (z := 41) dX12_follows_5 (by decide) ?_
      refine mr_icmp_ge (pc := 7) (tgt := 46) dX12_follows_7 (by decide) (r32 h272 rfl) (r32 (rR (x := 41)) rfl) (fun h302 => ?_) (fun h302 => ?_)
      · have h303 : 41 ≤ z269 ∧ z269 ≤ 41 := (vc_X12_follows_2 h302 h272)
        exact mr_vret dX12_follows_46 rfl (le_t rfl) (le_t rfl) T273 (mF.call mF.refl F274 rfl) trivial
      have h304 : 0 ≤ z269 ∧ z269 ≤ 40 := (vc_X12_follows_3 h302 h272)
      refine mr_lload_n (pc := 10) (z := p1) dX12_follows_10 rfl rfl ?_
      refine mr_iload (pc := 11) (z := z269) dX12_follows_11 rfl ?_
      refine mr_lshr (pc := 13) dX12_follows_13 ?_
      refine mr_genL (r64i _) fun z305 q306 h307 => ?_
      refine mr_lconst (pc := 14) (z := 1) dX12_follows_14 (by decide) ?_
      refine mr_land (pc := 15) dX12_follows_15 ?_
      refine mr_genL (r64i _) fun z308 q309 h310 => ?_
      refine mr_lconst (pc := 16) (z := 1) dX12_follows_16 (by decide) ?_
      refine mr_lcmp (pc := 17) dX12_follows_17 ?_
      refine mr_gen (P := fun z => (-1) ≤ z ∧ z ≤ 1) (lg_cmp_r _ _) fun z311 q312 h313 => ?_
      refine mr_if_ne (pc := 18) (tgt := 40) dX12_follows_18 (by decide) (r32 h313 rfl) (fun h327 => ?_) (fun h327 => ?_)
      · refine mr_iinc (pc := 40) (lv' := [(5, iv (z269 + 1)), (0, .ref 106), (1, jv p1), (3, jv p2)]) dX12_follows_40 rfl (by decide) rfl ?_
        refine sv_goto (pc := 43) (tgt := 3) dX12_follows_43 (by decide) ?_
        refine mr_lvS (lv' := [(0, .ref 106), (1, jv p1), (3, jv p2), (5, iv (z269 + 1))]) (List.forall_mem_cons.mpr ⟨rfl, List.forall_mem_cons.mpr ⟨rfl, List.forall_mem_cons.mpr ⟨rfl, List.forall_mem_cons.mpr ⟨rfl, fun _ h => absurd h List.not_mem_nil⟩⟩⟩⟩) ?_
        exact ih277 (z269 + 1) μ270 T273 (mF.call mF.refl F274 rfl) (rW (c := 0) (d := 41) (rAdd (e := 1) (f := 41) h304 (rR (x := 1)) rfl) rfl) (vc_X12_follows_4 (nS h276) h302 h304)
      have h328 : 0 ≤ z311 ∧ z311 ≤ 0 := (vc_X12_follows_5 h327 h313)
      refine sv_aload_n (pc := 21) dX12_follows_21 rfl rfl ?_
      refine gf_X12_57 (pc := 22) dX12_follows_22 wF_X12_275 (A_106 hw) T273 ?_
      refine mr_bipush (pc := 25) (z := 41) dX12_follows_25 (by decide) ?_
      refine sv_aload_n (pc := 27) dX12_follows_27 rfl rfl ?_
      refine gf_X12_58 (pc := 28) dX12_follows_28 wF_X12_278 (A_106 hw) T273 fun z329 q330 h331 => ?_
      refine mr_imul (pc := 31) (x := 41) (y := z329) dX12_follows_31 ?_
      refine mr_iload (pc := 32) (z := z269) dX12_follows_32 rfl ?_
      refine mr_iadd (pc := 34) (x := (41 * z329)) (y := z269) dX12_follows_34 ?_
      refine sv_dup2 (pc := 35) dX12_follows_35 rfl rfl ?_
      refine la_144 (pc := 36) dX12_follows_36 (A_144 hw) T273 (rIx (n := 533) (rAdd (e := 0) (f := 532) (rMulL (n := 41) (e := 0) (f := 492) h331 rfl) h304 rfl) rfl) fun z332 q333 h334 => ?_
      refine mr_lload_n (pc := 37) (z := p2) dX12_follows_37 rfl rfl ?_
      refine mr_lor (pc := 38) dX12_follows_38 ?_
      refine mr_genL (r64i _) fun z335 q336 h337 => ?_
      refine ss_144 (pc := 39) dX12_follows_39 (A_144 hw) T273 (rIx (n := 533) (rAdd (e := 0) (f := 532) (rMulL (n := 41) (e := 0) (f := 492) h331 rfl) h304 rfl) rfl) h337 fun μ338 u339 T340 => ?_
      refine mr_iinc (pc := 40) (lv' := [(5, iv (z269 + 1)), (0, .ref 106), (1, jv p1), (3, jv p2)]) dX12_follows_40 rfl (by decide) rfl ?_
      refine sv_goto (pc := 43) (tgt := 3) dX12_follows_43 (by decide) ?_
      refine mr_lvS (lv' := [(0, .ref 106), (1, jv p1), (3, jv p2), (5, iv (z269 + 1))]) (List.forall_mem_cons.mpr ⟨rfl, List.forall_mem_cons.mpr ⟨rfl, List.forall_mem_cons.mpr ⟨rfl, List.forall_mem_cons.mpr ⟨rfl, fun _ h => absurd h List.not_mem_nil⟩⟩⟩⟩) ?_
      exact ih277 (z269 + 1) μ338 T340 (mF.up (mF.call mF.refl F274 rfl) (A_144 hw) u339 rfl) (rW (c := 0) (d := 41) (rAdd (e := 1) (f := 41) h304 (rR (x := 1)) rfl) rfl) (vc_X12_follows_4 (nS h276) h302 h304)
  refine mr_lvS (lv' := [(0, .ref 106), (1, jv p1), (3, jv p2), (5, iv 0)]) (List.forall_mem_cons.mpr ⟨rfl, List.forall_mem_cons.mpr ⟨rfl, List.forall_mem_cons.mpr ⟨rfl, List.forall_mem_cons.mpr ⟨rfl, fun _ h => absurd h List.not_mem_nil⟩⟩⟩⟩) ?_
  exact L271 43 0 μ hT mF.refl (rW (c := 0) (d := 41) (rR (x := 0)) rfl) vc_X12_follows_6
set_option maxRecDepth 4000 in
set_option maxHeartbeats 4000000 in
theorem c_X12_fault {l : Launch} {D : va_G} {c : Nat → ClassId} {H0 : Heap} {sa : Nat × Nat × (Nat → Int32)} {w : mW} {μ : mM} (hw : mWF w) (hT : mT w μ) : sC (gG l D c H0 sa) mX12_fault 1 0 0 [.ref 106] (mk w μ) (qP w μ (fun z => ((-2147483648) ≤ z ∧ z ≤ 2147483647) ∧ True)) := by
  refine sC.of rfl (by decide) (le_t rfl) ?_
  refine mr_lvE (lv' := [(0, .ref 106)]) rfl ?_
  refine sv_aload_n (pc := 0) dX12_fault_0 rfl rfl ?_
  refine gf_X12_66 (pc := 1) dX12_fault_1 wF_X12_376 (A_106 hw) hT fun z1 q2 h3 => ?_
  exact mr_iretP dX12_fault_4 rfl (le_t rfl) (le_t rfl) ⟨(rW (c := (-2147483648)) (d := 2147483647) h3 rfl), trivial⟩
theorem vc_X12_related_1 {p1 p3 : Int} (h0 : p3 < p1) (h1 : (-2147483648) ≤ p1 ∧ p1 ≤ 2147483647) (h2 : (-2147483648) ≤ p3 ∧ p3 ≤ 2147483647) : (-2147483647) ≤ p1 ∧ p1 ≤ 2147483647 := by omega
theorem vc_X12_related_2 {p1 p3 : Int} (h0 : p3 < p1) (h1 : (-2147483647) ≤ p1 ∧ p1 ≤ 2147483647) (h2 : (-2147483648) ≤ p3 ∧ p3 ≤ 2147483647) : (-2147483648) ≤ p3 ∧ p3 ≤ 2147483646 := by omega
theorem vc_X12_related_3 {p2 : Int} (h0 : p2 = 61) (h1 : ¬ p2 = 60) (h2 : (-2147483648) ≤ p2 ∧ p2 ≤ 2147483647) : 61 ≤ p2 ∧ p2 ≤ 61 := by omega
theorem vc_X12_related_4 {p2 : Int} (h0 : p2 = 60) (h1 : (-2147483648) ≤ p2 ∧ p2 ≤ 2147483647) : 60 ≤ p2 ∧ p2 ≤ 60 := by omega
theorem vc_X12_related_5 {p1 p3 : Int} (h0 : p1 < p3) (h1 : (-2147483648) ≤ p1 ∧ p1 ≤ 2147483647) (h2 : (-2147483648) ≤ p3 ∧ p3 ≤ 2147483647) : (-2147483648) ≤ p1 ∧ p1 ≤ 2147483646 := by omega
theorem vc_X12_related_6 {p1 p3 : Int} (h0 : p1 < p3) (h1 : (-2147483648) ≤ p1 ∧ p1 ≤ 2147483646) (h2 : (-2147483648) ≤ p3 ∧ p3 ≤ 2147483647) : (-2147483647) ≤ p3 ∧ p3 ≤ 2147483647 := by omega
set_option maxRecDepth 4000 in
set_option maxHeartbeats 4000000 in
theorem c_X12_related {l : Launch} {D : va_G} {c : Nat → ClassId} {H0 : Heap} {sa : Nat × Nat × (Nat → Int32)} {w : mW} {μ : mM} (hw : mWF w) (hT : mT w μ) {p1 : Int} (hp1 : (-2147483648) ≤ p1 ∧ p1 ≤ 2147483647) {p2 : Int} (hp2 : (-2147483648) ≤ p2 ∧ p2 ≤ 2147483647) {p3 : Int} (hp3 : (-2147483648) ≤ p3 ∧ p3 ≤ 2147483647) : sC (gG l D c H0 sa) mX12_related 1 0 0 [.ref 106, iv p1, iv p2, iv p3] (mk w μ) (qP w μ (fun z => (0 ≤ z ∧ z ≤ 1) ∧ True)) := by
  refine sC.of rfl (by decide) (le_t rfl) ?_
  refine mr_lvE (lv' := [(0, .ref 106), (1, iv p1), (2, iv p2), (3, iv p3)]) rfl ?_
  refine mr_iload_n (pc := 0) (z := p2) dX12_related_0 rfl rfl ?_
  refine mr_bipush (pc := 1) (z := 60) dX12_related_1 (by decide) ?_
  refine mr_icmp_ne (pc := 3) (tgt := 19) dX12_related_3 (by decide) hp2 (r32 (rR (x := 60)) rfl) (fun h7 => ?_) (fun h7 => ?_)
  · refine mr_iload_n (pc := 19) (z := p2) dX12_related_19 rfl rfl ?_
    refine mr_bipush (pc := 20) (z := 61) dX12_related_20 (by decide) ?_
    refine mr_icmp_ne (pc := 22) (tgt := 38) dX12_related_22 (by decide) hp2 (r32 (rR (x := 61)) rfl) (fun h11 => ?_) (fun h11 => ?_)
    · refine mr_iload_n (pc := 38) (z := p1) dX12_related_38 rfl rfl ?_
      refine mr_iload_n (pc := 39) (z := p3) dX12_related_39 rfl rfl ?_
      refine mr_icmp_le (pc := 40) (tgt := 47) dX12_related_40 (by decide) hp1 hp3 (fun h14 => ?_) (fun h14 => ?_)
      · refine mr_iconst (pc := 47) (z := 0) dX12_related_47 ?_
        exact mr_zretP dX12_related_48 rfl (rW (c := 0) (d := 1) (rR (x := 0)) rfl) (le_t rfl) (le_t rfl) ⟨(rW (c := 0) (d := 1) (rR (x := 0)) rfl), trivial⟩
      have h15 : (-2147483647) ≤ p1 ∧ p1 ≤ 2147483647 := (vc_X12_related_1 h14 hp1 hp3)
      have h16 : (-2147483648) ≤ p3 ∧ p3 ≤ 2147483646 := (vc_X12_related_2 h14 h15 hp3)
      refine mr_iconst (pc := 43) (z := 1) dX12_related_43 ?_
      refine sv_goto (pc := 44) (tgt := 48) dX12_related_44 (by decide) ?_
      exact mr_zretP dX12_related_48 rfl (rW (c := 0) (d := 1) (rR (x := 1)) rfl) (le_t rfl) (le_t rfl) ⟨(rW (c := 0) (d := 1) (rR (x := 1)) rfl), trivial⟩
    have h17 : 61 ≤ p2 ∧ p2 ≤ 61 := (vc_X12_related_3 h11 h7 hp2)
    refine mr_iload_n (pc := 25) (z := p1) dX12_related_25 rfl rfl ?_
    refine mr_iload_n (pc := 26) (z := p3) dX12_related_26 rfl rfl ?_
    refine mr_icmp_ne (pc := 27) (tgt := 34) dX12_related_27 (by decide) hp1 hp3 (fun h18 => ?_) (fun h18 => ?_)
    · refine mr_iconst (pc := 34) (z := 0) dX12_related_34 ?_
      refine sv_goto (pc := 35) (tgt := 48) dX12_related_35 (by decide) ?_
      exact mr_zretP dX12_related_48 rfl (rW (c := 0) (d := 1) (rR (x := 0)) rfl) (le_t rfl) (le_t rfl) ⟨(rW (c := 0) (d := 1) (rR (x := 0)) rfl), trivial⟩
    refine mr_iconst (pc := 30) (z := 1) dX12_related_30 ?_
    refine sv_goto (pc := 31) (tgt := 48) dX12_related_31 (by decide) ?_
    exact mr_zretP dX12_related_48 rfl (rW (c := 0) (d := 1) (rR (x := 1)) rfl) (le_t rfl) (le_t rfl) ⟨(rW (c := 0) (d := 1) (rR (x := 1)) rfl), trivial⟩
  have h19 : 60 ≤ p2 ∧ p2 ≤ 60 := (vc_X12_related_4 h7 hp2)
  refine mr_iload_n (pc := 6) (z := p1) dX12_related_6 rfl rfl ?_
  refine mr_iload_n (pc := 7) (z := p3) dX12_related_7 rfl rfl ?_
  refine mr_icmp_ge (pc := 8) (tgt := 15) dX12_related_8 (by decide) hp1 hp3 (fun h22 => ?_) (fun h22 => ?_)
  · refine mr_iconst (pc := 15) (z := 0) dX12_related_15 ?_
    refine sv_goto (pc := 16) (tgt := 48) dX12_related_16 (by decide) ?_
    exact mr_zretP dX12_related_48 rfl (rW (c := 0) (d := 1) (rR (x := 0)) rfl) (le_t rfl) (le_t rfl) ⟨(rW (c := 0) (d := 1) (rR (x := 0)) rfl), trivial⟩
  have h23 : (-2147483648) ≤ p1 ∧ p1 ≤ 2147483646 := (vc_X12_related_5 h22 hp1 hp3)
  have h24 : (-2147483647) ≤ p3 ∧ p3 ≤ 2147483647 := (vc_X12_related_6 h22 h23 hp3)
  refine mr_iconst (pc := 11) (z := 1) dX12_related_11 ?_
  refine sv_goto (pc := 12) (tgt := 48) dX12_related_12 (by decide) ?_
  exact mr_zretP dX12_related_48 rfl (rW (c := 0) (d := 1) (rR (x := 1)) rfl) (le_t rfl) (le_t rfl) ⟨(rW (c := 0) (d := 1) (rR (x := 1)) rfl), trivial⟩
theorem vc_X12_waysMatch_1 {p3 : Int} (h0 : 0 ≤ p3 ∧ p3 ≤ 2099) : ((40 * p3) + 4) % 40 = 4 := by omega
theorem vc_X12_waysMatch_2 {z4 : Int} (h0 : ¬ z4 = 0) (h1 : 0 ≤ z4 ∧ z4 ≤ 20) : 1 ≤ z4 ∧ z4 ≤ 20 := by omega
theorem vc_X12_waysMatch_3 {z2392 : Int} (h0 : (21 - z2392) < ((0 : Nat) : Int)) (h1 : 0 ≤ z2392 ∧ z2392 ≤ 20) : False := by omega
theorem vc_X12_waysMatch_4 {z2392 z4 : Int} (h0 : z4 ≤ z2392) (h1 : ¬ z4 = 0) (h2 : 0 ≤ z2392 ∧ z2392 ≤ 20) (h3 : 1 ≤ z4 ∧ z4 ≤ 20) : 1 ≤ z2392 ∧ z2392 ≤ 20 := by omega
theorem vc_X12_waysMatch_5 {z2570 : Int} (h0 : z2570 = 0) (h1 : (-1) ≤ z2570 ∧ z2570 ≤ 1) : 0 ≤ z2570 ∧ z2570 ≤ 0 := by omega
theorem vc_X12_waysMatch_6 {z2392 z4 : Int} (h0 : z2392 < z4) (h1 : ¬ z4 = 0) (h2 : 0 ≤ z2392 ∧ z2392 ≤ 20) (h3 : 1 ≤ z4 ∧ z4 ≤ 20) : 0 ≤ z2392 ∧ z2392 ≤ 19 := by omega
theorem vc_X12_waysMatch_7 {z4109 : Int} (h0 : (41 - z4109) < ((0 : Nat) : Int)) (h1 : 0 ≤ z4109 ∧ z4109 ≤ 40) : False := by omega
theorem vc_X12_waysMatch_8 {z4476 : Int} (h0 : (41 - z4476) < ((0 : Nat) : Int)) (h1 : 0 ≤ z4476 ∧ z4476 ≤ 40) : False := by omega
theorem vc_X12_waysMatch_9 {N z2392 z4 : Int} (h0 : (21 - z2392) < N + 1) (h1 : z2392 < z4) (h2 : ¬ z4 = 0) (h3 : 0 ≤ z2392 ∧ z2392 ≤ 19) (h4 : 1 ≤ z4 ∧ z4 ≤ 20) : (21 - (z2392 + 1)) < N := by omega
theorem vc_X12_waysMatch_10 {z4109 z4119 z4476 : Int} (h0 : z4476 < z4119) (h1 : z4119 ≤ z4109) (h2 : 0 ≤ z4109 ∧ z4109 ≤ 40) (h3 : 0 ≤ z4119 ∧ z4119 ≤ 40) (h4 : 0 ≤ z4476 ∧ z4476 ≤ 40) : 0 ≤ z4476 ∧ z4476 ≤ 39 := by omega
theorem vc_X12_waysMatch_11 {z4109 z4119 z4476 : Int} (h0 : z4476 < z4119) (h1 : z4119 ≤ z4109) (h2 : 0 ≤ z4109 ∧ z4109 ≤ 40) (h3 : 0 ≤ z4119 ∧ z4119 ≤ 40) (h4 : 0 ≤ z4476 ∧ z4476 ≤ 39) : 1 ≤ z4119 ∧ z4119 ≤ 40 := by omega
theorem vc_X12_waysMatch_12 {N z4109 z4119 z4476 : Int} (h0 : (41 - z4476) < N + 1) (h1 : z4476 < z4119) (h2 : z4119 ≤ z4109) (h3 : 0 ≤ z4109 ∧ z4109 ≤ 40) (h4 : 1 ≤ z4119 ∧ z4119 ≤ 40) (h5 : 0 ≤ z4476 ∧ z4476 ≤ 39) : (41 - (z4476 + 1)) < N := by omega
theorem vc_X12_waysMatch_13 {z4513 : Int} (h0 : z4513 = 0) (h1 : (-1) ≤ z4513 ∧ z4513 ≤ 1) : 0 ≤ z4513 ∧ z4513 ≤ 0 := by omega
theorem vc_X12_waysMatch_14  : (41 - 0) < ((42 : Nat) : Int) := by omega
theorem vc_X12_waysMatch_15 {z4109 z4119 : Int} (h0 : z4109 < z4119) (h1 : 0 ≤ z4109 ∧ z4109 ≤ 40) (h2 : 0 ≤ z4119 ∧ z4119 ≤ 40) : 0 ≤ z4109 ∧ z4109 ≤ 39 := by omega
theorem vc_X12_waysMatch_16 {z4109 z4119 : Int} (h0 : z4109 < z4119) (h1 : 0 ≤ z4109 ∧ z4109 ≤ 39) (h2 : 0 ≤ z4119 ∧ z4119 ≤ 40) : 1 ≤ z4119 ∧ z4119 ≤ 40 := by omega
theorem vc_X12_waysMatch_17 {N z4109 z4119 : Int} (h0 : (41 - z4109) < N + 1) (h1 : z4109 < z4119) (h2 : 0 ≤ z4109 ∧ z4109 ≤ 39) (h3 : 1 ≤ z4119 ∧ z4119 ≤ 40) : (41 - (z4109 + 1)) < N := by omega
theorem vc_X12_waysMatch_18 {z4539 : Int} (h0 : z4539 = 0) (h1 : (-1) ≤ z4539 ∧ z4539 ≤ 1) : 0 ≤ z4539 ∧ z4539 ≤ 0 := by omega
theorem vc_X12_waysMatch_19 {z4566 : Int} (h0 : z4566 < 0) (h1 : (-2147483648) ≤ z4566 ∧ z4566 ≤ 2147483647) : (-2147483648) ≤ z4566 ∧ z4566 ≤ (-1) := by omega
theorem vc_X12_waysMatch_20 {z4566 : Int} (h0 : 0 ≤ z4566) (h1 : (-2147483648) ≤ z4566 ∧ z4566 ≤ 2147483647) : 0 ≤ z4566 ∧ z4566 ≤ 2147483647 := by omega
theorem vc_X12_waysMatch_21 {p3 z2392 z4566 z4596 : Int} (h0 : z4566 = z4596) (h1 : 0 ≤ z4566) (h2 : ((((40 * p3) + 6) + z2392) % 40 = 0 → -1 ≤ z4596 ∧ z4596 ≤ 9)) (h3 : ((((40 * p3) + 6) + z2392) % 40 = 4 → 0 ≤ z4596 ∧ z4596 ≤ 20)) (h4 : ((((40 * p3) + 6) + z2392) % 40 = 5 → 0 ≤ z4596 ∧ z4596 ≤ 8)) (h5 : 0 ≤ p3 ∧ p3 ≤ 2099) (h6 : 0 ≤ z2392 ∧ z2392 ≤ 19) (h7 : 0 ≤ z4566 ∧ z4566 ≤ 2147483647) (h8 : (-2147483648) ≤ z4596 ∧ z4596 ≤ 2147483647) : 0 ≤ z4596 ∧ z4596 ≤ 2147483647 := by omega
theorem vc_X12_waysMatch_22  : (21 - 0) < ((22 : Nat) : Int) := by omega
theorem vc_X12_waysMatch_23 {z4 : Int} (h0 : z4 = 0) (h1 : 0 ≤ z4 ∧ z4 ≤ 20) : 0 ≤ z4 ∧ z4 ≤ 0 := by omega
set_option maxRecDepth 4000 in
set_option maxHeartbeats 4000000 in
theorem c_X12_waysMatch {l : Launch} {D : va_G} {c : Nat → ClassId} {H0 : Heap} {sa : Nat × Nat × (Nat → Int32)} {w : mW} {μ : mM} (hw : mWF w) (hT : mT w μ) {p1 : Int} (hp1 : 0 ≤ p1 ∧ p1 ≤ 11) {p2 : Int} (hp2 : 0 ≤ p2 ∧ p2 ≤ 3899) {p3 : Int} (hp3 : 0 ≤ p3 ∧ p3 ≤ 2099) : sC (gG l D c H0 sa) mX12_waysMatch 1 0 0 [.ref 106, iv p1, iv p2, iv p3] (mk w μ) (qP w μ (fun z => (0 ≤ z ∧ z ≤ 1) ∧ True)) := by
  refine sC.of rfl (by decide) (le_t rfl) ?_
  refine mr_lvE (lv' := [(0, .ref 106), (1, iv p1), (2, iv p2), (3, iv p3)]) rfl ?_
  refine sv_aload_n (pc := 0) dX12_waysMatch_0 rfl rfl ?_
  refine gf_X12_50 (pc := 1) dX12_waysMatch_1 wF_X12_305 (A_106 hw) hT ?_
  refine mr_iload_n (pc := 4) (z := p2) dX12_waysMatch_4 rfl rfl ?_
  refine la_137 (pc := 5) dX12_waysMatch_5 (A_137 hw) hT (rIx (n := 3900) hp2 rfl) fun z1 q2 h3 => ?_
  refine mr_lstore (pc := 6) (lv' := [(4, jv z1), (0, .ref 106), (1, iv p1), (2, iv p2), (3, iv p3)]) dX12_waysMatch_6 (by decide) rfl ?_
  refine sv_aload_n (pc := 8) dX12_waysMatch_8 rfl rfl ?_
  refine gf_X12_32 (pc := 9) dX12_waysMatch_9 wF_X12_148 (A_106 hw) hT ?_
  refine mr_bipush (pc := 12) (z := 40) dX12_waysMatch_12 (by decide) ?_
  refine mr_iload_n (pc := 14) (z := p3) dX12_waysMatch_14 rfl rfl ?_
  refine mr_imul (pc := 15) (x := 40) (y := p3) dX12_waysMatch_15 ?_
  refine mr_iconst (pc := 16) (z := 4) dX12_waysMatch_16 ?_
  refine mr_iadd (pc := 17) (x := (40 * p3)) (y := 4) dX12_waysMatch_17 ?_
  refine la_126 (pc := 18) dX12_waysMatch_18 (A_126 hw) hT (rIx (n := 84000) (rAdd (e := 4) (f := 83964) (rMulL (n := 40) (e := 0) (f := 83960) hp3 rfl) (rR (x := 4)) rfl) rfl) fun z4 q5 h6 => ?_
  have h7 : 0 ≤ z4 ∧ z4 ≤ 20 := h6.2.2.1 (vc_X12_waysMatch_1 hp3)
  refine mr_istore (pc := 19) (lv' := [(6, iv z4), (4, jv z1), (0, .ref 106), (1, iv p1), (2, iv p2), (3, iv p3)]) dX12_waysMatch_19 (by decide) rfl ?_
  refine mr_iload (pc := 21) (z := z4) dX12_waysMatch_21 rfl ?_
  refine mr_if_ne (pc := 23) (tgt := 33) dX12_waysMatch_23 (by decide) (r32 h7 rfl) (fun h8 => ?_) (fun h8 => ?_)
  · have h9 : 1 ≤ z4 ∧ z4 ≤ 20 := (vc_X12_waysMatch_2 h8 h7)
    refine mr_lconst (pc := 33) (z := 0) dX12_waysMatch_33 (by decide) ?_
    refine mr_lstore (pc := 34) (lv' := [(7, jv 0), (6, iv z4), (4, jv z1), (0, .ref 106), (1, iv p1), (2, iv p2), (3, iv p3)]) dX12_waysMatch_34 (by decide) rfl ?_
    refine mr_iconst (pc := 36) (z := 0) dX12_waysMatch_36 ?_
    refine mr_istore (pc := 37) (lv' := [(9, iv 0), (7, jv 0), (6, iv z4), (4, jv z1), (0, .ref 106), (1, iv p1), (2, iv p2), (3, iv p3)]) dX12_waysMatch_37 (by decide) rfl ?_
    have L2395 : ∀ (nL2395 : Nat) (z2394 z2393 z2392 : Int), True → ((-9223372036854775808) ≤ z2394 ∧ z2394 ≤ 9223372036854775807) → ((-9223372036854775808) ≤ z2393 ∧ z2393 ≤ 9223372036854775807) → (0 ≤ z2392 ∧ z2392 ≤ 20) → (21 - z2392) < (nL2395 : Int) → sV (gG l D c H0 sa) mX12_waysMatch (sRm 1 0 0) (sZ (gG l D c H0 sa) 0 0 (qP w μ (fun z => (0 ≤ z ∧ z ≤ 1) ∧ True))) 39 [(0, .ref 106), (1, iv p1), (2, iv p2), (3, iv p3), (4, jv z2394), (6, iv z4), (7, jv z2393), (9, iv z2392)] [] (mk w μ) 0 0 := by
      intro nL2395
      induction nL2395 with
      | zero => intro z2394 z2393 z2392 _ h2396 h2397 h2398 h2402; exact ((vc_X12_waysMatch_3 h2402 h2398)).elim
      | succ nL2395 ih2403 =>
        intro z2394 z2393 z2392 _ h2396 h2397 h2398 h2402
        refine mr_iload (pc := 39) (z := z2392) dX12_waysMatch_39 rfl ?_
        refine mr_iload (pc := 41) (z := z4) dX12_waysMatch_41 rfl ?_
        refine mr_icmp_ge (pc := 43) (tgt := 193) dX12_waysMatch_43 (by decide) (r32 h2398 rfl) (r32 h9 rfl) (fun h2562 => ?_) (fun h2562 => ?_)
        · have h2563 : 1 ≤ z2392 ∧ z2392 ≤ 20 := (vc_X12_waysMatch_4 h2562 h8 h2398 h9)
          refine mr_lload (pc := 193) (z := z2393) dX12_waysMatch_193 rfl ?_
          refine sv_aload_n (pc := 195) dX12_waysMatch_195 rfl rfl ?_
          refine gf_X12_51 (pc := 196) dX12_waysMatch_196 wF_X12_308 (A_106 hw) hT ?_
          refine mr_iload_n (pc := 199) (z := p2) dX12_waysMatch_199 rfl rfl ?_
          refine la_138 (pc := 200) dX12_waysMatch_200 (A_138 hw) hT (rIx (n := 3900) hp2 rfl) fun z2564 q2565 h2566 => ?_
          refine mr_land (pc := 201) dX12_waysMatch_201 ?_
          refine mr_genL (r64i _) fun z2567 q2568 h2569 => ?_
          refine mr_lconst (pc := 202) (z := 0) dX12_waysMatch_202 (by decide) ?_
          refine mr_lcmp (pc := 203) dX12_waysMatch_203 ?_
          refine mr_gen (P := fun z => (-1) ≤ z ∧ z ≤ 1) (lg_cmp_r _ _) fun z2570 q2571 h2572 => ?_
          refine mr_if_eq (pc := 204) (tgt := 211) dX12_waysMatch_204 (by decide) (r32 h2572 rfl) (fun h2574 => ?_) (fun h2574 => ?_)
          · have h2575 : 0 ≤ z2570 ∧ z2570 ≤ 0 := (vc_X12_waysMatch_5 h2574 h2572)
            refine mr_iconst (pc := 211) (z := 0) dX12_waysMatch_211 ?_
            exact mr_zretP dX12_waysMatch_212 rfl (rW (c := 0) (d := 1) (rR (x := 0)) rfl) (le_t rfl) (le_t rfl) ⟨(rW (c := 0) (d := 1) (rR (x := 0)) rfl), trivial⟩
          refine mr_iconst (pc := 207) (z := 1) dX12_waysMatch_207 ?_
          refine sv_goto (pc := 208) (tgt := 212) dX12_waysMatch_208 (by decide) ?_
          exact mr_zretP dX12_waysMatch_212 rfl (rW (c := 0) (d := 1) (rR (x := 1)) rfl) (le_t rfl) (le_t rfl) ⟨(rW (c := 0) (d := 1) (rR (x := 1)) rfl), trivial⟩
        have h2576 : 0 ≤ z2392 ∧ z2392 ≤ 19 := (vc_X12_waysMatch_6 h2562 h8 h2398 h9)
        refine mr_lconst (pc := 46) (z := 0) dX12_waysMatch_46 (by decide) ?_
        refine mr_lstore (pc := 47) (lv' := [(7, jv 0), (0, .ref 106), (1, iv p1), (2, iv p2), (3, iv p3), (4, jv z2394), (6, iv z4), (9, iv z2392)]) dX12_waysMatch_47 (by decide) rfl ?_
        refine mr_iconst (pc := 49) (z := 0) dX12_waysMatch_49 ?_
        refine mr_istore (pc := 50) (lv' := [(10, iv 0), (7, jv 0), (0, .ref 106), (1, iv p1), (2, iv p2), (3, iv p3), (4, jv z2394), (6, iv z4), (9, iv z2392)]) dX12_waysMatch_50 (by decide) rfl ?_
        have L4111 : ∀ (nL4111 : Nat) (z4110 z4109 : Int), True → ((-9223372036854775808) ≤ z4110 ∧ z4110 ≤ 9223372036854775807) → (0 ≤ z4109 ∧ z4109 ≤ 40) → (41 - z4109) < (nL4111 : Int) → sV (gG l D c H0 sa) mX12_waysMatch (sRm 1 0 0) (sZ (gG l D c H0 sa) 0 0 (qP w μ (fun z => (0 ≤ z ∧ z ≤ 1) ∧ True))) 52 [(0, .ref 106), (1, iv p1), (2, iv p2), (3, iv p3), (4, jv z2394), (6, iv z4), (7, jv z4110), (9, iv z2392), (10, iv z4109)] [] (mk w μ) 0 0 := by
          intro nL4111
          induction nL4111 with
          | zero => intro z4110 z4109 _ h4112 h4113 h4117; exact ((vc_X12_waysMatch_7 h4117 h4113)).elim
          | succ nL4111 ih4118 =>
            intro z4110 z4109 _ h4112 h4113 h4117
            refine mr_iload (pc := 52) (z := z4109) dX12_waysMatch_52 rfl ?_
            refine sv_aload_n (pc := 54) dX12_waysMatch_54 rfl rfl ?_
            refine gf_X12_55 (pc := 55) dX12_waysMatch_55 wF_X12_292 (A_106 hw) hT ?_
            refine mr_iload_n (pc := 58) (z := p1) dX12_waysMatch_58 rfl rfl ?_
            refine la_142 (pc := 59) dX12_waysMatch_59 (A_142 hw) hT (rIx (n := 13) hp1 rfl) fun z4119 q4120 h4121 => ?_
            refine mr_icmp_ge (pc := 60) (tgt := 135) dX12_waysMatch_60 (by decide) (r32 h4113 rfl) (r32 h4121 rfl) (fun h4155 => ?_) (fun h4155 => ?_)
            · refine mr_lconst (pc := 135) (z := 0) dX12_waysMatch_135 (by decide) ?_
              refine mr_lstore (pc := 136) (lv' := [(4, jv 0), (0, .ref 106), (1, iv p1), (2, iv p2), (3, iv p3), (6, iv z4), (7, jv z4110), (9, iv z2392), (10, iv z4109)]) dX12_waysMatch_136 (by decide) rfl ?_
              refine mr_iconst (pc := 138) (z := 0) dX12_waysMatch_138 ?_
              refine mr_istore (pc := 139) (lv' := [(10, iv 0), (4, jv 0), (0, .ref 106), (1, iv p1), (2, iv p2), (3, iv p3), (6, iv z4), (7, jv z4110), (9, iv z2392)]) dX12_waysMatch_139 (by decide) rfl ?_
              have L4478 : ∀ (nL4478 : Nat) (z4477 z4476 : Int), True → ((-9223372036854775808) ≤ z4477 ∧ z4477 ≤ 9223372036854775807) → (0 ≤ z4476 ∧ z4476 ≤ 40) → (41 - z4476) < (nL4478 : Int) → sV (gG l D c H0 sa) mX12_waysMatch (sRm 1 0 0) (sZ (gG l D c H0 sa) 0 0 (qP w μ (fun z => (0 ≤ z ∧ z ≤ 1) ∧ True))) 141 [(0, .ref 106), (1, iv p1), (2, iv p2), (3, iv p3), (4, jv z4477), (6, iv z4), (7, jv z4110), (9, iv z2392), (10, iv z4476)] [] (mk w μ) 0 0 := by
                intro nL4478
                induction nL4478 with
                | zero => intro z4477 z4476 _ h4479 h4480 h4484; exact ((vc_X12_waysMatch_8 h4484 h4480)).elim
                | succ nL4478 ih4485 =>
                  intro z4477 z4476 _ h4479 h4480 h4484
                  refine mr_iload (pc := 141) (z := z4476) dX12_waysMatch_141 rfl ?_
                  refine sv_aload_n (pc := 143) dX12_waysMatch_143 rfl rfl ?_
                  refine gf_X12_55 (pc := 144) dX12_waysMatch_144 wF_X12_292 (A_106 hw) hT ?_
                  refine mr_iload_n (pc := 147) (z := p1) dX12_waysMatch_147 rfl rfl ?_
                  refine lk_142 (pc := 148) dX12_waysMatch_148 (A_142 hw) (rIx (n := 13) hp1 rfl) q4120 ?_
                  refine mr_icmp_ge (pc := 149) (tgt := 187) dX12_waysMatch_149 (by decide) (r32 h4480 rfl) (r32 h4121 rfl) (fun h4504 => ?_) (fun h4504 => ?_)
                  · refine mr_iinc (pc := 187) (lv' := [(9, iv (z2392 + 1)), (0, .ref 106), (1, iv p1), (2, iv p2), (3, iv p3), (4, jv z4477), (6, iv z4), (7, jv z4110), (10, iv z4476)]) dX12_waysMatch_187 rfl (by decide) rfl ?_
                    refine sv_goto (pc := 190) (tgt := 39) dX12_waysMatch_190 (by decide) ?_
                    refine mr_lvS (lv' := [(0, .ref 106), (1, iv p1), (2, iv p2), (3, iv p3), (4, jv z4477), (6, iv z4), (7, jv z4110), (9, iv (z2392 + 1))]) (List.forall_mem_cons.mpr ⟨rfl, List.forall_mem_cons.mpr ⟨rfl, List.forall_mem_cons.mpr ⟨rfl, List.forall_mem_cons.mpr ⟨rfl, List.forall_mem_cons.mpr ⟨rfl, List.forall_mem_cons.mpr ⟨rfl, List.forall_mem_cons.mpr ⟨rfl, List.forall_mem_cons.mpr ⟨rfl, fun _ h => absurd h List.not_mem_nil⟩⟩⟩⟩⟩⟩⟩⟩) ?_
                    exact ih2403 z4477 z4110 (z2392 + 1) trivial h4479 h4112 (rW (c := 0) (d := 20) (rAdd (e := 1) (f := 20) h2576 (rR (x := 1)) rfl) rfl) (vc_X12_waysMatch_9 (nS h2402) h2562 h8 h2576 h9)
                  have h4505 : 0 ≤ z4476 ∧ z4476 ≤ 39 := (vc_X12_waysMatch_10 h4504 h4155 h4113 h4121 h4480)
                  have h4506 : 1 ≤ z4119 ∧ z4119 ≤ 40 := (vc_X12_waysMatch_11 h4504 h4155 h4113 h4121 h4505)
                  refine mr_lload (pc := 152) (z := z4110) dX12_waysMatch_152 rfl ?_
                  refine mr_iload (pc := 154) (z := z4476) dX12_waysMatch_154 rfl ?_
                  refine mr_lshr (pc := 156) dX12_waysMatch_156 ?_
                  refine mr_genL (r64i _) fun z4507 q4508 h4509 => ?_
                  refine mr_lconst (pc := 157) (z := 1) dX12_waysMatch_157 (by decide) ?_
                  refine mr_land (pc := 158) dX12_waysMatch_158 ?_
                  refine mr_genL (r64i _) fun z4510 q4511 h4512 => ?_
                  refine mr_lconst (pc := 159) (z := 1) dX12_waysMatch_159 (by decide) ?_
                  refine mr_lcmp (pc := 160) dX12_waysMatch_160 ?_
                  refine mr_gen (P := fun z => (-1) ≤ z ∧ z ≤ 1) (lg_cmp_r _ _) fun z4513 q4514 h4515 => ?_
                  refine mr_if_ne (pc := 161) (tgt := 181) dX12_waysMatch_161 (by decide) (r32 h4515 rfl) (fun h4523 => ?_) (fun h4523 => ?_)
                  · refine mr_iinc (pc := 181) (lv' := [(10, iv (z4476 + 1)), (0, .ref 106), (1, iv p1), (2, iv p2), (3, iv p3), (4, jv z4477), (6, iv z4), (7, jv z4110), (9, iv z2392)]) dX12_waysMatch_181 rfl (by decide) rfl ?_
                    refine sv_goto (pc := 184) (tgt := 141) dX12_waysMatch_184 (by decide) ?_
                    refine mr_lvS (lv' := [(0, .ref 106), (1, iv p1), (2, iv p2), (3, iv p3), (4, jv z4477), (6, iv z4), (7, jv z4110), (9, iv z2392), (10, iv (z4476 + 1))]) (List.forall_mem_cons.mpr ⟨rfl, List.forall_mem_cons.mpr ⟨rfl, List.forall_mem_cons.mpr ⟨rfl, List.forall_mem_cons.mpr ⟨rfl, List.forall_mem_cons.mpr ⟨rfl, List.forall_mem_cons.mpr ⟨rfl, List.forall_mem_cons.mpr ⟨rfl, List.forall_mem_cons.mpr ⟨rfl, List.forall_mem_cons.mpr ⟨rfl, fun _ h => absurd h List.not_mem_nil⟩⟩⟩⟩⟩⟩⟩⟩⟩) ?_
                    exact ih4485 z4477 (z4476 + 1) trivial h4479 (rW (c := 0) (d := 40) (rAdd (e := 1) (f := 40) h4505 (rR (x := 1)) rfl) rfl) (vc_X12_waysMatch_12 (nS h4484) h4504 h4155 h4113 h4506 h4505)
                  have h4524 : 0 ≤ z4513 ∧ z4513 ≤ 0 := (vc_X12_waysMatch_13 h4523 h4515)
                  refine mr_lload (pc := 164) (z := z4477) dX12_waysMatch_164 rfl ?_
                  refine sv_aload_n (pc := 166) dX12_waysMatch_166 rfl rfl ?_
                  refine gf_X12_57 (pc := 167) dX12_waysMatch_167 wF_X12_275 (A_106 hw) hT ?_
                  refine mr_bipush (pc := 170) (z := 41) dX12_waysMatch_170 (by decide) ?_
                  refine mr_iload_n (pc := 172) (z := p1) dX12_waysMatch_172 rfl rfl ?_
                  refine mr_imul (pc := 173) (x := 41) (y := p1) dX12_waysMatch_173 ?_
                  refine mr_iload (pc := 174) (z := z4476) dX12_waysMatch_174 rfl ?_
                  refine mr_iadd (pc := 176) (x := (41 * p1)) (y := z4476) dX12_waysMatch_176 ?_
                  refine la_144 (pc := 177) dX12_waysMatch_177 (A_144 hw) hT (rIx (n := 533) (rAdd (e := 0) (f := 490) (rMulL (n := 41) (e := 0) (f := 451) hp1 rfl) h4505 rfl) rfl) fun z4525 q4526 h4527 => ?_
                  refine mr_lor (pc := 178) dX12_waysMatch_178 ?_
                  refine mr_genL (r64i _) fun z4528 q4529 h4530 => ?_
                  refine mr_lstore (pc := 179) (lv' := [(4, jv z4528), (0, .ref 106), (1, iv p1), (2, iv p2), (3, iv p3), (6, iv z4), (7, jv z4110), (9, iv z2392), (10, iv z4476)]) dX12_waysMatch_179 (by decide) rfl ?_
                  refine mr_iinc (pc := 181) (lv' := [(10, iv (z4476 + 1)), (4, jv z4528), (0, .ref 106), (1, iv p1), (2, iv p2), (3, iv p3), (6, iv z4), (7, jv z4110), (9, iv z2392)]) dX12_waysMatch_181 rfl (by decide) rfl ?_
                  refine sv_goto (pc := 184) (tgt := 141) dX12_waysMatch_184 (by decide) ?_
                  refine mr_lvS (lv' := [(0, .ref 106), (1, iv p1), (2, iv p2), (3, iv p3), (4, jv z4528), (6, iv z4), (7, jv z4110), (9, iv z2392), (10, iv (z4476 + 1))]) (List.forall_mem_cons.mpr ⟨rfl, List.forall_mem_cons.mpr ⟨rfl, List.forall_mem_cons.mpr ⟨rfl, List.forall_mem_cons.mpr ⟨rfl, List.forall_mem_cons.mpr ⟨rfl, List.forall_mem_cons.mpr ⟨rfl, List.forall_mem_cons.mpr ⟨rfl, List.forall_mem_cons.mpr ⟨rfl, List.forall_mem_cons.mpr ⟨rfl, fun _ h => absurd h List.not_mem_nil⟩⟩⟩⟩⟩⟩⟩⟩⟩) ?_
                  exact ih4485 z4528 (z4476 + 1) trivial h4530 (rW (c := 0) (d := 40) (rAdd (e := 1) (f := 40) h4505 (rR (x := 1)) rfl) rfl) (vc_X12_waysMatch_12 (nS h4484) h4504 h4155 h4113 h4506 h4505)
              refine mr_lvS (lv' := [(0, .ref 106), (1, iv p1), (2, iv p2), (3, iv p3), (4, jv 0), (6, iv z4), (7, jv z4110), (9, iv z2392), (10, iv 0)]) (List.forall_mem_cons.mpr ⟨rfl, List.forall_mem_cons.mpr ⟨rfl, List.forall_mem_cons.mpr ⟨rfl, List.forall_mem_cons.mpr ⟨rfl, List.forall_mem_cons.mpr ⟨rfl, List.forall_mem_cons.mpr ⟨rfl, List.forall_mem_cons.mpr ⟨rfl, List.forall_mem_cons.mpr ⟨rfl, List.forall_mem_cons.mpr ⟨rfl, fun _ h => absurd h List.not_mem_nil⟩⟩⟩⟩⟩⟩⟩⟩⟩) ?_
              exact L4478 42 0 0 trivial (rW (c := -9223372036854775808) (d := 9223372036854775807) (rR (x := 0)) rfl) (rW (c := 0) (d := 40) (rR (x := 0)) rfl) vc_X12_waysMatch_14
            have h4531 : 0 ≤ z4109 ∧ z4109 ≤ 39 := (vc_X12_waysMatch_15 h4155 h4113 h4121)
            have h4532 : 1 ≤ z4119 ∧ z4119 ≤ 40 := (vc_X12_waysMatch_16 h4155 h4531 h4121)
            refine mr_lload (pc := 63) (z := z2394) dX12_waysMatch_63 rfl ?_
            refine mr_iload (pc := 65) (z := z4109) dX12_waysMatch_65 rfl ?_
            refine mr_lshr (pc := 67) dX12_waysMatch_67 ?_
            refine mr_genL (r64i _) fun z4533 q4534 h4535 => ?_
            refine mr_lconst (pc := 68) (z := 1) dX12_waysMatch_68 (by decide) ?_
            refine mr_land (pc := 69) dX12_waysMatch_69 ?_
            refine mr_genL (r64i _) fun z4536 q4537 h4538 => ?_
            refine mr_lconst (pc := 70) (z := 1) dX12_waysMatch_70 (by decide) ?_
            refine mr_lcmp (pc := 71) dX12_waysMatch_71 ?_
            refine mr_gen (P := fun z => (-1) ≤ z ∧ z ≤ 1) (lg_cmp_r _ _) fun z4539 q4540 h4541 => ?_
            refine mr_if_ne (pc := 72) (tgt := 129) dX12_waysMatch_72 (by decide) (r32 h4541 rfl) (fun h4564 => ?_) (fun h4564 => ?_)
            · refine mr_iinc (pc := 129) (lv' := [(10, iv (z4109 + 1)), (0, .ref 106), (1, iv p1), (2, iv p2), (3, iv p3), (4, jv z2394), (6, iv z4), (7, jv z4110), (9, iv z2392)]) dX12_waysMatch_129 rfl (by decide) rfl ?_
              refine sv_goto (pc := 132) (tgt := 52) dX12_waysMatch_132 (by decide) ?_
              refine mr_lvS (lv' := [(0, .ref 106), (1, iv p1), (2, iv p2), (3, iv p3), (4, jv z2394), (6, iv z4), (7, jv z4110), (9, iv z2392), (10, iv (z4109 + 1))]) (List.forall_mem_cons.mpr ⟨rfl, List.forall_mem_cons.mpr ⟨rfl, List.forall_mem_cons.mpr ⟨rfl, List.forall_mem_cons.mpr ⟨rfl, List.forall_mem_cons.mpr ⟨rfl, List.forall_mem_cons.mpr ⟨rfl, List.forall_mem_cons.mpr ⟨rfl, List.forall_mem_cons.mpr ⟨rfl, List.forall_mem_cons.mpr ⟨rfl, fun _ h => absurd h List.not_mem_nil⟩⟩⟩⟩⟩⟩⟩⟩⟩) ?_
              exact ih4118 z4110 (z4109 + 1) trivial h4112 (rW (c := 0) (d := 40) (rAdd (e := 1) (f := 40) h4531 (rR (x := 1)) rfl) rfl) (vc_X12_waysMatch_17 (nS h4117) h4155 h4531 h4532)
            have h4565 : 0 ≤ z4539 ∧ z4539 ≤ 0 := (vc_X12_waysMatch_18 h4564 h4541)
            refine sv_aload_n (pc := 75) dX12_waysMatch_75 rfl rfl ?_
            refine gf_X12_56 (pc := 76) dX12_waysMatch_76 wF_X12_295 (A_106 hw) hT ?_
            refine mr_bipush (pc := 79) (z := 41) dX12_waysMatch_79 (by decide) ?_
            refine mr_iload_n (pc := 81) (z := p1) dX12_waysMatch_81 rfl rfl ?_
            refine mr_imul (pc := 82) (x := 41) (y := p1) dX12_waysMatch_82 ?_
            refine mr_iload (pc := 83) (z := z4109) dX12_waysMatch_83 rfl ?_
            refine mr_iadd (pc := 85) (x := (41 * p1)) (y := z4109) dX12_waysMatch_85 ?_
            refine la_143 (pc := 86) dX12_waysMatch_86 (A_143 hw) hT (rIx (n := 533) (rAdd (e := 0) (f := 490) (rMulL (n := 41) (e := 0) (f := 451) hp1 rfl) h4531 rfl) rfl) fun z4566 q4567 h4568 => ?_
            refine mr_if_lt (pc := 87) (tgt := 120) dX12_waysMatch_87 (by decide) h4568 (fun h4587 => ?_) (fun h4587 => ?_)
            · have h4588 : (-2147483648) ≤ z4566 ∧ z4566 ≤ (-1) := (vc_X12_waysMatch_19 h4587 h4568)
              refine mr_lload (pc := 120) (z := z4110) dX12_waysMatch_120 rfl ?_
              refine mr_lconst (pc := 122) (z := 1) dX12_waysMatch_122 (by decide) ?_
              refine mr_iload (pc := 123) (z := z4109) dX12_waysMatch_123 rfl ?_
              refine mr_lshl (pc := 125) dX12_waysMatch_125 ?_
              refine mr_genL (r64i _) fun z4589 q4590 h4591 => ?_
              refine mr_lor (pc := 126) dX12_waysMatch_126 ?_
              refine mr_genL (r64i _) fun z4592 q4593 h4594 => ?_
              refine mr_lstore (pc := 127) (lv' := [(7, jv z4592), (0, .ref 106), (1, iv p1), (2, iv p2), (3, iv p3), (4, jv z2394), (6, iv z4), (9, iv z2392), (10, iv z4109)]) dX12_waysMatch_127 (by decide) rfl ?_
              refine mr_iinc (pc := 129) (lv' := [(10, iv (z4109 + 1)), (7, jv z4592), (0, .ref 106), (1, iv p1), (2, iv p2), (3, iv p3), (4, jv z2394), (6, iv z4), (9, iv z2392)]) dX12_waysMatch_129 rfl (by decide) rfl ?_
              refine sv_goto (pc := 132) (tgt := 52) dX12_waysMatch_132 (by decide) ?_
              refine mr_lvS (lv' := [(0, .ref 106), (1, iv p1), (2, iv p2), (3, iv p3), (4, jv z2394), (6, iv z4), (7, jv z4592), (9, iv z2392), (10, iv (z4109 + 1))]) (List.forall_mem_cons.mpr ⟨rfl, List.forall_mem_cons.mpr ⟨rfl, List.forall_mem_cons.mpr ⟨rfl, List.forall_mem_cons.mpr ⟨rfl, List.forall_mem_cons.mpr ⟨rfl, List.forall_mem_cons.mpr ⟨rfl, List.forall_mem_cons.mpr ⟨rfl, List.forall_mem_cons.mpr ⟨rfl, List.forall_mem_cons.mpr ⟨rfl, fun _ h => absurd h List.not_mem_nil⟩⟩⟩⟩⟩⟩⟩⟩⟩) ?_
              exact ih4118 z4592 (z4109 + 1) trivial h4594 (rW (c := 0) (d := 40) (rAdd (e := 1) (f := 40) h4531 (rR (x := 1)) rfl) rfl) (vc_X12_waysMatch_17 (nS h4117) h4155 h4531 h4532)
            have h4595 : 0 ≤ z4566 ∧ z4566 ≤ 2147483647 := (vc_X12_waysMatch_20 h4587 h4568)
            refine sv_aload_n (pc := 90) dX12_waysMatch_90 rfl rfl ?_
            refine gf_X12_56 (pc := 91) dX12_waysMatch_91 wF_X12_295 (A_106 hw) hT ?_
            refine mr_bipush (pc := 94) (z := 41) dX12_waysMatch_94 (by decide) ?_
            refine mr_iload_n (pc := 96) (z := p1) dX12_waysMatch_96 rfl rfl ?_
            refine mr_imul (pc := 97) (x := 41) (y := p1) dX12_waysMatch_97 ?_
            refine mr_iload (pc := 98) (z := z4109) dX12_waysMatch_98 rfl ?_
            refine mr_iadd (pc := 100) (x := (41 * p1)) (y := z4109) dX12_waysMatch_100 ?_
            refine lk_143 (pc := 101) dX12_waysMatch_101 (A_143 hw) (rIx (n := 533) (rAdd (e := 0) (f := 490) (rMulL (n := 41) (e := 0) (f := 451) hp1 rfl) h4531 rfl) rfl) q4567 ?_
            refine sv_aload_n (pc := 102) dX12_waysMatch_102 rfl rfl ?_
            refine gf_X12_32 (pc := 103) dX12_waysMatch_103 wF_X12_148 (A_106 hw) hT ?_
            refine mr_bipush (pc := 106) (z := 40) dX12_waysMatch_106 (by decide) ?_
            refine mr_iload_n (pc := 108) (z := p3) dX12_waysMatch_108 rfl rfl ?_
            refine mr_imul (pc := 109) (x := 40) (y := p3) dX12_waysMatch_109 ?_
            refine mr_bipush (pc := 110) (z := 6) dX12_waysMatch_110 (by decide) ?_
            refine mr_iadd (pc := 112) (x := (40 * p3)) (y := 6) dX12_waysMatch_112 ?_
            refine mr_iload (pc := 113) (z := z2392) dX12_waysMatch_113 rfl ?_
            refine mr_iadd (pc := 115) (x := ((40 * p3) + 6)) (y := z2392) dX12_waysMatch_115 ?_
            refine la_126 (pc := 116) dX12_waysMatch_116 (A_126 hw) hT (rIx (n := 84000) (rAdd (e := 6) (f := 83985) (rAdd (e := 6) (f := 83966) (rMulL (n := 40) (e := 0) (f := 83960) hp3 rfl) (rR (x := 6)) rfl) h2576 rfl) rfl) fun z4596 q4597 h4598 => ?_
            refine mr_icmp_ne (pc := 117) (tgt := 129) dX12_waysMatch_117 (by decide) (r32 h4595 rfl) h4598.1 (fun h4606 => ?_) (fun h4606 => ?_)
            · refine mr_iinc (pc := 129) (lv' := [(10, iv (z4109 + 1)), (0, .ref 106), (1, iv p1), (2, iv p2), (3, iv p3), (4, jv z2394), (6, iv z4), (7, jv z4110), (9, iv z2392)]) dX12_waysMatch_129 rfl (by decide) rfl ?_
              refine sv_goto (pc := 132) (tgt := 52) dX12_waysMatch_132 (by decide) ?_
              refine mr_lvS (lv' := [(0, .ref 106), (1, iv p1), (2, iv p2), (3, iv p3), (4, jv z2394), (6, iv z4), (7, jv z4110), (9, iv z2392), (10, iv (z4109 + 1))]) (List.forall_mem_cons.mpr ⟨rfl, List.forall_mem_cons.mpr ⟨rfl, List.forall_mem_cons.mpr ⟨rfl, List.forall_mem_cons.mpr ⟨rfl, List.forall_mem_cons.mpr ⟨rfl, List.forall_mem_cons.mpr ⟨rfl, List.forall_mem_cons.mpr ⟨rfl, List.forall_mem_cons.mpr ⟨rfl, List.forall_mem_cons.mpr ⟨rfl, fun _ h => absurd h List.not_mem_nil⟩⟩⟩⟩⟩⟩⟩⟩⟩) ?_
              exact ih4118 z4110 (z4109 + 1) trivial h4112 (rW (c := 0) (d := 40) (rAdd (e := 1) (f := 40) h4531 (rR (x := 1)) rfl) rfl) (vc_X12_waysMatch_17 (nS h4117) h4155 h4531 h4532)
            have h4607 : 0 ≤ z4596 ∧ z4596 ≤ 2147483647 := (vc_X12_waysMatch_21 h4606 h4587 h4598.2.1 h4598.2.2.1 h4598.2.2.2 hp3 h2576 h4595 h4598.1)
            refine mr_lload (pc := 120) (z := z4110) dX12_waysMatch_120 rfl ?_
            refine mr_lconst (pc := 122) (z := 1) dX12_waysMatch_122 (by decide) ?_
            refine mr_iload (pc := 123) (z := z4109) dX12_waysMatch_123 rfl ?_
            refine mr_lshl (pc := 125) dX12_waysMatch_125 ?_
            refine mr_genL (r64i _) fun z4608 q4609 h4610 => ?_
            refine mr_lor (pc := 126) dX12_waysMatch_126 ?_
            refine mr_genL (r64i _) fun z4611 q4612 h4613 => ?_
            refine mr_lstore (pc := 127) (lv' := [(7, jv z4611), (0, .ref 106), (1, iv p1), (2, iv p2), (3, iv p3), (4, jv z2394), (6, iv z4), (9, iv z2392), (10, iv z4109)]) dX12_waysMatch_127 (by decide) rfl ?_
            refine mr_iinc (pc := 129) (lv' := [(10, iv (z4109 + 1)), (7, jv z4611), (0, .ref 106), (1, iv p1), (2, iv p2), (3, iv p3), (4, jv z2394), (6, iv z4), (9, iv z2392)]) dX12_waysMatch_129 rfl (by decide) rfl ?_
            refine sv_goto (pc := 132) (tgt := 52) dX12_waysMatch_132 (by decide) ?_
            refine mr_lvS (lv' := [(0, .ref 106), (1, iv p1), (2, iv p2), (3, iv p3), (4, jv z2394), (6, iv z4), (7, jv z4611), (9, iv z2392), (10, iv (z4109 + 1))]) (List.forall_mem_cons.mpr ⟨rfl, List.forall_mem_cons.mpr ⟨rfl, List.forall_mem_cons.mpr ⟨rfl, List.forall_mem_cons.mpr ⟨rfl, List.forall_mem_cons.mpr ⟨rfl, List.forall_mem_cons.mpr ⟨rfl, List.forall_mem_cons.mpr ⟨rfl, List.forall_mem_cons.mpr ⟨rfl, List.forall_mem_cons.mpr ⟨rfl, fun _ h => absurd h List.not_mem_nil⟩⟩⟩⟩⟩⟩⟩⟩⟩) ?_
            exact ih4118 z4611 (z4109 + 1) trivial h4613 (rW (c := 0) (d := 40) (rAdd (e := 1) (f := 40) h4531 (rR (x := 1)) rfl) rfl) (vc_X12_waysMatch_17 (nS h4117) h4155 h4531 h4532)
        refine mr_lvS (lv' := [(0, .ref 106), (1, iv p1), (2, iv p2), (3, iv p3), (4, jv z2394), (6, iv z4), (7, jv 0), (9, iv z2392), (10, iv 0)]) (List.forall_mem_cons.mpr ⟨rfl, List.forall_mem_cons.mpr ⟨rfl, List.forall_mem_cons.mpr ⟨rfl, List.forall_mem_cons.mpr ⟨rfl, List.forall_mem_cons.mpr ⟨rfl, List.forall_mem_cons.mpr ⟨rfl, List.forall_mem_cons.mpr ⟨rfl, List.forall_mem_cons.mpr ⟨rfl, List.forall_mem_cons.mpr ⟨rfl, fun _ h => absurd h List.not_mem_nil⟩⟩⟩⟩⟩⟩⟩⟩⟩) ?_
        exact L4111 42 0 0 trivial (rW (c := -9223372036854775808) (d := 9223372036854775807) (rR (x := 0)) rfl) (rW (c := 0) (d := 40) (rR (x := 0)) rfl) vc_X12_waysMatch_14
    refine mr_lvS (lv' := [(0, .ref 106), (1, iv p1), (2, iv p2), (3, iv p3), (4, jv z1), (6, iv z4), (7, jv 0), (9, iv 0)]) (List.forall_mem_cons.mpr ⟨rfl, List.forall_mem_cons.mpr ⟨rfl, List.forall_mem_cons.mpr ⟨rfl, List.forall_mem_cons.mpr ⟨rfl, List.forall_mem_cons.mpr ⟨rfl, List.forall_mem_cons.mpr ⟨rfl, List.forall_mem_cons.mpr ⟨rfl, List.forall_mem_cons.mpr ⟨rfl, fun _ h => absurd h List.not_mem_nil⟩⟩⟩⟩⟩⟩⟩⟩) ?_
    exact L2395 22 z1 0 0 trivial h3 (rW (c := -9223372036854775808) (d := 9223372036854775807) (rR (x := 0)) rfl) (rW (c := 0) (d := 20) (rR (x := 0)) rfl) vc_X12_waysMatch_22
  have h4614 : 0 ≤ z4 ∧ z4 ≤ 0 := (vc_X12_waysMatch_23 h8 h7)
  refine sv_aload_n (pc := 26) dX12_waysMatch_26 rfl rfl ?_
  refine gf_X12_52 (pc := 27) dX12_waysMatch_27 wF_X12_311 (A_106 hw) hT ?_
  refine mr_iload_n (pc := 30) (z := p2) dX12_waysMatch_30 rfl rfl ?_
  refine la_139 (pc := 31) dX12_waysMatch_31 (A_139 hw) hT (rIx (n := 3900) hp2 rfl) fun z4615 q4616 h4617 => ?_
  exact mr_zretP dX12_waysMatch_32 rfl h4617 (le_t rfl) (le_t rfl) ⟨h4617, trivial⟩
theorem vc_X12_route_1 {p1 z1 z8 : Int} (h0 : z8 = 0) (h1 : (z8 = 1 → 0 ≤ p1 ∧ p1 < z1)) (h2 : (z8 = 0 → p1 < 0 ∨ z1 ≤ p1)) (h3 : (-2147483648) ≤ p1 ∧ p1 ≤ 2147483647) (h4 : 0 ≤ z1 ∧ z1 ≤ 10) (h5 : 0 ≤ z8 ∧ z8 ≤ 1) : 0 ≤ z8 ∧ z8 ≤ 0 := by omega
theorem vc_X12_route_2 {p1 z1 z8 : Int} (h0 : (z8 = 1 → 0 ≤ p1 ∧ p1 < z1)) (h1 : (z8 = 0 → p1 < 0 ∨ z1 ≤ p1)) (h2 : z8 = 0) (h3 : (-2147483648) ≤ p1 ∧ p1 ≤ 2147483647) (h4 : 0 ≤ z1 ∧ z1 ≤ 10) (h5 : 0 ≤ z8 ∧ z8 ≤ 0) : z8 = 0 := by omega
theorem vc_X12_route_3 {p1 z1 z8 : Int} (h0 : ¬ z8 = 0) (h1 : (z8 = 1 → 0 ≤ p1 ∧ p1 < z1)) (h2 : (z8 = 0 → p1 < 0 ∨ z1 ≤ p1)) (h3 : (-2147483648) ≤ p1 ∧ p1 ≤ 2147483647) (h4 : 0 ≤ z1 ∧ z1 ≤ 10) (h5 : 0 ≤ z8 ∧ z8 ≤ 1) : 1 ≤ z8 ∧ z8 ≤ 1 := by omega
theorem vc_X12_route_4 {p1 z1 z8 : Int} (h0 : (z8 = 1 → 0 ≤ p1 ∧ p1 < z1)) (h1 : (z8 = 0 → p1 < 0 ∨ z1 ≤ p1)) (h2 : ¬ z8 = 0) (h3 : (-2147483648) ≤ p1 ∧ p1 ≤ 2147483647) (h4 : 0 ≤ z1 ∧ z1 ≤ 10) (h5 : 1 ≤ z8 ∧ z8 ≤ 1) : z8 = 1 := by omega
theorem vc_X12_route_5 {p1 z1 z8 : Int} (h0 : 0 ≤ p1 ∧ p1 < z1) (h1 : (z8 = 1 → 0 ≤ p1 ∧ p1 < z1)) (h2 : (z8 = 0 → p1 < 0 ∨ z1 ≤ p1)) (h3 : (-2147483648) ≤ p1 ∧ p1 ≤ 2147483647) (h4 : 0 ≤ z1 ∧ z1 ≤ 10) (h5 : 1 ≤ z8 ∧ z8 ≤ 1) : 0 ≤ p1 ∧ p1 ≤ 9 := by omega
theorem vc_X12_route_6 {p1 z1 z8 : Int} (h0 : 0 ≤ p1 ∧ p1 < z1) (h1 : (z8 = 1 → 0 ≤ p1 ∧ p1 < z1)) (h2 : (z8 = 0 → p1 < 0 ∨ z1 ≤ p1)) (h3 : 0 ≤ p1 ∧ p1 ≤ 9) (h4 : 0 ≤ z1 ∧ z1 ≤ 10) (h5 : 1 ≤ z8 ∧ z8 ≤ 1) : 1 ≤ z1 ∧ z1 ≤ 10 := by omega
theorem vc_X12_route_7 {p2 z20 : Int} (h0 : z20 = 0) (h1 : (z20 = 1 → (0 : Int) ≤ p2 ∧ p2 ≤ (1000 : Int))) (h2 : (z20 = 0 → p2 < (0 : Int) ∨ (1000 : Int) < p2)) (h3 : (-2147483648) ≤ p2 ∧ p2 ≤ 2147483647) (h4 : 0 ≤ z20 ∧ z20 ≤ 1) : 0 ≤ z20 ∧ z20 ≤ 0 := by omega
theorem vc_X12_route_8 {p2 z20 : Int} (h0 : (z20 = 1 → (0 : Int) ≤ p2 ∧ p2 ≤ (1000 : Int))) (h1 : (z20 = 0 → p2 < (0 : Int) ∨ (1000 : Int) < p2)) (h2 : z20 = 0) (h3 : (-2147483648) ≤ p2 ∧ p2 ≤ 2147483647) (h4 : 0 ≤ z20 ∧ z20 ≤ 0) : z20 = 0 := by omega
theorem vc_X12_route_9 {p2 z20 : Int} (h0 : ¬ z20 = 0) (h1 : (z20 = 1 → (0 : Int) ≤ p2 ∧ p2 ≤ (1000 : Int))) (h2 : (z20 = 0 → p2 < (0 : Int) ∨ (1000 : Int) < p2)) (h3 : (-2147483648) ≤ p2 ∧ p2 ≤ 2147483647) (h4 : 0 ≤ z20 ∧ z20 ≤ 1) : 1 ≤ z20 ∧ z20 ≤ 1 := by omega
theorem vc_X12_route_10 {p2 z20 : Int} (h0 : (z20 = 1 → (0 : Int) ≤ p2 ∧ p2 ≤ (1000 : Int))) (h1 : (z20 = 0 → p2 < (0 : Int) ∨ (1000 : Int) < p2)) (h2 : ¬ z20 = 0) (h3 : (-2147483648) ≤ p2 ∧ p2 ≤ 2147483647) (h4 : 1 ≤ z20 ∧ z20 ≤ 1) : z20 = 1 := by omega
theorem vc_X12_route_11 {p2 z20 : Int} (h0 : (0 : Int) ≤ p2 ∧ p2 ≤ (1000 : Int)) (h1 : (z20 = 1 → (0 : Int) ≤ p2 ∧ p2 ≤ (1000 : Int))) (h2 : (z20 = 0 → p2 < (0 : Int) ∨ (1000 : Int) < p2)) (h3 : (-2147483648) ≤ p2 ∧ p2 ≤ 2147483647) (h4 : 1 ≤ z20 ∧ z20 ≤ 1) : 0 ≤ p2 ∧ p2 ≤ 1000 := by omega
theorem vc_X12_route_12 {p3 z31 : Int} (h0 : z31 = 0) (h1 : (z31 = 1 → (0 : Int) ≤ p3 ∧ p3 ≤ (2 : Int))) (h2 : (z31 = 0 → p3 < (0 : Int) ∨ (2 : Int) < p3)) (h3 : (-2147483648) ≤ p3 ∧ p3 ≤ 2147483647) (h4 : 0 ≤ z31 ∧ z31 ≤ 1) : 0 ≤ z31 ∧ z31 ≤ 0 := by omega
theorem vc_X12_route_13 {p3 z31 : Int} (h0 : (z31 = 1 → (0 : Int) ≤ p3 ∧ p3 ≤ (2 : Int))) (h1 : (z31 = 0 → p3 < (0 : Int) ∨ (2 : Int) < p3)) (h2 : z31 = 0) (h3 : (-2147483648) ≤ p3 ∧ p3 ≤ 2147483647) (h4 : 0 ≤ z31 ∧ z31 ≤ 0) : z31 = 0 := by omega
theorem vc_X12_route_14 {p3 z31 : Int} (h0 : ¬ z31 = 0) (h1 : (z31 = 1 → (0 : Int) ≤ p3 ∧ p3 ≤ (2 : Int))) (h2 : (z31 = 0 → p3 < (0 : Int) ∨ (2 : Int) < p3)) (h3 : (-2147483648) ≤ p3 ∧ p3 ≤ 2147483647) (h4 : 0 ≤ z31 ∧ z31 ≤ 1) : 1 ≤ z31 ∧ z31 ≤ 1 := by omega
theorem vc_X12_route_15 {p3 z31 : Int} (h0 : (z31 = 1 → (0 : Int) ≤ p3 ∧ p3 ≤ (2 : Int))) (h1 : (z31 = 0 → p3 < (0 : Int) ∨ (2 : Int) < p3)) (h2 : ¬ z31 = 0) (h3 : (-2147483648) ≤ p3 ∧ p3 ≤ 2147483647) (h4 : 1 ≤ z31 ∧ z31 ≤ 1) : z31 = 1 := by omega
theorem vc_X12_route_16 {p3 z31 : Int} (h0 : (0 : Int) ≤ p3 ∧ p3 ≤ (2 : Int)) (h1 : (z31 = 1 → (0 : Int) ≤ p3 ∧ p3 ≤ (2 : Int))) (h2 : (z31 = 0 → p3 < (0 : Int) ∨ (2 : Int) < p3)) (h3 : (-2147483648) ≤ p3 ∧ p3 ≤ 2147483647) (h4 : 1 ≤ z31 ∧ z31 ≤ 1) : 0 ≤ p3 ∧ p3 ≤ 2 := by omega
theorem vc_X12_route_17 {p4 z42 : Int} (h0 : ¬ z42 = 0) (h1 : (z42 = 1 → (0 : Int) ≤ p4 ∧ p4 ≤ (1000000 : Int))) (h2 : (z42 = 0 → p4 < (0 : Int) ∨ (1000000 : Int) < p4)) (h3 : (-2147483648) ≤ p4 ∧ p4 ≤ 2147483647) (h4 : 0 ≤ z42 ∧ z42 ≤ 1) : 1 ≤ z42 ∧ z42 ≤ 1 := by omega
theorem vc_X12_route_18 {p4 z42 : Int} (h0 : (z42 = 1 → (0 : Int) ≤ p4 ∧ p4 ≤ (1000000 : Int))) (h1 : (z42 = 0 → p4 < (0 : Int) ∨ (1000000 : Int) < p4)) (h2 : ¬ z42 = 0) (h3 : (-2147483648) ≤ p4 ∧ p4 ≤ 2147483647) (h4 : 1 ≤ z42 ∧ z42 ≤ 1) : z42 = 1 := by omega
theorem vc_X12_route_19 {p4 z42 : Int} (h0 : (0 : Int) ≤ p4 ∧ p4 ≤ (1000000 : Int)) (h1 : (z42 = 1 → (0 : Int) ≤ p4 ∧ p4 ≤ (1000000 : Int))) (h2 : (z42 = 0 → p4 < (0 : Int) ∨ (1000000 : Int) < p4)) (h3 : (-2147483648) ≤ p4 ∧ p4 ≤ 2147483647) (h4 : 1 ≤ z42 ∧ z42 ≤ 1) : 0 ≤ p4 ∧ p4 ≤ 1000000 := by omega
theorem vc_X12_route_20 {p1 z1 z8 : Int} (h0 : (z8 = 1 → 0 ≤ p1 ∧ p1 < z1)) (h1 : (z8 = 0 → p1 < 0 ∨ z1 ≤ p1)) (h2 : 0 ≤ p1 ∧ p1 < z1) (h3 : ¬ z8 = 0) (h4 : 0 ≤ p1 ∧ p1 ≤ 9) (h5 : 1 ≤ z1 ∧ z1 ≤ 10) (h6 : 1 ≤ z8 ∧ z8 ≤ 1) : (-2147483648 ≤ p1 ∧ p1 ≤ 2147483647) ∧ ((0 : Int) % 40 = 0 → -1 ≤ p1 ∧ p1 ≤ 9) ∧ ((0 : Int) % 40 = 4 → 0 ≤ p1 ∧ p1 ≤ 20) ∧ ((0 : Int) % 40 = 5 → 0 ≤ p1 ∧ p1 ≤ 8) := by omega
theorem vc_X12_route_21 {p2 z20 : Int} (h0 : (z20 = 1 → (0 : Int) ≤ p2 ∧ p2 ≤ (1000 : Int))) (h1 : (z20 = 0 → p2 < (0 : Int) ∨ (1000 : Int) < p2)) (h2 : (0 : Int) ≤ p2 ∧ p2 ≤ (1000 : Int)) (h3 : ¬ z20 = 0) (h4 : 0 ≤ p2 ∧ p2 ≤ 1000) (h5 : 1 ≤ z20 ∧ z20 ≤ 1) : (-2147483648 ≤ p2 ∧ p2 ≤ 2147483647) ∧ ((1 : Int) % 40 = 0 → -1 ≤ p2 ∧ p2 ≤ 9) ∧ ((1 : Int) % 40 = 4 → 0 ≤ p2 ∧ p2 ≤ 20) ∧ ((1 : Int) % 40 = 5 → 0 ≤ p2 ∧ p2 ≤ 8) := by omega
theorem vc_X12_route_22 {p3 z31 : Int} (h0 : (z31 = 1 → (0 : Int) ≤ p3 ∧ p3 ≤ (2 : Int))) (h1 : (z31 = 0 → p3 < (0 : Int) ∨ (2 : Int) < p3)) (h2 : (0 : Int) ≤ p3 ∧ p3 ≤ (2 : Int)) (h3 : ¬ z31 = 0) (h4 : 0 ≤ p3 ∧ p3 ≤ 2) (h5 : 1 ≤ z31 ∧ z31 ≤ 1) : (-2147483648 ≤ p3 ∧ p3 ≤ 2147483647) ∧ ((2 : Int) % 40 = 0 → -1 ≤ p3 ∧ p3 ≤ 9) ∧ ((2 : Int) % 40 = 4 → 0 ≤ p3 ∧ p3 ≤ 20) ∧ ((2 : Int) % 40 = 5 → 0 ≤ p3 ∧ p3 ≤ 8) := by omega
theorem vc_X12_route_23 {p4 z42 : Int} (h0 : (z42 = 1 → (0 : Int) ≤ p4 ∧ p4 ≤ (1000000 : Int))) (h1 : (z42 = 0 → p4 < (0 : Int) ∨ (1000000 : Int) < p4)) (h2 : (0 : Int) ≤ p4 ∧ p4 ≤ (1000000 : Int)) (h3 : ¬ z42 = 0) (h4 : 0 ≤ p4 ∧ p4 ≤ 1000000) (h5 : 1 ≤ z42 ∧ z42 ≤ 1) : (-2147483648 ≤ p4 ∧ p4 ≤ 2147483647) ∧ ((3 : Int) % 40 = 0 → -1 ≤ p4 ∧ p4 ≤ 9) ∧ ((3 : Int) % 40 = 4 → 0 ≤ p4 ∧ p4 ≤ 20) ∧ ((3 : Int) % 40 = 5 → 0 ≤ p4 ∧ p4 ≤ 8) := by omega
theorem vc_X12_route_24 {z59 : Int} (h0 : 0 ≤ z59 ∧ z59 ≤ 20) : (-2147483648 ≤ z59 ∧ z59 ≤ 2147483647) ∧ ((4 : Int) % 40 = 0 → -1 ≤ z59 ∧ z59 ≤ 9) ∧ ((4 : Int) % 40 = 4 → 0 ≤ z59 ∧ z59 ≤ 20) ∧ ((4 : Int) % 40 = 5 → 0 ≤ z59 ∧ z59 ≤ 8) := by omega
theorem vc_X12_route_25  : (-(2147483648 : Int) ≤ ((0 : Int) : Int) ∧ ((0 : Int) : Int) ≤ (2147483647 : Int)) ∧ (((5 : Int) : Int) % (40 : Int) = (0 : Int) → -(1 : Int) ≤ ((0 : Int) : Int) ∧ ((0 : Int) : Int) ≤ (9 : Int)) ∧ (((5 : Int) : Int) % (40 : Int) = (4 : Int) → (0 : Int) ≤ ((0 : Int) : Int) ∧ ((0 : Int) : Int) ≤ (20 : Int)) ∧ (((5 : Int) : Int) % (40 : Int) = (5 : Int) → (0 : Int) ≤ ((0 : Int) : Int) ∧ ((0 : Int) : Int) ≤ (8 : Int)) := by omega
theorem vc_X12_route_26 {z250 : Int} (h0 : (21 - z250) < ((0 : Nat) : Int)) (h1 : 0 ≤ z250 ∧ z250 ≤ 20) : False := by omega
theorem vc_X12_route_27 {z250 z59 : Int} (h0 : z250 < z59) (h1 : 0 ≤ z250 ∧ z250 ≤ 20) (h2 : 0 ≤ z59 ∧ z59 ≤ 20) : 0 ≤ z250 ∧ z250 ≤ 19 := by omega
theorem vc_X12_route_28 {z250 z59 : Int} (h0 : z250 < z59) (h1 : 0 ≤ z250 ∧ z250 ≤ 19) (h2 : 0 ≤ z59 ∧ z59 ≤ 20) : 1 ≤ z59 ∧ z59 ≤ 20 := by omega
theorem vc_X12_route_29 {z250 z273 z59 : Int} (h0 : z250 < z59) (h1 : 0 ≤ z250 ∧ z250 ≤ 19) (h2 : 0 ≤ z273 ∧ z273 ≤ 9) (h3 : 1 ≤ z59 ∧ z59 ≤ 20) : (-2147483648 ≤ z273 ∧ z273 ≤ 2147483647) ∧ ((6 + z250) % 40 = 0 → -1 ≤ z273 ∧ z273 ≤ 9) ∧ ((6 + z250) % 40 = 4 → 0 ≤ z273 ∧ z273 ≤ 20) ∧ ((6 + z250) % 40 = 5 → 0 ≤ z273 ∧ z273 ≤ 8) := by omega
theorem vc_X12_route_30 {N z250 z59 : Int} (h0 : (21 - z250) < N + 1) (h1 : z250 < z59) (h2 : 0 ≤ z250 ∧ z250 ≤ 19) (h3 : 1 ≤ z59 ∧ z59 ≤ 20) : (21 - (z250 + 1)) < N := by omega
theorem vc_X12_route_31  : (21 - 0) < ((22 : Nat) : Int) := by omega
theorem vc_X12_route_32 {p4 z42 : Int} (h0 : z42 = 0) (h1 : (z42 = 1 → (0 : Int) ≤ p4 ∧ p4 ≤ (1000000 : Int))) (h2 : (z42 = 0 → p4 < (0 : Int) ∨ (1000000 : Int) < p4)) (h3 : (-2147483648) ≤ p4 ∧ p4 ≤ 2147483647) (h4 : 0 ≤ z42 ∧ z42 ≤ 1) : 0 ≤ z42 ∧ z42 ≤ 0 := by omega
theorem vc_X12_route_33 {p4 z42 : Int} (h0 : (z42 = 1 → (0 : Int) ≤ p4 ∧ p4 ≤ (1000000 : Int))) (h1 : (z42 = 0 → p4 < (0 : Int) ∨ (1000000 : Int) < p4)) (h2 : z42 = 0) (h3 : (-2147483648) ≤ p4 ∧ p4 ≤ 2147483647) (h4 : 0 ≤ z42 ∧ z42 ≤ 0) : z42 = 0 := by omega
set_option maxRecDepth 4000 in
set_option maxHeartbeats 4000000 in
theorem c_X12_route {l : Launch} {D : va_G} {c : Nat → ClassId} {H0 : Heap} {sa : Nat × Nat × (Nat → Int32)} {w : mW} {μ : mM} (hw : mWF w) (hT : mT w μ) {p1 : Int} (hp1 : (-2147483648) ≤ p1 ∧ p1 ≤ 2147483647) {p2 : Int} (hp2 : (-2147483648) ≤ p2 ∧ p2 ≤ 2147483647) {p3 : Int} (hp3 : (-2147483648) ≤ p3 ∧ p3 ≤ 2147483647) {p4 : Int} (hp4 : (-2147483648) ≤ p4 ∧ p4 ≤ 2147483647) : sC (gG l D c H0 sa) mX12_route 3 0 0 [.ref 106, iv p1, iv p2, iv p3, iv p4] (mk w μ) (qI w [106070, 126999] μ (fun z μ1 => ((-2147483648) ≤ z ∧ z ≤ 2147483647) ∧ True)) := by
  refine sC.of rfl (by decide) (le_t rfl) ?_
  refine mr_lvE (lv' := [(0, .ref 106), (1, iv p1), (2, iv p2), (3, iv p3), (4, iv p4)]) rfl ?_
  refine sv_aload_n (pc := 0) dX12_route_0 rfl rfl ?_
  refine mr_iload_n (pc := 1) (z := p1) dX12_route_1 rfl rfl ?_
  obtain ⟨z1, q2⟩ : ∃ z, μ 106 2 = z := ⟨_, rfl⟩
  have h3 : (0 ≤ z1 ∧ z1 ≤ 10) := by rw [← q2]; exact hT 106 106 (A_106 hw) 2
  refine mr_cVP (pc := 2) (c_X12_isPrefix hw hT hp1 q2) (gOk _ _ _ _ _) dX12_route_2 (tX12_isPrefix _ _ _ _ _) ⟨wV_X12_isPrefix, wL_X12_isPrefix⟩ wM_X12_92 (gCX12 _ _ _ _ _) rfl (A_106 hw) rfl ⟨le_t rfl, le_t rfl⟩ ⟨le_t rfl, le_t rfl⟩ rfl (le_t rfl) fun z8 h7 => ?_
  refine mr_if_eq (pc := 5) (tgt := 40) dX12_route_5 (by decide) (r32 h7.1 rfl) (fun h9 => ?_) (fun h9 => ?_)
  · have h10 : 0 ≤ z8 ∧ z8 ≤ 0 := (vc_X12_route_1 h9 h7.2.1 h7.2.2.1 hp1 h3 h7.1)
    have h11 : p1 < 0 ∨ z1 ≤ p1 := (h7.2.2.1 (vc_X12_route_2 h7.2.1 h7.2.2.1 h9 hp1 h3 h10))
    refine mr_iconst (pc := 40) (z := (-1)) dX12_route_40 ?_
    exact mr_iret dX12_route_41 rfl (le_t rfl) (le_t rfl) hT mF.refl ⟨(rW (c := (-2147483648)) (d := 2147483647) (rR (x := (-1))) rfl), trivial⟩
  have h12 : 1 ≤ z8 ∧ z8 ≤ 1 := (vc_X12_route_3 h9 h7.2.1 h7.2.2.1 hp1 h3 h7.1)
  have h13 : 0 ≤ p1 ∧ p1 < z1 := (h7.2.1 (vc_X12_route_4 h7.2.1 h7.2.2.1 h9 hp1 h3 h12))
  have h14 : 0 ≤ p1 ∧ p1 ≤ 9 := (vc_X12_route_5 h13 h7.2.1 h7.2.2.1 hp1 h3 h12)
  have h15 : 1 ≤ z1 ∧ z1 ≤ 10 := (vc_X12_route_6 h13 h7.2.1 h7.2.2.1 h14 h3 h12)
  refine mr_iload_n (pc := 8) (z := p2) dX12_route_8 rfl rfl ?_
  refine mr_iconst (pc := 9) (z := 0) dX12_route_9 ?_
  refine mr_sipush (pc := 10) (z := 1000) dX12_route_10 (by decide) ?_
  refine mr_cSP (pc := 13) (c_X12_in hw hT hp2 (rW (c := (-2147483648)) (d := 2147483647) (rR (x := 0)) rfl) (rW (c := (-2147483648)) (d := 2147483647) (rR (x := 1000)) rfl)) (gOk _ _ _ _ _) dX12_route_13 (tX12_in _ _ _ _ _) wS_X12_in wM_X12_18 ⟨le_t rfl, le_t rfl⟩ ⟨le_t rfl, le_t rfl⟩ rfl (le_t rfl) fun z20 h19 => ?_
  refine mr_if_eq (pc := 16) (tgt := 40) dX12_route_16 (by decide) (r32 h19.1 rfl) (fun h21 => ?_) (fun h21 => ?_)
  · have h22 : 0 ≤ z20 ∧ z20 ≤ 0 := (vc_X12_route_7 h21 h19.2.1 h19.2.2.1 hp2 h19.1)
    have h23 : p2 < (0 : Int) ∨ (1000 : Int) < p2 := (h19.2.2.1 (vc_X12_route_8 h19.2.1 h19.2.2.1 h21 hp2 h22))
    refine mr_iconst (pc := 40) (z := (-1)) dX12_route_40 ?_
    exact mr_iret dX12_route_41 rfl (le_t rfl) (le_t rfl) hT mF.refl ⟨(rW (c := (-2147483648)) (d := 2147483647) (rR (x := (-1))) rfl), trivial⟩
  have h24 : 1 ≤ z20 ∧ z20 ≤ 1 := (vc_X12_route_9 h21 h19.2.1 h19.2.2.1 hp2 h19.1)
  have h25 : (0 : Int) ≤ p2 ∧ p2 ≤ (1000 : Int) := (h19.2.1 (vc_X12_route_10 h19.2.1 h19.2.2.1 h21 hp2 h24))
  have h26 : 0 ≤ p2 ∧ p2 ≤ 1000 := (vc_X12_route_11 h25 h19.2.1 h19.2.2.1 hp2 h24)
  refine mr_iload_n (pc := 19) (z := p3) dX12_route_19 rfl rfl ?_
  refine mr_iconst (pc := 20) (z := 0) dX12_route_20 ?_
  refine mr_iconst (pc := 21) (z := 2) dX12_route_21 ?_
  refine mr_cSP (pc := 22) (c_X12_in hw hT hp3 (rW (c := (-2147483648)) (d := 2147483647) (rR (x := 0)) rfl) (rW (c := (-2147483648)) (d := 2147483647) (rR (x := 2)) rfl)) (gOk _ _ _ _ _) dX12_route_22 (tX12_in _ _ _ _ _) wS_X12_in wM_X12_18 ⟨le_t rfl, le_t rfl⟩ ⟨le_t rfl, le_t rfl⟩ rfl (le_t rfl) fun z31 h30 => ?_
  refine mr_if_eq (pc := 25) (tgt := 40) dX12_route_25 (by decide) (r32 h30.1 rfl) (fun h32 => ?_) (fun h32 => ?_)
  · have h33 : 0 ≤ z31 ∧ z31 ≤ 0 := (vc_X12_route_12 h32 h30.2.1 h30.2.2.1 hp3 h30.1)
    have h34 : p3 < (0 : Int) ∨ (2 : Int) < p3 := (h30.2.2.1 (vc_X12_route_13 h30.2.1 h30.2.2.1 h32 hp3 h33))
    refine mr_iconst (pc := 40) (z := (-1)) dX12_route_40 ?_
    exact mr_iret dX12_route_41 rfl (le_t rfl) (le_t rfl) hT mF.refl ⟨(rW (c := (-2147483648)) (d := 2147483647) (rR (x := (-1))) rfl), trivial⟩
  have h35 : 1 ≤ z31 ∧ z31 ≤ 1 := (vc_X12_route_14 h32 h30.2.1 h30.2.2.1 hp3 h30.1)
  have h36 : (0 : Int) ≤ p3 ∧ p3 ≤ (2 : Int) := (h30.2.1 (vc_X12_route_15 h30.2.1 h30.2.2.1 h32 hp3 h35))
  have h37 : 0 ≤ p3 ∧ p3 ≤ 2 := (vc_X12_route_16 h36 h30.2.1 h30.2.2.1 hp3 h35)
  refine mr_iload (pc := 28) (z := p4) dX12_route_28 rfl ?_
  refine mr_iconst (pc := 30) (z := 0) dX12_route_30 ?_
  refine mr_ldcw (pc := 31) (z := 1000000) dX12_route_31 wG_X12_291 (by decide) ?_
  refine mr_cSP (pc := 34) (c_X12_in hw hT hp4 (rW (c := (-2147483648)) (d := 2147483647) (rR (x := 0)) rfl) (rW (c := (-2147483648)) (d := 2147483647) (rR (x := 1000000)) rfl)) (gOk _ _ _ _ _) dX12_route_34 (tX12_in _ _ _ _ _) wS_X12_in wM_X12_18 ⟨le_t rfl, le_t rfl⟩ ⟨le_t rfl, le_t rfl⟩ rfl (le_t rfl) fun z42 h41 => ?_
  refine mr_if_ne (pc := 37) (tgt := 42) dX12_route_37 (by decide) (r32 h41.1 rfl) (fun h43 => ?_) (fun h43 => ?_)
  · have h44 : 1 ≤ z42 ∧ z42 ≤ 1 := (vc_X12_route_17 h43 h41.2.1 h41.2.2.1 hp4 h41.1)
    have h45 : (0 : Int) ≤ p4 ∧ p4 ≤ (1000000 : Int) := (h41.2.1 (vc_X12_route_18 h41.2.1 h41.2.2.1 h43 hp4 h44))
    have h46 : 0 ≤ p4 ∧ p4 ≤ 1000000 := (vc_X12_route_19 h45 h41.2.1 h41.2.2.1 hp4 h44)
    refine sv_aload_n (pc := 42) dX12_route_42 rfl rfl ?_
    refine gf_X12_32 (pc := 43) dX12_route_43 wF_X12_148 (A_106 hw) hT ?_
    refine mr_iconst (pc := 46) (z := 0) dX12_route_46 ?_
    refine mr_iload_n (pc := 47) (z := p1) dX12_route_47 rfl rfl ?_
    refine ss_126 (pc := 48) dX12_route_48 (A_126 hw) hT (rIx (n := 84000) (rR (x := 0)) rfl) (vc_X12_route_20 h7.2.1 h7.2.2.1 h13 h9 h14 h15 h12) fun μ47 u48 T49 => ?_
    refine sv_aload_n (pc := 49) dX12_route_49 rfl rfl ?_
    refine gf_X12_32 (pc := 50) dX12_route_50 wF_X12_148 (A_106 hw) T49 ?_
    refine mr_iconst (pc := 53) (z := 1) dX12_route_53 ?_
    refine mr_iload_n (pc := 54) (z := p2) dX12_route_54 rfl rfl ?_
    refine ss_126 (pc := 55) dX12_route_55 (A_126 hw) T49 (rIx (n := 84000) (rR (x := 1)) rfl) (vc_X12_route_21 h19.2.1 h19.2.2.1 h25 h21 h26 h24) fun μ50 u51 T52 => ?_
    refine sv_aload_n (pc := 56) dX12_route_56 rfl rfl ?_
    refine gf_X12_32 (pc := 57) dX12_route_57 wF_X12_148 (A_106 hw) T52 ?_
    refine mr_iconst (pc := 60) (z := 2) dX12_route_60 ?_
    refine mr_iload_n (pc := 61) (z := p3) dX12_route_61 rfl rfl ?_
    refine ss_126 (pc := 62) dX12_route_62 (A_126 hw) T52 (rIx (n := 84000) (rR (x := 2)) rfl) (vc_X12_route_22 h30.2.1 h30.2.2.1 h36 h32 h37 h35) fun μ53 u54 T55 => ?_
    refine sv_aload_n (pc := 63) dX12_route_63 rfl rfl ?_
    refine gf_X12_32 (pc := 64) dX12_route_64 wF_X12_148 (A_106 hw) T55 ?_
    refine mr_iconst (pc := 67) (z := 3) dX12_route_67 ?_
    refine mr_iload (pc := 68) (z := p4) dX12_route_68 rfl ?_
    refine ss_126 (pc := 70) dX12_route_70 (A_126 hw) T55 (rIx (n := 84000) (rR (x := 3)) rfl) (vc_X12_route_23 h41.2.1 h41.2.2.1 h45 h43 h46 h44) fun μ56 u57 T58 => ?_
    refine sv_aload_n (pc := 71) dX12_route_71 rfl rfl ?_
    refine gf_X12_32 (pc := 72) dX12_route_72 wF_X12_148 (A_106 hw) T58 ?_
    refine mr_iconst (pc := 75) (z := 4) dX12_route_75 ?_
    refine sv_aload_n (pc := 76) dX12_route_76 rfl rfl ?_
    refine gf_X12_15 (pc := 77) dX12_route_77 wF_X12_79 (A_106 hw) T58 fun z59 q60 h61 => ?_
    refine ss_126 (pc := 80) dX12_route_80 (A_126 hw) T58 (rIx (n := 84000) (rR (x := 4)) rfl) (vc_X12_route_24 h61) fun μ62 u63 T64 => ?_
    refine sv_aload_n (pc := 81) dX12_route_81 rfl rfl ?_
    refine gf_X12_32 (pc := 82) dX12_route_82 wF_X12_148 (A_106 hw) T64 ?_
    refine mr_iconst (pc := 85) (z := 5) dX12_route_85 ?_
    refine mr_iconst (pc := 86) (z := 0) dX12_route_86 ?_
    refine ss_126 (pc := 87) dX12_route_87 (A_126 hw) T64 (rIx (n := 84000) (rR (x := 5)) rfl) vc_X12_route_25 fun μ65 u66 T67 => ?_
    refine mr_iconst (pc := 88) (z := 0) dX12_route_88 ?_
    refine mr_istore (pc := 89) (lv' := [(5, iv 0), (0, .ref 106), (1, iv p1), (2, iv p2), (3, iv p3), (4, iv p4)]) dX12_route_89 (by decide) rfl ?_
    have L252 : ∀ (nL252 : Nat) (z250 : Int) (μ251 : mM), mT w μ251 → mF [126999] w μ65 μ251 → (0 ≤ z250 ∧ z250 ≤ 20) → (21 - z250) < (nL252 : Int) → sV (gG l D c H0 sa) mX12_route (sRm 3 0 0) (sZ (gG l D c H0 sa) 0 0 (qI w [106070, 126999] μ (fun z μ1 => ((-2147483648) ≤ z ∧ z ≤ 2147483647) ∧ True))) 91 [(0, .ref 106), (5, iv z250)] [] (mk w μ251) 0 0 := by
      intro nL252
      induction nL252 with
      | zero => intro z250 μ251 T254 F255 h253 h257; exact ((vc_X12_route_26 h257 h253)).elim
      | succ nL252 ih258 =>
        intro z250 μ251 T254 F255 h253 h257
        refine mr_iload (pc := 91) (z := z250) dX12_route_91 rfl ?_
        refine sv_aload_n (pc := 93) dX12_route_93 rfl rfl ?_
        refine gk_X12_15 (pc := 94) dX12_route_94 wF_X12_79 (A_106 hw) (F255.f (A_106 hw) rfl (u66.f (Or.inl (mAt.ne (A_126 hw) (A_106 hw) rfl)) (u63.f (Or.inl (mAt.ne (A_126 hw) (A_106 hw) rfl)) q60))) ?_
        refine mr_icmp_ge (pc := 97) (tgt := 123) dX12_route_97 (by decide) (r32 h253 rfl) (r32 h61 rfl) (fun h267 => ?_) (fun h267 => ?_)
        · refine sv_aload_n (pc := 123) dX12_route_123 rfl rfl ?_
          refine mr_iconst (pc := 124) (z := 1) dX12_route_124 ?_
          refine pf_X12_70 (pc := 125) dX12_route_125 wF_X12_411 (A_106 hw) T254 (rW (c := 0) (d := 1) (rR (x := 1)) rfl) fun μ268 u269 T270 => ?_
          refine mr_iconst (pc := 128) (z := 0) dX12_route_128 ?_
          exact mr_iret dX12_route_129 rfl (le_t rfl) (le_t rfl) T270 (mF.up (mF.call (mF.up (mF.up (mF.up (mF.up (mF.up (mF.up mF.refl (A_126 hw) u48 rfl) (A_126 hw) u51 rfl) (A_126 hw) u54 rfl) (A_126 hw) u57 rfl) (A_126 hw) u63 rfl) (A_126 hw) u66 rfl) F255 rfl) (A_106 hw) u269 rfl) ⟨(rW (c := (-2147483648)) (d := 2147483647) (rR (x := 0)) rfl), trivial⟩
        have h271 : 0 ≤ z250 ∧ z250 ≤ 19 := (vc_X12_route_27 h267 h253 h61)
        have h272 : 1 ≤ z59 ∧ z59 ≤ 20 := (vc_X12_route_28 h267 h271 h61)
        refine sv_aload_n (pc := 100) dX12_route_100 rfl rfl ?_
        refine gf_X12_32 (pc := 101) dX12_route_101 wF_X12_148 (A_106 hw) T254 ?_
        refine mr_bipush (pc := 104) (z := 6) dX12_route_104 (by decide) ?_
        refine mr_iload (pc := 106) (z := z250) dX12_route_106 rfl ?_
        refine mr_iadd (pc := 108) (x := 6) (y := z250) dX12_route_108 ?_
        refine sv_aload_n (pc := 109) dX12_route_109 rfl rfl ?_
        refine gf_X12_16 (pc := 110) dX12_route_110 wF_X12_82 (A_106 hw) T254 ?_
        refine mr_iload (pc := 113) (z := z250) dX12_route_113 rfl ?_
        refine la_118 (pc := 115) dX12_route_115 (A_118 hw) T254 (rIx (n := 20) h271 rfl) fun z273 q274 h275 => ?_
        refine ss_126 (pc := 116) dX12_route_116 (A_126 hw) T254 (rIx (n := 84000) (rAdd (e := 6) (f := 25) (rR (x := 6)) h271 rfl) rfl) (vc_X12_route_29 h267 h271 h275 h272) fun μ276 u277 T278 => ?_
        refine mr_iinc (pc := 117) (lv' := [(5, iv (z250 + 1)), (0, .ref 106)]) dX12_route_117 rfl (by decide) rfl ?_
        refine sv_goto (pc := 120) (tgt := 91) dX12_route_120 (by decide) ?_
        refine mr_lvS (lv' := [(0, .ref 106), (5, iv (z250 + 1))]) (List.forall_mem_cons.mpr ⟨rfl, List.forall_mem_cons.mpr ⟨rfl, fun _ h => absurd h List.not_mem_nil⟩⟩) ?_
        exact ih258 (z250 + 1) μ276 T278 (mF.up (mF.call mF.refl F255 rfl) (A_126 hw) u277 rfl) (rW (c := 0) (d := 20) (rAdd (e := 1) (f := 20) h271 (rR (x := 1)) rfl) rfl) (vc_X12_route_30 (nS h257) h267 h271 h272)
    refine mr_lvS (lv' := [(0, .ref 106), (5, iv 0)]) (List.forall_mem_cons.mpr ⟨rfl, List.forall_mem_cons.mpr ⟨rfl, fun _ h => absurd h List.not_mem_nil⟩⟩) ?_
    exact L252 22 0 μ65 T67 mF.refl (rW (c := 0) (d := 20) (rR (x := 0)) rfl) vc_X12_route_31
  have h279 : 0 ≤ z42 ∧ z42 ≤ 0 := (vc_X12_route_32 h43 h41.2.1 h41.2.2.1 hp4 h41.1)
  have h280 : p4 < (0 : Int) ∨ (1000000 : Int) < p4 := (h41.2.2.1 (vc_X12_route_33 h41.2.1 h41.2.2.1 h43 hp4 h279))
  refine mr_iconst (pc := 40) (z := (-1)) dX12_route_40 ?_
  exact mr_iret dX12_route_41 rfl (le_t rfl) (le_t rfl) hT mF.refl ⟨(rW (c := (-2147483648)) (d := 2147483647) (rR (x := (-1))) rfl), trivial⟩
