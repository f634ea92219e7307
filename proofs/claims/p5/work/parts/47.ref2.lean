theorem vc_X12_slot_1 {p1 p2 p3 : Int} (h0 : 0 ≤ p1 ∧ p1 ≤ 20) (h1 : 0 ≤ p2 ∧ p2 ≤ 2) (h2 : 0 ≤ p3 ∧ p3 ≤ 9) : ((((2 * p1) + p2) * 10) + p3) = 20 * p1 + 10 * p2 + p3 := by omega
set_option maxRecDepth 4000 in
set_option maxHeartbeats 4000000 in
theorem c_X12_slot {l : Launch} {D : va_G} {c : Nat → ClassId} {H0 : Heap} {sa : Nat × Nat × (Nat → Int32)} {w : mW} {μ : mM} (hw : mWF w) (hT : mT w μ) {p1 : Int} (hp1 : 0 ≤ p1 ∧ p1 ≤ 20) {p2 : Int} (hp2 : 0 ≤ p2 ∧ p2 ≤ 2) {p3 : Int} (hp3 : 0 ≤ p3 ∧ p3 ≤ 9) : sC (gG l D c H0 sa) mX12_slot 1 0 0 [iv p1, iv p2, iv p3] (mk w μ) (qP w μ (fun z => (0 ≤ z ∧ z ≤ 449) ∧ (z = 20 * p1 + 10 * p2 + p3) ∧ True)) := by
  refine sC.of rfl (by decide) (le_t rfl) ?_
  refine mr_lvE (lv' := [(0, iv p1), (1, iv p2), (2, iv p3)]) rfl ?_
  refine mr_iconst (z := 2) dX12_slot_0 ?_
  refine mr_iload_n (z := p1) dX12_slot_1 rfl rfl ?_
  refine mr_imul (x := 2) (y := p1) dX12_slot_2 ?_
  refine mr_iload_n (z := p2) dX12_slot_3 rfl rfl ?_
  refine mr_iadd (x := (2 * p1)) (y := p2) dX12_slot_4 ?_
  refine mr_bipush (z := 10) dX12_slot_5 (by decide) ?_
  refine mr_imul (x := ((2 * p1) + p2)) (y := 10) dX12_slot_7 ?_
  refine mr_iload_n (z := p3) dX12_slot_8 rfl rfl ?_
  refine mr_iadd (x := (((2 * p1) + p2) * 10)) (y := p3) dX12_slot_9 ?_
  exact mr_iretP dX12_slot_10 rfl (le_t rfl) (le_t rfl) ⟨(rW (c := 0) (d := 449) (rAdd (e := 0) (f := 429) (rMulR (n := 10) (e := 0) (f := 420) (rAdd (e := 0) (f := 42) (rMulL (n := 2) (e := 0) (f := 40) hp1 rfl) hp2 rfl) rfl) hp3 rfl) rfl), (vc_X12_slot_1 hp1 hp2 hp3), trivial⟩
theorem vc_X12_sideOf_1 {f_e0 p2 : Int} (h0 : ¬ f_e0 = p2) (h1 : 0 ≤ f_e0 ∧ f_e0 ≤ 9) (h2 : (-2147483648) ≤ p2 ∧ p2 ≤ 2147483647) : (1 : Int) = 0 → f_e0 = p2 := by omega
theorem vc_X12_sideOf_2 {f_e0 p2 : Int} (h0 : ¬ f_e0 = p2) (h1 : 0 ≤ f_e0 ∧ f_e0 ≤ 9) (h2 : (-2147483648) ≤ p2 ∧ p2 ≤ 2147483647) : (1 : Int) = 1 → ¬ f_e0 = p2 := by omega
theorem vc_X12_sideOf_3 {f_e0 p2 : Int} (h0 : f_e0 = p2) (h1 : 0 ≤ f_e0 ∧ f_e0 ≤ 9) (h2 : (-2147483648) ≤ p2 ∧ p2 ≤ 2147483647) : 0 ≤ p2 ∧ p2 ≤ 9 := by omega
theorem vc_X12_sideOf_4 {f_e0 p2 : Int} (h0 : f_e0 = p2) (h1 : 0 ≤ f_e0 ∧ f_e0 ≤ 9) (h2 : 0 ≤ p2 ∧ p2 ≤ 9) : (0 : Int) = 0 → f_e0 = p2 := by omega
theorem vc_X12_sideOf_5 {f_e0 p2 : Int} (h0 : f_e0 = p2) (h1 : 0 ≤ f_e0 ∧ f_e0 ≤ 9) (h2 : 0 ≤ p2 ∧ p2 ≤ 9) : (0 : Int) = 1 → ¬ f_e0 = p2 := by omega
set_option maxRecDepth 4000 in
set_option maxHeartbeats 4000000 in
theorem c_X12_sideOf {l : Launch} {D : va_G} {c : Nat → ClassId} {H0 : Heap} {sa : Nat × Nat × (Nat → Int32)} {w : mW} {μ : mM} (hw : mWF w) (hT : mT w μ) {p1 : Int} (hp1 : 0 ≤ p1 ∧ p1 ≤ 19) {p2 : Int} (hp2 : (-2147483648) ≤ p2 ∧ p2 ≤ 2147483647) {f_e0 : Int} (q_f_e0 : μ 110 (2 * p1).toNat = f_e0) : sC (gG l D c H0 sa) mX12_sideOf 1 0 0 [.ref 106, iv p1, iv p2] (mk w μ) (qP w μ (fun z => (0 ≤ z ∧ z ≤ 1) ∧ (z = 0 → f_e0 = p2) ∧ (z = 1 → ¬ f_e0 = p2) ∧ True)) := by
  refine sC.of rfl (by decide) (le_t rfl) ?_
  have ht_f_e0 : (0 ≤ f_e0 ∧ f_e0 ≤ 9) := by rw [← q_f_e0]; exact hT 110 110 (A_110 hw) (2 * p1).toNat
  refine mr_lvE (lv' := [(0, .ref 106), (1, iv p1), (2, iv p2)]) rfl ?_
  refine sv_aload_n dX12_sideOf_0 rfl rfl ?_
  refine gf_X12_7 dX12_sideOf_1 wF_X12_40 (A_106 hw) hT ?_
  refine mr_iconst (z := 2) dX12_sideOf_4 ?_
  refine mr_iload_n (z := p1) dX12_sideOf_5 rfl rfl ?_
  refine mr_imul (x := 2) (y := p1) dX12_sideOf_6 ?_
  refine lk_110 dX12_sideOf_7 (A_110 hw) (rIx (n := 40) (rMulL (n := 2) (e := 0) (f := 38) hp1 rfl) rfl) q_f_e0 ?_
  refine mr_iload_n (z := p2) dX12_sideOf_8 rfl rfl ?_
  refine mr_icmp_ne (tgt := 16) dX12_sideOf_9 (by decide) (r32 ht_f_e0 rfl) hp2 (fun h5 => ?_) (fun h5 => ?_)
  · refine mr_iconst (z := 1) dX12_sideOf_16 ?_
    exact mr_iretP dX12_sideOf_17 rfl (le_t rfl) (le_t rfl) ⟨(rW (c := 0) (d := 1) (rR (x := 1)) rfl), (vc_X12_sideOf_1 h5 ht_f_e0 hp2), (vc_X12_sideOf_2 h5 ht_f_e0 hp2), trivial⟩
  have h6 : 0 ≤ p2 ∧ p2 ≤ 9 := (vc_X12_sideOf_3 h5 ht_f_e0 hp2)
  refine mr_iconst (z := 0) dX12_sideOf_12 ?_
  refine sv_goto (tgt := 17) dX12_sideOf_13 (by decide) ?_
  exact mr_iretP dX12_sideOf_17 rfl (le_t rfl) (le_t rfl) ⟨(rW (c := 0) (d := 1) (rR (x := 0)) rfl), (vc_X12_sideOf_4 h5 ht_f_e0 h6), (vc_X12_sideOf_5 h5 ht_f_e0 h6), trivial⟩
theorem vc_X12_isAt_1 {f_e0 p2 : Int} (h0 : f_e0 = p2) (h1 : 0 ≤ f_e0 ∧ f_e0 ≤ 9) (h2 : (-2147483648) ≤ p2 ∧ p2 ≤ 2147483647) : 0 ≤ p2 ∧ p2 ≤ 9 := by omega
theorem vc_X12_isAt_2 {f_e0 f_e1 p2 : Int} (h0 : f_e0 = p2) (h1 : 0 ≤ f_e0 ∧ f_e0 ≤ 9) (h2 : 0 ≤ f_e1 ∧ f_e1 ≤ 9) (h3 : 0 ≤ p2 ∧ p2 ≤ 9) : (1 : Int) = 1 → f_e0 = p2 ∨ f_e1 = p2 := by omega
theorem vc_X12_isAt_3 {f_e0 f_e1 p2 : Int} (h0 : f_e0 = p2) (h1 : 0 ≤ f_e0 ∧ f_e0 ≤ 9) (h2 : 0 ≤ f_e1 ∧ f_e1 ≤ 9) (h3 : 0 ≤ p2 ∧ p2 ≤ 9) : (1 : Int) = 0 → ¬ f_e0 = p2 ∧ ¬ f_e1 = p2 := by omega
theorem vc_X12_isAt_4 {f_e0 f_e1 p2 : Int} (h0 : ¬ f_e0 = p2) (h1 : ¬ f_e1 = p2) (h2 : 0 ≤ f_e0 ∧ f_e0 ≤ 9) (h3 : 0 ≤ f_e1 ∧ f_e1 ≤ 9) (h4 : (-2147483648) ≤ p2 ∧ p2 ≤ 2147483647) : (0 : Int) = 1 → f_e0 = p2 ∨ f_e1 = p2 := by omega
theorem vc_X12_isAt_5 {f_e0 f_e1 p2 : Int} (h0 : ¬ f_e0 = p2) (h1 : ¬ f_e1 = p2) (h2 : 0 ≤ f_e0 ∧ f_e0 ≤ 9) (h3 : 0 ≤ f_e1 ∧ f_e1 ≤ 9) (h4 : (-2147483648) ≤ p2 ∧ p2 ≤ 2147483647) : (0 : Int) = 0 → ¬ f_e0 = p2 ∧ ¬ f_e1 = p2 := by omega
theorem vc_X12_isAt_6 {f_e0 f_e1 p2 : Int} (h0 : f_e1 = p2) (h1 : ¬ f_e0 = p2) (h2 : 0 ≤ f_e0 ∧ f_e0 ≤ 9) (h3 : 0 ≤ f_e1 ∧ f_e1 ≤ 9) (h4 : (-2147483648) ≤ p2 ∧ p2 ≤ 2147483647) : 0 ≤ p2 ∧ p2 ≤ 9 := by omega
theorem vc_X12_isAt_7 {f_e0 f_e1 p2 : Int} (h0 : ¬ f_e0 = p2) (h1 : f_e1 = p2) (h2 : 0 ≤ f_e0 ∧ f_e0 ≤ 9) (h3 : 0 ≤ f_e1 ∧ f_e1 ≤ 9) (h4 : 0 ≤ p2 ∧ p2 ≤ 9) : (1 : Int) = 1 → f_e0 = p2 ∨ f_e1 = p2 := by omega
theorem vc_X12_isAt_8 {f_e0 f_e1 p2 : Int} (h0 : ¬ f_e0 = p2) (h1 : f_e1 = p2) (h2 : 0 ≤ f_e0 ∧ f_e0 ≤ 9) (h3 : 0 ≤ f_e1 ∧ f_e1 ≤ 9) (h4 : 0 ≤ p2 ∧ p2 ≤ 9) : (1 : Int) = 0 → ¬ f_e0 = p2 ∧ ¬ f_e1 = p2 := by omega
set_option maxRecDepth 4000 in
set_option maxHeartbeats 4000000 in
theorem c_X12_isAt {l : Launch} {D : va_G} {c : Nat → ClassId} {H0 : Heap} {sa : Nat × Nat × (Nat → Int32)} {w : mW} {μ : mM} (hw : mWF w) (hT : mT w μ) {p1 : Int} (hp1 : 0 ≤ p1 ∧ p1 ≤ 19) {p2 : Int} (hp2 : (-2147483648) ≤ p2 ∧ p2 ≤ 2147483647) {f_e0 : Int} (q_f_e0 : μ 110 (2 * p1).toNat = f_e0) {f_e1 : Int} (q_f_e1 : μ 110 ((2 * p1) + 1).toNat = f_e1) : sC (gG l D c H0 sa) mX12_isAt 1 0 0 [.ref 106, iv p1, iv p2] (mk w μ) (qP w μ (fun z => (0 ≤ z ∧ z ≤ 1) ∧ (z = 1 → f_e0 = p2 ∨ f_e1 = p2) ∧ (z = 0 → ¬ f_e0 = p2 ∧ ¬ f_e1 = p2) ∧ True)) := by
  refine sC.of rfl (by decide) (le_t rfl) ?_
  have ht_f_e0 : (0 ≤ f_e0 ∧ f_e0 ≤ 9) := by rw [← q_f_e0]; exact hT 110 110 (A_110 hw) (2 * p1).toNat
  have ht_f_e1 : (0 ≤ f_e1 ∧ f_e1 ≤ 9) := by rw [← q_f_e1]; exact hT 110 110 (A_110 hw) ((2 * p1) + 1).toNat
  refine mr_lvE (lv' := [(0, .ref 106), (1, iv p1), (2, iv p2)]) rfl ?_
  refine sv_aload_n dX12_isAt_0 rfl rfl ?_
  refine gf_X12_7 dX12_isAt_1 wF_X12_40 (A_106 hw) hT ?_
  refine mr_iconst (z := 2) dX12_isAt_4 ?_
  refine mr_iload_n (z := p1) dX12_isAt_5 rfl rfl ?_
  refine mr_imul (x := 2) (y := p1) dX12_isAt_6 ?_
  refine lk_110 dX12_isAt_7 (A_110 hw) (rIx (n := 40) (rMulL (n := 2) (e := 0) (f := 38) hp1 rfl) rfl) q_f_e0 ?_
  refine mr_iload_n (z := p2) dX12_isAt_8 rfl rfl ?_
  refine mr_icmp_eq (tgt := 26) dX12_isAt_9 (by decide) (r32 ht_f_e0 rfl) hp2 (fun h9 => ?_) (fun h9 => ?_)
  · have h10 : 0 ≤ p2 ∧ p2 ≤ 9 := (vc_X12_isAt_1 h9 ht_f_e0 hp2)
    refine mr_iconst (z := 1) dX12_isAt_26 ?_
    refine sv_goto (tgt := 31) dX12_isAt_27 (by decide) ?_
    exact mr_zretP dX12_isAt_31 rfl (rW (c := 0) (d := 1) (rR (x := 1)) rfl) (le_t rfl) (le_t rfl) ⟨(rW (c := 0) (d := 1) (rR (x := 1)) rfl), (vc_X12_isAt_2 h9 ht_f_e0 ht_f_e1 h10), (vc_X12_isAt_3 h9 ht_f_e0 ht_f_e1 h10), trivial⟩
  refine sv_aload_n dX12_isAt_12 rfl rfl ?_
  refine gf_X12_7 dX12_isAt_13 wF_X12_40 (A_106 hw) hT ?_
  refine mr_iconst (z := 2) dX12_isAt_16 ?_
  refine mr_iload_n (z := p1) dX12_isAt_17 rfl rfl ?_
  refine mr_imul (x := 2) (y := p1) dX12_isAt_18 ?_
  refine mr_iconst (z := 1) dX12_isAt_19 ?_
  refine mr_iadd (x := (2 * p1)) (y := 1) dX12_isAt_20 ?_
  refine lk_110 dX12_isAt_21 (A_110 hw) (rIx (n := 40) (rAdd (e := 1) (f := 39) (rMulL (n := 2) (e := 0) (f := 38) hp1 rfl) (rR (x := 1)) rfl) rfl) q_f_e1 ?_
  refine mr_iload_n (z := p2) dX12_isAt_22 rfl rfl ?_
  refine mr_icmp_ne (tgt := 30) dX12_isAt_23 (by decide) (r32 ht_f_e1 rfl) hp2 (fun h12 => ?_) (fun h12 => ?_)
  · refine mr_iconst (z := 0) dX12_isAt_30 ?_
    exact mr_zretP dX12_isAt_31 rfl (rW (c := 0) (d := 1) (rR (x := 0)) rfl) (le_t rfl) (le_t rfl) ⟨(rW (c := 0) (d := 1) (rR (x := 0)) rfl), (vc_X12_isAt_4 h9 h12 ht_f_e0 ht_f_e1 hp2), (vc_X12_isAt_5 h9 h12 ht_f_e0 ht_f_e1 hp2), trivial⟩
  have h13 : 0 ≤ p2 ∧ p2 ≤ 9 := (vc_X12_isAt_6 h12 h9 ht_f_e0 ht_f_e1 hp2)
  refine mr_iconst (z := 1) dX12_isAt_26 ?_
  refine sv_goto (tgt := 31) dX12_isAt_27 (by decide) ?_
  exact mr_zretP dX12_isAt_31 rfl (rW (c := 0) (d := 1) (rR (x := 1)) rfl) (le_t rfl) (le_t rfl) ⟨(rW (c := 0) (d := 1) (rR (x := 1)) rfl), (vc_X12_isAt_7 h9 h12 ht_f_e0 ht_f_e1 h13), (vc_X12_isAt_8 h9 h12 ht_f_e0 ht_f_e1 h13), trivial⟩
set_option maxRecDepth 4000 in
set_option maxHeartbeats 4000000 in
theorem c_X12_partnerOf {l : Launch} {D : va_G} {c : Nat → ClassId} {H0 : Heap} {sa : Nat × Nat × (Nat → Int32)} {w : mW} {μ : mM} (hw : mWF w) (hT : mT w μ) {p1 : Int} (hp1 : 0 ≤ p1 ∧ p1 ≤ 19) {p2 : Int} (hp2 : (-2147483648) ≤ p2 ∧ p2 ≤ 2147483647) : sC (gG l D c H0 sa) mX12_partnerOf 2 0 0 [.ref 106, iv p1, iv p2] (mk w μ) (qP w μ (fun z => (0 ≤ z ∧ z ≤ 9) ∧ True)) := by
  refine sC.of rfl (by decide) (le_t rfl) ?_
  refine mr_lvE (lv' := [(0, .ref 106), (1, iv p1), (2, iv p2)]) rfl ?_
  refine sv_aload_n dX12_partnerOf_0 rfl rfl ?_
  refine gf_X12_7 dX12_partnerOf_1 wF_X12_40 (A_106 hw) hT ?_
  refine mr_iconst (z := 2) dX12_partnerOf_4 ?_
  refine mr_iload_n (z := p1) dX12_partnerOf_5 rfl rfl ?_
  refine mr_imul (x := 2) (y := p1) dX12_partnerOf_6 ?_
  refine mr_iconst (z := 1) dX12_partnerOf_7 ?_
  refine mr_iadd (x := (2 * p1)) (y := 1) dX12_partnerOf_8 ?_
  refine sv_aload_n dX12_partnerOf_9 rfl rfl ?_
  refine mr_iload_n (z := p1) dX12_partnerOf_10 rfl rfl ?_
  refine mr_iload_n (z := p2) dX12_partnerOf_11 rfl rfl ?_
  obtain ⟨z1, q2⟩ : ∃ z, μ 110 (2 * p1).toNat = z := ⟨_, rfl⟩
  have h3 : (0 ≤ z1 ∧ z1 ≤ 9) := by rw [← q2]; exact hT 110 110 (A_110 hw) (2 * p1).toNat
  refine mr_cVP (c_X12_sideOf hw hT hp1 hp2 q2) (gOk _ _ _ _ _) dX12_partnerOf_12 (tX12_sideOf _ _ _ _ _) ⟨wV_X12_sideOf, wL_X12_sideOf⟩ wM_X12_542 (gCX12 _ _ _ _ _) rfl (A_106 hw) rfl ⟨le_t rfl, le_t rfl⟩ ⟨le_t rfl, le_t rfl⟩ rfl (le_t rfl) fun z8 h7 => ?_
  refine mr_isub (x := ((2 * p1) + 1)) (y := z8) dX12_partnerOf_15 ?_
  refine la_110 dX12_partnerOf_16 (A_110 hw) hT (rIx (n := 40) (rSub (e := 0) (f := 39) (rAdd (e := 1) (f := 39) (rMulL (n := 2) (e := 0) (f := 38) hp1 rfl) (rR (x := 1)) rfl) h7.1 rfl) rfl) fun z9 q10 h11 => ?_
  exact mr_iretP dX12_partnerOf_17 rfl (le_t rfl) (le_t rfl) ⟨h11, trivial⟩
theorem vc_X12_unlike_1 {z917 : Int} (h0 : (7 - z917) < ((0 : Nat) : Int)) (h1 : 0 ≤ z917 ∧ z917 ≤ 6) : False := by omega
theorem vc_X12_unlike_2 {z917 : Int} (h0 : 6 ≤ z917) (h1 : 0 ≤ z917 ∧ z917 ≤ 6) : 6 ≤ z917 ∧ z917 ≤ 6 := by omega
theorem vc_X12_unlike_3 {z917 : Int} (h0 : z917 < 6) (h1 : 0 ≤ z917 ∧ z917 ≤ 6) : 0 ≤ z917 ∧ z917 ≤ 5 := by omega
theorem vc_X12_unlike_4 {p2 : Int} (h0 : 0 ≤ p2 ∧ p2 ≤ 2099) : ((40 * p2) + 4) % 40 = 4 := by omega
theorem vc_X12_unlike_5 {z1041 : Int} (h0 : z1041 = 0) (h1 : (-2147483648) ≤ z1041 ∧ z1041 ≤ 2147483647) : 0 ≤ z1041 ∧ z1041 ≤ 0 := by omega
theorem vc_X12_unlike_6 {N z917 : Int} (h0 : (7 - z917) < N + 1) (h1 : z917 < 6) (h2 : 0 ≤ z917 ∧ z917 ≤ 5) : (7 - (z917 + 1)) < N := by omega
theorem vc_X12_unlike_7 {z1041 : Int} (h0 : 0 ≤ z1041) (h1 : ¬ z1041 = 0) (h2 : (-2147483648) ≤ z1041 ∧ z1041 ≤ 2147483647) : 0 ≤ z1041 ∧ z1041 ≤ 2147483647 := by omega
theorem vc_X12_unlike_8 {z1041 : Int} (h0 : z1041 < 0) (h1 : ¬ z1041 = 0) (h2 : (-2147483648) ≤ z1041 ∧ z1041 ≤ 2147483647) : (-2147483648) ≤ z1041 ∧ z1041 ≤ (-1) := by omega
theorem vc_X12_unlike_9 {z928 : Int} (h0 : z928 = 5) (h1 : 0 ≤ z928 ∧ z928 ≤ 6) : 5 ≤ z928 ∧ z928 ≤ 5 := by omega
theorem vc_X12_unlike_10 {p1 p3 p6 z1053 z1060 z1065 : Int} (h0 : z1065 = 20 * p3 + 10 * z1060 + p6) (h1 : (z1060 = 0 → z1053 = p1)) (h2 : (z1060 = 1 → ¬ z1053 = p1)) (h3 : 0 ≤ p1 ∧ p1 ≤ 9) (h4 : 0 ≤ p3 ∧ p3 ≤ 19) (h5 : 0 ≤ p6 ∧ p6 ≤ 9) (h6 : 0 ≤ z1053 ∧ z1053 ≤ 9) (h7 : 0 ≤ z1060 ∧ z1060 ≤ 1) (h8 : 0 ≤ z1065 ∧ z1065 ≤ 449) : 0 ≤ z1065 ∧ z1065 < 400 := by omega
theorem vc_X12_unlike_11 {p1 p3 p5 p6 z1060 z1065 z1069 z1076 z1081 : Int} (h0 : z1081 = 20 * p5 + 10 * z1076 + p6) (h1 : z1065 = 20 * p3 + 10 * z1060 + p6) (h2 : (z1076 = 0 → z1069 = p1)) (h3 : (z1076 = 1 → ¬ z1069 = p1)) (h4 : 0 ≤ p1 ∧ p1 ≤ 9) (h5 : 0 ≤ p3 ∧ p3 ≤ 19) (h6 : 0 ≤ p5 ∧ p5 ≤ 19) (h7 : 0 ≤ p6 ∧ p6 ≤ 9) (h8 : 0 ≤ z1060 ∧ z1060 ≤ 1) (h9 : 0 ≤ z1065 ∧ z1065 ≤ 449) (h10 : 0 ≤ z1069 ∧ z1069 ≤ 9) (h11 : 0 ≤ z1076 ∧ z1076 ≤ 1) (h12 : 0 ≤ z1081 ∧ z1081 ≤ 449) : 0 ≤ z1081 ∧ z1081 < 400 := by omega
theorem vc_X12_unlike_12 {z928 : Int} (h0 : ¬ z928 = 6) (h1 : ¬ z928 = 4) (h2 : 0 ≤ z928 ∧ z928 ≤ 6) : 0 ≤ z928 ∧ z928 ≤ 5 := by omega
theorem vc_X12_unlike_13 {z928 : Int} (h0 : z928 = 6) (h1 : ¬ z928 = 4) (h2 : 0 ≤ z928 ∧ z928 ≤ 6) : 6 ≤ z928 ∧ z928 ≤ 6 := by omega
theorem vc_X12_unlike_14 {z928 : Int} (h0 : z928 = 4) (h1 : 0 ≤ z928 ∧ z928 ≤ 6) : 4 ≤ z928 ∧ z928 ≤ 4 := by omega
theorem vc_X12_unlike_15 {z949 : Int} (h0 : ¬ z949 = 0) (h1 : 0 ≤ z949 ∧ z949 ≤ 1) : 1 ≤ z949 ∧ z949 ≤ 1 := by omega
theorem vc_X12_unlike_16 {z949 : Int} (h0 : z949 = 0) (h1 : 0 ≤ z949 ∧ z949 ≤ 1) : 0 ≤ z949 ∧ z949 ≤ 0 := by omega
theorem vc_X12_unlike_17 {z928 : Int} (h0 : z928 = 6) (h1 : 4 ≤ z928 ∧ z928 ≤ 4) : False := by omega
theorem vc_X12_unlike_18 {z928 : Int} (h0 : z928 = 3) (h1 : 0 ≤ z928 ∧ z928 ≤ 6) : 3 ≤ z928 ∧ z928 ≤ 3 := by omega
theorem vc_X12_unlike_19 {z928 : Int} (h0 : z928 = 2) (h1 : 0 ≤ z928 ∧ z928 ≤ 6) : 2 ≤ z928 ∧ z928 ≤ 2 := by omega
theorem vc_X12_unlike_20 {p4 : Int} (h0 : 0 ≤ p4 ∧ p4 ≤ 2099) : ((40 * p4) + 4) % 40 = 4 := by omega
theorem vc_X12_unlike_21 {z928 : Int} (h0 : z928 = 1) (h1 : 0 ≤ z928 ∧ z928 ≤ 6) : 1 ≤ z928 ∧ z928 ≤ 1 := by omega
theorem vc_X12_unlike_22 {z931 : Int} (h0 : z931 ≤ 0) (h1 : 0 ≤ z931 ∧ z931 ≤ 20) : 0 ≤ z931 ∧ z931 ≤ 0 := by omega
theorem vc_X12_unlike_23 {z931 : Int} (h0 : 0 < z931) (h1 : 0 ≤ z931 ∧ z931 ≤ 20) : 1 ≤ z931 ∧ z931 ≤ 20 := by omega
theorem vc_X12_unlike_24 {z1138 : Int} (h0 : z1138 ≤ 0) (h1 : 0 ≤ z1138 ∧ z1138 ≤ 20) : 0 ≤ z1138 ∧ z1138 ≤ 0 := by omega
theorem vc_X12_unlike_25 {z1138 : Int} (h0 : 0 < z1138) (h1 : 0 ≤ z1138 ∧ z1138 ≤ 20) : 1 ≤ z1138 ∧ z1138 ≤ 20 := by omega
theorem vc_X12_unlike_26  : (7 - 0) < ((8 : Nat) : Int) := by omega
set_option maxRecDepth 4000 in
set_option maxHeartbeats 4000000 in
theorem c_X12_unlike {l : Launch} {D : va_G} {c : Nat → ClassId} {H0 : Heap} {sa : Nat × Nat × (Nat → Int32)} {w : mW} {μ : mM} (hw : mWF w) (hT : mT w μ) {p1 : Int} (hp1 : 0 ≤ p1 ∧ p1 ≤ 9) {p2 : Int} (hp2 : 0 ≤ p2 ∧ p2 ≤ 2099) {p3 : Int} (hp3 : 0 ≤ p3 ∧ p3 ≤ 19) {p4 : Int} (hp4 : 0 ≤ p4 ∧ p4 ≤ 2099) {p5 : Int} (hp5 : 0 ≤ p5 ∧ p5 ≤ 19) {p6 : Int} (hp6 : 0 ≤ p6 ∧ p6 ≤ 9) : sC (gG l D c H0 sa) mX12_unlike 2 0 0 [.ref 106, iv p1, iv p2, iv p3, iv p4, iv p5, iv p6] (mk w μ) (qP w μ (fun z => ((-6) ≤ z ∧ z ≤ 6) ∧ True)) := by
  refine sC.of rfl (by decide) (le_t rfl) ?_
  refine mr_lvE (lv' := [(0, .ref 106), (1, iv p1), (2, iv p2), (3, iv p3), (4, iv p4), (5, iv p5), (6, iv p6)]) rfl ?_
  refine mr_iconst (z := 0) dX12_unlike_0 ?_
  refine mr_istore (lv' := [(7, iv 0), (0, .ref 106), (1, iv p1), (2, iv p2), (3, iv p3), (4, iv p4), (5, iv p5), (6, iv p6)]) dX12_unlike_1 (by decide) rfl ?_
  have L918 : ∀ (nL918 : Nat) (z917 : Int), True → (0 ≤ z917 ∧ z917 ≤ 6) → (7 - z917) < (nL918 : Int) → sV (gG l D c H0 sa) mX12_unlike (sRm 2 0 0) (sZ (gG l D c H0 sa) 0 0 (qP w μ (fun z => ((-6) ≤ z ∧ z ≤ 6) ∧ True))) 3 [(0, .ref 106), (1, iv p1), (2, iv p2), (3, iv p3), (4, iv p4), (5, iv p5), (6, iv p6), (7, iv z917)] [] (mk w μ) 0 0 := by
    intro nL918
    induction nL918 with
    | zero => intro z917 _ h919 h923; exact ((vc_X12_unlike_1 h923 h919)).elim
    | succ nL918 ih924 =>
      intro z917 _ h919 h923
      refine mr_iload (z := z917) dX12_unlike_3 rfl ?_
      refine mr_bipush (z := 6) dX12_unlike_5 (by decide) ?_
      refine mr_icmp_ge (tgt := 284) dX12_unlike_7 (by decide) (r32 h919 rfl) (r32 (rR (x := 6)) rfl) (fun h925 => ?_) (fun h925 => ?_)
      · have h926 : 6 ≤ z917 ∧ z917 ≤ 6 := (vc_X12_unlike_2 h925 h919)
        refine mr_iconst (z := 0) dX12_unlike_284 ?_
        exact mr_iretP dX12_unlike_285 rfl (le_t rfl) (le_t rfl) ⟨(rW (c := (-6)) (d := 6) (rR (x := 0)) rfl), trivial⟩
      have h927 : 0 ≤ z917 ∧ z917 ≤ 5 := (vc_X12_unlike_3 h925 h919)
      refine sv_aload_n dX12_unlike_10 rfl rfl ?_
      refine gf_X12_83 dX12_unlike_11 wF_X12_451 (A_106 hw) hT ?_
      refine mr_bipush (z := 6) dX12_unlike_14 (by decide) ?_
      refine mr_iload_n (z := p1) dX12_unlike_16 rfl rfl ?_
      refine mr_imul (x := 6) (y := p1) dX12_unlike_17 ?_
      refine mr_iload (z := z917) dX12_unlike_18 rfl ?_
      refine mr_iadd (x := (6 * p1)) (y := z917) dX12_unlike_20 ?_
      refine la_163 dX12_unlike_21 (A_163 hw) hT (rIx (n := 60) (rAdd (e := 0) (f := 59) (rMulL (n := 6) (e := 0) (f := 54) hp1 rfl) h927 rfl) rfl) fun z928 q929 h930 => ?_
      refine mr_istore (lv' := [(8, iv z928), (0, .ref 106), (1, iv p1), (2, iv p2), (3, iv p3), (4, iv p4), (5, iv p5), (6, iv p6), (7, iv z917)]) dX12_unlike_22 (by decide) rfl ?_
      refine mr_iconst (z := 0) dX12_unlike_24 ?_
      refine mr_istore (lv' := [(9, iv 0), (8, iv z928), (0, .ref 106), (1, iv p1), (2, iv p2), (3, iv p3), (4, iv p4), (5, iv p5), (6, iv p6), (7, iv z917)]) dX12_unlike_25 (by decide) rfl ?_
      refine mr_bipush (z := 40) dX12_unlike_27 (by decide) ?_
      refine mr_iload_n (z := p2) dX12_unlike_29 rfl rfl ?_
      refine mr_imul (x := 40) (y := p2) dX12_unlike_30 ?_
      refine mr_istore (lv' := [(10, iv (40 * p2)), (9, iv 0), (8, iv z928), (0, .ref 106), (1, iv p1), (2, iv p2), (3, iv p3), (4, iv p4), (5, iv p5), (6, iv p6), (7, iv z917)]) dX12_unlike_31 (by decide) rfl ?_
      refine mr_bipush (z := 40) dX12_unlike_33 (by decide) ?_
      refine mr_iload (z := p4) dX12_unlike_35 rfl ?_
      refine mr_imul (x := 40) (y := p4) dX12_unlike_37 ?_
      refine mr_istore (lv' := [(11, iv (40 * p4)), (10, iv (40 * p2)), (9, iv 0), (8, iv z928), (0, .ref 106), (1, iv p1), (2, iv p2), (3, iv p3), (4, iv p4), (5, iv p5), (6, iv p6), (7, iv z917)]) dX12_unlike_38 (by decide) rfl ?_
      refine sv_aload_n dX12_unlike_40 rfl rfl ?_
      refine gf_X12_32 dX12_unlike_41 wF_X12_148 (A_106 hw) hT ?_
      refine mr_iload (z := (40 * p2)) dX12_unlike_44 rfl ?_
      refine mr_iconst (z := 4) dX12_unlike_46 ?_
      refine mr_iadd (x := (40 * p2)) (y := 4) dX12_unlike_47 ?_
      refine la_126 dX12_unlike_48 (A_126 hw) hT (rIx (n := 84000) (rAdd (e := 4) (f := 83964) (rMulL (n := 40) (e := 0) (f := 83960) hp2 rfl) (rR (x := 4)) rfl) rfl) fun z931 q932 h933 => ?_
      have h934 : 0 ≤ z931 ∧ z931 ≤ 20 := h933.2.2.1 (vc_X12_unlike_4 hp2)
      have J951 : ∀ (z949 : Int), (0 ≤ z949 ∧ z949 ≤ 1) → sV (gG l D c H0 sa) mX12_unlike (sRm 2 0 0) (sZ (gG l D c H0 sa) 0 0 (qP w μ (fun z => ((-6) ≤ z ∧ z ≤ 6) ∧ True))) 92 [(0, .ref 106), (1, iv p1), (2, iv p2), (3, iv p3), (4, iv p4), (5, iv p5), (6, iv p6), (7, iv z917), (8, iv z928), (9, iv 0), (10, iv (40 * p2)), (11, iv (40 * p4))] [iv z949] (mk w μ) 0 0 := by
        intro z949 h950
        refine mr_istore (lv' := [(12, iv z949), (0, .ref 106), (1, iv p1), (2, iv p2), (3, iv p3), (4, iv p4), (5, iv p5), (6, iv p6), (7, iv z917), (8, iv z928), (9, iv 0), (10, iv (40 * p2)), (11, iv (40 * p4))]) dX12_unlike_92 (by decide) rfl ?_
        refine mr_iload (z := z928) dX12_unlike_94 rfl ?_
        refine mr_iconst (z := 1) dX12_unlike_96 ?_
        have J963 : ∀ (z961 : Int), ((-2147483648) ≤ z961 ∧ z961 ≤ 2147483647) → sV (gG l D c H0 sa) mX12_unlike (sRm 2 0 0) (sZ (gG l D c H0 sa) 0 0 (qP w μ (fun z => ((-6) ≤ z ∧ z ≤ 6) ∧ True))) 121 [(0, .ref 106), (1, iv p1), (2, iv p2), (3, iv p3), (4, iv p4), (5, iv p5), (6, iv p6), (7, iv z917), (8, iv z928), (9, iv z961), (10, iv (40 * p2)), (11, iv (40 * p4)), (12, iv z949)] [] (mk w μ) 0 0 := by
          intro z961 h962
          refine mr_iload (z := z928) dX12_unlike_121 rfl ?_
          refine mr_iconst (z := 2) dX12_unlike_123 ?_
          have J971 : ∀ (z969 : Int), ((-2147483648) ≤ z969 ∧ z969 ≤ 2147483647) → sV (gG l D c H0 sa) mX12_unlike (sRm 2 0 0) (sZ (gG l D c H0 sa) 0 0 (qP w μ (fun z => ((-6) ≤ z ∧ z ≤ 6) ∧ True))) 148 [(0, .ref 106), (1, iv p1), (2, iv p2), (3, iv p3), (4, iv p4), (5, iv p5), (6, iv p6), (7, iv z917), (8, iv z928), (9, iv z969), (10, iv (40 * p2)), (11, iv (40 * p4)), (12, iv z949)] [] (mk w μ) 0 0 := by
            intro z969 h970
            refine mr_iload (z := z928) dX12_unlike_148 rfl ?_
            refine mr_iconst (z := 3) dX12_unlike_150 ?_
            have J983 : ∀ (z981 : Int), ((-2147483648) ≤ z981 ∧ z981 ≤ 2147483647) → sV (gG l D c H0 sa) mX12_unlike (sRm 2 0 0) (sZ (gG l D c H0 sa) 0 0 (qP w μ (fun z => ((-6) ≤ z ∧ z ≤ 6) ∧ True))) 175 [(0, .ref 106), (1, iv p1), (2, iv p2), (3, iv p3), (4, iv p4), (5, iv p5), (6, iv p6), (7, iv z917), (8, iv z928), (9, iv z981), (10, iv (40 * p2)), (11, iv (40 * p4)), (12, iv z949)] [] (mk w μ) 0 0 := by
              intro z981 h982
              refine mr_iload (z := z928) dX12_unlike_175 rfl ?_
              refine mr_iconst (z := 4) dX12_unlike_177 ?_
              have J1007 : ∀ (z1005 : Int), ((-2147483648) ≤ z1005 ∧ z1005 ≤ 2147483647) → sV (gG l D c H0 sa) mX12_unlike (sRm 2 0 0) (sZ (gG l D c H0 sa) 0 0 (qP w μ (fun z => ((-6) ≤ z ∧ z ≤ 6) ∧ True))) 214 [(0, .ref 106), (1, iv p1), (2, iv p2), (3, iv p3), (4, iv p4), (5, iv p5), (6, iv p6), (7, iv z917), (8, iv z928), (9, iv z1005)] [] (mk w μ) 0 0 := by
                intro z1005 h1006
                refine mr_iload (z := z928) dX12_unlike_214 rfl ?_
                refine mr_iconst (z := 5) dX12_unlike_216 ?_
                have J1043 : ∀ (z1041 : Int), ((-2147483648) ≤ z1041 ∧ z1041 ≤ 2147483647) → sV (gG l D c H0 sa) mX12_unlike (sRm 2 0 0) (sZ (gG l D c H0 sa) 0 0 (qP w μ (fun z => ((-6) ≤ z ∧ z ≤ 6) ∧ True))) 259 [(0, .ref 106), (1, iv p1), (2, iv p2), (3, iv p3), (4, iv p4), (5, iv p5), (6, iv p6), (7, iv z917), (8, iv z928), (9, iv z1041)] [] (mk w μ) 0 0 := by
                  intro z1041 h1042
                  refine mr_iload (z := z1041) dX12_unlike_259 rfl ?_
                  refine mr_if_eq (tgt := 278) dX12_unlike_261 (by decide) h1042 (fun h1044 => ?_) (fun h1044 => ?_)
                  · have h1045 : 0 ≤ z1041 ∧ z1041 ≤ 0 := (vc_X12_unlike_5 h1044 h1042)
                    refine mr_iinc (lv' := [(7, iv (z917 + 1)), (0, .ref 106), (1, iv p1), (2, iv p2), (3, iv p3), (4, iv p4), (5, iv p5), (6, iv p6), (8, iv z928), (9, iv z1041)]) dX12_unlike_278 rfl (by decide) rfl ?_
                    refine sv_goto (tgt := 3) dX12_unlike_281 (by decide) ?_
                    refine mr_lvS (lv' := [(0, .ref 106), (1, iv p1), (2, iv p2), (3, iv p3), (4, iv p4), (5, iv p5), (6, iv p6), (7, iv (z917 + 1))]) (List.forall_mem_cons.mpr ⟨rfl, List.forall_mem_cons.mpr ⟨rfl, List.forall_mem_cons.mpr ⟨rfl, List.forall_mem_cons.mpr ⟨rfl, List.forall_mem_cons.mpr ⟨rfl, List.forall_mem_cons.mpr ⟨rfl, List.forall_mem_cons.mpr ⟨rfl, List.forall_mem_cons.mpr ⟨rfl, fun _ h => absurd h List.not_mem_nil⟩⟩⟩⟩⟩⟩⟩⟩) ?_
                    exact ih924 (z917 + 1) trivial (rW (c := 0) (d := 6) (rAdd (e := 1) (f := 6) h927 (rR (x := 1)) rfl) rfl) (vc_X12_unlike_6 (nS h923) h925 h927)
                  refine mr_iload (z := z1041) dX12_unlike_264 rfl ?_
                  refine mr_if_ge (tgt := 274) dX12_unlike_266 (by decide) h1042 (fun h1048 => ?_) (fun h1048 => ?_)
                  · have h1049 : 0 ≤ z1041 ∧ z1041 ≤ 2147483647 := (vc_X12_unlike_7 h1048 h1044 h1042)
                    refine mr_iload (z := z928) dX12_unlike_274 rfl ?_
                    refine mr_ineg dX12_unlike_276 ?_
                    refine mr_negS ?_
                    exact mr_iretP dX12_unlike_277 rfl (le_t rfl) (le_t rfl) ⟨(rW (c := (-6)) (d := 6) (rSub (e := (-6)) (f := 0) (rR (x := 0)) h930 rfl) rfl), trivial⟩
                  have h1050 : (-2147483648) ≤ z1041 ∧ z1041 ≤ (-1) := (vc_X12_unlike_8 h1048 h1044 h1042)
                  refine mr_iload (z := z928) dX12_unlike_269 rfl ?_
                  refine sv_goto (tgt := 277) dX12_unlike_271 (by decide) ?_
                  exact mr_iretP dX12_unlike_277 rfl (le_t rfl) (le_t rfl) ⟨(rW (c := (-6)) (d := 6) h930 rfl), trivial⟩
                refine mr_icmp_ne (tgt := 259) dX12_unlike_217 (by decide) (r32 h930 rfl) (r32 (rR (x := 5)) rfl) (fun h1051 => ?_) (fun h1051 => ?_)
                · exact J1043 z1005 h1006
                have h1052 : 5 ≤ z928 ∧ z928 ≤ 5 := (vc_X12_unlike_9 h1051 h930)
                refine sv_aload_n dX12_unlike_220 rfl rfl ?_
                refine gf_X12_74 dX12_unlike_221 wF_X12_424 (A_106 hw) hT ?_
                refine mr_iload_n (z := p3) dX12_unlike_224 rfl rfl ?_
                refine sv_aload_n dX12_unlike_225 rfl rfl ?_
                refine mr_iload_n (z := p3) dX12_unlike_226 rfl rfl ?_
                refine mr_iload_n (z := p1) dX12_unlike_227 rfl rfl ?_
                obtain ⟨z1053, q1054⟩ : ∃ z, μ 110 (2 * p3).toNat = z := ⟨_, rfl⟩
                have h1055 : (0 ≤ z1053 ∧ z1053 ≤ 9) := by rw [← q1054]; exact hT 110 110 (A_110 hw) (2 * p3).toNat
                refine mr_cVP (c_X12_sideOf hw hT hp3 (rW (c := (-2147483648)) (d := 2147483647) hp1 rfl) q1054) (gOk _ _ _ _ _) dX12_unlike_228 (tX12_sideOf _ _ _ _ _) ⟨wV_X12_sideOf, wL_X12_sideOf⟩ wM_X12_542 (gCX12 _ _ _ _ _) rfl (A_106 hw) rfl ⟨le_t rfl, le_t rfl⟩ ⟨le_t rfl, le_t rfl⟩ rfl (le_t rfl) fun z1060 h1059 => ?_
                refine mr_iload (z := p6) dX12_unlike_231 rfl ?_
                refine mr_cSP (c_X12_slot hw hT (rW (c := 0) (d := 20) hp3 rfl) (rW (c := 0) (d := 2) h1059.1 rfl) hp6) (gOk _ _ _ _ _) dX12_unlike_233 (tX12_slot _ _ _ _ _) wS_X12_slot wM_X12_545 ⟨le_t rfl, le_t rfl⟩ ⟨le_t rfl, le_t rfl⟩ rfl (le_t rfl) fun z1065 h1064 => ?_
                refine la_154 dX12_unlike_236 (A_154 hw) hT (vc_X12_unlike_10 h1064.2.1 h1059.2.1 h1059.2.2.1 hp1 hp3 hp6 h1055 h1059.1 h1064.1) fun z1066 q1067 h1068 => ?_
                refine sv_aload_n dX12_unlike_237 rfl rfl ?_
                refine gf_X12_74 dX12_unlike_238 wF_X12_424 (A_106 hw) hT ?_
                refine mr_iload (z := p5) dX12_unlike_241 rfl ?_
                refine sv_aload_n dX12_unlike_243 rfl rfl ?_
                refine mr_iload (z := p5) dX12_unlike_244 rfl ?_
                refine mr_iload_n (z := p1) dX12_unlike_246 rfl rfl ?_
                obtain ⟨z1069, q1070⟩ : ∃ z, μ 110 (2 * p5).toNat = z := ⟨_, rfl⟩
                have h1071 : (0 ≤ z1069 ∧ z1069 ≤ 9) := by rw [← q1070]; exact hT 110 110 (A_110 hw) (2 * p5).toNat
                refine mr_cVP (c_X12_sideOf hw hT hp5 (rW (c := (-2147483648)) (d := 2147483647) hp1 rfl) q1070) (gOk _ _ _ _ _) dX12_unlike_247 (tX12_sideOf _ _ _ _ _) ⟨wV_X12_sideOf, wL_X12_sideOf⟩ wM_X12_542 (gCX12 _ _ _ _ _) rfl (A_106 hw) rfl ⟨le_t rfl, le_t rfl⟩ ⟨le_t rfl, le_t rfl⟩ rfl (le_t rfl) fun z1076 h1075 => ?_
                refine mr_iload (z := p6) dX12_unlike_250 rfl ?_
                refine mr_cSP (c_X12_slot hw hT (rW (c := 0) (d := 20) hp5 rfl) (rW (c := 0) (d := 2) h1075.1 rfl) hp6) (gOk _ _ _ _ _) dX12_unlike_252 (tX12_slot _ _ _ _ _) wS_X12_slot wM_X12_545 ⟨le_t rfl, le_t rfl⟩ ⟨le_t rfl, le_t rfl⟩ rfl (le_t rfl) fun z1081 h1080 => ?_
                refine la_154 dX12_unlike_255 (A_154 hw) hT (vc_X12_unlike_11 h1080.2.1 h1064.2.1 h1075.2.1 h1075.2.2.1 hp1 hp3 hp5 hp6 h1059.1 h1064.1 h1071 h1075.1 h1080.1) fun z1082 q1083 h1084 => ?_
                refine mr_isub (x := z1066) (y := z1082) dX12_unlike_256 ?_
                refine mr_istore (lv' := [(9, iv (z1066 - z1082)), (0, .ref 106), (1, iv p1), (2, iv p2), (3, iv p3), (4, iv p4), (5, iv p5), (6, iv p6), (7, iv z917), (8, iv z928)]) dX12_unlike_257 (by decide) rfl ?_
                refine mr_lvS (lv' := [(0, .ref 106), (1, iv p1), (2, iv p2), (3, iv p3), (4, iv p4), (5, iv p5), (6, iv p6), (7, iv z917), (8, iv z928), (9, iv (z1066 - z1082))]) (List.forall_mem_cons.mpr ⟨rfl, List.forall_mem_cons.mpr ⟨rfl, List.forall_mem_cons.mpr ⟨rfl, List.forall_mem_cons.mpr ⟨rfl, List.forall_mem_cons.mpr ⟨rfl, List.forall_mem_cons.mpr ⟨rfl, List.forall_mem_cons.mpr ⟨rfl, List.forall_mem_cons.mpr ⟨rfl, List.forall_mem_cons.mpr ⟨rfl, List.forall_mem_cons.mpr ⟨rfl, fun _ h => absurd h List.not_mem_nil⟩⟩⟩⟩⟩⟩⟩⟩⟩⟩) ?_
                exact J1043 (z1066 - z1082) (rW (c := (-2147483648)) (d := 2147483647) (rSub (e := (-2000000000)) (f := 2000000000) h1068 h1084 rfl) rfl)
              refine mr_icmp_ne (tgt := 186) dX12_unlike_178 (by decide) (r32 h930 rfl) (r32 (rR (x := 4)) rfl) (fun h1085 => ?_) (fun h1085 => ?_)
              · refine mr_iload (z := z928) dX12_unlike_186 rfl ?_
                refine mr_bipush (z := 6) dX12_unlike_188 (by decide) ?_
                refine mr_icmp_ne (tgt := 214) dX12_unlike_190 (by decide) (r32 h930 rfl) (r32 (rR (x := 6)) rfl) (fun h1086 => ?_) (fun h1086 => ?_)
                · have h1087 : 0 ≤ z928 ∧ z928 ≤ 5 := (vc_X12_unlike_12 h1086 h1085 h930)
                  refine mr_lvS (lv' := [(0, .ref 106), (1, iv p1), (2, iv p2), (3, iv p3), (4, iv p4), (5, iv p5), (6, iv p6), (7, iv z917), (8, iv z928), (9, iv z981)]) (List.forall_mem_cons.mpr ⟨rfl, List.forall_mem_cons.mpr ⟨rfl, List.forall_mem_cons.mpr ⟨rfl, List.forall_mem_cons.mpr ⟨rfl, List.forall_mem_cons.mpr ⟨rfl, List.forall_mem_cons.mpr ⟨rfl, List.forall_mem_cons.mpr ⟨rfl, List.forall_mem_cons.mpr ⟨rfl, List.forall_mem_cons.mpr ⟨rfl, List.forall_mem_cons.mpr ⟨rfl, fun _ h => absurd h List.not_mem_nil⟩⟩⟩⟩⟩⟩⟩⟩⟩⟩) ?_
                  exact J1007 z981 h982
                have h1088 : 6 ≤ z928 ∧ z928 ≤ 6 := (vc_X12_unlike_13 h1086 h1085 h930)
                refine sv_aload_n dX12_unlike_193 rfl rfl ?_
                refine gf_X12_32 dX12_unlike_194 wF_X12_148 (A_106 hw) hT ?_
                refine mr_iload (z := (40 * p2)) dX12_unlike_197 rfl ?_
                refine mr_iconst (z := 3) dX12_unlike_199 ?_
                refine mr_iadd (x := (40 * p2)) (y := 3) dX12_unlike_200 ?_
                refine la_126 dX12_unlike_201 (A_126 hw) hT (rIx (n := 84000) (rAdd (e := 3) (f := 83963) (rMulL (n := 40) (e := 0) (f := 83960) hp2 rfl) (rR (x := 3)) rfl) rfl) fun z1089 q1090 h1091 => ?_
                refine sv_aload_n dX12_unlike_202 rfl rfl ?_
                refine gf_X12_32 dX12_unlike_203 wF_X12_148 (A_106 hw) hT ?_
                refine mr_iload (z := (40 * p4)) dX12_unlike_206 rfl ?_
                refine mr_iconst (z := 3) dX12_unlike_208 ?_
                refine mr_iadd (x := (40 * p4)) (y := 3) dX12_unlike_209 ?_
                refine la_126 dX12_unlike_210 (A_126 hw) hT (rIx (n := 84000) (rAdd (e := 3) (f := 83963) (rMulL (n := 40) (e := 0) (f := 83960) hp4 rfl) (rR (x := 3)) rfl) rfl) fun z1092 q1093 h1094 => ?_
                refine mr_isub (x := z1089) (y := z1092) dX12_unlike_211 ?_
                refine mr_wrap fun z1095 h1096 => ?_
                refine mr_istore (lv' := [(9, iv z1095), (0, .ref 106), (1, iv p1), (2, iv p2), (3, iv p3), (4, iv p4), (5, iv p5), (6, iv p6), (7, iv z917), (8, iv z928), (10, iv (40 * p2)), (11, iv (40 * p4)), (12, iv z949)]) dX12_unlike_212 (by decide) rfl ?_
                refine mr_lvS (lv' := [(0, .ref 106), (1, iv p1), (2, iv p2), (3, iv p3), (4, iv p4), (5, iv p5), (6, iv p6), (7, iv z917), (8, iv z928), (9, iv z1095)]) (List.forall_mem_cons.mpr ⟨rfl, List.forall_mem_cons.mpr ⟨rfl, List.forall_mem_cons.mpr ⟨rfl, List.forall_mem_cons.mpr ⟨rfl, List.forall_mem_cons.mpr ⟨rfl, List.forall_mem_cons.mpr ⟨rfl, List.forall_mem_cons.mpr ⟨rfl, List.forall_mem_cons.mpr ⟨rfl, List.forall_mem_cons.mpr ⟨rfl, List.forall_mem_cons.mpr ⟨rfl, fun _ h => absurd h List.not_mem_nil⟩⟩⟩⟩⟩⟩⟩⟩⟩⟩) ?_
                exact J1007 z1095 h1096
              have h1097 : 4 ≤ z928 ∧ z928 ≤ 4 := (vc_X12_unlike_14 h1085 h930)
              refine mr_iload (z := z949) dX12_unlike_181 rfl ?_
              refine mr_if_ne (tgt := 193) dX12_unlike_183 (by decide) (r32 h950 rfl) (fun h1098 => ?_) (fun h1098 => ?_)
              · have h1099 : 1 ≤ z949 ∧ z949 ≤ 1 := (vc_X12_unlike_15 h1098 h950)
                refine sv_aload_n dX12_unlike_193 rfl rfl ?_
                refine gf_X12_32 dX12_unlike_194 wF_X12_148 (A_106 hw) hT ?_
                refine mr_iload (z := (40 * p2)) dX12_unlike_197 rfl ?_
                refine mr_iconst (z := 3) dX12_unlike_199 ?_
                refine mr_iadd (x := (40 * p2)) (y := 3) dX12_unlike_200 ?_
                refine la_126 dX12_unlike_201 (A_126 hw) hT (rIx (n := 84000) (rAdd (e := 3) (f := 83963) (rMulL (n := 40) (e := 0) (f := 83960) hp2 rfl) (rR (x := 3)) rfl) rfl) fun z1100 q1101 h1102 => ?_
                refine sv_aload_n dX12_unlike_202 rfl rfl ?_
                refine gf_X12_32 dX12_unlike_203 wF_X12_148 (A_106 hw) hT ?_
                refine mr_iload (z := (40 * p4)) dX12_unlike_206 rfl ?_
                refine mr_iconst (z := 3) dX12_unlike_208 ?_
                refine mr_iadd (x := (40 * p4)) (y := 3) dX12_unlike_209 ?_
                refine la_126 dX12_unlike_210 (A_126 hw) hT (rIx (n := 84000) (rAdd (e := 3) (f := 83963) (rMulL (n := 40) (e := 0) (f := 83960) hp4 rfl) (rR (x := 3)) rfl) rfl) fun z1103 q1104 h1105 => ?_
                refine mr_isub (x := z1100) (y := z1103) dX12_unlike_211 ?_
                refine mr_wrap fun z1106 h1107 => ?_
                refine mr_istore (lv' := [(9, iv z1106), (0, .ref 106), (1, iv p1), (2, iv p2), (3, iv p3), (4, iv p4), (5, iv p5), (6, iv p6), (7, iv z917), (8, iv z928), (10, iv (40 * p2)), (11, iv (40 * p4)), (12, iv z949)]) dX12_unlike_212 (by decide) rfl ?_
                refine mr_lvS (lv' := [(0, .ref 106), (1, iv p1), (2, iv p2), (3, iv p3), (4, iv p4), (5, iv p5), (6, iv p6), (7, iv z917), (8, iv z928), (9, iv z1106)]) (List.forall_mem_cons.mpr ⟨rfl, List.forall_mem_cons.mpr ⟨rfl, List.forall_mem_cons.mpr ⟨rfl, List.forall_mem_cons.mpr ⟨rfl, List.forall_mem_cons.mpr ⟨rfl, List.forall_mem_cons.mpr ⟨rfl, List.forall_mem_cons.mpr ⟨rfl, List.forall_mem_cons.mpr ⟨rfl, List.forall_mem_cons.mpr ⟨rfl, List.forall_mem_cons.mpr ⟨rfl, fun _ h => absurd h List.not_mem_nil⟩⟩⟩⟩⟩⟩⟩⟩⟩⟩) ?_
                exact J1007 z1106 h1107
              have h1108 : 0 ≤ z949 ∧ z949 ≤ 0 := (vc_X12_unlike_16 h1098 h950)
              refine mr_iload (z := z928) dX12_unlike_186 rfl ?_
              refine mr_bipush (z := 6) dX12_unlike_188 (by decide) ?_
              refine mr_icmp_ne (tgt := 214) dX12_unlike_190 (by decide) (r32 h1097 rfl) (r32 (rR (x := 6)) rfl) (fun _ => ?_) (fun h => ((vc_X12_unlike_17 h h1097)).elim)
              refine mr_lvS (lv' := [(0, .ref 106), (1, iv p1), (2, iv p2), (3, iv p3), (4, iv p4), (5, iv p5), (6, iv p6), (7, iv z917), (8, iv z928), (9, iv z981)]) (List.forall_mem_cons.mpr ⟨rfl, List.forall_mem_cons.mpr ⟨rfl, List.forall_mem_cons.mpr ⟨rfl, List.forall_mem_cons.mpr ⟨rfl, List.forall_mem_cons.mpr ⟨rfl, List.forall_mem_cons.mpr ⟨rfl, List.forall_mem_cons.mpr ⟨rfl, List.forall_mem_cons.mpr ⟨rfl, List.forall_mem_cons.mpr ⟨rfl, List.forall_mem_cons.mpr ⟨rfl, fun _ h => absurd h List.not_mem_nil⟩⟩⟩⟩⟩⟩⟩⟩⟩⟩) ?_
              exact J1007 z981 h982
            refine mr_icmp_ne (tgt := 175) dX12_unlike_151 (by decide) (r32 h930 rfl) (r32 (rR (x := 3)) rfl) (fun h1109 => ?_) (fun h1109 => ?_)
            · exact J983 z969 h970
            have h1110 : 3 ≤ z928 ∧ z928 ≤ 3 := (vc_X12_unlike_18 h1109 h930)
            refine sv_aload_n dX12_unlike_154 rfl rfl ?_
            refine gf_X12_32 dX12_unlike_155 wF_X12_148 (A_106 hw) hT ?_
            refine mr_iload (z := (40 * p2)) dX12_unlike_158 rfl ?_
            refine mr_iconst (z := 2) dX12_unlike_160 ?_
            refine mr_iadd (x := (40 * p2)) (y := 2) dX12_unlike_161 ?_
            refine la_126 dX12_unlike_162 (A_126 hw) hT (rIx (n := 84000) (rAdd (e := 2) (f := 83962) (rMulL (n := 40) (e := 0) (f := 83960) hp2 rfl) (rR (x := 2)) rfl) rfl) fun z1111 q1112 h1113 => ?_
            refine sv_aload_n dX12_unlike_163 rfl rfl ?_
            refine gf_X12_32 dX12_unlike_164 wF_X12_148 (A_106 hw) hT ?_
            refine mr_iload (z := (40 * p4)) dX12_unlike_167 rfl ?_
            refine mr_iconst (z := 2) dX12_unlike_169 ?_
            refine mr_iadd (x := (40 * p4)) (y := 2) dX12_unlike_170 ?_
            refine la_126 dX12_unlike_171 (A_126 hw) hT (rIx (n := 84000) (rAdd (e := 2) (f := 83962) (rMulL (n := 40) (e := 0) (f := 83960) hp4 rfl) (rR (x := 2)) rfl) rfl) fun z1114 q1115 h1116 => ?_
            refine mr_isub (x := z1111) (y := z1114) dX12_unlike_172 ?_
            refine mr_wrap fun z1117 h1118 => ?_
            refine mr_istore (lv' := [(9, iv z1117), (0, .ref 106), (1, iv p1), (2, iv p2), (3, iv p3), (4, iv p4), (5, iv p5), (6, iv p6), (7, iv z917), (8, iv z928), (10, iv (40 * p2)), (11, iv (40 * p4)), (12, iv z949)]) dX12_unlike_173 (by decide) rfl ?_
            refine mr_lvS (lv' := [(0, .ref 106), (1, iv p1), (2, iv p2), (3, iv p3), (4, iv p4), (5, iv p5), (6, iv p6), (7, iv z917), (8, iv z928), (9, iv z1117), (10, iv (40 * p2)), (11, iv (40 * p4)), (12, iv z949)]) (List.forall_mem_cons.mpr ⟨rfl, List.forall_mem_cons.mpr ⟨rfl, List.forall_mem_cons.mpr ⟨rfl, List.forall_mem_cons.mpr ⟨rfl, List.forall_mem_cons.mpr ⟨rfl, List.forall_mem_cons.mpr ⟨rfl, List.forall_mem_cons.mpr ⟨rfl, List.forall_mem_cons.mpr ⟨rfl, List.forall_mem_cons.mpr ⟨rfl, List.forall_mem_cons.mpr ⟨rfl, List.forall_mem_cons.mpr ⟨rfl, List.forall_mem_cons.mpr ⟨rfl, List.forall_mem_cons.mpr ⟨rfl, fun _ h => absurd h List.not_mem_nil⟩⟩⟩⟩⟩⟩⟩⟩⟩⟩⟩⟩⟩) ?_
            exact J983 z1117 h1118
          refine mr_icmp_ne (tgt := 148) dX12_unlike_124 (by decide) (r32 h930 rfl) (r32 (rR (x := 2)) rfl) (fun h1119 => ?_) (fun h1119 => ?_)
          · exact J971 z961 h962
          have h1120 : 2 ≤ z928 ∧ z928 ≤ 2 := (vc_X12_unlike_19 h1119 h930)
          refine sv_aload_n dX12_unlike_127 rfl rfl ?_
          refine gf_X12_32 dX12_unlike_128 wF_X12_148 (A_106 hw) hT ?_
          refine mr_iload (z := (40 * p2)) dX12_unlike_131 rfl ?_
          refine mr_iconst (z := 4) dX12_unlike_133 ?_
          refine mr_iadd (x := (40 * p2)) (y := 4) dX12_unlike_134 ?_
          refine lk_126 dX12_unlike_135 (A_126 hw) (rIx (n := 84000) (rAdd (e := 4) (f := 83964) (rMulL (n := 40) (e := 0) (f := 83960) hp2 rfl) (rR (x := 4)) rfl) rfl) q932 ?_
          refine sv_aload_n dX12_unlike_136 rfl rfl ?_
          refine gf_X12_32 dX12_unlike_137 wF_X12_148 (A_106 hw) hT ?_
          refine mr_iload (z := (40 * p4)) dX12_unlike_140 rfl ?_
          refine mr_iconst (z := 4) dX12_unlike_142 ?_
          refine mr_iadd (x := (40 * p4)) (y := 4) dX12_unlike_143 ?_
          refine la_126 dX12_unlike_144 (A_126 hw) hT (rIx (n := 84000) (rAdd (e := 4) (f := 83964) (rMulL (n := 40) (e := 0) (f := 83960) hp4 rfl) (rR (x := 4)) rfl) rfl) fun z1121 q1122 h1123 => ?_
          have h1124 : 0 ≤ z1121 ∧ z1121 ≤ 20 := h1123.2.2.1 (vc_X12_unlike_20 hp4)
          refine mr_isub (x := z931) (y := z1121) dX12_unlike_145 ?_
          refine mr_istore (lv' := [(9, iv (z931 - z1121)), (0, .ref 106), (1, iv p1), (2, iv p2), (3, iv p3), (4, iv p4), (5, iv p5), (6, iv p6), (7, iv z917), (8, iv z928), (10, iv (40 * p2)), (11, iv (40 * p4)), (12, iv z949)]) dX12_unlike_146 (by decide) rfl ?_
          refine mr_lvS (lv' := [(0, .ref 106), (1, iv p1), (2, iv p2), (3, iv p3), (4, iv p4), (5, iv p5), (6, iv p6), (7, iv z917), (8, iv z928), (9, iv (z931 - z1121)), (10, iv (40 * p2)), (11, iv (40 * p4)), (12, iv z949)]) (List.forall_mem_cons.mpr ⟨rfl, List.forall_mem_cons.mpr ⟨rfl, List.forall_mem_cons.mpr ⟨rfl, List.forall_mem_cons.mpr ⟨rfl, List.forall_mem_cons.mpr ⟨rfl, List.forall_mem_cons.mpr ⟨rfl, List.forall_mem_cons.mpr ⟨rfl, List.forall_mem_cons.mpr ⟨rfl, List.forall_mem_cons.mpr ⟨rfl, List.forall_mem_cons.mpr ⟨rfl, List.forall_mem_cons.mpr ⟨rfl, List.forall_mem_cons.mpr ⟨rfl, List.forall_mem_cons.mpr ⟨rfl, fun _ h => absurd h List.not_mem_nil⟩⟩⟩⟩⟩⟩⟩⟩⟩⟩⟩⟩⟩) ?_
          exact J971 (z931 - z1121) (rW (c := (-2147483648)) (d := 2147483647) (rSub (e := (-20)) (f := 20) h934 h1124 rfl) rfl)
        refine mr_icmp_ne (tgt := 121) dX12_unlike_97 (by decide) (r32 h930 rfl) (r32 (rR (x := 1)) rfl) (fun h1125 => ?_) (fun h1125 => ?_)
        · refine mr_lvS (lv' := [(0, .ref 106), (1, iv p1), (2, iv p2), (3, iv p3), (4, iv p4), (5, iv p5), (6, iv p6), (7, iv z917), (8, iv z928), (9, iv 0), (10, iv (40 * p2)), (11, iv (40 * p4)), (12, iv z949)]) (List.forall_mem_cons.mpr ⟨rfl, List.forall_mem_cons.mpr ⟨rfl, List.forall_mem_cons.mpr ⟨rfl, List.forall_mem_cons.mpr ⟨rfl, List.forall_mem_cons.mpr ⟨rfl, List.forall_mem_cons.mpr ⟨rfl, List.forall_mem_cons.mpr ⟨rfl, List.forall_mem_cons.mpr ⟨rfl, List.forall_mem_cons.mpr ⟨rfl, List.forall_mem_cons.mpr ⟨rfl, List.forall_mem_cons.mpr ⟨rfl, List.forall_mem_cons.mpr ⟨rfl, List.forall_mem_cons.mpr ⟨rfl, fun _ h => absurd h List.not_mem_nil⟩⟩⟩⟩⟩⟩⟩⟩⟩⟩⟩⟩⟩) ?_
          exact J963 0 (rW (c := (-2147483648)) (d := 2147483647) (rR (x := 0)) rfl)
        have h1126 : 1 ≤ z928 ∧ z928 ≤ 1 := (vc_X12_unlike_21 h1125 h930)
        refine sv_aload_n dX12_unlike_100 rfl rfl ?_
        refine gf_X12_32 dX12_unlike_101 wF_X12_148 (A_106 hw) hT ?_
        refine mr_iload (z := (40 * p4)) dX12_unlike_104 rfl ?_
        refine mr_iconst (z := 1) dX12_unlike_106 ?_
        refine mr_iadd (x := (40 * p4)) (y := 1) dX12_unlike_107 ?_
        refine la_126 dX12_unlike_108 (A_126 hw) hT (rIx (n := 84000) (rAdd (e := 1) (f := 83961) (rMulL (n := 40) (e := 0) (f := 83960) hp4 rfl) (rR (x := 1)) rfl) rfl) fun z1127 q1128 h1129 => ?_
        refine sv_aload_n dX12_unlike_109 rfl rfl ?_
        refine gf_X12_32 dX12_unlike_110 wF_X12_148 (A_106 hw) hT ?_
        refine mr_iload (z := (40 * p2)) dX12_unlike_113 rfl ?_
        refine mr_iconst (z := 1) dX12_unlike_115 ?_
        refine mr_iadd (x := (40 * p2)) (y := 1) dX12_unlike_116 ?_
        refine la_126 dX12_unlike_117 (A_126 hw) hT (rIx (n := 84000) (rAdd (e := 1) (f := 83961) (rMulL (n := 40) (e := 0) (f := 83960) hp2 rfl) (rR (x := 1)) rfl) rfl) fun z1130 q1131 h1132 => ?_
        refine mr_isub (x := z1127) (y := z1130) dX12_unlike_118 ?_
        refine mr_wrap fun z1133 h1134 => ?_
        refine mr_istore (lv' := [(9, iv z1133), (12, iv z949), (0, .ref 106), (1, iv p1), (2, iv p2), (3, iv p3), (4, iv p4), (5, iv p5), (6, iv p6), (7, iv z917), (8, iv z928), (10, iv (40 * p2)), (11, iv (40 * p4))]) dX12_unlike_119 (by decide) rfl ?_
        refine mr_lvS (lv' := [(0, .ref 106), (1, iv p1), (2, iv p2), (3, iv p3), (4, iv p4), (5, iv p5), (6, iv p6), (7, iv z917), (8, iv z928), (9, iv z1133), (10, iv (40 * p2)), (11, iv (40 * p4)), (12, iv z949)]) (List.forall_mem_cons.mpr ⟨rfl, List.forall_mem_cons.mpr ⟨rfl, List.forall_mem_cons.mpr ⟨rfl, List.forall_mem_cons.mpr ⟨rfl, List.forall_mem_cons.mpr ⟨rfl, List.forall_mem_cons.mpr ⟨rfl, List.forall_mem_cons.mpr ⟨rfl, List.forall_mem_cons.mpr ⟨rfl, List.forall_mem_cons.mpr ⟨rfl, List.forall_mem_cons.mpr ⟨rfl, List.forall_mem_cons.mpr ⟨rfl, List.forall_mem_cons.mpr ⟨rfl, List.forall_mem_cons.mpr ⟨rfl, fun _ h => absurd h List.not_mem_nil⟩⟩⟩⟩⟩⟩⟩⟩⟩⟩⟩⟩⟩) ?_
        exact J963 z1133 h1134
      refine mr_if_le (tgt := 91) dX12_unlike_49 (by decide) (r32 h934 rfl) (fun h1135 => ?_) (fun h1135 => ?_)
      · have h1136 : 0 ≤ z931 ∧ z931 ≤ 0 := (vc_X12_unlike_22 h1135 h934)
        refine mr_iconst (z := 0) dX12_unlike_91 ?_
        refine mr_lvS (lv' := [(0, .ref 106), (1, iv p1), (2, iv p2), (3, iv p3), (4, iv p4), (5, iv p5), (6, iv p6), (7, iv z917), (8, iv z928), (9, iv 0), (10, iv (40 * p2)), (11, iv (40 * p4))]) (List.forall_mem_cons.mpr ⟨rfl, List.forall_mem_cons.mpr ⟨rfl, List.forall_mem_cons.mpr ⟨rfl, List.forall_mem_cons.mpr ⟨rfl, List.forall_mem_cons.mpr ⟨rfl, List.forall_mem_cons.mpr ⟨rfl, List.forall_mem_cons.mpr ⟨rfl, List.forall_mem_cons.mpr ⟨rfl, List.forall_mem_cons.mpr ⟨rfl, List.forall_mem_cons.mpr ⟨rfl, List.forall_mem_cons.mpr ⟨rfl, List.forall_mem_cons.mpr ⟨rfl, fun _ h => absurd h List.not_mem_nil⟩⟩⟩⟩⟩⟩⟩⟩⟩⟩⟩⟩) ?_
        exact J951 0 (rW (c := 0) (d := 1) (rR (x := 0)) rfl)
      have h1137 : 1 ≤ z931 ∧ z931 ≤ 20 := (vc_X12_unlike_23 h1135 h934)
      refine sv_aload_n dX12_unlike_52 rfl rfl ?_
      refine gf_X12_32 dX12_unlike_53 wF_X12_148 (A_106 hw) hT ?_
      refine mr_iload (z := (40 * p4)) dX12_unlike_56 rfl ?_
      refine mr_iconst (z := 4) dX12_unlike_58 ?_
      refine mr_iadd (x := (40 * p4)) (y := 4) dX12_unlike_59 ?_
      refine la_126 dX12_unlike_60 (A_126 hw) hT (rIx (n := 84000) (rAdd (e := 4) (f := 83964) (rMulL (n := 40) (e := 0) (f := 83960) hp4 rfl) (rR (x := 4)) rfl) rfl) fun z1138 q1139 h1140 => ?_
      have h1141 : 0 ≤ z1138 ∧ z1138 ≤ 20 := h1140.2.2.1 (vc_X12_unlike_20 hp4)
      refine mr_if_le (tgt := 91) dX12_unlike_61 (by decide) (r32 h1141 rfl) (fun h1142 => ?_) (fun h1142 => ?_)
      · have h1143 : 0 ≤ z1138 ∧ z1138 ≤ 0 := (vc_X12_unlike_24 h1142 h1141)
        refine mr_iconst (z := 0) dX12_unlike_91 ?_
        refine mr_lvS (lv' := [(0, .ref 106), (1, iv p1), (2, iv p2), (3, iv p3), (4, iv p4), (5, iv p5), (6, iv p6), (7, iv z917), (8, iv z928), (9, iv 0), (10, iv (40 * p2)), (11, iv (40 * p4))]) (List.forall_mem_cons.mpr ⟨rfl, List.forall_mem_cons.mpr ⟨rfl, List.forall_mem_cons.mpr ⟨rfl, List.forall_mem_cons.mpr ⟨rfl, List.forall_mem_cons.mpr ⟨rfl, List.forall_mem_cons.mpr ⟨rfl, List.forall_mem_cons.mpr ⟨rfl, List.forall_mem_cons.mpr ⟨rfl, List.forall_mem_cons.mpr ⟨rfl, List.forall_mem_cons.mpr ⟨rfl, List.forall_mem_cons.mpr ⟨rfl, List.forall_mem_cons.mpr ⟨rfl, fun _ h => absurd h List.not_mem_nil⟩⟩⟩⟩⟩⟩⟩⟩⟩⟩⟩⟩) ?_
        exact J951 0 (rW (c := 0) (d := 1) (rR (x := 0)) rfl)
      have h1144 : 1 ≤ z1138 ∧ z1138 ≤ 20 := (vc_X12_unlike_25 h1142 h1141)
      refine sv_aload_n dX12_unlike_64 rfl rfl ?_
      refine gf_X12_32 dX12_unlike_65 wF_X12_148 (A_106 hw) hT ?_
      refine mr_iload (z := (40 * p2)) dX12_unlike_68 rfl ?_
      refine mr_bipush (z := 6) dX12_unlike_70 (by decide) ?_
      refine mr_iadd (x := (40 * p2)) (y := 6) dX12_unlike_72 ?_
      refine la_126 dX12_unlike_73 (A_126 hw) hT (rIx (n := 84000) (rAdd (e := 6) (f := 83966) (rMulL (n := 40) (e := 0) (f := 83960) hp2 rfl) (rR (x := 6)) rfl) rfl) fun z1145 q1146 h1147 => ?_
      refine sv_aload_n dX12_unlike_74 rfl rfl ?_
      refine gf_X12_32 dX12_unlike_75 wF_X12_148 (A_106 hw) hT ?_
      refine mr_iload (z := (40 * p4)) dX12_unlike_78 rfl ?_
      refine mr_bipush (z := 6) dX12_unlike_80 (by decide) ?_
      refine mr_iadd (x := (40 * p4)) (y := 6) dX12_unlike_82 ?_
      refine la_126 dX12_unlike_83 (A_126 hw) hT (rIx (n := 84000) (rAdd (e := 6) (f := 83966) (rMulL (n := 40) (e := 0) (f := 83960) hp4 rfl) (rR (x := 6)) rfl) rfl) fun z1148 q1149 h1150 => ?_
      refine mr_icmp_ne (tgt := 91) dX12_unlike_84 (by decide) h1147.1 h1150.1 (fun h1151 => ?_) (fun h1151 => ?_)
      · refine mr_iconst (z := 0) dX12_unlike_91 ?_
        refine mr_lvS (lv' := [(0, .ref 106), (1, iv p1), (2, iv p2), (3, iv p3), (4, iv p4), (5, iv p5), (6, iv p6), (7, iv z917), (8, iv z928), (9, iv 0), (10, iv (40 * p2)), (11, iv (40 * p4))]) (List.forall_mem_cons.mpr ⟨rfl, List.forall_mem_cons.mpr ⟨rfl, List.forall_mem_cons.mpr ⟨rfl, List.forall_mem_cons.mpr ⟨rfl, List.forall_mem_cons.mpr ⟨rfl, List.forall_mem_cons.mpr ⟨rfl, List.forall_mem_cons.mpr ⟨rfl, List.forall_mem_cons.mpr ⟨rfl, List.forall_mem_cons.mpr ⟨rfl, List.forall_mem_cons.mpr ⟨rfl, List.forall_mem_cons.mpr ⟨rfl, List.forall_mem_cons.mpr ⟨rfl, fun _ h => absurd h List.not_mem_nil⟩⟩⟩⟩⟩⟩⟩⟩⟩⟩⟩⟩) ?_
        exact J951 0 (rW (c := 0) (d := 1) (rR (x := 0)) rfl)
      refine mr_iconst (z := 1) dX12_unlike_87 ?_
      refine sv_goto (tgt := 92) dX12_unlike_88 (by decide) ?_
      refine mr_lvS (lv' := [(0, .ref 106), (1, iv p1), (2, iv p2), (3, iv p3), (4, iv p4), (5, iv p5), (6, iv p6), (7, iv z917), (8, iv z928), (9, iv 0), (10, iv (40 * p2)), (11, iv (40 * p4))]) (List.forall_mem_cons.mpr ⟨rfl, List.forall_mem_cons.mpr ⟨rfl, List.forall_mem_cons.mpr ⟨rfl, List.forall_mem_cons.mpr ⟨rfl, List.forall_mem_cons.mpr ⟨rfl, List.forall_mem_cons.mpr ⟨rfl, List.forall_mem_cons.mpr ⟨rfl, List.forall_mem_cons.mpr ⟨rfl, List.forall_mem_cons.mpr ⟨rfl, List.forall_mem_cons.mpr ⟨rfl, List.forall_mem_cons.mpr ⟨rfl, List.forall_mem_cons.mpr ⟨rfl, fun _ h => absurd h List.not_mem_nil⟩⟩⟩⟩⟩⟩⟩⟩⟩⟩⟩⟩) ?_
      exact J951 1 (rW (c := 0) (d := 1) (rR (x := 1)) rfl)
  refine mr_lvS (lv' := [(0, .ref 106), (1, iv p1), (2, iv p2), (3, iv p3), (4, iv p4), (5, iv p5), (6, iv p6), (7, iv 0)]) (List.forall_mem_cons.mpr ⟨rfl, List.forall_mem_cons.mpr ⟨rfl, List.forall_mem_cons.mpr ⟨rfl, List.forall_mem_cons.mpr ⟨rfl, List.forall_mem_cons.mpr ⟨rfl, List.forall_mem_cons.mpr ⟨rfl, List.forall_mem_cons.mpr ⟨rfl, List.forall_mem_cons.mpr ⟨rfl, fun _ h => absurd h List.not_mem_nil⟩⟩⟩⟩⟩⟩⟩⟩) ?_
  exact L918 8 0 trivial (rW (c := 0) (d := 6) (rR (x := 0)) rfl) vc_X12_unlike_26
theorem vc_X12_beats_1 {z5 : Int} (h0 : z5 = 0) (h1 : (-6) ≤ z5 ∧ z5 ≤ 6) : 0 ≤ z5 ∧ z5 ≤ 0 := by omega
theorem vc_X12_beats_2 {z27 z32 : Int} (h0 : z27 < z32) (h1 : 0 ≤ z27 ∧ z27 ≤ 9) (h2 : 0 ≤ z32 ∧ z32 ≤ 9) : 0 ≤ z27 ∧ z27 ≤ 8 := by omega
theorem vc_X12_beats_3 {z27 z32 : Int} (h0 : z27 < z32) (h1 : 0 ≤ z27 ∧ z27 ≤ 8) (h2 : 0 ≤ z32 ∧ z32 ≤ 9) : 1 ≤ z32 ∧ z32 ≤ 9 := by omega
theorem vc_X12_beats_4 {z5 : Int} (h0 : z5 ≤ 0) (h1 : ¬ z5 = 0) (h2 : (-6) ≤ z5 ∧ z5 ≤ 6) : (-6) ≤ z5 ∧ z5 ≤ 0 := by omega
theorem vc_X12_beats_5 {z5 : Int} (h0 : 0 < z5) (h1 : ¬ z5 = 0) (h2 : (-6) ≤ z5 ∧ z5 ≤ 6) : 1 ≤ z5 ∧ z5 ≤ 6 := by omega
set_option maxRecDepth 4000 in
set_option maxHeartbeats 4000000 in
theorem c_X12_beats {l : Launch} {D : va_G} {c : Nat → ClassId} {H0 : Heap} {sa : Nat × Nat × (Nat → Int32)} {w : mW} {μ : mM} (hw : mWF w) (hT : mT w μ) {p1 : Int} (hp1 : 0 ≤ p1 ∧ p1 ≤ 9) {p2 : Int} (hp2 : 0 ≤ p2 ∧ p2 ≤ 19) {p3 : Int} (hp3 : 0 ≤ p3 ∧ p3 ≤ 19) {p4 : Int} (hp4 : 0 ≤ p4 ∧ p4 ≤ 9) : sC (gG l D c H0 sa) mX12_beats 3 0 0 [.ref 106, iv p1, iv p2, iv p3, iv p4] (mk w μ) (qP w μ (fun z => (0 ≤ z ∧ z ≤ 1) ∧ True)) := by
  refine sC.of rfl (by decide) (le_t rfl) ?_
  refine mr_lvE (lv' := [(0, .ref 106), (1, iv p1), (2, iv p2), (3, iv p3), (4, iv p4)]) rfl ?_
  refine sv_aload_n dX12_beats_0 rfl rfl ?_
  refine mr_iload_n (z := p1) dX12_beats_1 rfl rfl ?_
  refine mr_iconst (z := 4) dX12_beats_2 ?_
  refine mr_iload_n (z := p2) dX12_beats_3 rfl rfl ?_
  refine mr_iadd (x := 4) (y := p2) dX12_beats_4 ?_
  refine mr_iload_n (z := p2) dX12_beats_5 rfl rfl ?_
  refine mr_iconst (z := 4) dX12_beats_6 ?_
  refine mr_iload_n (z := p3) dX12_beats_7 rfl rfl ?_
  refine mr_iadd (x := 4) (y := p3) dX12_beats_8 ?_
  refine mr_iload_n (z := p3) dX12_beats_9 rfl rfl ?_
  refine mr_iload (z := p4) dX12_beats_10 rfl ?_
  refine mr_cVP (c_X12_unlike hw hT hp1 (rW (c := 0) (d := 2099) (rAdd (e := 4) (f := 23) (rR (x := 4)) hp2 rfl) rfl) hp2 (rW (c := 0) (d := 2099) (rAdd (e := 4) (f := 23) (rR (x := 4)) hp3 rfl) rfl) hp3 hp4) (gOk _ _ _ _ _) dX12_beats_12 (tX12_unlike _ _ _ _ _) ⟨wV_X12_unlike, wL_X12_unlike⟩ wM_X12_549 (gCX12 _ _ _ _ _) rfl (A_106 hw) rfl ⟨le_t rfl, le_t rfl⟩ ⟨le_t rfl, le_t rfl⟩ rfl (le_t rfl) fun z5 h4 => ?_
  refine mr_istore (lv' := [(5, iv z5), (0, .ref 106), (1, iv p1), (2, iv p2), (3, iv p3), (4, iv p4)]) dX12_beats_15 (by decide) rfl ?_
  refine mr_iload (z := z5) dX12_beats_17 rfl ?_
  refine mr_if_eq (tgt := 35) dX12_beats_19 (by decide) (r32 h4.1 rfl) (fun h21 => ?_) (fun h21 => ?_)
  · have h22 : 0 ≤ z5 ∧ z5 ≤ 0 := (vc_X12_beats_1 h21 h4.1)
    refine sv_aload_n dX12_beats_35 rfl rfl ?_
    refine mr_iload_n (z := p2) dX12_beats_36 rfl rfl ?_
    refine mr_iload_n (z := p1) dX12_beats_37 rfl rfl ?_
    refine mr_cVP (c_X12_partnerOf hw hT hp2 (rW (c := (-2147483648)) (d := 2147483647) hp1 rfl)) (gOk _ _ _ _ _) dX12_beats_38 (tX12_partnerOf _ _ _ _ _) ⟨wV_X12_partnerOf, wL_X12_partnerOf⟩ wM_X12_553 (gCX12 _ _ _ _ _) rfl (A_106 hw) rfl ⟨le_t rfl, le_t rfl⟩ ⟨le_t rfl, le_t rfl⟩ rfl (le_t rfl) fun z27 h26 => ?_
    refine sv_aload_n dX12_beats_41 rfl rfl ?_
    refine mr_iload_n (z := p3) dX12_beats_42 rfl rfl ?_
    refine mr_iload_n (z := p1) dX12_beats_43 rfl rfl ?_
    refine mr_cVP (c_X12_partnerOf hw hT hp3 (rW (c := (-2147483648)) (d := 2147483647) hp1 rfl)) (gOk _ _ _ _ _) dX12_beats_44 (tX12_partnerOf _ _ _ _ _) ⟨wV_X12_partnerOf, wL_X12_partnerOf⟩ wM_X12_553 (gCX12 _ _ _ _ _) rfl (A_106 hw) rfl ⟨le_t rfl, le_t rfl⟩ ⟨le_t rfl, le_t rfl⟩ rfl (le_t rfl) fun z32 h31 => ?_
    refine mr_icmp_ge (tgt := 54) dX12_beats_47 (by decide) (r32 h26.1 rfl) (r32 h31.1 rfl) (fun h35 => ?_) (fun h35 => ?_)
    · refine mr_iconst (z := 0) dX12_beats_54 ?_
      exact mr_zretP dX12_beats_55 rfl (rW (c := 0) (d := 1) (rR (x := 0)) rfl) (le_t rfl) (le_t rfl) ⟨(rW (c := 0) (d := 1) (rR (x := 0)) rfl), trivial⟩
    have h36 : 0 ≤ z27 ∧ z27 ≤ 8 := (vc_X12_beats_2 h35 h26.1 h31.1)
    have h37 : 1 ≤ z32 ∧ z32 ≤ 9 := (vc_X12_beats_3 h35 h36 h31.1)
    refine mr_iconst (z := 1) dX12_beats_50 ?_
    refine sv_goto (tgt := 55) dX12_beats_51 (by decide) ?_
    exact mr_zretP dX12_beats_55 rfl (rW (c := 0) (d := 1) (rR (x := 1)) rfl) (le_t rfl) (le_t rfl) ⟨(rW (c := 0) (d := 1) (rR (x := 1)) rfl), trivial⟩
  refine mr_iload (z := z5) dX12_beats_22 rfl ?_
  refine mr_if_le (tgt := 31) dX12_beats_24 (by decide) (r32 h4.1 rfl) (fun h40 => ?_) (fun h40 => ?_)
  · have h41 : (-6) ≤ z5 ∧ z5 ≤ 0 := (vc_X12_beats_4 h40 h21 h4.1)
    refine mr_iconst (z := 0) dX12_beats_31 ?_
    refine sv_goto (tgt := 55) dX12_beats_32 (by decide) ?_
    exact mr_zretP dX12_beats_55 rfl (rW (c := 0) (d := 1) (rR (x := 0)) rfl) (le_t rfl) (le_t rfl) ⟨(rW (c := 0) (d := 1) (rR (x := 0)) rfl), trivial⟩
  have h42 : 1 ≤ z5 ∧ z5 ≤ 6 := (vc_X12_beats_5 h40 h21 h4.1)
  refine mr_iconst (z := 1) dX12_beats_27 ?_
  refine sv_goto (tgt := 55) dX12_beats_28 (by decide) ?_
  exact mr_zretP dX12_beats_55 rfl (rW (c := 0) (d := 1) (rR (x := 1)) rfl) (le_t rfl) (le_t rfl) ⟨(rW (c := 0) (d := 1) (rR (x := 1)) rfl), trivial⟩
theorem vc_X12_best_1 {z168 : Int} (h0 : (21 - z168) < ((0 : Nat) : Int)) (h1 : 0 ≤ z168 ∧ z168 ≤ 20) : False := by omega
theorem vc_X12_best_2 {z169 : Int} (h0 : z169 = -99999999 ∨ (0 ≤ z169 ∧ z169 ≤ 19)) (h1 : (-99999999) ≤ z169 ∧ z169 ≤ 19) : z169 = -99999999 ∨ (0 ≤ z169 ∧ z169 ≤ 19) := by omega
theorem vc_X12_best_3 {z168 z179 : Int} (h0 : z168 < z179) (h1 : 0 ≤ z168 ∧ z168 ≤ 20) (h2 : 0 ≤ z179 ∧ z179 ≤ 20) : 0 ≤ z168 ∧ z168 ≤ 19 := by omega
theorem vc_X12_best_4 {z168 z179 : Int} (h0 : z168 < z179) (h1 : 0 ≤ z168 ∧ z168 ≤ 19) (h2 : 0 ≤ z179 ∧ z179 ≤ 20) : 1 ≤ z179 ∧ z179 ≤ 20 := by omega
theorem vc_X12_best_5 {z201 : Int} (h0 : z201 = 0) (h1 : 0 ≤ z201 ∧ z201 ≤ 1) : 0 ≤ z201 ∧ z201 ≤ 0 := by omega
theorem vc_X12_best_6 {N z168 z179 : Int} (h0 : (21 - z168) < N + 1) (h1 : z168 < z179) (h2 : 0 ≤ z168 ∧ z168 ≤ 19) (h3 : 1 ≤ z179 ∧ z179 ≤ 20) : (21 - (z168 + 1)) < N := by omega
theorem vc_X12_best_7 {z201 : Int} (h0 : ¬ z201 = 0) (h1 : 0 ≤ z201 ∧ z201 ≤ 1) : 1 ≤ z201 ∧ z201 ≤ 1 := by omega
theorem vc_X12_best_8 {z169 : Int} (h0 : z169 = (-99999999)) (h1 : z169 = -99999999 ∨ (0 ≤ z169 ∧ z169 ≤ 19)) (h2 : (-99999999) ≤ z169 ∧ z169 ≤ 19) : (-99999999) ≤ z169 ∧ z169 ≤ (-99999999) := by omega
theorem vc_X12_best_9 {z168 z179 : Int} (h0 : z168 < z179) (h1 : 0 ≤ z168 ∧ z168 ≤ 19) (h2 : 1 ≤ z179 ∧ z179 ≤ 20) : z168 = -99999999 ∨ (0 ≤ z168 ∧ z168 ≤ 19) := by omega
theorem vc_X12_best_10 {z169 : Int} (h0 : ¬ z169 = (-99999999)) (h1 : z169 = -99999999 ∨ (0 ≤ z169 ∧ z169 ≤ 19)) (h2 : (-99999999) ≤ z169 ∧ z169 ≤ 19) : (-99999998) ≤ z169 ∧ z169 ≤ 19 := by omega
theorem vc_X12_best_11 {z169 : Int} (h0 : z169 = -99999999 ∨ (0 ≤ z169 ∧ z169 ≤ 19)) (h1 : ¬ z169 = (-99999999)) (h2 : (-99999998) ≤ z169 ∧ z169 ≤ 19) : 0 ≤ z169 ∧ z169 ≤ 19 := by omega
theorem vc_X12_best_12 {z234 : Int} (h0 : z234 = 0) (h1 : 0 ≤ z234 ∧ z234 ≤ 1) : 0 ≤ z234 ∧ z234 ≤ 0 := by omega
theorem vc_X12_best_13 {z169 : Int} (h0 : z169 = -99999999 ∨ (0 ≤ z169 ∧ z169 ≤ 19)) (h1 : ¬ z169 = (-99999999)) (h2 : (-99999998) ≤ z169 ∧ z169 ≤ 19) : z169 = -99999999 ∨ (0 ≤ z169 ∧ z169 ≤ 19) := by omega
theorem vc_X12_best_14 {z234 : Int} (h0 : ¬ z234 = 0) (h1 : 0 ≤ z234 ∧ z234 ≤ 1) : 1 ≤ z234 ∧ z234 ≤ 1 := by omega
theorem vc_X12_best_15  : ((-99999999) : Int) = -(99999999 : Int) ∨ ((0 : Int) ≤ ((-99999999) : Int) ∧ ((-99999999) : Int) ≤ (19 : Int)) := by omega
theorem vc_X12_best_16  : (21 - 0) < ((22 : Nat) : Int) := by omega
set_option maxRecDepth 4000 in
set_option maxHeartbeats 4000000 in
theorem c_X12_best {l : Launch} {D : va_G} {c : Nat → ClassId} {H0 : Heap} {sa : Nat × Nat × (Nat → Int32)} {w : mW} {μ : mM} (hw : mWF w) (hT : mT w μ) {p1 : Int} (hp1 : 0 ≤ p1 ∧ p1 ≤ 9) {p2 : Int} (hp2 : 0 ≤ p2 ∧ p2 ≤ 9) : sC (gG l D c H0 sa) mX12_best 4 0 0 [.ref 106, iv p1, iv p2] (mk w μ) (qP w μ (fun z => ((-99999999) ≤ z ∧ z ≤ 19) ∧ (z = -99999999 ∨ (0 ≤ z ∧ z ≤ 19)) ∧ True)) := by
  refine sC.of rfl (by decide) (le_t rfl) ?_
  refine mr_lvE (lv' := [(0, .ref 106), (1, iv p1), (2, iv p2)]) rfl ?_
  refine mr_ldc (z := (-99999999)) dX12_best_0 wG_X12_29 (by decide) ?_
  refine mr_istore_n (lv' := [(3, iv (-99999999)), (0, .ref 106), (1, iv p1), (2, iv p2)]) dX12_best_2 rfl (by decide) rfl ?_
  refine mr_iconst (z := 0) dX12_best_3 ?_
  refine mr_istore (lv' := [(4, iv 0), (3, iv (-99999999)), (0, .ref 106), (1, iv p1), (2, iv p2)]) dX12_best_4 (by decide) rfl ?_
  have L170 : ∀ (nL170 : Nat) (z169 z168 : Int), True → ((-99999999) ≤ z169 ∧ z169 ≤ 19) → (0 ≤ z168 ∧ z168 ≤ 20) → z169 = -99999999 ∨ (0 ≤ z169 ∧ z169 ≤ 19) → (21 - z168) < (nL170 : Int) → sV (gG l D c H0 sa) mX12_best (sRm 4 0 0) (sZ (gG l D c H0 sa) 0 0 (qP w μ (fun z => ((-99999999) ≤ z ∧ z ≤ 19) ∧ (z = -99999999 ∨ (0 ≤ z ∧ z ≤ 19)) ∧ True))) 6 [(0, .ref 106), (1, iv p1), (2, iv p2), (3, iv z169), (4, iv z168)] [] (mk w μ) 0 0 := by
    intro nL170
    induction nL170 with
    | zero => intro z169 z168 _ h171 h172 h176 h177; exact ((vc_X12_best_1 h177 h172)).elim
    | succ nL170 ih178 =>
      intro z169 z168 _ h171 h172 h176 h177
      refine mr_iload (z := z168) dX12_best_6 rfl ?_
      refine sv_aload_n dX12_best_8 rfl rfl ?_
      refine gf_X12_6 dX12_best_9 wF_X12_37 (A_106 hw) hT fun z179 q180 h181 => ?_
      refine mr_icmp_ge (tgt := 52) dX12_best_12 (by decide) (r32 h172 rfl) (r32 h181 rfl) (fun h198 => ?_) (fun h198 => ?_)
      · refine mr_iload_n (z := z169) dX12_best_52 rfl rfl ?_
        exact mr_iretP dX12_best_53 rfl (le_t rfl) (le_t rfl) ⟨h171, (vc_X12_best_2 h176 h171), trivial⟩
      have h199 : 0 ≤ z168 ∧ z168 ≤ 19 := (vc_X12_best_3 h198 h172 h181)
      have h200 : 1 ≤ z179 ∧ z179 ≤ 20 := (vc_X12_best_4 h198 h199 h181)
      refine sv_aload_n dX12_best_15 rfl rfl ?_
      refine gf_X12_85 dX12_best_16 wF_X12_457 (A_106 hw) hT ?_
      refine mr_iload (z := z168) dX12_best_19 rfl ?_
      refine la_165 dX12_best_21 (A_165 hw) hT (rIx (n := 20) h199 rfl) fun z201 q202 h203 => ?_
      refine mr_if_eq (tgt := 46) dX12_best_22 (by decide) (r32 h203 rfl) (fun h215 => ?_) (fun h215 => ?_)
      · have h216 : 0 ≤ z201 ∧ z201 ≤ 0 := (vc_X12_best_5 h215 h203)
        refine mr_iinc (lv' := [(4, iv (z168 + 1)), (0, .ref 106), (1, iv p1), (2, iv p2), (3, iv z169)]) dX12_best_46 rfl (by decide) rfl ?_
        refine sv_goto (tgt := 6) dX12_best_49 (by decide) ?_
        refine mr_lvS (lv' := [(0, .ref 106), (1, iv p1), (2, iv p2), (3, iv z169), (4, iv (z168 + 1))]) (List.forall_mem_cons.mpr ⟨rfl, List.forall_mem_cons.mpr ⟨rfl, List.forall_mem_cons.mpr ⟨rfl, List.forall_mem_cons.mpr ⟨rfl, List.forall_mem_cons.mpr ⟨rfl, fun _ h => absurd h List.not_mem_nil⟩⟩⟩⟩⟩) ?_
        exact ih178 z169 (z168 + 1) trivial h171 (rW (c := 0) (d := 20) (rAdd (e := 1) (f := 20) h199 (rR (x := 1)) rfl) rfl) (vc_X12_best_2 h176 h171) (vc_X12_best_6 (nS h177) h198 h199 h200)
      have h217 : 1 ≤ z201 ∧ z201 ≤ 1 := (vc_X12_best_7 h215 h203)
      refine mr_iload_n (z := z169) dX12_best_25 rfl rfl ?_
      refine mr_ldc (z := (-99999999)) dX12_best_26 wG_X12_29 (by decide) ?_
      refine mr_icmp_eq (tgt := 43) dX12_best_28 (by decide) (r32 h171 rfl) (r32 (rR (x := (-99999999))) rfl) (fun h227 => ?_) (fun h227 => ?_)
      · have h228 : (-99999999) ≤ z169 ∧ z169 ≤ (-99999999) := (vc_X12_best_8 h227 h176 h171)
        refine mr_iload (z := z168) dX12_best_43 rfl ?_
        refine mr_istore_n (lv' := [(3, iv z168), (0, .ref 106), (1, iv p1), (2, iv p2), (4, iv z168)]) dX12_best_45 rfl (by decide) rfl ?_
        refine mr_iinc (lv' := [(4, iv (z168 + 1)), (3, iv z168), (0, .ref 106), (1, iv p1), (2, iv p2)]) dX12_best_46 rfl (by decide) rfl ?_
        refine sv_goto (tgt := 6) dX12_best_49 (by decide) ?_
        refine mr_lvS (lv' := [(0, .ref 106), (1, iv p1), (2, iv p2), (3, iv z168), (4, iv (z168 + 1))]) (List.forall_mem_cons.mpr ⟨rfl, List.forall_mem_cons.mpr ⟨rfl, List.forall_mem_cons.mpr ⟨rfl, List.forall_mem_cons.mpr ⟨rfl, List.forall_mem_cons.mpr ⟨rfl, fun _ h => absurd h List.not_mem_nil⟩⟩⟩⟩⟩) ?_
        exact ih178 z168 (z168 + 1) trivial (rW (c := (-99999999)) (d := 19) h199 rfl) (rW (c := 0) (d := 20) (rAdd (e := 1) (f := 20) h199 (rR (x := 1)) rfl) rfl) (vc_X12_best_9 h198 h199 h200) (vc_X12_best_6 (nS h177) h198 h199 h200)
      have h229 : (-99999998) ≤ z169 ∧ z169 ≤ 19 := (vc_X12_best_10 h227 h176 h171)
      refine sv_aload_n dX12_best_31 rfl rfl ?_
      refine mr_iload_n (z := p1) dX12_best_32 rfl rfl ?_
      refine mr_iload (z := z168) dX12_best_33 rfl ?_
      refine mr_iload_n (z := z169) dX12_best_35 rfl rfl ?_
      refine mr_iload_n (z := p2) dX12_best_36 rfl rfl ?_
      refine mr_cVP (c_X12_beats hw hT hp1 h199 (vc_X12_best_11 h176 h227 h229) hp2) (gOk _ _ _ _ _) dX12_best_37 (tX12_beats _ _ _ _ _) ⟨wV_X12_beats, wL_X12_beats⟩ wM_X12_568 (gCX12 _ _ _ _ _) rfl (A_106 hw) rfl ⟨le_t rfl, le_t rfl⟩ ⟨le_t rfl, le_t rfl⟩ rfl (le_t rfl) fun z234 h233 => ?_
      refine mr_if_eq (tgt := 46) dX12_best_40 (by decide) (r32 h233.1 rfl) (fun h237 => ?_) (fun h237 => ?_)
      · have h238 : 0 ≤ z234 ∧ z234 ≤ 0 := (vc_X12_best_12 h237 h233.1)
        refine mr_iinc (lv' := [(4, iv (z168 + 1)), (0, .ref 106), (1, iv p1), (2, iv p2), (3, iv z169)]) dX12_best_46 rfl (by decide) rfl ?_
        refine sv_goto (tgt := 6) dX12_best_49 (by decide) ?_
        refine mr_lvS (lv' := [(0, .ref 106), (1, iv p1), (2, iv p2), (3, iv z169), (4, iv (z168 + 1))]) (List.forall_mem_cons.mpr ⟨rfl, List.forall_mem_cons.mpr ⟨rfl, List.forall_mem_cons.mpr ⟨rfl, List.forall_mem_cons.mpr ⟨rfl, List.forall_mem_cons.mpr ⟨rfl, fun _ h => absurd h List.not_mem_nil⟩⟩⟩⟩⟩) ?_
        exact ih178 z169 (z168 + 1) trivial (rW (c := (-99999999)) (d := 19) h229 rfl) (rW (c := 0) (d := 20) (rAdd (e := 1) (f := 20) h199 (rR (x := 1)) rfl) rfl) (vc_X12_best_13 h176 h227 h229) (vc_X12_best_6 (nS h177) h198 h199 h200)
      have h239 : 1 ≤ z234 ∧ z234 ≤ 1 := (vc_X12_best_14 h237 h233.1)
      refine mr_iload (z := z168) dX12_best_43 rfl ?_
      refine mr_istore_n (lv' := [(3, iv z168), (0, .ref 106), (1, iv p1), (2, iv p2), (4, iv z168)]) dX12_best_45 rfl (by decide) rfl ?_
      refine mr_iinc (lv' := [(4, iv (z168 + 1)), (3, iv z168), (0, .ref 106), (1, iv p1), (2, iv p2)]) dX12_best_46 rfl (by decide) rfl ?_
      refine sv_goto (tgt := 6) dX12_best_49 (by decide) ?_
      refine mr_lvS (lv' := [(0, .ref 106), (1, iv p1), (2, iv p2), (3, iv z168), (4, iv (z168 + 1))]) (List.forall_mem_cons.mpr ⟨rfl, List.forall_mem_cons.mpr ⟨rfl, List.forall_mem_cons.mpr ⟨rfl, List.forall_mem_cons.mpr ⟨rfl, List.forall_mem_cons.mpr ⟨rfl, fun _ h => absurd h List.not_mem_nil⟩⟩⟩⟩⟩) ?_
      exact ih178 z168 (z168 + 1) trivial (rW (c := (-99999999)) (d := 19) h199 rfl) (rW (c := 0) (d := 20) (rAdd (e := 1) (f := 20) h199 (rR (x := 1)) rfl) rfl) (vc_X12_best_9 h198 h199 h200) (vc_X12_best_6 (nS h177) h198 h199 h200)
  refine mr_lvS (lv' := [(0, .ref 106), (1, iv p1), (2, iv p2), (3, iv (-99999999)), (4, iv 0)]) (List.forall_mem_cons.mpr ⟨rfl, List.forall_mem_cons.mpr ⟨rfl, List.forall_mem_cons.mpr ⟨rfl, List.forall_mem_cons.mpr ⟨rfl, List.forall_mem_cons.mpr ⟨rfl, fun _ h => absurd h List.not_mem_nil⟩⟩⟩⟩⟩) ?_
  exact L170 22 (-99999999) 0 trivial (rW (c := (-99999999)) (d := 19) (rR (x := (-99999999))) rfl) (rW (c := 0) (d := 20) (rR (x := 0)) rfl) vc_X12_best_15 vc_X12_best_16
theorem vc_X12_wordOf_1 {z113 : Int} (h0 : z113 = 0) (h1 : (-1) ≤ z113 ∧ z113 ≤ 1) : 0 ≤ z113 ∧ z113 ≤ 0 := by omega
theorem vc_X12_wordOf_2 {z109 : Int} (h0 : z109 = 0) (h1 : (-1) ≤ z109 ∧ z109 ≤ 1) : 0 ≤ z109 ∧ z109 ≤ 0 := by omega
theorem vc_X12_wordOf_3 {z105 : Int} (h0 : z105 = 0) (h1 : (-1) ≤ z105 ∧ z105 ≤ 1) : 0 ≤ z105 ∧ z105 ≤ 0 := by omega
theorem vc_X12_wordOf_4 {z101 : Int} (h0 : z101 = 0) (h1 : (-1) ≤ z101 ∧ z101 ≤ 1) : 0 ≤ z101 ∧ z101 ≤ 0 := by omega
theorem vc_X12_wordOf_5 {z97 : Int} (h0 : z97 = 0) (h1 : (-1) ≤ z97 ∧ z97 ≤ 1) : 0 ≤ z97 ∧ z97 ≤ 0 := by omega
theorem vc_X12_wordOf_6 {z93 : Int} (h0 : z93 = 0) (h1 : (-1) ≤ z93 ∧ z93 ≤ 1) : 0 ≤ z93 ∧ z93 ≤ 0 := by omega
theorem vc_X12_wordOf_7 {z89 : Int} (h0 : z89 = 0) (h1 : (-1) ≤ z89 ∧ z89 ≤ 1) : 0 ≤ z89 ∧ z89 ≤ 0 := by omega
theorem vc_X12_wordOf_8 {z85 : Int} (h0 : z85 = 0) (h1 : (-1) ≤ z85 ∧ z85 ≤ 1) : 0 ≤ z85 ∧ z85 ≤ 0 := by omega
theorem vc_X12_wordOf_9 {z81 : Int} (h0 : z81 = 0) (h1 : (-1) ≤ z81 ∧ z81 ≤ 1) : 0 ≤ z81 ∧ z81 ≤ 0 := by omega
theorem vc_X12_wordOf_10 {z77 : Int} (h0 : z77 = 0) (h1 : (-1) ≤ z77 ∧ z77 ≤ 1) : 0 ≤ z77 ∧ z77 ≤ 0 := by omega
theorem vc_X12_wordOf_11 {z73 : Int} (h0 : z73 = 0) (h1 : (-1) ≤ z73 ∧ z73 ≤ 1) : 0 ≤ z73 ∧ z73 ≤ 0 := by omega
theorem vc_X12_wordOf_12 {z69 : Int} (h0 : z69 = 0) (h1 : (-1) ≤ z69 ∧ z69 ≤ 1) : 0 ≤ z69 ∧ z69 ≤ 0 := by omega
theorem vc_X12_wordOf_13 {z65 : Int} (h0 : z65 = 0) (h1 : (-1) ≤ z65 ∧ z65 ≤ 1) : 0 ≤ z65 ∧ z65 ≤ 0 := by omega
theorem vc_X12_wordOf_14 {z61 : Int} (h0 : z61 = 0) (h1 : (-1) ≤ z61 ∧ z61 ≤ 1) : 0 ≤ z61 ∧ z61 ≤ 0 := by omega
theorem vc_X12_wordOf_15 {z57 : Int} (h0 : z57 = 0) (h1 : (-1) ≤ z57 ∧ z57 ≤ 1) : 0 ≤ z57 ∧ z57 ≤ 0 := by omega
theorem vc_X12_wordOf_16 {z53 : Int} (h0 : z53 = 0) (h1 : (-1) ≤ z53 ∧ z53 ≤ 1) : 0 ≤ z53 ∧ z53 ≤ 0 := by omega
theorem vc_X12_wordOf_17 {z49 : Int} (h0 : z49 = 0) (h1 : (-1) ≤ z49 ∧ z49 ≤ 1) : 0 ≤ z49 ∧ z49 ≤ 0 := by omega
theorem vc_X12_wordOf_18 {z45 : Int} (h0 : z45 = 0) (h1 : (-1) ≤ z45 ∧ z45 ≤ 1) : 0 ≤ z45 ∧ z45 ≤ 0 := by omega
theorem vc_X12_wordOf_19 {z41 : Int} (h0 : z41 = 0) (h1 : (-1) ≤ z41 ∧ z41 ≤ 1) : 0 ≤ z41 ∧ z41 ≤ 0 := by omega
theorem vc_X12_wordOf_20 {z37 : Int} (h0 : z37 = 0) (h1 : (-1) ≤ z37 ∧ z37 ≤ 1) : 0 ≤ z37 ∧ z37 ≤ 0 := by omega
theorem vc_X12_wordOf_21 {z33 : Int} (h0 : z33 = 0) (h1 : (-1) ≤ z33 ∧ z33 ≤ 1) : 0 ≤ z33 ∧ z33 ≤ 0 := by omega
theorem vc_X12_wordOf_22 {z29 : Int} (h0 : z29 = 0) (h1 : (-1) ≤ z29 ∧ z29 ≤ 1) : 0 ≤ z29 ∧ z29 ≤ 0 := by omega
theorem vc_X12_wordOf_23 {z25 : Int} (h0 : z25 = 0) (h1 : (-1) ≤ z25 ∧ z25 ≤ 1) : 0 ≤ z25 ∧ z25 ≤ 0 := by omega
theorem vc_X12_wordOf_24 {z21 : Int} (h0 : z21 = 0) (h1 : (-1) ≤ z21 ∧ z21 ≤ 1) : 0 ≤ z21 ∧ z21 ≤ 0 := by omega
theorem vc_X12_wordOf_25 {z17 : Int} (h0 : z17 = 0) (h1 : (-1) ≤ z17 ∧ z17 ≤ 1) : 0 ≤ z17 ∧ z17 ≤ 0 := by omega
theorem vc_X12_wordOf_26 {z13 : Int} (h0 : z13 = 0) (h1 : (-1) ≤ z13 ∧ z13 ≤ 1) : 0 ≤ z13 ∧ z13 ≤ 0 := by omega
theorem vc_X12_wordOf_27 {z9 : Int} (h0 : z9 = 0) (h1 : (-1) ≤ z9 ∧ z9 ≤ 1) : 0 ≤ z9 ∧ z9 ≤ 0 := by omega
theorem vc_X12_wordOf_28 {z5 : Int} (h0 : z5 = 0) (h1 : (-1) ≤ z5 ∧ z5 ≤ 1) : 0 ≤ z5 ∧ z5 ≤ 0 := by omega
theorem vc_X12_wordOf_29 {z1 : Int} (h0 : z1 = 0) (h1 : (-1) ≤ z1 ∧ z1 ≤ 1) : 0 ≤ z1 ∧ z1 ≤ 0 := by omega
set_option maxRecDepth 4000 in
set_option maxHeartbeats 4000000 in
theorem c_X12_wordOf {l : Launch} {D : va_G} {c : Nat → ClassId} {H0 : Heap} {sa : Nat × Nat × (Nat → Int32)} {w : mW} {μ : mM} (hw : mWF w) (hT : mT w μ) {p1 : Int} (hp1 : (-9223372036854775808) ≤ p1 ∧ p1 ≤ 9223372036854775807) : sC (gG l D c H0 sa) mX12_wordOf 1 0 0 [jv p1] (mk w μ) (qP w μ (fun z => ((-2147483648) ≤ z ∧ z ≤ 2147483647) ∧ True)) := by
  refine sC.of rfl (by decide) (le_t rfl) ?_
  refine mr_lvE (lv' := [(0, jv p1)]) rfl ?_
  refine mr_lload_n (z := p1) dX12_wordOf_0 rfl rfl ?_
  refine mr_ldc2 (z := 26217) dX12_wordOf_1 wH_X12_157 (by decide) ?_
  refine mr_lcmp dX12_wordOf_4 ?_
  refine mr_gen (P := fun z => (-1) ≤ z ∧ z ≤ 1) (lg_cmp_r _ _) fun z1 q2 h3 => ?_
  refine mr_if_ne (tgt := 10) dX12_wordOf_5 (by decide) (r32 h3 rfl) (fun h4 => ?_) (fun h4 => ?_)
  · refine mr_lload_n (z := p1) dX12_wordOf_10 rfl rfl ?_
    refine mr_ldc2 (z := 6581857) dX12_wordOf_11 wH_X12_159 (by decide) ?_
    refine mr_lcmp dX12_wordOf_14 ?_
    refine mr_gen (P := fun z => (-1) ≤ z ∧ z ≤ 1) (lg_cmp_r _ _) fun z5 q6 h7 => ?_
    refine mr_if_ne (tgt := 20) dX12_wordOf_15 (by decide) (r32 h7 rfl) (fun h8 => ?_) (fun h8 => ?_)
    · refine mr_lload_n (z := p1) dX12_wordOf_20 rfl rfl ?_
      refine mr_ldc2 (z := 1852139636) dX12_wordOf_21 wH_X12_161 (by decide) ?_
      refine mr_lcmp dX12_wordOf_24 ?_
      refine mr_gen (P := fun z => (-1) ≤ z ∧ z ≤ 1) (lg_cmp_r _ _) fun z9 q10 h11 => ?_
      refine mr_if_ne (tgt := 30) dX12_wordOf_25 (by decide) (r32 h11 rfl) (fun h12 => ?_) (fun h12 => ?_)
      · refine mr_lload_n (z := p1) dX12_wordOf_30 rfl rfl ?_
        refine mr_ldc2 (z := 7630702) dX12_wordOf_31 wH_X12_163 (by decide) ?_
        refine mr_lcmp dX12_wordOf_34 ?_
        refine mr_gen (P := fun z => (-1) ≤ z ∧ z ≤ 1) (lg_cmp_r _ _) fun z13 q14 h15 => ?_
        refine mr_if_ne (tgt := 40) dX12_wordOf_35 (by decide) (r32 h15 rfl) (fun h16 => ?_) (fun h16 => ?_)
        · refine mr_lload_n (z := p1) dX12_wordOf_40 rfl rfl ?_
          refine mr_ldc2 (z := 28265) dX12_wordOf_41 wH_X12_165 (by decide) ?_
          refine mr_lcmp dX12_wordOf_44 ?_
          refine mr_gen (P := fun z => (-1) ≤ z ∧ z ≤ 1) (lg_cmp_r _ _) fun z17 q18 h19 => ?_
          refine mr_if_ne (tgt := 50) dX12_wordOf_45 (by decide) (r32 h19 rfl) (fun h20 => ?_) (fun h20 => ?_)
          · refine mr_lload_n (z := p1) dX12_wordOf_50 rfl rfl ?_
            refine mr_ldc2 (z := 28532) dX12_wordOf_51 wH_X12_167 (by decide) ?_
            refine mr_lcmp dX12_wordOf_54 ?_
            refine mr_gen (P := fun z => (-1) ≤ z ∧ z ≤ 1) (lg_cmp_r _ _) fun z21 q22 h23 => ?_
            refine mr_if_ne (tgt := 60) dX12_wordOf_55 (by decide) (r32 h23 rfl) (fun h24 => ?_) (fun h24 => ?_)
            · refine mr_lload_n (z := p1) dX12_wordOf_60 rfl rfl ?_
              refine mr_ldc2 (z := 7954807) dX12_wordOf_61 wH_X12_169 (by decide) ?_
              refine mr_lcmp dX12_wordOf_64 ?_
              refine mr_gen (P := fun z => (-1) ≤ z ∧ z ≤ 1) (lg_cmp_r _ _) fun z25 q26 h27 => ?_
              refine mr_if_ne (tgt := 71) dX12_wordOf_65 (by decide) (r32 h27 rfl) (fun h28 => ?_) (fun h28 => ?_)
              · refine mr_lload_n (z := p1) dX12_wordOf_71 rfl rfl ?_
                refine mr_ldc2 (z := 7958113) dX12_wordOf_72 wH_X12_171 (by decide) ?_
                refine mr_lcmp dX12_wordOf_75 ?_
                refine mr_gen (P := fun z => (-1) ≤ z ∧ z ≤ 1) (lg_cmp_r _ _) fun z29 q30 h31 => ?_
                refine mr_if_ne (tgt := 82) dX12_wordOf_76 (by decide) (r32 h31 rfl) (fun h32 => ?_) (fun h32 => ?_)
                · refine mr_lload_n (z := p1) dX12_wordOf_82 rfl rfl ?_
                  refine mr_ldc2 (z := 1802658157) dX12_wordOf_83 wH_X12_173 (by decide) ?_
                  refine mr_lcmp dX12_wordOf_86 ?_
                  refine mr_gen (P := fun z => (-1) ≤ z ∧ z ≤ 1) (lg_cmp_r _ _) fun z33 q34 h35 => ?_
                  refine mr_if_ne (tgt := 93) dX12_wordOf_87 (by decide) (r32 h35 rfl) (fun h36 => ?_) (fun h36 => ?_)
                  · refine mr_lload_n (z := p1) dX12_wordOf_93 rfl rfl ?_
                    refine mr_ldc2 (z := 1836020326) dX12_wordOf_94 wH_X12_175 (by decide) ?_
                    refine mr_lcmp dX12_wordOf_97 ?_
                    refine mr_gen (P := fun z => (-1) ≤ z ∧ z ≤ 1) (lg_cmp_r _ _) fun z37 q38 h39 => ?_
                    refine mr_if_ne (tgt := 104) dX12_wordOf_98 (by decide) (r32 h39 rfl) (fun h40 => ?_) (fun h40 => ?_)
                    · refine mr_lload_n (z := p1) dX12_wordOf_104 rfl rfl ?_
                      refine mr_ldc2 (z := 6646132) dX12_wordOf_105 wH_X12_177 (by decide) ?_
                      refine mr_lcmp dX12_wordOf_108 ?_
                      refine mr_gen (P := fun z => (-1) ≤ z ∧ z ≤ 1) (lg_cmp_r _ _) fun z41 q42 h43 => ?_
                      refine mr_if_ne (tgt := 115) dX12_wordOf_109 (by decide) (r32 h43 rfl) (fun h44 => ?_) (fun h44 => ?_)
                      · refine mr_lload_n (z := p1) dX12_wordOf_115 rfl rfl ?_
                        refine mr_ldc2 (z := 114849160783212) dX12_wordOf_116 wH_X12_179 (by decide) ?_
                        refine mr_lcmp dX12_wordOf_119 ?_
                        refine mr_gen (P := fun z => (-1) ≤ z ∧ z ≤ 1) (lg_cmp_r _ _) fun z45 q46 h47 => ?_
                        refine mr_if_ne (tgt := 126) dX12_wordOf_120 (by decide) (r32 h47 rfl) (fun h48 => ?_) (fun h48 => ?_)
                        · refine mr_lload_n (z := p1) dX12_wordOf_126 rfl rfl ?_
                          refine mr_ldc2 (z := 1752394103) dX12_wordOf_127 wH_X12_181 (by decide) ?_
                          refine mr_lcmp dX12_wordOf_130 ?_
                          refine mr_gen (P := fun z => (-1) ≤ z ∧ z ≤ 1) (lg_cmp_r _ _) fun z49 q50 h51 => ?_
                          refine mr_if_ne (tgt := 137) dX12_wordOf_131 (by decide) (r32 h51 rfl) (fun h52 => ?_) (fun h52 => ?_)
                          · refine mr_lload_n (z := p1) dX12_wordOf_137 rfl rfl ?_
                            refine mr_ldc2 (z := 1953722211) dX12_wordOf_138 wH_X12_183 (by decide) ?_
                            refine mr_lcmp dX12_wordOf_141 ?_
                            refine mr_gen (P := fun z => (-1) ≤ z ∧ z ≤ 1) (lg_cmp_r _ _) fun z53 q54 h55 => ?_
                            refine mr_if_ne (tgt := 148) dX12_wordOf_142 (by decide) (r32 h55 rfl) (fun h56 => ?_) (fun h56 => ?_)
                            · refine mr_lload_n (z := p1) dX12_wordOf_148 rfl rfl ?_
                              refine mr_ldc2 (z := 121398985585263) dX12_wordOf_149 wH_X12_185 (by decide) ?_
                              refine mr_lcmp dX12_wordOf_152 ?_
                              refine mr_gen (P := fun z => (-1) ≤ z ∧ z ≤ 1) (lg_cmp_r _ _) fun z57 q58 h59 => ?_
                              refine mr_if_ne (tgt := 159) dX12_wordOf_153 (by decide) (r32 h59 rfl) (fun h60 => ?_) (fun h60 => ?_)
                              · refine mr_lload_n (z := p1) dX12_wordOf_159 rfl rfl ?_
                                refine mr_ldc2 (z := 499967814002) dX12_wordOf_160 wH_X12_187 (by decide) ?_
                                refine mr_lcmp dX12_wordOf_163 ?_
                                refine mr_gen (P := fun z => (-1) ≤ z ∧ z ≤ 1) (lg_cmp_r _ _) fun z61 q62 h63 => ?_
                                refine mr_if_ne (tgt := 170) dX12_wordOf_164 (by decide) (r32 h63 rfl) (fun h64 => ?_) (fun h64 => ?_)
                                · refine mr_lload_n (z := p1) dX12_wordOf_170 rfl rfl ?_
                                  refine mr_ldc2 (z := 8243115018434082147) dX12_wordOf_171 wH_X12_189 (by decide) ?_
                                  refine mr_lcmp dX12_wordOf_174 ?_
                                  refine mr_gen (P := fun z => (-1) ≤ z ∧ z ≤ 1) (lg_cmp_r _ _) fun z65 q66 h67 => ?_
                                  refine mr_if_ne (tgt := 181) dX12_wordOf_175 (by decide) (r32 h67 rfl) (fun h68 => ?_) (fun h68 => ?_)
                                  · refine mr_lload_n (z := p1) dX12_wordOf_181 rfl rfl ?_
                                    refine mr_ldc2 (z := 8243105097092919920) dX12_wordOf_182 wH_X12_191 (by decide) ?_
                                    refine mr_lcmp dX12_wordOf_185 ?_
                                    refine mr_gen (P := fun z => (-1) ≤ z ∧ z ≤ 1) (lg_cmp_r _ _) fun z69 q70 h71 => ?_
                                    refine mr_if_ne (tgt := 192) dX12_wordOf_186 (by decide) (r32 h71 rfl) (fun h72 => ?_) (fun h72 => ?_)
                                    · refine mr_lload_n (z := p1) dX12_wordOf_192 rfl rfl ?_
                                      refine mr_ldc2 (z := 465491554661) dX12_wordOf_193 wH_X12_193 (by decide) ?_
                                      refine mr_lcmp dX12_wordOf_196 ?_
                                      refine mr_gen (P := fun z => (-1) ≤ z ∧ z ≤ 1) (lg_cmp_r _ _) fun z73 q74 h75 => ?_
                                      refine mr_if_ne (tgt := 203) dX12_wordOf_197 (by decide) (r32 h75 rfl) (fun h76 => ?_) (fun h76 => ?_)
                                      · refine mr_lload_n (z := p1) dX12_wordOf_203 rfl rfl ?_
                                        refine mr_ldc2 (z := 7235947) dX12_wordOf_204 wH_X12_195 (by decide) ?_
                                        refine mr_lcmp dX12_wordOf_207 ?_
                                        refine mr_gen (P := fun z => (-1) ≤ z ∧ z ≤ 1) (lg_cmp_r _ _) fun z77 q78 h79 => ?_
                                        refine mr_if_ne (tgt := 214) dX12_wordOf_208 (by decide) (r32 h79 rfl) (fun h80 => ?_) (fun h80 => ?_)
                                        · refine mr_lload_n (z := p1) dX12_wordOf_214 rfl rfl ?_
                                          refine mr_ldc2 (z := 431265440118) dX12_wordOf_215 wH_X12_197 (by decide) ?_
                                          refine mr_lcmp dX12_wordOf_218 ?_
                                          refine mr_gen (P := fun z => (-1) ≤ z ∧ z ≤ 1) (lg_cmp_r _ _) fun z81 q82 h83 => ?_
                                          refine mr_if_ne (tgt := 225) dX12_wordOf_219 (by decide) (r32 h83 rfl) (fun h84 => ?_) (fun h84 => ?_)
                                          · refine mr_lload_n (z := p1) dX12_wordOf_225 rfl rfl ?_
                                            refine mr_ldc2 (z := 31093567915781749) dX12_wordOf_226 wH_X12_199 (by decide) ?_
                                            refine mr_lcmp dX12_wordOf_229 ?_
                                            refine mr_gen (P := fun z => (-1) ≤ z ∧ z ≤ 1) (lg_cmp_r _ _) fun z85 q86 h87 => ?_
                                            refine mr_if_ne (tgt := 236) dX12_wordOf_230 (by decide) (r32 h87 rfl) (fun h88 => ?_) (fun h88 => ?_)
                                            · refine mr_lload_n (z := p1) dX12_wordOf_236 rfl rfl ?_
                                              refine mr_ldc2 (z := 6578530) dX12_wordOf_237 wH_X12_201 (by decide) ?_
                                              refine mr_lcmp dX12_wordOf_240 ?_
                                              refine mr_gen (P := fun z => (-1) ≤ z ∧ z ≤ 1) (lg_cmp_r _ _) fun z89 q90 h91 => ?_
                                              refine mr_if_ne (tgt := 247) dX12_wordOf_241 (by decide) (r32 h91 rfl) (fun h92 => ?_) (fun h92 => ?_)
                                              · refine mr_lload_n (z := p1) dX12_wordOf_247 rfl rfl ?_
                                                refine mr_ldc2 (z := 7628140) dX12_wordOf_248 wH_X12_203 (by decide) ?_
                                                refine mr_lcmp dX12_wordOf_251 ?_
                                                refine mr_gen (P := fun z => (-1) ≤ z ∧ z ≤ 1) (lg_cmp_r _ _) fun z93 q94 h95 => ?_
                                                refine mr_if_ne (tgt := 258) dX12_wordOf_252 (by decide) (r32 h95 rfl) (fun h96 => ?_) (fun h96 => ?_)
                                                · refine mr_lload_n (z := p1) dX12_wordOf_258 rfl rfl ?_
                                                  refine mr_ldc2 (z := 7496034) dX12_wordOf_259 wH_X12_205 (by decide) ?_
                                                  refine mr_lcmp dX12_wordOf_262 ?_
                                                  refine mr_gen (P := fun z => (-1) ≤ z ∧ z ≤ 1) (lg_cmp_r _ _) fun z97 q98 h99 => ?_
                                                  refine mr_if_ne (tgt := 269) dX12_wordOf_263 (by decide) (r32 h99 rfl) (fun h100 => ?_) (fun h100 => ?_)
                                                  · refine mr_lload_n (z := p1) dX12_wordOf_269 rfl rfl ?_
                                                    refine mr_ldc2 (z := 6579297) dX12_wordOf_270 wH_X12_207 (by decide) ?_
                                                    refine mr_lcmp dX12_wordOf_273 ?_
                                                    refine mr_gen (P := fun z => (-1) ≤ z ∧ z ≤ 1) (lg_cmp_r _ _) fun z101 q102 h103 => ?_
                                                    refine mr_if_ne (tgt := 280) dX12_wordOf_274 (by decide) (r32 h103 rfl) (fun h104 => ?_) (fun h104 => ?_)
                                                    · refine mr_lload_n (z := p1) dX12_wordOf_280 rfl rfl ?_
                                                      refine mr_ldc2 (z := 1886351972) dX12_wordOf_281 wH_X12_209 (by decide) ?_
                                                      refine mr_lcmp dX12_wordOf_284 ?_
                                                      refine mr_gen (P := fun z => (-1) ≤ z ∧ z ≤ 1) (lg_cmp_r _ _) fun z105 q106 h107 => ?_
                                                      refine mr_if_ne (tgt := 291) dX12_wordOf_285 (by decide) (r32 h107 rfl) (fun h108 => ?_) (fun h108 => ?_)
                                                      · refine mr_lload_n (z := p1) dX12_wordOf_291 rfl rfl ?_
                                                        refine mr_ldc2 (z := 1701998445) dX12_wordOf_292 wH_X12_211 (by decide) ?_
                                                        refine mr_lcmp dX12_wordOf_295 ?_
                                                        refine mr_gen (P := fun z => (-1) ≤ z ∧ z ≤ 1) (lg_cmp_r _ _) fun z109 q110 h111 => ?_
                                                        refine mr_if_ne (tgt := 302) dX12_wordOf_296 (by decide) (r32 h111 rfl) (fun h112 => ?_) (fun h112 => ?_)
                                                        · refine mr_lload_n (z := p1) dX12_wordOf_302 rfl rfl ?_
                                                          refine mr_ldc2 (z := 1819042147) dX12_wordOf_303 wH_X12_213 (by decide) ?_
                                                          refine mr_lcmp dX12_wordOf_306 ?_
                                                          refine mr_gen (P := fun z => (-1) ≤ z ∧ z ≤ 1) (lg_cmp_r _ _) fun z113 q114 h115 => ?_
                                                          refine mr_if_ne (tgt := 313) dX12_wordOf_307 (by decide) (r32 h115 rfl) (fun h116 => ?_) (fun h116 => ?_)
                                                          · refine mr_iconst (z := (-1)) dX12_wordOf_313 ?_
                                                            exact mr_iretP dX12_wordOf_314 rfl (le_t rfl) (le_t rfl) ⟨(rW (c := (-2147483648)) (d := 2147483647) (rR (x := (-1))) rfl), trivial⟩
                                                          have h117 : 0 ≤ z113 ∧ z113 ≤ 0 := (vc_X12_wordOf_1 h116 h115)
                                                          refine mr_bipush (z := 28) dX12_wordOf_310 (by decide) ?_
                                                          exact mr_iretP dX12_wordOf_312 rfl (le_t rfl) (le_t rfl) ⟨(rW (c := (-2147483648)) (d := 2147483647) (rR (x := 28)) rfl), trivial⟩
                                                        have h118 : 0 ≤ z109 ∧ z109 ≤ 0 := (vc_X12_wordOf_2 h112 h111)
                                                        refine mr_bipush (z := 27) dX12_wordOf_299 (by decide) ?_
                                                        exact mr_iretP dX12_wordOf_301 rfl (le_t rfl) (le_t rfl) ⟨(rW (c := (-2147483648)) (d := 2147483647) (rR (x := 27)) rfl), trivial⟩
                                                      have h119 : 0 ≤ z105 ∧ z105 ≤ 0 := (vc_X12_wordOf_3 h108 h107)
                                                      refine mr_bipush (z := 26) dX12_wordOf_288 (by decide) ?_
                                                      exact mr_iretP dX12_wordOf_290 rfl (le_t rfl) (le_t rfl) ⟨(rW (c := (-2147483648)) (d := 2147483647) (rR (x := 26)) rfl), trivial⟩
                                                    have h120 : 0 ≤ z101 ∧ z101 ≤ 0 := (vc_X12_wordOf_4 h104 h103)
                                                    refine mr_bipush (z := 25) dX12_wordOf_277 (by decide) ?_
                                                    exact mr_iretP dX12_wordOf_279 rfl (le_t rfl) (le_t rfl) ⟨(rW (c := (-2147483648)) (d := 2147483647) (rR (x := 25)) rfl), trivial⟩
                                                  have h121 : 0 ≤ z97 ∧ z97 ≤ 0 := (vc_X12_wordOf_5 h100 h99)
                                                  refine mr_bipush (z := 24) dX12_wordOf_266 (by decide) ?_
                                                  exact mr_iretP dX12_wordOf_268 rfl (le_t rfl) (le_t rfl) ⟨(rW (c := (-2147483648)) (d := 2147483647) (rR (x := 24)) rfl), trivial⟩
                                                have h122 : 0 ≤ z93 ∧ z93 ≤ 0 := (vc_X12_wordOf_6 h96 h95)
                                                refine mr_bipush (z := 23) dX12_wordOf_255 (by decide) ?_
                                                exact mr_iretP dX12_wordOf_257 rfl (le_t rfl) (le_t rfl) ⟨(rW (c := (-2147483648)) (d := 2147483647) (rR (x := 23)) rfl), trivial⟩
                                              have h123 : 0 ≤ z89 ∧ z89 ≤ 0 := (vc_X12_wordOf_7 h92 h91)
                                              refine mr_bipush (z := 22) dX12_wordOf_244 (by decide) ?_
                                              exact mr_iretP dX12_wordOf_246 rfl (le_t rfl) (le_t rfl) ⟨(rW (c := (-2147483648)) (d := 2147483647) (rR (x := 22)) rfl), trivial⟩
                                            have h124 : 0 ≤ z85 ∧ z85 ≤ 0 := (vc_X12_wordOf_8 h88 h87)
                                            refine mr_bipush (z := 21) dX12_wordOf_233 (by decide) ?_
                                            exact mr_iretP dX12_wordOf_235 rfl (le_t rfl) (le_t rfl) ⟨(rW (c := (-2147483648)) (d := 2147483647) (rR (x := 21)) rfl), trivial⟩
                                          have h125 : 0 ≤ z81 ∧ z81 ≤ 0 := (vc_X12_wordOf_9 h84 h83)
                                          refine mr_bipush (z := 20) dX12_wordOf_222 (by decide) ?_
                                          exact mr_iretP dX12_wordOf_224 rfl (le_t rfl) (le_t rfl) ⟨(rW (c := (-2147483648)) (d := 2147483647) (rR (x := 20)) rfl), trivial⟩
                                        have h126 : 0 ≤ z77 ∧ z77 ≤ 0 := (vc_X12_wordOf_10 h80 h79)
                                        refine mr_bipush (z := 19) dX12_wordOf_211 (by decide) ?_
                                        exact mr_iretP dX12_wordOf_213 rfl (le_t rfl) (le_t rfl) ⟨(rW (c := (-2147483648)) (d := 2147483647) (rR (x := 19)) rfl), trivial⟩
                                      have h127 : 0 ≤ z73 ∧ z73 ≤ 0 := (vc_X12_wordOf_11 h76 h75)
                                      refine mr_bipush (z := 18) dX12_wordOf_200 (by decide) ?_
                                      exact mr_iretP dX12_wordOf_202 rfl (le_t rfl) (le_t rfl) ⟨(rW (c := (-2147483648)) (d := 2147483647) (rR (x := 18)) rfl), trivial⟩
                                    have h128 : 0 ≤ z69 ∧ z69 ≤ 0 := (vc_X12_wordOf_12 h72 h71)
                                    refine mr_bipush (z := 17) dX12_wordOf_189 (by decide) ?_
                                    exact mr_iretP dX12_wordOf_191 rfl (le_t rfl) (le_t rfl) ⟨(rW (c := (-2147483648)) (d := 2147483647) (rR (x := 17)) rfl), trivial⟩
                                  have h129 : 0 ≤ z65 ∧ z65 ≤ 0 := (vc_X12_wordOf_13 h68 h67)
                                  refine mr_bipush (z := 16) dX12_wordOf_178 (by decide) ?_
                                  exact mr_iretP dX12_wordOf_180 rfl (le_t rfl) (le_t rfl) ⟨(rW (c := (-2147483648)) (d := 2147483647) (rR (x := 16)) rfl), trivial⟩
                                have h130 : 0 ≤ z61 ∧ z61 ≤ 0 := (vc_X12_wordOf_14 h64 h63)
                                refine mr_bipush (z := 15) dX12_wordOf_167 (by decide) ?_
                                exact mr_iretP dX12_wordOf_169 rfl (le_t rfl) (le_t rfl) ⟨(rW (c := (-2147483648)) (d := 2147483647) (rR (x := 15)) rfl), trivial⟩
                              have h131 : 0 ≤ z57 ∧ z57 ≤ 0 := (vc_X12_wordOf_15 h60 h59)
                              refine mr_bipush (z := 14) dX12_wordOf_156 (by decide) ?_
                              exact mr_iretP dX12_wordOf_158 rfl (le_t rfl) (le_t rfl) ⟨(rW (c := (-2147483648)) (d := 2147483647) (rR (x := 14)) rfl), trivial⟩
                            have h132 : 0 ≤ z53 ∧ z53 ≤ 0 := (vc_X12_wordOf_16 h56 h55)
                            refine mr_bipush (z := 13) dX12_wordOf_145 (by decide) ?_
                            exact mr_iretP dX12_wordOf_147 rfl (le_t rfl) (le_t rfl) ⟨(rW (c := (-2147483648)) (d := 2147483647) (rR (x := 13)) rfl), trivial⟩
                          have h133 : 0 ≤ z49 ∧ z49 ≤ 0 := (vc_X12_wordOf_17 h52 h51)
                          refine mr_bipush (z := 12) dX12_wordOf_134 (by decide) ?_
                          exact mr_iretP dX12_wordOf_136 rfl (le_t rfl) (le_t rfl) ⟨(rW (c := (-2147483648)) (d := 2147483647) (rR (x := 12)) rfl), trivial⟩
                        have h134 : 0 ≤ z45 ∧ z45 ≤ 0 := (vc_X12_wordOf_18 h48 h47)
                        refine mr_bipush (z := 11) dX12_wordOf_123 (by decide) ?_
                        exact mr_iretP dX12_wordOf_125 rfl (le_t rfl) (le_t rfl) ⟨(rW (c := (-2147483648)) (d := 2147483647) (rR (x := 11)) rfl), trivial⟩
                      have h135 : 0 ≤ z41 ∧ z41 ≤ 0 := (vc_X12_wordOf_19 h44 h43)
                      refine mr_bipush (z := 10) dX12_wordOf_112 (by decide) ?_
                      exact mr_iretP dX12_wordOf_114 rfl (le_t rfl) (le_t rfl) ⟨(rW (c := (-2147483648)) (d := 2147483647) (rR (x := 10)) rfl), trivial⟩
                    have h136 : 0 ≤ z37 ∧ z37 ≤ 0 := (vc_X12_wordOf_20 h40 h39)
                    refine mr_bipush (z := 9) dX12_wordOf_101 (by decide) ?_
                    exact mr_iretP dX12_wordOf_103 rfl (le_t rfl) (le_t rfl) ⟨(rW (c := (-2147483648)) (d := 2147483647) (rR (x := 9)) rfl), trivial⟩
                  have h137 : 0 ≤ z33 ∧ z33 ≤ 0 := (vc_X12_wordOf_21 h36 h35)
                  refine mr_bipush (z := 8) dX12_wordOf_90 (by decide) ?_
                  exact mr_iretP dX12_wordOf_92 rfl (le_t rfl) (le_t rfl) ⟨(rW (c := (-2147483648)) (d := 2147483647) (rR (x := 8)) rfl), trivial⟩
                have h138 : 0 ≤ z29 ∧ z29 ≤ 0 := (vc_X12_wordOf_22 h32 h31)
                refine mr_bipush (z := 7) dX12_wordOf_79 (by decide) ?_
                exact mr_iretP dX12_wordOf_81 rfl (le_t rfl) (le_t rfl) ⟨(rW (c := (-2147483648)) (d := 2147483647) (rR (x := 7)) rfl), trivial⟩
              have h139 : 0 ≤ z25 ∧ z25 ≤ 0 := (vc_X12_wordOf_23 h28 h27)
              refine mr_bipush (z := 6) dX12_wordOf_68 (by decide) ?_
              exact mr_iretP dX12_wordOf_70 rfl (le_t rfl) (le_t rfl) ⟨(rW (c := (-2147483648)) (d := 2147483647) (rR (x := 6)) rfl), trivial⟩
            have h140 : 0 ≤ z21 ∧ z21 ≤ 0 := (vc_X12_wordOf_24 h24 h23)
            refine mr_iconst (z := 5) dX12_wordOf_58 ?_
            exact mr_iretP dX12_wordOf_59 rfl (le_t rfl) (le_t rfl) ⟨(rW (c := (-2147483648)) (d := 2147483647) (rR (x := 5)) rfl), trivial⟩
          have h141 : 0 ≤ z17 ∧ z17 ≤ 0 := (vc_X12_wordOf_25 h20 h19)
          refine mr_iconst (z := 4) dX12_wordOf_48 ?_
          exact mr_iretP dX12_wordOf_49 rfl (le_t rfl) (le_t rfl) ⟨(rW (c := (-2147483648)) (d := 2147483647) (rR (x := 4)) rfl), trivial⟩
        have h142 : 0 ≤ z13 ∧ z13 ≤ 0 := (vc_X12_wordOf_26 h16 h15)
        refine mr_iconst (z := 3) dX12_wordOf_38 ?_
        exact mr_iretP dX12_wordOf_39 rfl (le_t rfl) (le_t rfl) ⟨(rW (c := (-2147483648)) (d := 2147483647) (rR (x := 3)) rfl), trivial⟩
      have h143 : 0 ≤ z9 ∧ z9 ≤ 0 := (vc_X12_wordOf_27 h12 h11)
      refine mr_iconst (z := 2) dX12_wordOf_28 ?_
      exact mr_iretP dX12_wordOf_29 rfl (le_t rfl) (le_t rfl) ⟨(rW (c := (-2147483648)) (d := 2147483647) (rR (x := 2)) rfl), trivial⟩
    have h144 : 0 ≤ z5 ∧ z5 ≤ 0 := (vc_X12_wordOf_28 h8 h7)
    refine mr_iconst (z := 1) dX12_wordOf_18 ?_
    exact mr_iretP dX12_wordOf_19 rfl (le_t rfl) (le_t rfl) ⟨(rW (c := (-2147483648)) (d := 2147483647) (rR (x := 1)) rfl), trivial⟩
  have h145 : 0 ≤ z1 ∧ z1 ≤ 0 := (vc_X12_wordOf_29 h4 h3)
  refine mr_iconst (z := 0) dX12_wordOf_8 ?_
  exact mr_iretP dX12_wordOf_9 rfl (le_t rfl) (le_t rfl) ⟨(rW (c := (-2147483648)) (d := 2147483647) (rR (x := 0)) rfl), trivial⟩
theorem vc_X12_wrong_1 {f_code : Int} (h0 : ¬ f_code = 0) (h1 : 0 ≤ f_code ∧ f_code ≤ 4) : 1 ≤ f_code ∧ f_code ≤ 4 := by omega
theorem vc_X12_wrong_2 {f_code : Int} (h0 : ¬ f_code = 0) (h1 : 1 ≤ f_code ∧ f_code ≤ 4) : 1 ≤ f_code := by omega
theorem vc_X12_wrong_3 {f_code : Int} (h0 : ¬ f_code = 0) (h1 : 1 ≤ f_code ∧ f_code ≤ 4) : ¬ f_code = 0 → f_code = f_code := by omega
theorem vc_X12_wrong_4 {f_code : Int} (h0 : f_code = 0) (h1 : 0 ≤ f_code ∧ f_code ≤ 4) : 0 ≤ f_code ∧ f_code ≤ 0 := by omega
theorem vc_X12_wrong_5 {p1 : Int} (h0 : 1 ≤ p1 ∧ p1 ≤ 4) : 1 ≤ p1 := by omega
theorem vc_X12_wrong_6 {f_code p1 : Int} (h0 : f_code = 0) (h1 : 0 ≤ f_code ∧ f_code ≤ 0) (h2 : 1 ≤ p1 ∧ p1 ≤ 4) : ¬ f_code = 0 → p1 = f_code := by omega
set_option maxRecDepth 4000 in
set_option maxHeartbeats 4000000 in
theorem c_X12_wrong {l : Launch} {D : va_G} {c : Nat → ClassId} {H0 : Heap} {sa : Nat × Nat × (Nat → Int32)} {w : mW} {μ : mM} (hw : mWF w) (hT : mT w μ) {p1 : Int} (hp1 : 1 ≤ p1 ∧ p1 ≤ 4) {f_code : Int} (q_f_code : μ 106 37 = f_code) : sC (gG l D c H0 sa) mX12_wrong 1 0 0 [.ref 106, iv p1] (mk w μ) (qV w [106037, 106038] μ (fun μ1 => ∃ o_code : Int, μ1 106 37 = o_code ∧ (1 ≤ o_code) ∧ (¬ f_code = 0 → o_code = f_code) ∧ True)) := by
  refine sC.of rfl (by decide) (le_t rfl) ?_
  have ht_f_code : (0 ≤ f_code ∧ f_code ≤ 4) := by rw [← q_f_code]; exact hT 106 106 (A_106 hw) 37
  refine mr_lvE (lv' := [(0, .ref 106), (1, iv p1)]) rfl ?_
  refine sv_aload_n dX12_wrong_0 rfl rfl ?_
  refine gk_X12_37 dX12_wrong_1 wF_X12_215 (A_106 hw) q_f_code ?_
  refine mr_if_ne (tgt := 20) dX12_wrong_4 (by decide) (r32 ht_f_code rfl) (fun h45 => ?_) (fun h45 => ?_)
  · have h46 : 1 ≤ f_code ∧ f_code ≤ 4 := (vc_X12_wrong_1 h45 ht_f_code)
    exact mr_vret dX12_wrong_20 rfl (le_t rfl) (le_t rfl) hT mF.refl ⟨f_code, q_f_code, (vc_X12_wrong_2 h45 h46), (vc_X12_wrong_3 h45 h46), trivial⟩
  have h47 : 0 ≤ f_code ∧ f_code ≤ 0 := (vc_X12_wrong_4 h45 ht_f_code)
  refine sv_aload_n dX12_wrong_7 rfl rfl ?_
  refine mr_iload_n (z := p1) dX12_wrong_8 rfl rfl ?_
  refine pf_X12_37 dX12_wrong_9 wF_X12_215 (A_106 hw) hT (rW (c := 0) (d := 4) hp1 rfl) fun μ48 u49 T50 => ?_
  refine sv_aload_n dX12_wrong_12 rfl rfl ?_
  refine sv_aload_n dX12_wrong_13 rfl rfl ?_
  refine gf_X12_34 dX12_wrong_14 wF_X12_218 (A_106 hw) T50 fun z51 q52 h53 => ?_
  refine pf_X12_38 dX12_wrong_17 wF_X12_221 (A_106 hw) T50 h53 fun μ54 u55 T56 => ?_
  exact mr_vret dX12_wrong_20 rfl (le_t rfl) (le_t rfl) T56 (mF.up (mF.up mF.refl (A_106 hw) u49 rfl) (A_106 hw) u55 rfl) ⟨p1, (u55.f (Or.inr (by decide)) u49.1), (vc_X12_wrong_5 hp1), (vc_X12_wrong_6 h45 h47 hp1), trivial⟩
theorem vc_X12_byteAt_1 {f_size p1 : Int} (h0 : f_size ≤ p1) (h1 : 0 ≤ f_size ∧ f_size ≤ 1000) (h2 : 0 ≤ p1 ∧ p1 ≤ 2147483647) : 0 ≤ (-1 : Int) → p1 < f_size := by omega
theorem vc_X12_byteAt_2 {f_size p1 : Int} (h0 : f_size ≤ p1) (h1 : 0 ≤ f_size ∧ f_size ≤ 1000) (h2 : 0 ≤ p1 ∧ p1 ≤ 2147483647) : p1 < f_size → 0 ≤ (-1 : Int) := by omega
theorem vc_X12_byteAt_3 {f_size p1 : Int} (h0 : p1 < f_size) (h1 : 0 ≤ f_size ∧ f_size ≤ 1000) (h2 : 0 ≤ p1 ∧ p1 ≤ 2147483647) : 0 ≤ p1 ∧ p1 ≤ 999 := by omega
theorem vc_X12_byteAt_4 {f_size p1 : Int} (h0 : p1 < f_size) (h1 : 0 ≤ f_size ∧ f_size ≤ 1000) (h2 : 0 ≤ p1 ∧ p1 ≤ 999) : 1 ≤ f_size ∧ f_size ≤ 1000 := by omega
theorem vc_X12_byteAt_5 {f_size p1 z39 : Int} (h0 : p1 < f_size) (h1 : 1 ≤ f_size ∧ f_size ≤ 1000) (h2 : 0 ≤ p1 ∧ p1 ≤ 999) (h3 : 0 ≤ z39 ∧ z39 ≤ 255) : 0 ≤ z39 → p1 < f_size := by omega
theorem vc_X12_byteAt_6 {f_size p1 z39 : Int} (h0 : p1 < f_size) (h1 : 1 ≤ f_size ∧ f_size ≤ 1000) (h2 : 0 ≤ p1 ∧ p1 ≤ 999) (h3 : 0 ≤ z39 ∧ z39 ≤ 255) : p1 < f_size → 0 ≤ z39 := by omega
set_option maxRecDepth 4000 in
set_option maxHeartbeats 4000000 in
theorem c_X12_byteAt {l : Launch} {D : va_G} {c : Nat → ClassId} {H0 : Heap} {sa : Nat × Nat × (Nat → Int32)} {w : mW} {μ : mM} (hw : mWF w) (hT : mT w μ) {p1 : Int} (hp1 : 0 ≤ p1 ∧ p1 ≤ 2147483647) {f_size : Int} (q_f_size : μ 106 1 = f_size) : sC (gG l D c H0 sa) mX12_byteAt 1 0 0 [.ref 106, iv p1] (mk w μ) (qP w μ (fun z => ((-1) ≤ z ∧ z ≤ 255) ∧ (0 ≤ z → p1 < f_size) ∧ (p1 < f_size → 0 ≤ z) ∧ True)) := by
  refine sC.of rfl (by decide) (le_t rfl) ?_
  have ht_f_size : (0 ≤ f_size ∧ f_size ≤ 1000) := by rw [← q_f_size]; exact hT 106 106 (A_106 hw) 1
  refine mr_lvE (lv' := [(0, .ref 106), (1, iv p1)]) rfl ?_
  refine mr_iload_n (z := p1) dX12_byteAt_0 rfl rfl ?_
  refine sv_aload_n dX12_byteAt_1 rfl rfl ?_
  refine gk_X12_1 dX12_byteAt_2 wF_X12_1 (A_106 hw) q_f_size ?_
  refine mr_icmp_ge (tgt := 21) dX12_byteAt_5 (by decide) (r32 hp1 rfl) (r32 ht_f_size rfl) (fun h33 => ?_) (fun h33 => ?_)
  · refine mr_iconst (z := (-1)) dX12_byteAt_21 ?_
    exact mr_iretP dX12_byteAt_22 rfl (le_t rfl) (le_t rfl) ⟨(rW (c := (-1)) (d := 255) (rR (x := (-1))) rfl), (vc_X12_byteAt_1 h33 ht_f_size hp1), (vc_X12_byteAt_2 h33 ht_f_size hp1), trivial⟩
  have h34 : 0 ≤ p1 ∧ p1 ≤ 999 := (vc_X12_byteAt_3 h33 ht_f_size hp1)
  have h35 : 1 ≤ f_size ∧ f_size ≤ 1000 := (vc_X12_byteAt_4 h33 ht_f_size h34)
  refine sv_aload_n dX12_byteAt_8 rfl rfl ?_
  refine gf_X12_0 dX12_byteAt_9 wF_X12_7 (A_106 hw) hT ?_
  refine mr_iload_n (z := p1) dX12_byteAt_12 rfl rfl ?_
  refine la_107 dX12_byteAt_13 (A_107 hw) hT (rIx (n := 1000) h34 rfl) fun z36 q37 h38 => ?_
  refine mr_sipush (z := 255) dX12_byteAt_14 (by decide) ?_
  refine mr_iand (x := z36) (y := 255) dX12_byteAt_17 ?_
  refine mr_gen (P := fun z => 0 ≤ z ∧ z ≤ 255) (rAndR (rR (x := 255)) rfl) fun z39 q40 h41 => ?_
  refine sv_goto (tgt := 22) dX12_byteAt_18 (by decide) ?_
  exact mr_iretP dX12_byteAt_22 rfl (le_t rfl) (le_t rfl) ⟨(rW (c := (-1)) (d := 255) h41 rfl), (vc_X12_byteAt_5 h33 h35 h34 h41), (vc_X12_byteAt_6 h33 h35 h34 h41), trivial⟩
theorem vc_X12_isSign_1 {f_code : Int} (h0 : ¬ f_code = 0) (h1 : 0 ≤ f_code ∧ f_code ≤ 4) : 1 ≤ f_code ∧ f_code ≤ 4 := by omega
theorem vc_X12_isSign_2 {f_code f_number f_type p1 : Int} (h0 : ¬ f_code = 0) (h1 : 1 ≤ f_code ∧ f_code ≤ 4) (h2 : (-2147483648) ≤ f_number ∧ f_number ≤ 2147483647) (h3 : 0 ≤ f_type ∧ f_type ≤ 3) (h4 : (-2147483648) ≤ p1 ∧ p1 ≤ 2147483647) : (0 : Int) = 1 → f_code = 0 ∧ f_type = 3 ∧ f_number = p1 := by omega
theorem vc_X12_isSign_3 {f_code f_number f_type p1 : Int} (h0 : ¬ f_code = 0) (h1 : 1 ≤ f_code ∧ f_code ≤ 4) (h2 : (-2147483648) ≤ f_number ∧ f_number ≤ 2147483647) (h3 : 0 ≤ f_type ∧ f_type ≤ 3) (h4 : (-2147483648) ≤ p1 ∧ p1 ≤ 2147483647) : (0 : Int) = 0 → ¬ f_code = 0 ∨ ¬ f_type = 3 ∨ ¬ f_number = p1 := by omega
theorem vc_X12_isSign_4 {f_code : Int} (h0 : f_code = 0) (h1 : 0 ≤ f_code ∧ f_code ≤ 4) : 0 ≤ f_code ∧ f_code ≤ 0 := by omega
theorem vc_X12_isSign_5 {f_type : Int} (h0 : ¬ f_type = 3) (h1 : 0 ≤ f_type ∧ f_type ≤ 3) : 0 ≤ f_type ∧ f_type ≤ 2 := by omega
theorem vc_X12_isSign_6 {f_code f_number f_type p1 : Int} (h0 : f_code = 0) (h1 : ¬ f_type = 3) (h2 : 0 ≤ f_code ∧ f_code ≤ 0) (h3 : (-2147483648) ≤ f_number ∧ f_number ≤ 2147483647) (h4 : 0 ≤ f_type ∧ f_type ≤ 2) (h5 : (-2147483648) ≤ p1 ∧ p1 ≤ 2147483647) : (0 : Int) = 1 → f_code = 0 ∧ f_type = 3 ∧ f_number = p1 := by omega
theorem vc_X12_isSign_7 {f_code f_number f_type p1 : Int} (h0 : f_code = 0) (h1 : ¬ f_type = 3) (h2 : 0 ≤ f_code ∧ f_code ≤ 0) (h3 : (-2147483648) ≤ f_number ∧ f_number ≤ 2147483647) (h4 : 0 ≤ f_type ∧ f_type ≤ 2) (h5 : (-2147483648) ≤ p1 ∧ p1 ≤ 2147483647) : (0 : Int) = 0 → ¬ f_code = 0 ∨ ¬ f_type = 3 ∨ ¬ f_number = p1 := by omega
theorem vc_X12_isSign_8 {f_type : Int} (h0 : f_type = 3) (h1 : 0 ≤ f_type ∧ f_type ≤ 3) : 3 ≤ f_type ∧ f_type ≤ 3 := by omega
theorem vc_X12_isSign_9 {f_code f_number f_type p1 : Int} (h0 : f_code = 0) (h1 : f_type = 3) (h2 : ¬ f_number = p1) (h3 : 0 ≤ f_code ∧ f_code ≤ 0) (h4 : (-2147483648) ≤ f_number ∧ f_number ≤ 2147483647) (h5 : 3 ≤ f_type ∧ f_type ≤ 3) (h6 : (-2147483648) ≤ p1 ∧ p1 ≤ 2147483647) : (0 : Int) = 1 → f_code = 0 ∧ f_type = 3 ∧ f_number = p1 := by omega
theorem vc_X12_isSign_10 {f_code f_number f_type p1 : Int} (h0 : f_code = 0) (h1 : f_type = 3) (h2 : ¬ f_number = p1) (h3 : 0 ≤ f_code ∧ f_code ≤ 0) (h4 : (-2147483648) ≤ f_number ∧ f_number ≤ 2147483647) (h5 : 3 ≤ f_type ∧ f_type ≤ 3) (h6 : (-2147483648) ≤ p1 ∧ p1 ≤ 2147483647) : (0 : Int) = 0 → ¬ f_code = 0 ∨ ¬ f_type = 3 ∨ ¬ f_number = p1 := by omega
theorem vc_X12_isSign_11 {f_code f_number f_type p1 : Int} (h0 : f_code = 0) (h1 : f_type = 3) (h2 : f_number = p1) (h3 : 0 ≤ f_code ∧ f_code ≤ 0) (h4 : (-2147483648) ≤ f_number ∧ f_number ≤ 2147483647) (h5 : 3 ≤ f_type ∧ f_type ≤ 3) (h6 : (-2147483648) ≤ p1 ∧ p1 ≤ 2147483647) : (1 : Int) = 1 → f_code = 0 ∧ f_type = 3 ∧ f_number = p1 := by omega
theorem vc_X12_isSign_12 {f_code f_number f_type p1 : Int} (h0 : f_code = 0) (h1 : f_type = 3) (h2 : f_number = p1) (h3 : 0 ≤ f_code ∧ f_code ≤ 0) (h4 : (-2147483648) ≤ f_number ∧ f_number ≤ 2147483647) (h5 : 3 ≤ f_type ∧ f_type ≤ 3) (h6 : (-2147483648) ≤ p1 ∧ p1 ≤ 2147483647) : (1 : Int) = 0 → ¬ f_code = 0 ∨ ¬ f_type = 3 ∨ ¬ f_number = p1 := by omega
set_option maxRecDepth 4000 in
set_option maxHeartbeats 4000000 in
theorem c_X12_isSign {l : Launch} {D : va_G} {c : Nat → ClassId} {H0 : Heap} {sa : Nat × Nat × (Nat → Int32)} {w : mW} {μ : mM} (hw : mWF w) (hT : mT w μ) {p1 : Int} (hp1 : (-2147483648) ≤ p1 ∧ p1 ≤ 2147483647) {f_code : Int} (q_f_code : μ 106 37 = f_code) {f_type : Int} (q_f_type : μ 106 35 = f_type) {f_number : Int} (q_f_number : μ 106 36 = f_number) : sC (gG l D c H0 sa) mX12_isSign 1 0 0 [.ref 106, iv p1] (mk w μ) (qP w μ (fun z => (0 ≤ z ∧ z ≤ 1) ∧ (z = 1 → f_code = 0 ∧ f_type = 3 ∧ f_number = p1) ∧ (z = 0 → ¬ f_code = 0 ∨ ¬ f_type = 3 ∨ ¬ f_number = p1) ∧ True)) := by
  refine sC.of rfl (by decide) (le_t rfl) ?_
  have ht_f_code : (0 ≤ f_code ∧ f_code ≤ 4) := by rw [← q_f_code]; exact hT 106 106 (A_106 hw) 37
  have ht_f_type : (0 ≤ f_type ∧ f_type ≤ 3) := by rw [← q_f_type]; exact hT 106 106 (A_106 hw) 35
  have ht_f_number : ((-2147483648) ≤ f_number ∧ f_number ≤ 2147483647) := by rw [← q_f_number]; exact hT 106 106 (A_106 hw) 36
  refine mr_lvE (lv' := [(0, .ref 106), (1, iv p1)]) rfl ?_
  refine sv_aload_n dX12_isSign_0 rfl rfl ?_
  refine gk_X12_37 dX12_isSign_1 wF_X12_215 (A_106 hw) q_f_code ?_
  refine mr_if_ne (tgt := 27) dX12_isSign_4 (by decide) (r32 ht_f_code rfl) (fun h17 => ?_) (fun h17 => ?_)
  · have h18 : 1 ≤ f_code ∧ f_code ≤ 4 := (vc_X12_isSign_1 h17 ht_f_code)
    refine mr_iconst (z := 0) dX12_isSign_27 ?_
    exact mr_zretP dX12_isSign_28 rfl (rW (c := 0) (d := 1) (rR (x := 0)) rfl) (le_t rfl) (le_t rfl) ⟨(rW (c := 0) (d := 1) (rR (x := 0)) rfl), (vc_X12_isSign_2 h17 h18 ht_f_number ht_f_type hp1), (vc_X12_isSign_3 h17 h18 ht_f_number ht_f_type hp1), trivial⟩
  have h19 : 0 ≤ f_code ∧ f_code ≤ 0 := (vc_X12_isSign_4 h17 ht_f_code)
  refine sv_aload_n dX12_isSign_7 rfl rfl ?_
  refine gk_X12_35 dX12_isSign_8 wF_X12_230 (A_106 hw) q_f_type ?_
  refine mr_iconst (z := 3) dX12_isSign_11 ?_
  refine mr_icmp_ne (tgt := 27) dX12_isSign_12 (by decide) (r32 ht_f_type rfl) (r32 (rR (x := 3)) rfl) (fun h22 => ?_) (fun h22 => ?_)
  · have h23 : 0 ≤ f_type ∧ f_type ≤ 2 := (vc_X12_isSign_5 h22 ht_f_type)
    refine mr_iconst (z := 0) dX12_isSign_27 ?_
    exact mr_zretP dX12_isSign_28 rfl (rW (c := 0) (d := 1) (rR (x := 0)) rfl) (le_t rfl) (le_t rfl) ⟨(rW (c := 0) (d := 1) (rR (x := 0)) rfl), (vc_X12_isSign_6 h17 h22 h19 ht_f_number h23 hp1), (vc_X12_isSign_7 h17 h22 h19 ht_f_number h23 hp1), trivial⟩
  have h24 : 3 ≤ f_type ∧ f_type ≤ 3 := (vc_X12_isSign_8 h22 ht_f_type)
  refine sv_aload_n dX12_isSign_15 rfl rfl ?_
  refine gk_X12_36 dX12_isSign_16 wF_X12_233 (A_106 hw) q_f_number ?_
  refine mr_iload_n (z := p1) dX12_isSign_19 rfl rfl ?_
  refine mr_icmp_ne (tgt := 27) dX12_isSign_20 (by decide) ht_f_number hp1 (fun h25 => ?_) (fun h25 => ?_)
  · refine mr_iconst (z := 0) dX12_isSign_27 ?_
    exact mr_zretP dX12_isSign_28 rfl (rW (c := 0) (d := 1) (rR (x := 0)) rfl) (le_t rfl) (le_t rfl) ⟨(rW (c := 0) (d := 1) (rR (x := 0)) rfl), (vc_X12_isSign_9 h17 h22 h25 h19 ht_f_number h24 hp1), (vc_X12_isSign_10 h17 h22 h25 h19 ht_f_number h24 hp1), trivial⟩
  refine mr_iconst (z := 1) dX12_isSign_23 ?_
  refine sv_goto (tgt := 28) dX12_isSign_24 (by decide) ?_
  exact mr_zretP dX12_isSign_28 rfl (rW (c := 0) (d := 1) (rR (x := 1)) rfl) (le_t rfl) (le_t rfl) ⟨(rW (c := 0) (d := 1) (rR (x := 1)) rfl), (vc_X12_isSign_11 h17 h22 h25 h19 ht_f_number h24 hp1), (vc_X12_isSign_12 h17 h22 h25 h19 ht_f_number h24 hp1), trivial⟩
theorem vc_X12_isWord_1 {f_code : Int} (h0 : ¬ f_code = 0) (h1 : 0 ≤ f_code ∧ f_code ≤ 4) : 1 ≤ f_code ∧ f_code ≤ 4 := by omega
theorem vc_X12_isWord_2 {f_code f_number f_type p1 : Int} (h0 : ¬ f_code = 0) (h1 : 1 ≤ f_code ∧ f_code ≤ 4) (h2 : (-2147483648) ≤ f_number ∧ f_number ≤ 2147483647) (h3 : 0 ≤ f_type ∧ f_type ≤ 3) (h4 : (-2147483648) ≤ p1 ∧ p1 ≤ 2147483647) : (0 : Int) = 1 → f_code = 0 ∧ f_type = 1 ∧ f_number = p1 := by omega
theorem vc_X12_isWord_3 {f_code f_number f_type p1 : Int} (h0 : ¬ f_code = 0) (h1 : 1 ≤ f_code ∧ f_code ≤ 4) (h2 : (-2147483648) ≤ f_number ∧ f_number ≤ 2147483647) (h3 : 0 ≤ f_type ∧ f_type ≤ 3) (h4 : (-2147483648) ≤ p1 ∧ p1 ≤ 2147483647) : (0 : Int) = 0 → ¬ f_code = 0 ∨ ¬ f_type = 1 ∨ ¬ f_number = p1 := by omega
theorem vc_X12_isWord_4 {f_code : Int} (h0 : f_code = 0) (h1 : 0 ≤ f_code ∧ f_code ≤ 4) : 0 ≤ f_code ∧ f_code ≤ 0 := by omega
theorem vc_X12_isWord_5 {f_code f_number f_type p1 : Int} (h0 : f_code = 0) (h1 : ¬ f_type = 1) (h2 : 0 ≤ f_code ∧ f_code ≤ 0) (h3 : (-2147483648) ≤ f_number ∧ f_number ≤ 2147483647) (h4 : 0 ≤ f_type ∧ f_type ≤ 3) (h5 : (-2147483648) ≤ p1 ∧ p1 ≤ 2147483647) : (0 : Int) = 1 → f_code = 0 ∧ f_type = 1 ∧ f_number = p1 := by omega
theorem vc_X12_isWord_6 {f_code f_number f_type p1 : Int} (h0 : f_code = 0) (h1 : ¬ f_type = 1) (h2 : 0 ≤ f_code ∧ f_code ≤ 0) (h3 : (-2147483648) ≤ f_number ∧ f_number ≤ 2147483647) (h4 : 0 ≤ f_type ∧ f_type ≤ 3) (h5 : (-2147483648) ≤ p1 ∧ p1 ≤ 2147483647) : (0 : Int) = 0 → ¬ f_code = 0 ∨ ¬ f_type = 1 ∨ ¬ f_number = p1 := by omega
theorem vc_X12_isWord_7 {f_type : Int} (h0 : f_type = 1) (h1 : 0 ≤ f_type ∧ f_type ≤ 3) : 1 ≤ f_type ∧ f_type ≤ 1 := by omega
theorem vc_X12_isWord_8 {f_code f_number f_type p1 : Int} (h0 : f_code = 0) (h1 : f_type = 1) (h2 : ¬ f_number = p1) (h3 : 0 ≤ f_code ∧ f_code ≤ 0) (h4 : (-2147483648) ≤ f_number ∧ f_number ≤ 2147483647) (h5 : 1 ≤ f_type ∧ f_type ≤ 1) (h6 : (-2147483648) ≤ p1 ∧ p1 ≤ 2147483647) : (0 : Int) = 1 → f_code = 0 ∧ f_type = 1 ∧ f_number = p1 := by omega
theorem vc_X12_isWord_9 {f_code f_number f_type p1 : Int} (h0 : f_code = 0) (h1 : f_type = 1) (h2 : ¬ f_number = p1) (h3 : 0 ≤ f_code ∧ f_code ≤ 0) (h4 : (-2147483648) ≤ f_number ∧ f_number ≤ 2147483647) (h5 : 1 ≤ f_type ∧ f_type ≤ 1) (h6 : (-2147483648) ≤ p1 ∧ p1 ≤ 2147483647) : (0 : Int) = 0 → ¬ f_code = 0 ∨ ¬ f_type = 1 ∨ ¬ f_number = p1 := by omega
theorem vc_X12_isWord_10 {f_code f_number f_type p1 : Int} (h0 : f_code = 0) (h1 : f_type = 1) (h2 : f_number = p1) (h3 : 0 ≤ f_code ∧ f_code ≤ 0) (h4 : (-2147483648) ≤ f_number ∧ f_number ≤ 2147483647) (h5 : 1 ≤ f_type ∧ f_type ≤ 1) (h6 : (-2147483648) ≤ p1 ∧ p1 ≤ 2147483647) : (1 : Int) = 1 → f_code = 0 ∧ f_type = 1 ∧ f_number = p1 := by omega
theorem vc_X12_isWord_11 {f_code f_number f_type p1 : Int} (h0 : f_code = 0) (h1 : f_type = 1) (h2 : f_number = p1) (h3 : 0 ≤ f_code ∧ f_code ≤ 0) (h4 : (-2147483648) ≤ f_number ∧ f_number ≤ 2147483647) (h5 : 1 ≤ f_type ∧ f_type ≤ 1) (h6 : (-2147483648) ≤ p1 ∧ p1 ≤ 2147483647) : (1 : Int) = 0 → ¬ f_code = 0 ∨ ¬ f_type = 1 ∨ ¬ f_number = p1 := by omega
set_option maxRecDepth 4000 in
set_option maxHeartbeats 4000000 in
theorem c_X12_isWord {l : Launch} {D : va_G} {c : Nat → ClassId} {H0 : Heap} {sa : Nat × Nat × (Nat → Int32)} {w : mW} {μ : mM} (hw : mWF w) (hT : mT w μ) {p1 : Int} (hp1 : (-2147483648) ≤ p1 ∧ p1 ≤ 2147483647) {f_code : Int} (q_f_code : μ 106 37 = f_code) {f_type : Int} (q_f_type : μ 106 35 = f_type) {f_number : Int} (q_f_number : μ 106 36 = f_number) : sC (gG l D c H0 sa) mX12_isWord 1 0 0 [.ref 106, iv p1] (mk w μ) (qP w μ (fun z => (0 ≤ z ∧ z ≤ 1) ∧ (z = 1 → f_code = 0 ∧ f_type = 1 ∧ f_number = p1) ∧ (z = 0 → ¬ f_code = 0 ∨ ¬ f_type = 1 ∨ ¬ f_number = p1) ∧ True)) := by
  refine sC.of rfl (by decide) (le_t rfl) ?_
  have ht_f_code : (0 ≤ f_code ∧ f_code ≤ 4) := by rw [← q_f_code]; exact hT 106 106 (A_106 hw) 37
  have ht_f_type : (0 ≤ f_type ∧ f_type ≤ 3) := by rw [← q_f_type]; exact hT 106 106 (A_106 hw) 35
  have ht_f_number : ((-2147483648) ≤ f_number ∧ f_number ≤ 2147483647) := by rw [← q_f_number]; exact hT 106 106 (A_106 hw) 36
  refine mr_lvE (lv' := [(0, .ref 106), (1, iv p1)]) rfl ?_
  refine sv_aload_n dX12_isWord_0 rfl rfl ?_
  refine gk_X12_37 dX12_isWord_1 wF_X12_215 (A_106 hw) q_f_code ?_
  refine mr_if_ne (tgt := 27) dX12_isWord_4 (by decide) (r32 ht_f_code rfl) (fun h13 => ?_) (fun h13 => ?_)
  · have h14 : 1 ≤ f_code ∧ f_code ≤ 4 := (vc_X12_isWord_1 h13 ht_f_code)
    refine mr_iconst (z := 0) dX12_isWord_27 ?_
    exact mr_zretP dX12_isWord_28 rfl (rW (c := 0) (d := 1) (rR (x := 0)) rfl) (le_t rfl) (le_t rfl) ⟨(rW (c := 0) (d := 1) (rR (x := 0)) rfl), (vc_X12_isWord_2 h13 h14 ht_f_number ht_f_type hp1), (vc_X12_isWord_3 h13 h14 ht_f_number ht_f_type hp1), trivial⟩
  have h15 : 0 ≤ f_code ∧ f_code ≤ 0 := (vc_X12_isWord_4 h13 ht_f_code)
  refine sv_aload_n dX12_isWord_7 rfl rfl ?_
  refine gk_X12_35 dX12_isWord_8 wF_X12_230 (A_106 hw) q_f_type ?_
  refine mr_iconst (z := 1) dX12_isWord_11 ?_
  refine mr_icmp_ne (tgt := 27) dX12_isWord_12 (by decide) (r32 ht_f_type rfl) (r32 (rR (x := 1)) rfl) (fun h17 => ?_) (fun h17 => ?_)
  · refine mr_iconst (z := 0) dX12_isWord_27 ?_
    exact mr_zretP dX12_isWord_28 rfl (rW (c := 0) (d := 1) (rR (x := 0)) rfl) (le_t rfl) (le_t rfl) ⟨(rW (c := 0) (d := 1) (rR (x := 0)) rfl), (vc_X12_isWord_5 h13 h17 h15 ht_f_number ht_f_type hp1), (vc_X12_isWord_6 h13 h17 h15 ht_f_number ht_f_type hp1), trivial⟩
  have h18 : 1 ≤ f_type ∧ f_type ≤ 1 := (vc_X12_isWord_7 h17 ht_f_type)
  refine sv_aload_n dX12_isWord_15 rfl rfl ?_
  refine gk_X12_36 dX12_isWord_16 wF_X12_233 (A_106 hw) q_f_number ?_
  refine mr_iload_n (z := p1) dX12_isWord_19 rfl rfl ?_
  refine mr_icmp_ne (tgt := 27) dX12_isWord_20 (by decide) ht_f_number hp1 (fun h19 => ?_) (fun h19 => ?_)
  · refine mr_iconst (z := 0) dX12_isWord_27 ?_
    exact mr_zretP dX12_isWord_28 rfl (rW (c := 0) (d := 1) (rR (x := 0)) rfl) (le_t rfl) (le_t rfl) ⟨(rW (c := 0) (d := 1) (rR (x := 0)) rfl), (vc_X12_isWord_8 h13 h17 h19 h15 ht_f_number h18 hp1), (vc_X12_isWord_9 h13 h17 h19 h15 ht_f_number h18 hp1), trivial⟩
  refine mr_iconst (z := 1) dX12_isWord_23 ?_
  refine sv_goto (tgt := 28) dX12_isWord_24 (by decide) ?_
  exact mr_zretP dX12_isWord_28 rfl (rW (c := 0) (d := 1) (rR (x := 1)) rfl) (le_t rfl) (le_t rfl) ⟨(rW (c := 0) (d := 1) (rR (x := 1)) rfl), (vc_X12_isWord_10 h13 h17 h19 h15 ht_f_number h18 hp1), (vc_X12_isWord_11 h13 h17 h19 h15 ht_f_number h18 hp1), trivial⟩
set_option maxRecDepth 4000 in
set_option maxHeartbeats 4000000 in
theorem c_X12_freshRow {l : Launch} {D : va_G} {c : Nat → ClassId} {H0 : Heap} {sa : Nat × Nat × (Nat → Int32)} {w : mW} {μ : mM} (hw : mWF w) (hT : mT w μ) : sC (gG l D c H0 sa) mX12_freshRow 1 0 0 [.ref 106] (mk w μ) (qV w [148999, 149999, 150999] μ (fun μ1 => True)) := by
  refine sC.of rfl (by decide) (le_t rfl) ?_
  refine mr_lvE (lv' := [(0, .ref 106)]) rfl ?_
  refine sv_aload_n dX12_freshRow_0 rfl rfl ?_
  refine gf_X12_63 dX12_freshRow_1 wF_X12_266 (A_106 hw) hT ?_
  refine sv_aload_n dX12_freshRow_4 rfl rfl ?_
  refine gf_X12_59 dX12_freshRow_5 wF_X12_254 (A_106 hw) hT fun z1 q2 h3 => ?_
  refine mr_lconst (z := 0) dX12_freshRow_8 (by decide) ?_
  refine ss_148 dX12_freshRow_9 (A_148 hw) hT (rIx (n := 10) h3 rfl) (rW (c := -9223372036854775808) (d := 9223372036854775807) (rR (x := 0)) rfl) fun μ4 u5 T6 => ?_
  refine sv_aload_n dX12_freshRow_10 rfl rfl ?_
  refine gf_X12_64 dX12_freshRow_11 wF_X12_269 (A_106 hw) T6 ?_
  refine sv_aload_n dX12_freshRow_14 rfl rfl ?_
  refine gk_X12_59 dX12_freshRow_15 wF_X12_254 (A_106 hw) (u5.f (Or.inl (mAt.ne (A_148 hw) (A_106 hw) rfl)) q2) ?_
  refine mr_lconst (z := 0) dX12_freshRow_18 (by decide) ?_
  refine ss_149 dX12_freshRow_19 (A_149 hw) T6 (rIx (n := 10) h3 rfl) (rW (c := -9223372036854775808) (d := 9223372036854775807) (rR (x := 0)) rfl) fun μ7 u8 T9 => ?_
  refine sv_aload_n dX12_freshRow_20 rfl rfl ?_
  refine gf_X12_65 dX12_freshRow_21 wF_X12_272 (A_106 hw) T9 ?_
  refine sv_aload_n dX12_freshRow_24 rfl rfl ?_
  refine gk_X12_59 dX12_freshRow_25 wF_X12_254 (A_106 hw) (u8.f (Or.inl (mAt.ne (A_149 hw) (A_106 hw) rfl)) (u5.f (Or.inl (mAt.ne (A_148 hw) (A_106 hw) rfl)) q2)) ?_
  refine mr_iconst (z := 1) dX12_freshRow_28 ?_
  refine ss_150 dX12_freshRow_29 (A_150 hw) T9 (rIx (n := 10) h3 rfl) (rW (c := 0) (d := 1) (rR (x := 1)) rfl) fun μ10 u11 T12 => ?_
  exact mr_vret dX12_freshRow_30 rfl (le_t rfl) (le_t rfl) T12 (mF.up (mF.up (mF.up mF.refl (A_148 hw) u5 rfl) (A_149 hw) u8 rfl) (A_150 hw) u11 rfl) trivial
theorem vc_X12_openLevel_1 {f_levels : Int} (h0 : f_levels ≤ 5) (h1 : 0 ≤ f_levels ∧ f_levels ≤ 6) : 0 ≤ f_levels ∧ f_levels ≤ 5 := by omega
theorem vc_X12_openLevel_2 {f_levels : Int} (h0 : f_levels ≤ 5) (h1 : 0 ≤ f_levels ∧ f_levels ≤ 5) : (f_levels + 1) = f_levels + 1 := by omega
set_option maxRecDepth 4000 in
set_option maxHeartbeats 4000000 in
theorem c_X12_openLevel {l : Launch} {D : va_G} {c : Nat → ClassId} {H0 : Heap} {sa : Nat × Nat × (Nat → Int32)} {w : mW} {μ : mM} (hw : mWF w) (hT : mT w μ) {f_levels : Int} (q_f_levels : μ 106 59 = f_levels) (hq0 : f_levels ≤ 5) : sC (gG l D c H0 sa) mX12_openLevel 2 0 0 [.ref 106] (mk w μ) (qV w [106059, 145999, 146999, 147999, 148999, 149999, 150999] μ (fun μ1 => ∃ o_levels : Int, μ1 106 59 = o_levels ∧ (o_levels = f_levels + 1) ∧ True)) := by
  refine sC.of rfl (by decide) (le_t rfl) ?_
  have ht_f_levels : (0 ≤ f_levels ∧ f_levels ≤ 6) := by rw [← q_f_levels]; exact hT 106 106 (A_106 hw) 59
  have h1 : 0 ≤ f_levels ∧ f_levels ≤ 5 := (vc_X12_openLevel_1 hq0 ht_f_levels)
  refine mr_lvE (lv' := [(0, .ref 106)]) rfl ?_
  refine sv_aload_n dX12_openLevel_0 rfl rfl ?_
  refine gf_X12_60 dX12_openLevel_1 wF_X12_250 (A_106 hw) hT ?_
  refine sv_aload_n dX12_openLevel_4 rfl rfl ?_
  refine gk_X12_59 dX12_openLevel_5 wF_X12_254 (A_106 hw) q_f_levels ?_
  refine mr_lconst (z := 0) dX12_openLevel_8 (by decide) ?_
  refine ss_145 dX12_openLevel_9 (A_145 hw) hT (rIx (n := 10) h1 rfl) (rW (c := -9223372036854775808) (d := 9223372036854775807) (rR (x := 0)) rfl) fun μ50 u51 T52 => ?_
  refine sv_aload_n dX12_openLevel_10 rfl rfl ?_
  refine gf_X12_61 dX12_openLevel_11 wF_X12_257 (A_106 hw) T52 ?_
  refine sv_aload_n dX12_openLevel_14 rfl rfl ?_
  refine gk_X12_59 dX12_openLevel_15 wF_X12_254 (A_106 hw) (u51.f (Or.inl (mAt.ne (A_145 hw) (A_106 hw) rfl)) q_f_levels) ?_
  refine mr_lconst (z := 0) dX12_openLevel_18 (by decide) ?_
  refine ss_146 dX12_openLevel_19 (A_146 hw) T52 (rIx (n := 10) h1 rfl) (rW (c := -9223372036854775808) (d := 9223372036854775807) (rR (x := 0)) rfl) fun μ53 u54 T55 => ?_
  refine sv_aload_n dX12_openLevel_20 rfl rfl ?_
  refine gf_X12_62 dX12_openLevel_21 wF_X12_260 (A_106 hw) T55 ?_
  refine sv_aload_n dX12_openLevel_24 rfl rfl ?_
  refine gk_X12_59 dX12_openLevel_25 wF_X12_254 (A_106 hw) (u54.f (Or.inl (mAt.ne (A_146 hw) (A_106 hw) rfl)) (u51.f (Or.inl (mAt.ne (A_145 hw) (A_106 hw) rfl)) q_f_levels)) ?_
  refine mr_iconst (z := 0) dX12_openLevel_28 ?_
  refine ss_147 dX12_openLevel_29 (A_147 hw) T55 (rIx (n := 10) h1 rfl) (rW (c := 0) (d := 1) (rR (x := 0)) rfl) fun μ56 u57 T58 => ?_
  refine sv_aload_n dX12_openLevel_30 rfl rfl ?_
  refine mr_cVV (c_X12_freshRow hw T58) (gOk _ _ _ _ _) dX12_openLevel_31 (tX12_freshRow _ _ _ _ _) ⟨wV_X12_freshRow, wL_X12_freshRow⟩ wM_X12_263 (gCX12 _ _ _ _ _) rfl (A_106 hw) rfl ⟨le_t rfl, le_t rfl⟩ ⟨le_t rfl, le_t rfl⟩ rfl (le_t rfl) fun μ59 T60 F61 h62 => ?_
  refine sv_aload_n dX12_openLevel_34 rfl rfl ?_
  refine sv_dup dX12_openLevel_35 rfl ?_
  refine gk_X12_59 dX12_openLevel_36 wF_X12_254 (A_106 hw) (F61.f (A_106 hw) rfl (u57.f (Or.inl (mAt.ne (A_147 hw) (A_106 hw) rfl)) (u54.f (Or.inl (mAt.ne (A_146 hw) (A_106 hw) rfl)) (u51.f (Or.inl (mAt.ne (A_145 hw) (A_106 hw) rfl)) q_f_levels)))) ?_
  refine mr_iconst (z := 1) dX12_openLevel_39 ?_
  refine mr_iadd (x := f_levels) (y := 1) dX12_openLevel_40 ?_
  refine pf_X12_59 dX12_openLevel_41 wF_X12_254 (A_106 hw) T60 (rW (c := 0) (d := 6) (rAdd (e := 1) (f := 6) h1 (rR (x := 1)) rfl) rfl) fun μ63 u64 T65 => ?_
  exact mr_vret dX12_openLevel_44 rfl (le_t rfl) (le_t rfl) T65 (mF.up (mF.call (mF.up (mF.up (mF.up mF.refl (A_145 hw) u51 rfl) (A_146 hw) u54 rfl) (A_147 hw) u57 rfl) F61 rfl) (A_106 hw) u64 rfl) ⟨(f_levels + 1), u64.1, (vc_X12_openLevel_2 hq0 h1), trivial⟩
theorem vc_X12_endRow_1 {f_levels : Int} (h0 : 1 ≤ f_levels) (h1 : 0 ≤ f_levels ∧ f_levels ≤ 6) : 1 ≤ f_levels ∧ f_levels ≤ 6 := by omega
theorem vc_X12_endRow_2 {z155 : Int} (h0 : ¬ z155 = 0) (h1 : 0 ≤ z155 ∧ z155 ≤ 1) : 1 ≤ z155 ∧ z155 ≤ 1 := by omega
theorem vc_X12_endRow_3 {z155 : Int} (h0 : z155 = 0) (h1 : 0 ≤ z155 ∧ z155 ≤ 1) : 0 ≤ z155 ∧ z155 ≤ 0 := by omega
theorem vc_X12_endRow_4 {z171 : Int} (h0 : z171 = 0) (h1 : 0 ≤ z171 ∧ z171 ≤ 1) : 0 ≤ z171 ∧ z171 ≤ 0 := by omega
theorem vc_X12_endRow_5 {z171 : Int} (h0 : ¬ z171 = 0) (h1 : 0 ≤ z171 ∧ z171 ≤ 1) : 1 ≤ z171 ∧ z171 ≤ 1 := by omega
set_option maxRecDepth 4000 in
set_option maxHeartbeats 4000000 in
theorem c_X12_endRow {l : Launch} {D : va_G} {c : Nat → ClassId} {H0 : Heap} {sa : Nat × Nat × (Nat → Int32)} {w : mW} {μ : mM} (hw : mWF w) (hT : mT w μ) {f_levels : Int} (q_f_levels : μ 106 59 = f_levels) (hq0 : 1 ≤ f_levels) : sC (gG l D c H0 sa) mX12_endRow 1 0 0 [.ref 106] (mk w μ) (qV w [145999, 146999, 147999] μ (fun μ1 => True)) := by
  refine sC.of rfl (by decide) (le_t rfl) ?_
  have ht_f_levels : (0 ≤ f_levels ∧ f_levels ≤ 6) := by rw [← q_f_levels]; exact hT 106 106 (A_106 hw) 59
  have h1 : 1 ≤ f_levels ∧ f_levels ≤ 6 := (vc_X12_endRow_1 hq0 ht_f_levels)
  refine mr_lvE (lv' := [(0, .ref 106)]) rfl ?_
  refine sv_aload_n dX12_endRow_0 rfl rfl ?_
  refine gk_X12_59 dX12_endRow_1 wF_X12_254 (A_106 hw) q_f_levels ?_
  refine mr_iconst (z := 1) dX12_endRow_4 ?_
  refine mr_isub (x := f_levels) (y := 1) dX12_endRow_5 ?_
  refine mr_istore_n (lv' := [(1, iv (f_levels - 1)), (0, .ref 106)]) dX12_endRow_6 rfl (by decide) rfl ?_
  refine sv_aload_n dX12_endRow_7 rfl rfl ?_
  refine gf_X12_60 dX12_endRow_8 wF_X12_250 (A_106 hw) hT ?_
  refine mr_iload_n (z := (f_levels - 1)) dX12_endRow_11 rfl rfl ?_
  refine sv_dup2 dX12_endRow_12 rfl rfl ?_
  refine la_145 dX12_endRow_13 (A_145 hw) hT (rIx (n := 10) (rSub (e := 0) (f := 5) h1 (rR (x := 1)) rfl) rfl) fun z131 q132 h133 => ?_
  refine sv_aload_n dX12_endRow_14 rfl rfl ?_
  refine gf_X12_63 dX12_endRow_15 wF_X12_266 (A_106 hw) hT ?_
  refine mr_iload_n (z := (f_levels - 1)) dX12_endRow_18 rfl rfl ?_
  refine la_148 dX12_endRow_19 (A_148 hw) hT (rIx (n := 10) (rSub (e := 0) (f := 5) h1 (rR (x := 1)) rfl) rfl) fun z134 q135 h136 => ?_
  refine mr_lor dX12_endRow_20 ?_
  refine mr_genL (r64i _) fun z137 q138 h139 => ?_
  refine ss_145 dX12_endRow_21 (A_145 hw) hT (rIx (n := 10) (rSub (e := 0) (f := 5) h1 (rR (x := 1)) rfl) rfl) h139 fun μ140 u141 T142 => ?_
  refine sv_aload_n dX12_endRow_22 rfl rfl ?_
  refine gf_X12_61 dX12_endRow_23 wF_X12_257 (A_106 hw) T142 ?_
  refine mr_iload_n (z := (f_levels - 1)) dX12_endRow_26 rfl rfl ?_
  refine sv_dup2 dX12_endRow_27 rfl rfl ?_
  refine la_146 dX12_endRow_28 (A_146 hw) T142 (rIx (n := 10) (rSub (e := 0) (f := 5) h1 (rR (x := 1)) rfl) rfl) fun z143 q144 h145 => ?_
  refine sv_aload_n dX12_endRow_29 rfl rfl ?_
  refine gf_X12_64 dX12_endRow_30 wF_X12_269 (A_106 hw) T142 ?_
  refine mr_iload_n (z := (f_levels - 1)) dX12_endRow_33 rfl rfl ?_
  refine la_149 dX12_endRow_34 (A_149 hw) T142 (rIx (n := 10) (rSub (e := 0) (f := 5) h1 (rR (x := 1)) rfl) rfl) fun z146 q147 h148 => ?_
  refine mr_lor dX12_endRow_35 ?_
  refine mr_genL (r64i _) fun z149 q150 h151 => ?_
  refine ss_146 dX12_endRow_36 (A_146 hw) T142 (rIx (n := 10) (rSub (e := 0) (f := 5) h1 (rR (x := 1)) rfl) rfl) h151 fun μ152 u153 T154 => ?_
  refine sv_aload_n dX12_endRow_37 rfl rfl ?_
  refine gf_X12_62 dX12_endRow_38 wF_X12_260 (A_106 hw) T154 ?_
  refine mr_iload_n (z := (f_levels - 1)) dX12_endRow_41 rfl rfl ?_
  refine sv_aload_n dX12_endRow_42 rfl rfl ?_
  refine gf_X12_62 dX12_endRow_43 wF_X12_260 (A_106 hw) T154 ?_
  refine mr_iload_n (z := (f_levels - 1)) dX12_endRow_46 rfl rfl ?_
  refine la_147 dX12_endRow_47 (A_147 hw) T154 (rIx (n := 10) (rSub (e := 0) (f := 5) h1 (rR (x := 1)) rfl) rfl) fun z155 q156 h157 => ?_
  refine mr_if_ne (tgt := 60) dX12_endRow_48 (by decide) (r32 h157 rfl) (fun h165 => ?_) (fun h165 => ?_)
  · have h166 : 1 ≤ z155 ∧ z155 ≤ 1 := (vc_X12_endRow_2 h165 h157)
    refine mr_iconst (z := 1) dX12_endRow_60 ?_
    refine sv_goto (tgt := 65) dX12_endRow_61 (by decide) ?_
    refine ss_147 dX12_endRow_65 (A_147 hw) T154 (rIx (n := 10) (rSub (e := 0) (f := 5) h1 (rR (x := 1)) rfl) rfl) (rW (c := 0) (d := 1) (rR (x := 1)) rfl) fun μ167 u168 T169 => ?_
    exact mr_vret dX12_endRow_66 rfl (le_t rfl) (le_t rfl) T169 (mF.up (mF.up (mF.up mF.refl (A_145 hw) u141 rfl) (A_146 hw) u153 rfl) (A_147 hw) u168 rfl) trivial
  have h170 : 0 ≤ z155 ∧ z155 ≤ 0 := (vc_X12_endRow_3 h165 h157)
  refine sv_aload_n dX12_endRow_51 rfl rfl ?_
  refine gf_X12_65 dX12_endRow_52 wF_X12_272 (A_106 hw) T154 ?_
  refine mr_iload_n (z := (f_levels - 1)) dX12_endRow_55 rfl rfl ?_
  refine la_150 dX12_endRow_56 (A_150 hw) T154 (rIx (n := 10) (rSub (e := 0) (f := 5) h1 (rR (x := 1)) rfl) rfl) fun z171 q172 h173 => ?_
  refine mr_if_eq (tgt := 64) dX12_endRow_57 (by decide) (r32 h173 rfl) (fun h176 => ?_) (fun h176 => ?_)
  · have h177 : 0 ≤ z171 ∧ z171 ≤ 0 := (vc_X12_endRow_4 h176 h173)
    refine mr_iconst (z := 0) dX12_endRow_64 ?_
    refine ss_147 dX12_endRow_65 (A_147 hw) T154 (rIx (n := 10) (rSub (e := 0) (f := 5) h1 (rR (x := 1)) rfl) rfl) (rW (c := 0) (d := 1) (rR (x := 0)) rfl) fun μ178 u179 T180 => ?_
    exact mr_vret dX12_endRow_66 rfl (le_t rfl) (le_t rfl) T180 (mF.up (mF.up (mF.up mF.refl (A_145 hw) u141 rfl) (A_146 hw) u153 rfl) (A_147 hw) u179 rfl) trivial
  have h181 : 1 ≤ z171 ∧ z171 ≤ 1 := (vc_X12_endRow_5 h176 h173)
  refine mr_iconst (z := 1) dX12_endRow_60 ?_
  refine sv_goto (tgt := 65) dX12_endRow_61 (by decide) ?_
  refine ss_147 dX12_endRow_65 (A_147 hw) T154 (rIx (n := 10) (rSub (e := 0) (f := 5) h1 (rR (x := 1)) rfl) rfl) (rW (c := 0) (d := 1) (rR (x := 1)) rfl) fun μ182 u183 T184 => ?_
  exact mr_vret dX12_endRow_66 rfl (le_t rfl) (le_t rfl) T184 (mF.up (mF.up (mF.up mF.refl (A_145 hw) u141 rfl) (A_146 hw) u153 rfl) (A_147 hw) u183 rfl) trivial
theorem vc_X12_follows_1 {z269 : Int} (h0 : (42 - z269) < ((0 : Nat) : Int)) (h1 : 0 ≤ z269 ∧ z269 ≤ 41) : False := by omega
theorem vc_X12_follows_2 {z269 : Int} (h0 : 41 ≤ z269) (h1 : 0 ≤ z269 ∧ z269 ≤ 41) : 41 ≤ z269 ∧ z269 ≤ 41 := by omega
theorem vc_X12_follows_3 {z269 : Int} (h0 : z269 < 41) (h1 : 0 ≤ z269 ∧ z269 ≤ 41) : 0 ≤ z269 ∧ z269 ≤ 40 := by omega
theorem vc_X12_follows_4 {N z269 : Int} (h0 : (42 - z269) < N + 1) (h1 : z269 < 41) (h2 : 0 ≤ z269 ∧ z269 ≤ 40) : (42 - (z269 + 1)) < N := by omega
theorem vc_X12_follows_5 {z311 : Int} (h0 : z311 = 0) (h1 : (-1) ≤ z311 ∧ z311 ≤ 1) : 0 ≤ z311 ∧ z311 ≤ 0 := by omega
theorem vc_X12_follows_6  : (42 - 0) < ((43 : Nat) : Int) := by omega
set_option maxRecDepth 4000 in
set_option maxHeartbeats 4000000 in
theorem c_X12_follows {l : Launch} {D : va_G} {c : Nat → ClassId} {H0 : Heap} {sa : Nat × Nat × (Nat → Int32)} {w : mW} {μ : mM} (hw : mWF w) (hT : mT w μ) {p1 : Int} (hp1 : (-9223372036854775808) ≤ p1 ∧ p1 ≤ 9223372036854775807) {p2 : Int} (hp2 : (-9223372036854775808) ≤ p2 ∧ p2 ≤ 9223372036854775807) : sC (gG l D c H0 sa) mX12_follows 1 0 0 [.ref 106, jv p1, jv p2] (mk w μ) (qV w [144999] μ (fun μ1 => True)) := by
  refine sC.of rfl (by decide) (le_t rfl) ?_
  refine mr_lvE (lv' := [(0, .ref 106), (1, jv p1), (3, jv p2)]) rfl ?_
  refine mr_iconst (z := 0) dX12_follows_0 ?_
  refine mr_istore (lv' := [(5, iv 0), (0, .ref 106), (1, jv p1), (3, jv p2)]) dX12_follows_1 (by decide) rfl ?_
  have L271 : ∀ (nL271 : Nat) (z269 : Int) (μ270 : mM), mT w μ270 → mF [144999] w μ μ270 → (0 ≤ z269 ∧ z269 ≤ 41) → (42 - z269) < (nL271 : Int) → sV (gG l D c H0 sa) mX12_follows (sRm 1 0 0) (sZ (gG l D c H0 sa) 0 0 (qV w [144999] μ (fun μ1 => True))) 3 [(0, .ref 106), (1, jv p1), (3, jv p2), (5, iv z269)] [] (mk w μ270) 0 0 := by
    intro nL271
    induction nL271 with
    | zero => intro z269 μ270 T273 F274 h272 h276; exact ((vc_X12_follows_1 h276 h272)).elim
    | succ nL271 ih277 =>
      intro z269 μ270 T273 F274 h272 h276
      refine mr_iload (z := z269) dX12_follows_3 rfl ?_
      refine mr_bipush (z := 41) dX12_follows_5 (by decide) ?_
      refine mr_icmp_ge (tgt := 46) dX12_follows_7 (by decide) (r32 h272 rfl) (r32 (rR (x := 41)) rfl) (fun h302 => ?_) (fun h302 => ?_)
      · have h303 : 41 ≤ z269 ∧ z269 ≤ 41 := (vc_X12_follows_2 h302 h272)
        exact mr_vret dX12_follows_46 rfl (le_t rfl) (le_t rfl) T273 (mF.call mF.refl F274 rfl) trivial
      have h304 : 0 ≤ z269 ∧ z269 ≤ 40 := (vc_X12_follows_3 h302 h272)
      refine mr_lload_n (z := p1) dX12_follows_10 rfl rfl ?_
      refine mr_iload (z := z269) dX12_follows_11 rfl ?_
      refine mr_lshr dX12_follows_13 ?_
      refine mr_genL (r64i _) fun z305 q306 h307 => ?_
      refine mr_lconst (z := 1) dX12_follows_14 (by decide) ?_
      refine mr_land dX12_follows_15 ?_
      refine mr_genL (r64i _) fun z308 q309 h310 => ?_
      refine mr_lconst (z := 1) dX12_follows_16 (by decide) ?_
      refine mr_lcmp dX12_follows_17 ?_
      refine mr_gen (P := fun z => (-1) ≤ z ∧ z ≤ 1) (lg_cmp_r _ _) fun z311 q312 h313 => ?_
      refine mr_if_ne (tgt := 40) dX12_follows_18 (by decide) (r32 h313 rfl) (fun h327 => ?_) (fun h327 => ?_)
      · refine mr_iinc (lv' := [(5, iv (z269 + 1)), (0, .ref 106), (1, jv p1), (3, jv p2)]) dX12_follows_40 rfl (by decide) rfl ?_
        refine sv_goto (tgt := 3) dX12_follows_43 (by decide) ?_
        refine mr_lvS (lv' := [(0, .ref 106), (1, jv p1), (3, jv p2), (5, iv (z269 + 1))]) (List.forall_mem_cons.mpr ⟨rfl, List.forall_mem_cons.mpr ⟨rfl, List.forall_mem_cons.mpr ⟨rfl, List.forall_mem_cons.mpr ⟨rfl, fun _ h => absurd h List.not_mem_nil⟩⟩⟩⟩) ?_
        exact ih277 (z269 + 1) μ270 T273 (mF.call mF.refl F274 rfl) (rW (c := 0) (d := 41) (rAdd (e := 1) (f := 41) h304 (rR (x := 1)) rfl) rfl) (vc_X12_follows_4 (nS h276) h302 h304)
      have h328 : 0 ≤ z311 ∧ z311 ≤ 0 := (vc_X12_follows_5 h327 h313)
      refine sv_aload_n dX12_follows_21 rfl rfl ?_
      refine gf_X12_57 dX12_follows_22 wF_X12_275 (A_106 hw) T273 ?_
      refine mr_bipush (z := 41) dX12_follows_25 (by decide) ?_
      refine sv_aload_n dX12_follows_27 rfl rfl ?_
      refine gf_X12_58 dX12_follows_28 wF_X12_278 (A_106 hw) T273 fun z329 q330 h331 => ?_
      refine mr_imul (x := 41) (y := z329) dX12_follows_31 ?_
      refine mr_iload (z := z269) dX12_follows_32 rfl ?_
      refine mr_iadd (x := (41 * z329)) (y := z269) dX12_follows_34 ?_
      refine sv_dup2 dX12_follows_35 rfl rfl ?_
      refine la_144 dX12_follows_36 (A_144 hw) T273 (rIx (n := 533) (rAdd (e := 0) (f := 532) (rMulL (n := 41) (e := 0) (f := 492) h331 rfl) h304 rfl) rfl) fun z332 q333 h334 => ?_
      refine mr_lload_n (z := p2) dX12_follows_37 rfl rfl ?_
      refine mr_lor dX12_follows_38 ?_
      refine mr_genL (r64i _) fun z335 q336 h337 => ?_
      refine ss_144 dX12_follows_39 (A_144 hw) T273 (rIx (n := 533) (rAdd (e := 0) (f := 532) (rMulL (n := 41) (e := 0) (f := 492) h331 rfl) h304 rfl) rfl) h337 fun μ338 u339 T340 => ?_
      refine mr_iinc (lv' := [(5, iv (z269 + 1)), (0, .ref 106), (1, jv p1), (3, jv p2)]) dX12_follows_40 rfl (by decide) rfl ?_
      refine sv_goto (tgt := 3) dX12_follows_43 (by decide) ?_
      refine mr_lvS (lv' := [(0, .ref 106), (1, jv p1), (3, jv p2), (5, iv (z269 + 1))]) (List.forall_mem_cons.mpr ⟨rfl, List.forall_mem_cons.mpr ⟨rfl, List.forall_mem_cons.mpr ⟨rfl, List.forall_mem_cons.mpr ⟨rfl, fun _ h => absurd h List.not_mem_nil⟩⟩⟩⟩) ?_
      exact ih277 (z269 + 1) μ338 T340 (mF.up (mF.call mF.refl F274 rfl) (A_144 hw) u339 rfl) (rW (c := 0) (d := 41) (rAdd (e := 1) (f := 41) h304 (rR (x := 1)) rfl) rfl) (vc_X12_follows_4 (nS h276) h302 h304)
  refine mr_lvS (lv' := [(0, .ref 106), (1, jv p1), (3, jv p2), (5, iv 0)]) (List.forall_mem_cons.mpr ⟨rfl, List.forall_mem_cons.mpr ⟨rfl, List.forall_mem_cons.mpr ⟨rfl, List.forall_mem_cons.mpr ⟨rfl, fun _ h => absurd h List.not_mem_nil⟩⟩⟩⟩) ?_
  exact L271 43 0 μ hT mF.refl (rW (c := 0) (d := 41) (rR (x := 0)) rfl) vc_X12_follows_6
set_option maxRecDepth 4000 in
set_option maxHeartbeats 4000000 in
theorem c_X12_fault {l : Launch} {D : va_G} {c : Nat → ClassId} {H0 : Heap} {sa : Nat × Nat × (Nat → Int32)} {w : mW} {μ : mM} (hw : mWF w) (hT : mT w μ) : sC (gG l D c H0 sa) mX12_fault 1 0 0 [.ref 106] (mk w μ) (qP w μ (fun z => ((-2147483648) ≤ z ∧ z ≤ 2147483647) ∧ True)) := by
  refine sC.of rfl (by decide) (le_t rfl) ?_
  refine mr_lvE (lv' := [(0, .ref 106)]) rfl ?_
  refine sv_aload_n dX12_fault_0 rfl rfl ?_
  refine gf_X12_66 dX12_fault_1 wF_X12_376 (A_106 hw) hT fun z1 q2 h3 => ?_
  exact mr_iretP dX12_fault_4 rfl (le_t rfl) (le_t rfl) ⟨(rW (c := (-2147483648)) (d := 2147483647) h3 rfl), trivial⟩
theorem vc_X12_related_1 {p1 p3 : Int} (h0 : p3 < p1) (h1 : (-2147483648) ≤ p1 ∧ p1 ≤ 2147483647) (h2 : (-2147483648) ≤ p3 ∧ p3 ≤ 2147483647) : (-2147483647) ≤ p1 ∧ p1 ≤ 2147483647 := by omega
theorem vc_X12_related_2 {p1 p3 : Int} (h0 : p3 < p1) (h1 : (-2147483647) ≤ p1 ∧ p1 ≤ 2147483647) (h2 : (-2147483648) ≤ p3 ∧ p3 ≤ 2147483647) : (-2147483648) ≤ p3 ∧ p3 ≤ 2147483646 := by omega
theorem vc_X12_related_3 {p2 : Int} (h0 : p2 = 61) (h1 : ¬ p2 = 60) (h2 : (-2147483648) ≤ p2 ∧ p2 ≤ 2147483647) : 61 ≤ p2 ∧ p2 ≤ 61 := by omega
theorem vc_X12_related_4 {p2 : Int} (h0 : p2 = 60) (h1 : (-2147483648) ≤ p2 ∧ p2 ≤ 2147483647) : 60 ≤ p2 ∧ p2 ≤ 60 := by omega
theorem vc_X12_related_5 {p1 p3 : Int} (h0 : p1 < p3) (h1 : (-2147483648) ≤ p1 ∧ p1 ≤ 2147483647) (h2 : (-2147483648) ≤ p3 ∧ p3 ≤ 2147483647) : (-2147483648) ≤ p1 ∧ p1 ≤ 2147483646 := by omega
theorem vc_X12_related_6 {p1 p3 : Int} (h0 : p1 < p3) (h1 : (-2147483648) ≤ p1 ∧ p1 ≤ 2147483646) (h2 : (-2147483648) ≤ p3 ∧ p3 ≤ 2147483647) : (-2147483647) ≤ p3 ∧ p3 ≤ 2147483647 := by omega
set_option maxRecDepth 4000 in
set_option maxHeartbeats 4000000 in
theorem c_X12_related {l : Launch} {D : va_G} {c : Nat → ClassId} {H0 : Heap} {sa : Nat × Nat × (Nat → Int32)} {w : mW} {μ : mM} (hw : mWF w) (hT : mT w μ) {p1 : Int} (hp1 : (-2147483648) ≤ p1 ∧ p1 ≤ 2147483647) {p2 : Int} (hp2 : (-2147483648) ≤ p2 ∧ p2 ≤ 2147483647) {p3 : Int} (hp3 : (-2147483648) ≤ p3 ∧ p3 ≤ 2147483647) : sC (gG l D c H0 sa) mX12_related 1 0 0 [.ref 106, iv p1, iv p2, iv p3] (mk w μ) (qP w μ (fun z => (0 ≤ z ∧ z ≤ 1) ∧ True)) := by
  refine sC.of rfl (by decide) (le_t rfl) ?_
  refine mr_lvE (lv' := [(0, .ref 106), (1, iv p1), (2, iv p2), (3, iv p3)]) rfl ?_
  refine mr_iload_n (z := p2) dX12_related_0 rfl rfl ?_
  refine mr_bipush (z := 60) dX12_related_1 (by decide) ?_
  refine mr_icmp_ne (tgt := 19) dX12_related_3 (by decide) hp2 (r32 (rR (x := 60)) rfl) (fun h7 => ?_) (fun h7 => ?_)
  · refine mr_iload_n (z := p2) dX12_related_19 rfl rfl ?_
    refine mr_bipush (z := 61) dX12_related_20 (by decide) ?_
    refine mr_icmp_ne (tgt := 38) dX12_related_22 (by decide) hp2 (r32 (rR (x := 61)) rfl) (fun h11 => ?_) (fun h11 => ?_)
    · refine mr_iload_n (z := p1) dX12_related_38 rfl rfl ?_
      refine mr_iload_n (z := p3) dX12_related_39 rfl rfl ?_
      refine mr_icmp_le (tgt := 47) dX12_related_40 (by decide) hp1 hp3 (fun h14 => ?_) (fun h14 => ?_)
      · refine mr_iconst (z := 0) dX12_related_47 ?_
        exact mr_zretP dX12_related_48 rfl (rW (c := 0) (d := 1) (rR (x := 0)) rfl) (le_t rfl) (le_t rfl) ⟨(rW (c := 0) (d := 1) (rR (x := 0)) rfl), trivial⟩
      have h15 : (-2147483647) ≤ p1 ∧ p1 ≤ 2147483647 := (vc_X12_related_1 h14 hp1 hp3)
      have h16 : (-2147483648) ≤ p3 ∧ p3 ≤ 2147483646 := (vc_X12_related_2 h14 h15 hp3)
      refine mr_iconst (z := 1) dX12_related_43 ?_
      refine sv_goto (tgt := 48) dX12_related_44 (by decide) ?_
      exact mr_zretP dX12_related_48 rfl (rW (c := 0) (d := 1) (rR (x := 1)) rfl) (le_t rfl) (le_t rfl) ⟨(rW (c := 0) (d := 1) (rR (x := 1)) rfl), trivial⟩
    have h17 : 61 ≤ p2 ∧ p2 ≤ 61 := (vc_X12_related_3 h11 h7 hp2)
    refine mr_iload_n (z := p1) dX12_related_25 rfl rfl ?_
    refine mr_iload_n (z := p3) dX12_related_26 rfl rfl ?_
    refine mr_icmp_ne (tgt := 34) dX12_related_27 (by decide) hp1 hp3 (fun h18 => ?_) (fun h18 => ?_)
    · refine mr_iconst (z := 0) dX12_related_34 ?_
      refine sv_goto (tgt := 48) dX12_related_35 (by decide) ?_
      exact mr_zretP dX12_related_48 rfl (rW (c := 0) (d := 1) (rR (x := 0)) rfl) (le_t rfl) (le_t rfl) ⟨(rW (c := 0) (d := 1) (rR (x := 0)) rfl), trivial⟩
    refine mr_iconst (z := 1) dX12_related_30 ?_
    refine sv_goto (tgt := 48) dX12_related_31 (by decide) ?_
    exact mr_zretP dX12_related_48 rfl (rW (c := 0) (d := 1) (rR (x := 1)) rfl) (le_t rfl) (le_t rfl) ⟨(rW (c := 0) (d := 1) (rR (x := 1)) rfl), trivial⟩
  have h19 : 60 ≤ p2 ∧ p2 ≤ 60 := (vc_X12_related_4 h7 hp2)
  refine mr_iload_n (z := p1) dX12_related_6 rfl rfl ?_
  refine mr_iload_n (z := p3) dX12_related_7 rfl rfl ?_
  refine mr_icmp_ge (tgt := 15) dX12_related_8 (by decide) hp1 hp3 (fun h22 => ?_) (fun h22 => ?_)
  · refine mr_iconst (z := 0) dX12_related_15 ?_
    refine sv_goto (tgt := 48) dX12_related_16 (by decide) ?_
    exact mr_zretP dX12_related_48 rfl (rW (c := 0) (d := 1) (rR (x := 0)) rfl) (le_t rfl) (le_t rfl) ⟨(rW (c := 0) (d := 1) (rR (x := 0)) rfl), trivial⟩
  have h23 : (-2147483648) ≤ p1 ∧ p1 ≤ 2147483646 := (vc_X12_related_5 h22 hp1 hp3)
  have h24 : (-2147483647) ≤ p3 ∧ p3 ≤ 2147483647 := (vc_X12_related_6 h22 h23 hp3)
  refine mr_iconst (z := 1) dX12_related_11 ?_
  refine sv_goto (tgt := 48) dX12_related_12 (by decide) ?_
  exact mr_zretP dX12_related_48 rfl (rW (c := 0) (d := 1) (rR (x := 1)) rfl) (le_t rfl) (le_t rfl) ⟨(rW (c := 0) (d := 1) (rR (x := 1)) rfl), trivial⟩
theorem vc_X12_waysMatch_1 {p3 : Int} (h0 : 0 ≤ p3 ∧ p3 ≤ 2099) : ((40 * p3) + 4) % 40 = 4 := by omega
theorem vc_X12_waysMatch_2 {z4 : Int} (h0 : ¬ z4 = 0) (h1 : 0 ≤ z4 ∧ z4 ≤ 20) : 1 ≤ z4 ∧ z4 ≤ 20 := by omega
theorem vc_X12_waysMatch_3 {z2392 : Int} (h0 : (21 - z2392) < ((0 : Nat) : Int)) (h1 : 0 ≤ z2392 ∧ z2392 ≤ 20) : False := by omega
theorem vc_X12_waysMatch_4 {z2392 z4 : Int} (h0 : z4 ≤ z2392) (h1 : ¬ z4 = 0) (h2 : 0 ≤ z2392 ∧ z2392 ≤ 20) (h3 : 1 ≤ z4 ∧ z4 ≤ 20) : 1 ≤ z2392 ∧ z2392 ≤ 20 := by omega
theorem vc_X12_waysMatch_5 {z2570 : Int} (h0 : z2570 = 0) (h1 : (-1) ≤ z2570 ∧ z2570 ≤ 1) : 0 ≤ z2570 ∧ z2570 ≤ 0 := by omega
theorem vc_X12_waysMatch_6 {z2392 z4 : Int} (h0 : z2392 < z4) (h1 : ¬ z4 = 0) (h2 : 0 ≤ z2392 ∧ z2392 ≤ 20) (h3 : 1 ≤ z4 ∧ z4 ≤ 20) : 0 ≤ z2392 ∧ z2392 ≤ 19 := by omega
theorem vc_X12_waysMatch_7 {z4109 : Int} (h0 : (41 - z4109) < ((0 : Nat) : Int)) (h1 : 0 ≤ z4109 ∧ z4109 ≤ 40) : False := by omega
theorem vc_X12_waysMatch_8 {z4476 : Int} (h0 : (41 - z4476) < ((0 : Nat) : Int)) (h1 : 0 ≤ z4476 ∧ z4476 ≤ 40) : False := by omega
theorem vc_X12_waysMatch_9 {N z2392 z4 : Int} (h0 : (21 - z2392) < N + 1) (h1 : z2392 < z4) (h2 : ¬ z4 = 0) (h3 : 0 ≤ z2392 ∧ z2392 ≤ 19) (h4 : 1 ≤ z4 ∧ z4 ≤ 20) : (21 - (z2392 + 1)) < N := by omega
theorem vc_X12_waysMatch_10 {z4109 z4119 z4476 : Int} (h0 : z4476 < z4119) (h1 : z4119 ≤ z4109) (h2 : 0 ≤ z4109 ∧ z4109 ≤ 40) (h3 : 0 ≤ z4119 ∧ z4119 ≤ 40) (h4 : 0 ≤ z4476 ∧ z4476 ≤ 40) : 0 ≤ z4476 ∧ z4476 ≤ 39 := by omega
theorem vc_X12_waysMatch_11 {z4109 z4119 z4476 : Int} (h0 : z4476 < z4119) (h1 : z4119 ≤ z4109) (h2 : 0 ≤ z4109 ∧ z4109 ≤ 40) (h3 : 0 ≤ z4119 ∧ z4119 ≤ 40) (h4 : 0 ≤ z4476 ∧ z4476 ≤ 39) : 1 ≤ z4119 ∧ z4119 ≤ 40 := by omega
theorem vc_X12_waysMatch_12 {N z4109 z4119 z4476 : Int} (h0 : (41 - z4476) < N + 1) (h1 : z4476 < z4119) (h2 : z4119 ≤ z4109) (h3 : 0 ≤ z4109 ∧ z4109 ≤ 40) (h4 : 1 ≤ z4119 ∧ z4119 ≤ 40) (h5 : 0 ≤ z4476 ∧ z4476 ≤ 39) : (41 - (z4476 + 1)) < N := by omega
theorem vc_X12_waysMatch_13 {z4513 : Int} (h0 : z4513 = 0) (h1 : (-1) ≤ z4513 ∧ z4513 ≤ 1) : 0 ≤ z4513 ∧ z4513 ≤ 0 := by omega
theorem vc_X12_waysMatch_14  : (41 - 0) < ((42 : Nat) : Int) := by omega
theorem vc_X12_waysMatch_15 {z4109 z4119 : Int} (h0 : z4109 < z4119) (h1 : 0 ≤ z4109 ∧ z4109 ≤ 40) (h2 : 0 ≤ z4119 ∧ z4119 ≤ 40) : 0 ≤ z4109 ∧ z4109 ≤ 39 := by omega
theorem vc_X12_waysMatch_16 {z4109 z4119 : Int} (h0 : z4109 < z4119) (h1 : 0 ≤ z4109 ∧ z4109 ≤ 39) (h2 : 0 ≤ z4119 ∧ z4119 ≤ 40) : 1 ≤ z4119 ∧ z4119 ≤ 40 := by omega
theorem vc_X12_waysMatch_17 {N z4109 z4119 : Int} (h0 : (41 - z4109) < N + 1) (h1 : z4109 < z4119) (h2 : 0 ≤ z4109 ∧ z4109 ≤ 39) (h3 : 1 ≤ z4119 ∧ z4119 ≤ 40) : (41 - (z4109 + 1)) < N := by omega
theorem vc_X12_waysMatch_18 {z4539 : Int} (h0 : z4539 = 0) (h1 : (-1) ≤ z4539 ∧ z4539 ≤ 1) : 0 ≤ z4539 ∧ z4539 ≤ 0 := by omega
theorem vc_X12_waysMatch_19 {z4566 : Int} (h0 : z4566 < 0) (h1 : (-2147483648) ≤ z4566 ∧ z4566 ≤ 2147483647) : (-2147483648) ≤ z4566 ∧ z4566 ≤ (-1) := by omega
theorem vc_X12_waysMatch_20 {z4566 : Int} (h0 : 0 ≤ z4566) (h1 : (-2147483648) ≤ z4566 ∧ z4566 ≤ 2147483647) : 0 ≤ z4566 ∧ z4566 ≤ 2147483647 := by omega
theorem vc_X12_waysMatch_21 {p3 z2392 z4566 z4596 : Int} (h0 : z4566 = z4596) (h1 : 0 ≤ z4566) (h2 : ((((40 * p3) + 6) + z2392) % 40 = 0 → -1 ≤ z4596 ∧ z4596 ≤ 9)) (h3 : ((((40 * p3) + 6) + z2392) % 40 = 4 → 0 ≤ z4596 ∧ z4596 ≤ 20)) (h4 : ((((40 * p3) + 6) + z2392) % 40 = 5 → 0 ≤ z4596 ∧ z4596 ≤ 8)) (h5 : 0 ≤ p3 ∧ p3 ≤ 2099) (h6 : 0 ≤ z2392 ∧ z2392 ≤ 19) (h7 : 0 ≤ z4566 ∧ z4566 ≤ 2147483647) (h8 : (-2147483648) ≤ z4596 ∧ z4596 ≤ 2147483647) : 0 ≤ z4596 ∧ z4596 ≤ 2147483647 := by omega
theorem vc_X12_waysMatch_22  : (21 - 0) < ((22 : Nat) : Int) := by omega
theorem vc_X12_waysMatch_23 {z4 : Int} (h0 : z4 = 0) (h1 : 0 ≤ z4 ∧ z4 ≤ 20) : 0 ≤ z4 ∧ z4 ≤ 0 := by omega
set_option maxRecDepth 4000 in
set_option maxHeartbeats 4000000 in
theorem c_X12_waysMatch {l : Launch} {D : va_G} {c : Nat → ClassId} {H0 : Heap} {sa : Nat × Nat × (Nat → Int32)} {w : mW} {μ : mM} (hw : mWF w) (hT : mT w μ) {p1 : Int} (hp1 : 0 ≤ p1 ∧ p1 ≤ 11) {p2 : Int} (hp2 : 0 ≤ p2 ∧ p2 ≤ 3899) {p3 : Int} (hp3 : 0 ≤ p3 ∧ p3 ≤ 2099) : sC (gG l D c H0 sa) mX12_waysMatch 1 0 0 [.ref 106, iv p1, iv p2, iv p3] (mk w μ) (qP w μ (fun z => (0 ≤ z ∧ z ≤ 1) ∧ True)) := by
  refine sC.of rfl (by decide) (le_t rfl) ?_
  refine mr_lvE (lv' := [(0, .ref 106), (1, iv p1), (2, iv p2), (3, iv p3)]) rfl ?_
  refine sv_aload_n dX12_waysMatch_0 rfl rfl ?_
  refine gf_X12_50 dX12_waysMatch_1 wF_X12_305 (A_106 hw) hT ?_
  refine mr_iload_n (z := p2) dX12_waysMatch_4 rfl rfl ?_
  refine la_137 dX12_waysMatch_5 (A_137 hw) hT (rIx (n := 3900) hp2 rfl) fun z1 q2 h3 => ?_
  refine mr_lstore (lv' := [(4, jv z1), (0, .ref 106), (1, iv p1), (2, iv p2), (3, iv p3)]) dX12_waysMatch_6 (by decide) rfl ?_
  refine sv_aload_n dX12_waysMatch_8 rfl rfl ?_
  refine gf_X12_32 dX12_waysMatch_9 wF_X12_148 (A_106 hw) hT ?_
  refine mr_bipush (z := 40) dX12_waysMatch_12 (by decide) ?_
  refine mr_iload_n (z := p3) dX12_waysMatch_14 rfl rfl ?_
  refine mr_imul (x := 40) (y := p3) dX12_waysMatch_15 ?_
  refine mr_iconst (z := 4) dX12_waysMatch_16 ?_
  refine mr_iadd (x := (40 * p3)) (y := 4) dX12_waysMatch_17 ?_
  refine la_126 dX12_waysMatch_18 (A_126 hw) hT (rIx (n := 84000) (rAdd (e := 4) (f := 83964) (rMulL (n := 40) (e := 0) (f := 83960) hp3 rfl) (rR (x := 4)) rfl) rfl) fun z4 q5 h6 => ?_
  have h7 : 0 ≤ z4 ∧ z4 ≤ 20 := h6.2.2.1 (vc_X12_waysMatch_1 hp3)
  refine mr_istore (lv' := [(6, iv z4), (4, jv z1), (0, .ref 106), (1, iv p1), (2, iv p2), (3, iv p3)]) dX12_waysMatch_19 (by decide) rfl ?_
  refine mr_iload (z := z4) dX12_waysMatch_21 rfl ?_
  refine mr_if_ne (tgt := 33) dX12_waysMatch_23 (by decide) (r32 h7 rfl) (fun h8 => ?_) (fun h8 => ?_)
  · have h9 : 1 ≤ z4 ∧ z4 ≤ 20 := (vc_X12_waysMatch_2 h8 h7)
    refine mr_lconst (z := 0) dX12_waysMatch_33 (by decide) ?_
    refine mr_lstore (lv' := [(7, jv 0), (6, iv z4), (4, jv z1), (0, .ref 106), (1, iv p1), (2, iv p2), (3, iv p3)]) dX12_waysMatch_34 (by decide) rfl ?_
    refine mr_iconst (z := 0) dX12_waysMatch_36 ?_
    refine mr_istore (lv' := [(9, iv 0), (7, jv 0), (6, iv z4), (4, jv z1), (0, .ref 106), (1, iv p1), (2, iv p2), (3, iv p3)]) dX12_waysMatch_37 (by decide) rfl ?_
    have L2395 : ∀ (nL2395 : Nat) (z2394 z2393 z2392 : Int), True → ((-9223372036854775808) ≤ z2394 ∧ z2394 ≤ 9223372036854775807) → ((-9223372036854775808) ≤ z2393 ∧ z2393 ≤ 9223372036854775807) → (0 ≤ z2392 ∧ z2392 ≤ 20) → (21 - z2392) < (nL2395 : Int) → sV (gG l D c H0 sa) mX12_waysMatch (sRm 1 0 0) (sZ (gG l D c H0 sa) 0 0 (qP w μ (fun z => (0 ≤ z ∧ z ≤ 1) ∧ True))) 39 [(0, .ref 106), (1, iv p1), (2, iv p2), (3, iv p3), (4, jv z2394), (6, iv z4), (7, jv z2393), (9, iv z2392)] [] (mk w μ) 0 0 := by
      intro nL2395
      induction nL2395 with
      | zero => intro z2394 z2393 z2392 _ h2396 h2397 h2398 h2402; exact ((vc_X12_waysMatch_3 h2402 h2398)).elim
      | succ nL2395 ih2403 =>
        intro z2394 z2393 z2392 _ h2396 h2397 h2398 h2402
        refine mr_iload (z := z2392) dX12_waysMatch_39 rfl ?_
        refine mr_iload (z := z4) dX12_waysMatch_41 rfl ?_
        refine mr_icmp_ge (tgt := 193) dX12_waysMatch_43 (by decide) (r32 h2398 rfl) (r32 h9 rfl) (fun h2562 => ?_) (fun h2562 => ?_)
        · have h2563 : 1 ≤ z2392 ∧ z2392 ≤ 20 := (vc_X12_waysMatch_4 h2562 h8 h2398 h9)
          refine mr_lload (z := z2393) dX12_waysMatch_193 rfl ?_
          refine sv_aload_n dX12_waysMatch_195 rfl rfl ?_
          refine gf_X12_51 dX12_waysMatch_196 wF_X12_308 (A_106 hw) hT ?_
          refine mr_iload_n (z := p2) dX12_waysMatch_199 rfl rfl ?_
          refine la_138 dX12_waysMatch_200 (A_138 hw) hT (rIx (n := 3900) hp2 rfl) fun z2564 q2565 h2566 => ?_
          refine mr_land dX12_waysMatch_201 ?_
          refine mr_genL (r64i _) fun z2567 q2568 h2569 => ?_
          refine mr_lconst (z := 0) dX12_waysMatch_202 (by decide) ?_
          refine mr_lcmp dX12_waysMatch_203 ?_
          refine mr_gen (P := fun z => (-1) ≤ z ∧ z ≤ 1) (lg_cmp_r _ _) fun z2570 q2571 h2572 => ?_
          refine mr_if_eq (tgt := 211) dX12_waysMatch_204 (by decide) (r32 h2572 rfl) (fun h2574 => ?_) (fun h2574 => ?_)
          · have h2575 : 0 ≤ z2570 ∧ z2570 ≤ 0 := (vc_X12_waysMatch_5 h2574 h2572)
            refine mr_iconst (z := 0) dX12_waysMatch_211 ?_
            exact mr_zretP dX12_waysMatch_212 rfl (rW (c := 0) (d := 1) (rR (x := 0)) rfl) (le_t rfl) (le_t rfl) ⟨(rW (c := 0) (d := 1) (rR (x := 0)) rfl), trivial⟩
          refine mr_iconst (z := 1) dX12_waysMatch_207 ?_
          refine sv_goto (tgt := 212) dX12_waysMatch_208 (by decide) ?_
          exact mr_zretP dX12_waysMatch_212 rfl (rW (c := 0) (d := 1) (rR (x := 1)) rfl) (le_t rfl) (le_t rfl) ⟨(rW (c := 0) (d := 1) (rR (x := 1)) rfl), trivial⟩
        have h2576 : 0 ≤ z2392 ∧ z2392 ≤ 19 := (vc_X12_waysMatch_6 h2562 h8 h2398 h9)
        refine mr_lconst (z := 0) dX12_waysMatch_46 (by decide) ?_
        refine mr_lstore (lv' := [(7, jv 0), (0, .ref 106), (1, iv p1), (2, iv p2), (3, iv p3), (4, jv z2394), (6, iv z4), (9, iv z2392)]) dX12_waysMatch_47 (by decide) rfl ?_
        refine mr_iconst (z := 0) dX12_waysMatch_49 ?_
        refine mr_istore (lv' := [(10, iv 0), (7, jv 0), (0, .ref 106), (1, iv p1), (2, iv p2), (3, iv p3), (4, jv z2394), (6, iv z4), (9, iv z2392)]) dX12_waysMatch_50 (by decide) rfl ?_
        have L4111 : ∀ (nL4111 : Nat) (z4110 z4109 : Int), True → ((-9223372036854775808) ≤ z4110 ∧ z4110 ≤ 9223372036854775807) → (0 ≤ z4109 ∧ z4109 ≤ 40) → (41 - z4109) < (nL4111 : Int) → sV (gG l D c H0 sa) mX12_waysMatch (sRm 1 0 0) (sZ (gG l D c H0 sa) 0 0 (qP w μ (fun z => (0 ≤ z ∧ z ≤ 1) ∧ True))) 52 [(0, .ref 106), (1, iv p1), (2, iv p2), (3, iv p3), (4, jv z2394), (6, iv z4), (7, jv z4110), (9, iv z2392), (10, iv z4109)] [] (mk w μ) 0 0 := by
          intro nL4111
          induction nL4111 with
          | zero => intro z4110 z4109 _ h4112 h4113 h4117; exact ((vc_X12_waysMatch_7 h4117 h4113)).elim
          | succ nL4111 ih4118 =>
            intro z4110 z4109 _ h4112 h4113 h4117
            refine mr_iload (z := z4109) dX12_waysMatch_52 rfl ?_
            refine sv_aload_n dX12_waysMatch_54 rfl rfl ?_
            refine gf_X12_55 dX12_waysMatch_55 wF_X12_292 (A_106 hw) hT ?_
            refine mr_iload_n (z := p1) dX12_waysMatch_58 rfl rfl ?_
            refine la_142 dX12_waysMatch_59 (A_142 hw) hT (rIx (n := 13) hp1 rfl) fun z4119 q4120 h4121 => ?_
            refine mr_icmp_ge (tgt := 135) dX12_waysMatch_60 (by decide) (r32 h4113 rfl) (r32 h4121 rfl) (fun h4155 => ?_) (fun h4155 => ?_)
            · refine mr_lconst (z := 0) dX12_waysMatch_135 (by decide) ?_
              refine mr_lstore (lv' := [(4, jv 0), (0, .ref 106), (1, iv p1), (2, iv p2), (3, iv p3), (6, iv z4), (7, jv z4110), (9, iv z2392), (10, iv z4109)]) dX12_waysMatch_136 (by decide) rfl ?_
              refine mr_iconst (z := 0) dX12_waysMatch_138 ?_
              refine mr_istore (lv' := [(10, iv 0), (4, jv 0), (0, .ref 106), (1, iv p1), (2, iv p2), (3, iv p3), (6, iv z4), (7, jv z4110), (9, iv z2392)]) dX12_waysMatch_139 (by decide) rfl ?_
              have L4478 : ∀ (nL4478 : Nat) (z4477 z4476 : Int), True → ((-9223372036854775808) ≤ z4477 ∧ z4477 ≤ 9223372036854775807) → (0 ≤ z4476 ∧ z4476 ≤ 40) → (41 - z4476) < (nL4478 : Int) → sV (gG l D c H0 sa) mX12_waysMatch (sRm 1 0 0) (sZ (gG l D c H0 sa) 0 0 (qP w μ (fun z => (0 ≤ z ∧ z ≤ 1) ∧ True))) 141 [(0, .ref 106), (1, iv p1), (2, iv p2), (3, iv p3), (4, jv z4477), (6, iv z4), (7, jv z4110), (9, iv z2392), (10, iv z4476)] [] (mk w μ) 0 0 := by
                intro nL4478
                induction nL4478 with
                | zero => intro z4477 z4476 _ h4479 h4480 h4484; exact ((vc_X12_waysMatch_8 h4484 h4480)).elim
                | succ nL4478 ih4485 =>
                  intro z4477 z4476 _ h4479 h4480 h4484
                  refine mr_iload (z := z4476) dX12_waysMatch_141 rfl ?_
                  refine sv_aload_n dX12_waysMatch_143 rfl rfl ?_
                  refine gf_X12_55 dX12_waysMatch_144 wF_X12_292 (A_106 hw) hT ?_
                  refine mr_iload_n (z := p1) dX12_waysMatch_147 rfl rfl ?_
                  refine lk_142 dX12_waysMatch_148 (A_142 hw) (rIx (n := 13) hp1 rfl) q4120 ?_
                  refine mr_icmp_ge (tgt := 187) dX12_waysMatch_149 (by decide) (r32 h4480 rfl) (r32 h4121 rfl) (fun h4504 => ?_) (fun h4504 => ?_)
                  · refine mr_iinc (lv' := [(9, iv (z2392 + 1)), (0, .ref 106), (1, iv p1), (2, iv p2), (3, iv p3), (4, jv z4477), (6, iv z4), (7, jv z4110), (10, iv z4476)]) dX12_waysMatch_187 rfl (by decide) rfl ?_
                    refine sv_goto (tgt := 39) dX12_waysMatch_190 (by decide) ?_
                    refine mr_lvS (lv' := [(0, .ref 106), (1, iv p1), (2, iv p2), (3, iv p3), (4, jv z4477), (6, iv z4), (7, jv z4110), (9, iv (z2392 + 1))]) (List.forall_mem_cons.mpr ⟨rfl, List.forall_mem_cons.mpr ⟨rfl, List.forall_mem_cons.mpr ⟨rfl, List.forall_mem_cons.mpr ⟨rfl, List.forall_mem_cons.mpr ⟨rfl, List.forall_mem_cons.mpr ⟨rfl, List.forall_mem_cons.mpr ⟨rfl, List.forall_mem_cons.mpr ⟨rfl, fun _ h => absurd h List.not_mem_nil⟩⟩⟩⟩⟩⟩⟩⟩) ?_
                    exact ih2403 z4477 z4110 (z2392 + 1) trivial h4479 h4112 (rW (c := 0) (d := 20) (rAdd (e := 1) (f := 20) h2576 (rR (x := 1)) rfl) rfl) (vc_X12_waysMatch_9 (nS h2402) h2562 h8 h2576 h9)
                  have h4505 : 0 ≤ z4476 ∧ z4476 ≤ 39 := (vc_X12_waysMatch_10 h4504 h4155 h4113 h4121 h4480)
                  have h4506 : 1 ≤ z4119 ∧ z4119 ≤ 40 := (vc_X12_waysMatch_11 h4504 h4155 h4113 h4121 h4505)
                  refine mr_lload (z := z4110) dX12_waysMatch_152 rfl ?_
                  refine mr_iload (z := z4476) dX12_waysMatch_154 rfl ?_
                  refine mr_lshr dX12_waysMatch_156 ?_
                  refine mr_genL (r64i _) fun z4507 q4508 h4509 => ?_
                  refine mr_lconst (z := 1) dX12_waysMatch_157 (by decide) ?_
                  refine mr_land dX12_waysMatch_158 ?_
                  refine mr_genL (r64i _) fun z4510 q4511 h4512 => ?_
                  refine mr_lconst (z := 1) dX12_waysMatch_159 (by decide) ?_
                  refine mr_lcmp dX12_waysMatch_160 ?_
                  refine mr_gen (P := fun z => (-1) ≤ z ∧ z ≤ 1) (lg_cmp_r _ _) fun z4513 q4514 h4515 => ?_
                  refine mr_if_ne (tgt := 181) dX12_waysMatch_161 (by decide) (r32 h4515 rfl) (fun h4523 => ?_) (fun h4523 => ?_)
                  · refine mr_iinc (lv' := [(10, iv (z4476 + 1)), (0, .ref 106), (1, iv p1), (2, iv p2), (3, iv p3), (4, jv z4477), (6, iv z4), (7, jv z4110), (9, iv z2392)]) dX12_waysMatch_181 rfl (by decide) rfl ?_
                    refine sv_goto (tgt := 141) dX12_waysMatch_184 (by decide) ?_
                    refine mr_lvS (lv' := [(0, .ref 106), (1, iv p1), (2, iv p2), (3, iv p3), (4, jv z4477), (6, iv z4), (7, jv z4110), (9, iv z2392), (10, iv (z4476 + 1))]) (List.forall_mem_cons.mpr ⟨rfl, List.forall_mem_cons.mpr ⟨rfl, List.forall_mem_cons.mpr ⟨rfl, List.forall_mem_cons.mpr ⟨rfl, List.forall_mem_cons.mpr ⟨rfl, List.forall_mem_cons.mpr ⟨rfl, List.forall_mem_cons.mpr ⟨rfl, List.forall_mem_cons.mpr ⟨rfl, List.forall_mem_cons.mpr ⟨rfl, fun _ h => absurd h List.not_mem_nil⟩⟩⟩⟩⟩⟩⟩⟩⟩) ?_
                    exact ih4485 z4477 (z4476 + 1) trivial h4479 (rW (c := 0) (d := 40) (rAdd (e := 1) (f := 40) h4505 (rR (x := 1)) rfl) rfl) (vc_X12_waysMatch_12 (nS h4484) h4504 h4155 h4113 h4506 h4505)
                  have h4524 : 0 ≤ z4513 ∧ z4513 ≤ 0 := (vc_X12_waysMatch_13 h4523 h4515)
                  refine mr_lload (z := z4477) dX12_waysMatch_164 rfl ?_
                  refine sv_aload_n dX12_waysMatch_166 rfl rfl ?_
                  refine gf_X12_57 dX12_waysMatch_167 wF_X12_275 (A_106 hw) hT ?_
                  refine mr_bipush (z := 41) dX12_waysMatch_170 (by decide) ?_
                  refine mr_iload_n (z := p1) dX12_waysMatch_172 rfl rfl ?_
                  refine mr_imul (x := 41) (y := p1) dX12_waysMatch_173 ?_
                  refine mr_iload (z := z4476) dX12_waysMatch_174 rfl ?_
                  refine mr_iadd (x := (41 * p1)) (y := z4476) dX12_waysMatch_176 ?_
                  refine la_144 dX12_waysMatch_177 (A_144 hw) hT (rIx (n := 533) (rAdd (e := 0) (f := 490) (rMulL (n := 41) (e := 0) (f := 451) hp1 rfl) h4505 rfl) rfl) fun z4525 q4526 h4527 => ?_
                  refine mr_lor dX12_waysMatch_178 ?_
                  refine mr_genL (r64i _) fun z4528 q4529 h4530 => ?_
                  refine mr_lstore (lv' := [(4, jv z4528), (0, .ref 106), (1, iv p1), (2, iv p2), (3, iv p3), (6, iv z4), (7, jv z4110), (9, iv z2392), (10, iv z4476)]) dX12_waysMatch_179 (by decide) rfl ?_
                  refine mr_iinc (lv' := [(10, iv (z4476 + 1)), (4, jv z4528), (0, .ref 106), (1, iv p1), (2, iv p2), (3, iv p3), (6, iv z4), (7, jv z4110), (9, iv z2392)]) dX12_waysMatch_181 rfl (by decide) rfl ?_
                  refine sv_goto (tgt := 141) dX12_waysMatch_184 (by decide) ?_
                  refine mr_lvS (lv' := [(0, .ref 106), (1, iv p1), (2, iv p2), (3, iv p3), (4, jv z4528), (6, iv z4), (7, jv z4110), (9, iv z2392), (10, iv (z4476 + 1))]) (List.forall_mem_cons.mpr ⟨rfl, List.forall_mem_cons.mpr ⟨rfl, List.forall_mem_cons.mpr ⟨rfl, List.forall_mem_cons.mpr ⟨rfl, List.forall_mem_cons.mpr ⟨rfl, List.forall_mem_cons.mpr ⟨rfl, List.forall_mem_cons.mpr ⟨rfl, List.forall_mem_cons.mpr ⟨rfl, List.forall_mem_cons.mpr ⟨rfl, fun _ h => absurd h List.not_mem_nil⟩⟩⟩⟩⟩⟩⟩⟩⟩) ?_
                  exact ih4485 z4528 (z4476 + 1) trivial h4530 (rW (c := 0) (d := 40) (rAdd (e := 1) (f := 40) h4505 (rR (x := 1)) rfl) rfl) (vc_X12_waysMatch_12 (nS h4484) h4504 h4155 h4113 h4506 h4505)
              refine mr_lvS (lv' := [(0, .ref 106), (1, iv p1), (2, iv p2), (3, iv p3), (4, jv 0), (6, iv z4), (7, jv z4110), (9, iv z2392), (10, iv 0)]) (List.forall_mem_cons.mpr ⟨rfl, List.forall_mem_cons.mpr ⟨rfl, List.forall_mem_cons.mpr ⟨rfl, List.forall_mem_cons.mpr ⟨rfl, List.forall_mem_cons.mpr ⟨rfl, List.forall_mem_cons.mpr ⟨rfl, List.forall_mem_cons.mpr ⟨rfl, List.forall_mem_cons.mpr ⟨rfl, List.forall_mem_cons.mpr ⟨rfl, fun _ h => absurd h List.not_mem_nil⟩⟩⟩⟩⟩⟩⟩⟩⟩) ?_
              exact L4478 42 0 0 trivial (rW (c := -9223372036854775808) (d := 9223372036854775807) (rR (x := 0)) rfl) (rW (c := 0) (d := 40) (rR (x := 0)) rfl) vc_X12_waysMatch_14
            have h4531 : 0 ≤ z4109 ∧ z4109 ≤ 39 := (vc_X12_waysMatch_15 h4155 h4113 h4121)
            have h4532 : 1 ≤ z4119 ∧ z4119 ≤ 40 := (vc_X12_waysMatch_16 h4155 h4531 h4121)
            refine mr_lload (z := z2394) dX12_waysMatch_63 rfl ?_
            refine mr_iload (z := z4109) dX12_waysMatch_65 rfl ?_
            refine mr_lshr dX12_waysMatch_67 ?_
            refine mr_genL (r64i _) fun z4533 q4534 h4535 => ?_
            refine mr_lconst (z := 1) dX12_waysMatch_68 (by decide) ?_
            refine mr_land dX12_waysMatch_69 ?_
            refine mr_genL (r64i _) fun z4536 q4537 h4538 => ?_
            refine mr_lconst (z := 1) dX12_waysMatch_70 (by decide) ?_
            refine mr_lcmp dX12_waysMatch_71 ?_
            refine mr_gen (P := fun z => (-1) ≤ z ∧ z ≤ 1) (lg_cmp_r _ _) fun z4539 q4540 h4541 => ?_
            refine mr_if_ne (tgt := 129) dX12_waysMatch_72 (by decide) (r32 h4541 rfl) (fun h4564 => ?_) (fun h4564 => ?_)
            · refine mr_iinc (lv' := [(10, iv (z4109 + 1)), (0, .ref 106), (1, iv p1), (2, iv p2), (3, iv p3), (4, jv z2394), (6, iv z4), (7, jv z4110), (9, iv z2392)]) dX12_waysMatch_129 rfl (by decide) rfl ?_
              refine sv_goto (tgt := 52) dX12_waysMatch_132 (by decide) ?_
              refine mr_lvS (lv' := [(0, .ref 106), (1, iv p1), (2, iv p2), (3, iv p3), (4, jv z2394), (6, iv z4), (7, jv z4110), (9, iv z2392), (10, iv (z4109 + 1))]) (List.forall_mem_cons.mpr ⟨rfl, List.forall_mem_cons.mpr ⟨rfl, List.forall_mem_cons.mpr ⟨rfl, List.forall_mem_cons.mpr ⟨rfl, List.forall_mem_cons.mpr ⟨rfl, List.forall_mem_cons.mpr ⟨rfl, List.forall_mem_cons.mpr ⟨rfl, List.forall_mem_cons.mpr ⟨rfl, List.forall_mem_cons.mpr ⟨rfl, fun _ h => absurd h List.not_mem_nil⟩⟩⟩⟩⟩⟩⟩⟩⟩) ?_
              exact ih4118 z4110 (z4109 + 1) trivial h4112 (rW (c := 0) (d := 40) (rAdd (e := 1) (f := 40) h4531 (rR (x := 1)) rfl) rfl) (vc_X12_waysMatch_17 (nS h4117) h4155 h4531 h4532)
            have h4565 : 0 ≤ z4539 ∧ z4539 ≤ 0 := (vc_X12_waysMatch_18 h4564 h4541)
            refine sv_aload_n dX12_waysMatch_75 rfl rfl ?_
            refine gf_X12_56 dX12_waysMatch_76 wF_X12_295 (A_106 hw) hT ?_
            refine mr_bipush (z := 41) dX12_waysMatch_79 (by decide) ?_
            refine mr_iload_n (z := p1) dX12_waysMatch_81 rfl rfl ?_
            refine mr_imul (x := 41) (y := p1) dX12_waysMatch_82 ?_
            refine mr_iload (z := z4109) dX12_waysMatch_83 rfl ?_
            refine mr_iadd (x := (41 * p1)) (y := z4109) dX12_waysMatch_85 ?_
            refine la_143 dX12_waysMatch_86 (A_143 hw) hT (rIx (n := 533) (rAdd (e := 0) (f := 490) (rMulL (n := 41) (e := 0) (f := 451) hp1 rfl) h4531 rfl) rfl) fun z4566 q4567 h4568 => ?_
            refine mr_if_lt (tgt := 120) dX12_waysMatch_87 (by decide) h4568 (fun h4587 => ?_) (fun h4587 => ?_)
            · have h4588 : (-2147483648) ≤ z4566 ∧ z4566 ≤ (-1) := (vc_X12_waysMatch_19 h4587 h4568)
              refine mr_lload (z := z4110) dX12_waysMatch_120 rfl ?_
              refine mr_lconst (z := 1) dX12_waysMatch_122 (by decide) ?_
              refine mr_iload (z := z4109) dX12_waysMatch_123 rfl ?_
              refine mr_lshl dX12_waysMatch_125 ?_
              refine mr_genL (r64i _) fun z4589 q4590 h4591 => ?_
              refine mr_lor dX12_waysMatch_126 ?_
              refine mr_genL (r64i _) fun z4592 q4593 h4594 => ?_
              refine mr_lstore (lv' := [(7, jv z4592), (0, .ref 106), (1, iv p1), (2, iv p2), (3, iv p3), (4, jv z2394), (6, iv z4), (9, iv z2392), (10, iv z4109)]) dX12_waysMatch_127 (by decide) rfl ?_
              refine mr_iinc (lv' := [(10, iv (z4109 + 1)), (7, jv z4592), (0, .ref 106), (1, iv p1), (2, iv p2), (3, iv p3), (4, jv z2394), (6, iv z4), (9, iv z2392)]) dX12_waysMatch_129 rfl (by decide) rfl ?_
              refine sv_goto (tgt := 52) dX12_waysMatch_132 (by decide) ?_
              refine mr_lvS (lv' := [(0, .ref 106), (1, iv p1), (2, iv p2), (3, iv p3), (4, jv z2394), (6, iv z4), (7, jv z4592), (9, iv z2392), (10, iv (z4109 + 1))]) (List.forall_mem_cons.mpr ⟨rfl, List.forall_mem_cons.mpr ⟨rfl, List.forall_mem_cons.mpr ⟨rfl, List.forall_mem_cons.mpr ⟨rfl, List.forall_mem_cons.mpr ⟨rfl, List.forall_mem_cons.mpr ⟨rfl, List.forall_mem_cons.mpr ⟨rfl, List.forall_mem_cons.mpr ⟨rfl, List.forall_mem_cons.mpr ⟨rfl, fun _ h => absurd h List.not_mem_nil⟩⟩⟩⟩⟩⟩⟩⟩⟩) ?_
              exact ih4118 z4592 (z4109 + 1) trivial h4594 (rW (c := 0) (d := 40) (rAdd (e := 1) (f := 40) h4531 (rR (x := 1)) rfl) rfl) (vc_X12_waysMatch_17 (nS h4117) h4155 h4531 h4532)
            have h4595 : 0 ≤ z4566 ∧ z4566 ≤ 2147483647 := (vc_X12_waysMatch_20 h4587 h4568)
            refine sv_aload_n dX12_waysMatch_90 rfl rfl ?_
            refine gf_X12_56 dX12_waysMatch_91 wF_X12_295 (A_106 hw) hT ?_
            refine mr_bipush (z := 41) dX12_waysMatch_94 (by decide) ?_
            refine mr_iload_n (z := p1) dX12_waysMatch_96 rfl rfl ?_
            refine mr_imul (x := 41) (y := p1) dX12_waysMatch_97 ?_
            refine mr_iload (z := z4109) dX12_waysMatch_98 rfl ?_
            refine mr_iadd (x := (41 * p1)) (y := z4109) dX12_waysMatch_100 ?_
            refine lk_143 dX12_waysMatch_101 (A_143 hw) (rIx (n := 533) (rAdd (e := 0) (f := 490) (rMulL (n := 41) (e := 0) (f := 451) hp1 rfl) h4531 rfl) rfl) q4567 ?_
            refine sv_aload_n dX12_waysMatch_102 rfl rfl ?_
            refine gf_X12_32 dX12_waysMatch_103 wF_X12_148 (A_106 hw) hT ?_
            refine mr_bipush (z := 40) dX12_waysMatch_106 (by decide) ?_
            refine mr_iload_n (z := p3) dX12_waysMatch_108 rfl rfl ?_
            refine mr_imul (x := 40) (y := p3) dX12_waysMatch_109 ?_
            refine mr_bipush (z := 6) dX12_waysMatch_110 (by decide) ?_
            refine mr_iadd (x := (40 * p3)) (y := 6) dX12_waysMatch_112 ?_
            refine mr_iload (z := z2392) dX12_waysMatch_113 rfl ?_
            refine mr_iadd (x := ((40 * p3) + 6)) (y := z2392) dX12_waysMatch_115 ?_
            refine la_126 dX12_waysMatch_116 (A_126 hw) hT (rIx (n := 84000) (rAdd (e := 6) (f := 83985) (rAdd (e := 6) (f := 83966) (rMulL (n := 40) (e := 0) (f := 83960) hp3 rfl) (rR (x := 6)) rfl) h2576 rfl) rfl) fun z4596 q4597 h4598 => ?_
            refine mr_icmp_ne (tgt := 129) dX12_waysMatch_117 (by decide) (r32 h4595 rfl) h4598.1 (fun h4606 => ?_) (fun h4606 => ?_)
            · refine mr_iinc (lv' := [(10, iv (z4109 + 1)), (0, .ref 106), (1, iv p1), (2, iv p2), (3, iv p3), (4, jv z2394), (6, iv z4), (7, jv z4110), (9, iv z2392)]) dX12_waysMatch_129 rfl (by decide) rfl ?_
              refine sv_goto (tgt := 52) dX12_waysMatch_132 (by decide) ?_
              refine mr_lvS (lv' := [(0, .ref 106), (1, iv p1), (2, iv p2), (3, iv p3), (4, jv z2394), (6, iv z4), (7, jv z4110), (9, iv z2392), (10, iv (z4109 + 1))]) (List.forall_mem_cons.mpr ⟨rfl, List.forall_mem_cons.mpr ⟨rfl, List.forall_mem_cons.mpr ⟨rfl, List.forall_mem_cons.mpr ⟨rfl, List.forall_mem_cons.mpr ⟨rfl, List.forall_mem_cons.mpr ⟨rfl, List.forall_mem_cons.mpr ⟨rfl, List.forall_mem_cons.mpr ⟨rfl, List.forall_mem_cons.mpr ⟨rfl, fun _ h => absurd h List.not_mem_nil⟩⟩⟩⟩⟩⟩⟩⟩⟩) ?_
              exact ih4118 z4110 (z4109 + 1) trivial h4112 (rW (c := 0) (d := 40) (rAdd (e := 1) (f := 40) h4531 (rR (x := 1)) rfl) rfl) (vc_X12_waysMatch_17 (nS h4117) h4155 h4531 h4532)
            have h4607 : 0 ≤ z4596 ∧ z4596 ≤ 2147483647 := (vc_X12_waysMatch_21 h4606 h4587 h4598.2.1 h4598.2.2.1 h4598.2.2.2 hp3 h2576 h4595 h4598.1)
            refine mr_lload (z := z4110) dX12_waysMatch_120 rfl ?_
            refine mr_lconst (z := 1) dX12_waysMatch_122 (by decide) ?_
            refine mr_iload (z := z4109) dX12_waysMatch_123 rfl ?_
            refine mr_lshl dX12_waysMatch_125 ?_
            refine mr_genL (r64i _) fun z4608 q4609 h4610 => ?_
            refine mr_lor dX12_waysMatch_126 ?_
            refine mr_genL (r64i _) fun z4611 q4612 h4613 => ?_
            refine mr_lstore (lv' := [(7, jv z4611), (0, .ref 106), (1, iv p1), (2, iv p2), (3, iv p3), (4, jv z2394), (6, iv z4), (9, iv z2392), (10, iv z4109)]) dX12_waysMatch_127 (by decide) rfl ?_
            refine mr_iinc (lv' := [(10, iv (z4109 + 1)), (7, jv z4611), (0, .ref 106), (1, iv p1), (2, iv p2), (3, iv p3), (4, jv z2394), (6, iv z4), (9, iv z2392)]) dX12_waysMatch_129 rfl (by decide) rfl ?_
            refine sv_goto (tgt := 52) dX12_waysMatch_132 (by decide) ?_
            refine mr_lvS (lv' := [(0, .ref 106), (1, iv p1), (2, iv p2), (3, iv p3), (4, jv z2394), (6, iv z4), (7, jv z4611), (9, iv z2392), (10, iv (z4109 + 1))]) (List.forall_mem_cons.mpr ⟨rfl, List.forall_mem_cons.mpr ⟨rfl, List.forall_mem_cons.mpr ⟨rfl, List.forall_mem_cons.mpr ⟨rfl, List.forall_mem_cons.mpr ⟨rfl, List.forall_mem_cons.mpr ⟨rfl, List.forall_mem_cons.mpr ⟨rfl, List.forall_mem_cons.mpr ⟨rfl, List.forall_mem_cons.mpr ⟨rfl, fun _ h => absurd h List.not_mem_nil⟩⟩⟩⟩⟩⟩⟩⟩⟩) ?_
            exact ih4118 z4611 (z4109 + 1) trivial h4613 (rW (c := 0) (d := 40) (rAdd (e := 1) (f := 40) h4531 (rR (x := 1)) rfl) rfl) (vc_X12_waysMatch_17 (nS h4117) h4155 h4531 h4532)
        refine mr_lvS (lv' := [(0, .ref 106), (1, iv p1), (2, iv p2), (3, iv p3), (4, jv z2394), (6, iv z4), (7, jv 0), (9, iv z2392), (10, iv 0)]) (List.forall_mem_cons.mpr ⟨rfl, List.forall_mem_cons.mpr ⟨rfl, List.forall_mem_cons.mpr ⟨rfl, List.forall_mem_cons.mpr ⟨rfl, List.forall_mem_cons.mpr ⟨rfl, List.forall_mem_cons.mpr ⟨rfl, List.forall_mem_cons.mpr ⟨rfl, List.forall_mem_cons.mpr ⟨rfl, List.forall_mem_cons.mpr ⟨rfl, fun _ h => absurd h List.not_mem_nil⟩⟩⟩⟩⟩⟩⟩⟩⟩) ?_
        exact L4111 42 0 0 trivial (rW (c := -9223372036854775808) (d := 9223372036854775807) (rR (x := 0)) rfl) (rW (c := 0) (d := 40) (rR (x := 0)) rfl) vc_X12_waysMatch_14
    refine mr_lvS (lv' := [(0, .ref 106), (1, iv p1), (2, iv p2), (3, iv p3), (4, jv z1), (6, iv z4), (7, jv 0), (9, iv 0)]) (List.forall_mem_cons.mpr ⟨rfl, List.forall_mem_cons.mpr ⟨rfl, List.forall_mem_cons.mpr ⟨rfl, List.forall_mem_cons.mpr ⟨rfl, List.forall_mem_cons.mpr ⟨rfl, List.forall_mem_cons.mpr ⟨rfl, List.forall_mem_cons.mpr ⟨rfl, List.forall_mem_cons.mpr ⟨rfl, fun _ h => absurd h List.not_mem_nil⟩⟩⟩⟩⟩⟩⟩⟩) ?_
    exact L2395 22 z1 0 0 trivial h3 (rW (c := -9223372036854775808) (d := 9223372036854775807) (rR (x := 0)) rfl) (rW (c := 0) (d := 20) (rR (x := 0)) rfl) vc_X12_waysMatch_22
  have h4614 : 0 ≤ z4 ∧ z4 ≤ 0 := (vc_X12_waysMatch_23 h8 h7)
  refine sv_aload_n dX12_waysMatch_26 rfl rfl ?_
  refine gf_X12_52 dX12_waysMatch_27 wF_X12_311 (A_106 hw) hT ?_
  refine mr_iload_n (z := p2) dX12_waysMatch_30 rfl rfl ?_
  refine la_139 dX12_waysMatch_31 (A_139 hw) hT (rIx (n := 3900) hp2 rfl) fun z4615 q4616 h4617 => ?_
  exact mr_zretP dX12_waysMatch_32 rfl h4617 (le_t rfl) (le_t rfl) ⟨h4617, trivial⟩
theorem vc_X12_route_1 {p1 z1 z8 : Int} (h0 : z8 = 0) (h1 : (z8 = 1 → 0 ≤ p1 ∧ p1 < z1)) (h2 : (z8 = 0 → p1 < 0 ∨ z1 ≤ p1)) (h3 : (-2147483648) ≤ p1 ∧ p1 ≤ 2147483647) (h4 : 0 ≤ z1 ∧ z1 ≤ 10) (h5 : 0 ≤ z8 ∧ z8 ≤ 1) : 0 ≤ z8 ∧ z8 ≤ 0 := by omega
theorem vc_X12_route_2 {p1 z1 z8 : Int} (h0 : (z8 = 1 → 0 ≤ p1 ∧ p1 < z1)) (h1 : (z8 = 0 → p1 < 0 ∨ z1 ≤ p1)) (h2 : z8 = 0) (h3 : (-2147483648) ≤ p1 ∧ p1 ≤ 2147483647) (h4 : 0 ≤ z1 ∧ z1 ≤ 10) (h5 : 0 ≤ z8 ∧ z8 ≤ 0) : z8 = 0 := by omega
theorem vc_X12_route_3 {p1 z1 z8 : Int} (h0 : ¬ z8 = 0) (h1 : (z8 = 1 → 0 ≤ p1 ∧ p1 < z1)) (h2 : (z8 = 0 → p1 < 0 ∨ z1 ≤ p1)) (h3 : (-2147483648) ≤ p1 ∧ p1 ≤ 2147483647) (h4 : 0 ≤ z1 ∧ z1 ≤ 10) (h5 : 0 ≤ z8 ∧ z8 ≤ 1) : 1 ≤ z8 ∧ z8 ≤ 1 := by omega
theorem vc_X12_route_4 {p1 z1 z8 : Int} (h0 : (z8 = 1 → 0 ≤ p1 ∧ p1 < z1)) (h1 : (z8 = 0 → p1 < 0 ∨ z1 ≤ p1)) (h2 : ¬ z8 = 0) (h3 : (-2147483648) ≤ p1 ∧ p1 ≤ 2147483647) (h4 : 0 ≤ z1 ∧ z1 ≤ 10) (h5 : 1 ≤ z8 ∧ z8 ≤ 1) : z8 = 1 := by omega
theorem vc_X12_route_5 {p1 z1 z8 : Int} (h0 : 0 ≤ p1 ∧ p1 < z1) (h1 : (z8 = 1 → 0 ≤ p1 ∧ p1 < z1)) (h2 : (z8 = 0 → p1 < 0 ∨ z1 ≤ p1)) (h3 : (-2147483648) ≤ p1 ∧ p1 ≤ 2147483647) (h4 : 0 ≤ z1 ∧ z1 ≤ 10) (h5 : 1 ≤ z8 ∧ z8 ≤ 1) : 0 ≤ p1 ∧ p1 ≤ 9 := by omega
theorem vc_X12_route_6 {p2 z19 : Int} (h0 : z19 = 0) (h1 : (z19 = 1 → 0 ≤ p2 ∧ p2 ≤ 1000)) (h2 : (z19 = 0 → p2 < 0 ∨ 1000 < p2)) (h3 : (-2147483648) ≤ p2 ∧ p2 ≤ 2147483647) (h4 : 0 ≤ z19 ∧ z19 ≤ 1) : 0 ≤ z19 ∧ z19 ≤ 0 := by omega
theorem vc_X12_route_7 {p2 z19 : Int} (h0 : (z19 = 1 → 0 ≤ p2 ∧ p2 ≤ 1000)) (h1 : (z19 = 0 → p2 < 0 ∨ 1000 < p2)) (h2 : z19 = 0) (h3 : (-2147483648) ≤ p2 ∧ p2 ≤ 2147483647) (h4 : 0 ≤ z19 ∧ z19 ≤ 0) : z19 = 0 := by omega
theorem vc_X12_route_8 {p2 z19 : Int} (h0 : ¬ z19 = 0) (h1 : (z19 = 1 → 0 ≤ p2 ∧ p2 ≤ 1000)) (h2 : (z19 = 0 → p2 < 0 ∨ 1000 < p2)) (h3 : (-2147483648) ≤ p2 ∧ p2 ≤ 2147483647) (h4 : 0 ≤ z19 ∧ z19 ≤ 1) : 1 ≤ z19 ∧ z19 ≤ 1 := by omega
theorem vc_X12_route_9 {p2 z19 : Int} (h0 : (z19 = 1 → 0 ≤ p2 ∧ p2 ≤ 1000)) (h1 : (z19 = 0 → p2 < 0 ∨ 1000 < p2)) (h2 : ¬ z19 = 0) (h3 : (-2147483648) ≤ p2 ∧ p2 ≤ 2147483647) (h4 : 1 ≤ z19 ∧ z19 ≤ 1) : z19 = 1 := by omega
theorem vc_X12_route_10 {p2 z19 : Int} (h0 : 0 ≤ p2 ∧ p2 ≤ 1000) (h1 : (z19 = 1 → 0 ≤ p2 ∧ p2 ≤ 1000)) (h2 : (z19 = 0 → p2 < 0 ∨ 1000 < p2)) (h3 : (-2147483648) ≤ p2 ∧ p2 ≤ 2147483647) (h4 : 1 ≤ z19 ∧ z19 ≤ 1) : 0 ≤ p2 ∧ p2 ≤ 1000 := by omega
theorem vc_X12_route_11 {p3 z30 : Int} (h0 : z30 = 0) (h1 : (z30 = 1 → 0 ≤ p3 ∧ p3 ≤ 2)) (h2 : (z30 = 0 → p3 < 0 ∨ 2 < p3)) (h3 : (-2147483648) ≤ p3 ∧ p3 ≤ 2147483647) (h4 : 0 ≤ z30 ∧ z30 ≤ 1) : 0 ≤ z30 ∧ z30 ≤ 0 := by omega
theorem vc_X12_route_12 {p3 z30 : Int} (h0 : (z30 = 1 → 0 ≤ p3 ∧ p3 ≤ 2)) (h1 : (z30 = 0 → p3 < 0 ∨ 2 < p3)) (h2 : z30 = 0) (h3 : (-2147483648) ≤ p3 ∧ p3 ≤ 2147483647) (h4 : 0 ≤ z30 ∧ z30 ≤ 0) : z30 = 0 := by omega
theorem vc_X12_route_13 {p3 z30 : Int} (h0 : ¬ z30 = 0) (h1 : (z30 = 1 → 0 ≤ p3 ∧ p3 ≤ 2)) (h2 : (z30 = 0 → p3 < 0 ∨ 2 < p3)) (h3 : (-2147483648) ≤ p3 ∧ p3 ≤ 2147483647) (h4 : 0 ≤ z30 ∧ z30 ≤ 1) : 1 ≤ z30 ∧ z30 ≤ 1 := by omega
theorem vc_X12_route_14 {p3 z30 : Int} (h0 : (z30 = 1 → 0 ≤ p3 ∧ p3 ≤ 2)) (h1 : (z30 = 0 → p3 < 0 ∨ 2 < p3)) (h2 : ¬ z30 = 0) (h3 : (-2147483648) ≤ p3 ∧ p3 ≤ 2147483647) (h4 : 1 ≤ z30 ∧ z30 ≤ 1) : z30 = 1 := by omega
theorem vc_X12_route_15 {p3 z30 : Int} (h0 : 0 ≤ p3 ∧ p3 ≤ 2) (h1 : (z30 = 1 → 0 ≤ p3 ∧ p3 ≤ 2)) (h2 : (z30 = 0 → p3 < 0 ∨ 2 < p3)) (h3 : (-2147483648) ≤ p3 ∧ p3 ≤ 2147483647) (h4 : 1 ≤ z30 ∧ z30 ≤ 1) : 0 ≤ p3 ∧ p3 ≤ 2 := by omega
theorem vc_X12_route_16 {p4 z41 : Int} (h0 : ¬ z41 = 0) (h1 : (z41 = 1 → 0 ≤ p4 ∧ p4 ≤ 1000000)) (h2 : (z41 = 0 → p4 < 0 ∨ 1000000 < p4)) (h3 : (-2147483648) ≤ p4 ∧ p4 ≤ 2147483647) (h4 : 0 ≤ z41 ∧ z41 ≤ 1) : 1 ≤ z41 ∧ z41 ≤ 1 := by omega
theorem vc_X12_route_17 {p4 z41 : Int} (h0 : (z41 = 1 → 0 ≤ p4 ∧ p4 ≤ 1000000)) (h1 : (z41 = 0 → p4 < 0 ∨ 1000000 < p4)) (h2 : ¬ z41 = 0) (h3 : (-2147483648) ≤ p4 ∧ p4 ≤ 2147483647) (h4 : 1 ≤ z41 ∧ z41 ≤ 1) : z41 = 1 := by omega
theorem vc_X12_route_18 {p4 z41 : Int} (h0 : 0 ≤ p4 ∧ p4 ≤ 1000000) (h1 : (z41 = 1 → 0 ≤ p4 ∧ p4 ≤ 1000000)) (h2 : (z41 = 0 → p4 < 0 ∨ 1000000 < p4)) (h3 : (-2147483648) ≤ p4 ∧ p4 ≤ 2147483647) (h4 : 1 ≤ z41 ∧ z41 ≤ 1) : 0 ≤ p4 ∧ p4 ≤ 1000000 := by omega
theorem vc_X12_route_19 {p1 z1 z8 : Int} (h0 : (z8 = 1 → 0 ≤ p1 ∧ p1 < z1)) (h1 : (z8 = 0 → p1 < 0 ∨ z1 ≤ p1)) (h2 : 0 ≤ p1 ∧ p1 < z1) (h3 : ¬ z8 = 0) (h4 : 0 ≤ p1 ∧ p1 ≤ 9) (h5 : 0 ≤ z1 ∧ z1 ≤ 10) (h6 : 1 ≤ z8 ∧ z8 ≤ 1) : (-2147483648 ≤ p1 ∧ p1 ≤ 2147483647) ∧ (0 % 40 = 0 → -1 ≤ p1 ∧ p1 ≤ 9) ∧ (0 % 40 = 4 → 0 ≤ p1 ∧ p1 ≤ 20) ∧ (0 % 40 = 5 → 0 ≤ p1 ∧ p1 ≤ 8) := by omega
theorem vc_X12_route_20 {p2 z19 : Int} (h0 : (z19 = 1 → 0 ≤ p2 ∧ p2 ≤ 1000)) (h1 : (z19 = 0 → p2 < 0 ∨ 1000 < p2)) (h2 : 0 ≤ p2 ∧ p2 ≤ 1000) (h3 : ¬ z19 = 0) (h4 : 1 ≤ z19 ∧ z19 ≤ 1) : (-2147483648 ≤ p2 ∧ p2 ≤ 2147483647) ∧ (1 % 40 = 0 → -1 ≤ p2 ∧ p2 ≤ 9) ∧ (1 % 40 = 4 → 0 ≤ p2 ∧ p2 ≤ 20) ∧ (1 % 40 = 5 → 0 ≤ p2 ∧ p2 ≤ 8) := by omega
theorem vc_X12_route_21 {p3 z30 : Int} (h0 : (z30 = 1 → 0 ≤ p3 ∧ p3 ≤ 2)) (h1 : (z30 = 0 → p3 < 0 ∨ 2 < p3)) (h2 : 0 ≤ p3 ∧ p3 ≤ 2) (h3 : ¬ z30 = 0) (h4 : 1 ≤ z30 ∧ z30 ≤ 1) : (-2147483648 ≤ p3 ∧ p3 ≤ 2147483647) ∧ (2 % 40 = 0 → -1 ≤ p3 ∧ p3 ≤ 9) ∧ (2 % 40 = 4 → 0 ≤ p3 ∧ p3 ≤ 20) ∧ (2 % 40 = 5 → 0 ≤ p3 ∧ p3 ≤ 8) := by omega
theorem vc_X12_route_22 {p4 z41 : Int} (h0 : (z41 = 1 → 0 ≤ p4 ∧ p4 ≤ 1000000)) (h1 : (z41 = 0 → p4 < 0 ∨ 1000000 < p4)) (h2 : 0 ≤ p4 ∧ p4 ≤ 1000000) (h3 : ¬ z41 = 0) (h4 : 1 ≤ z41 ∧ z41 ≤ 1) : (-2147483648 ≤ p4 ∧ p4 ≤ 2147483647) ∧ (3 % 40 = 0 → -1 ≤ p4 ∧ p4 ≤ 9) ∧ (3 % 40 = 4 → 0 ≤ p4 ∧ p4 ≤ 20) ∧ (3 % 40 = 5 → 0 ≤ p4 ∧ p4 ≤ 8) := by omega
theorem vc_X12_route_23 {z58 : Int} (h0 : 0 ≤ z58 ∧ z58 ≤ 20) : (-2147483648 ≤ z58 ∧ z58 ≤ 2147483647) ∧ (4 % 40 = 0 → -1 ≤ z58 ∧ z58 ≤ 9) ∧ (4 % 40 = 4 → 0 ≤ z58 ∧ z58 ≤ 20) ∧ (4 % 40 = 5 → 0 ≤ z58 ∧ z58 ≤ 8) := by omega
theorem vc_X12_route_24  : (-(2147483648 : Int) ≤ (0 : Int) ∧ (0 : Int) ≤ (2147483647 : Int)) ∧ ((5 : Int) % (40 : Int) = (0 : Int) → -(1 : Int) ≤ (0 : Int) ∧ (0 : Int) ≤ (9 : Int)) ∧ ((5 : Int) % (40 : Int) = (4 : Int) → (0 : Int) ≤ (0 : Int) ∧ (0 : Int) ≤ (20 : Int)) ∧ ((5 : Int) % (40 : Int) = (5 : Int) → (0 : Int) ≤ (0 : Int) ∧ (0 : Int) ≤ (8 : Int)) := by omega
theorem vc_X12_route_25 {z249 : Int} (h0 : (21 - z249) < ((0 : Nat) : Int)) (h1 : 0 ≤ z249 ∧ z249 ≤ 20) : False := by omega
theorem vc_X12_route_26 {z249 z58 : Int} (h0 : z249 < z58) (h1 : 0 ≤ z249 ∧ z249 ≤ 20) (h2 : 0 ≤ z58 ∧ z58 ≤ 20) : 0 ≤ z249 ∧ z249 ≤ 19 := by omega
theorem vc_X12_route_27 {z249 z58 : Int} (h0 : z249 < z58) (h1 : 0 ≤ z249 ∧ z249 ≤ 19) (h2 : 0 ≤ z58 ∧ z58 ≤ 20) : 1 ≤ z58 ∧ z58 ≤ 20 := by omega
theorem vc_X12_route_28 {z249 z272 z58 : Int} (h0 : z249 < z58) (h1 : 0 ≤ z249 ∧ z249 ≤ 19) (h2 : 0 ≤ z272 ∧ z272 ≤ 9) (h3 : 1 ≤ z58 ∧ z58 ≤ 20) : (-2147483648 ≤ z272 ∧ z272 ≤ 2147483647) ∧ ((6 + z249) % 40 = 0 → -1 ≤ z272 ∧ z272 ≤ 9) ∧ ((6 + z249) % 40 = 4 → 0 ≤ z272 ∧ z272 ≤ 20) ∧ ((6 + z249) % 40 = 5 → 0 ≤ z272 ∧ z272 ≤ 8) := by omega
theorem vc_X12_route_29 {N z249 z58 : Int} (h0 : (21 - z249) < N + 1) (h1 : z249 < z58) (h2 : 0 ≤ z249 ∧ z249 ≤ 19) (h3 : 1 ≤ z58 ∧ z58 ≤ 20) : (21 - (z249 + 1)) < N := by omega
theorem vc_X12_route_30  : (21 - 0) < ((22 : Nat) : Int) := by omega
theorem vc_X12_route_31 {p4 z41 : Int} (h0 : z41 = 0) (h1 : (z41 = 1 → 0 ≤ p4 ∧ p4 ≤ 1000000)) (h2 : (z41 = 0 → p4 < 0 ∨ 1000000 < p4)) (h3 : (-2147483648) ≤ p4 ∧ p4 ≤ 2147483647) (h4 : 0 ≤ z41 ∧ z41 ≤ 1) : 0 ≤ z41 ∧ z41 ≤ 0 := by omega
theorem vc_X12_route_32 {p4 z41 : Int} (h0 : (z41 = 1 → 0 ≤ p4 ∧ p4 ≤ 1000000)) (h1 : (z41 = 0 → p4 < 0 ∨ 1000000 < p4)) (h2 : z41 = 0) (h3 : (-2147483648) ≤ p4 ∧ p4 ≤ 2147483647) (h4 : 0 ≤ z41 ∧ z41 ≤ 0) : z41 = 0 := by omega
set_option maxRecDepth 4000 in
set_option maxHeartbeats 4000000 in
theorem c_X12_route {l : Launch} {D : va_G} {c : Nat → ClassId} {H0 : Heap} {sa : Nat × Nat × (Nat → Int32)} {w : mW} {μ : mM} (hw : mWF w) (hT : mT w μ) {p1 : Int} (hp1 : (-2147483648) ≤ p1 ∧ p1 ≤ 2147483647) {p2 : Int} (hp2 : (-2147483648) ≤ p2 ∧ p2 ≤ 2147483647) {p3 : Int} (hp3 : (-2147483648) ≤ p3 ∧ p3 ≤ 2147483647) {p4 : Int} (hp4 : (-2147483648) ≤ p4 ∧ p4 ≤ 2147483647) : sC (gG l D c H0 sa) mX12_route 3 0 0 [.ref 106, iv p1, iv p2, iv p3, iv p4] (mk w μ) (qI w [106070, 126999] μ (fun z μ1 => ((-2147483648) ≤ z ∧ z ≤ 2147483647) ∧ True)) := by
  refine sC.of rfl (by decide) (le_t rfl) ?_
  refine mr_lvE (lv' := [(0, .ref 106), (1, iv p1), (2, iv p2), (3, iv p3), (4, iv p4)]) rfl ?_
  refine sv_aload_n dX12_route_0 rfl rfl ?_
  refine mr_iload_n (z := p1) dX12_route_1 rfl rfl ?_
  obtain ⟨z1, q2⟩ : ∃ z, μ 106 2 = z := ⟨_, rfl⟩
  have h3 : (0 ≤ z1 ∧ z1 ≤ 10) := by rw [← q2]; exact hT 106 106 (A_106 hw) 2
  refine mr_cVP (c_X12_isPrefix hw hT hp1 q2) (gOk _ _ _ _ _) dX12_route_2 (tX12_isPrefix _ _ _ _ _) ⟨wV_X12_isPrefix, wL_X12_isPrefix⟩ wM_X12_92 (gCX12 _ _ _ _ _) rfl (A_106 hw) rfl ⟨le_t rfl, le_t rfl⟩ ⟨le_t rfl, le_t rfl⟩ rfl (le_t rfl) fun z8 h7 => ?_
  refine mr_if_eq (tgt := 40) dX12_route_5 (by decide) (r32 h7.1 rfl) (fun h9 => ?_) (fun h9 => ?_)
  · have h10 : 0 ≤ z8 ∧ z8 ≤ 0 := (vc_X12_route_1 h9 h7.2.1 h7.2.2.1 hp1 h3 h7.1)
    have h11 : p1 < 0 ∨ z1 ≤ p1 := (h7.2.2.1 (vc_X12_route_2 h7.2.1 h7.2.2.1 h9 hp1 h3 h10))
    refine mr_iconst (z := (-1)) dX12_route_40 ?_
    exact mr_iret dX12_route_41 rfl (le_t rfl) (le_t rfl) hT mF.refl ⟨(rW (c := (-2147483648)) (d := 2147483647) (rR (x := (-1))) rfl), trivial⟩
  have h12 : 1 ≤ z8 ∧ z8 ≤ 1 := (vc_X12_route_3 h9 h7.2.1 h7.2.2.1 hp1 h3 h7.1)
  have h13 : 0 ≤ p1 ∧ p1 < z1 := (h7.2.1 (vc_X12_route_4 h7.2.1 h7.2.2.1 h9 hp1 h3 h12))
  have h14 : 0 ≤ p1 ∧ p1 ≤ 9 := (vc_X12_route_5 h13 h7.2.1 h7.2.2.1 hp1 h3 h12)
  refine mr_iload_n (z := p2) dX12_route_8 rfl rfl ?_
  refine mr_iconst (z := 0) dX12_route_9 ?_
  refine mr_sipush (z := 1000) dX12_route_10 (by decide) ?_
  refine mr_cSP (c_X12_in hw hT hp2 (rW (c := (-2147483648)) (d := 2147483647) (rR (x := 0)) rfl) (rW (c := (-2147483648)) (d := 2147483647) (rR (x := 1000)) rfl)) (gOk _ _ _ _ _) dX12_route_13 (tX12_in _ _ _ _ _) wS_X12_in wM_X12_18 ⟨le_t rfl, le_t rfl⟩ ⟨le_t rfl, le_t rfl⟩ rfl (le_t rfl) fun z19 h18 => ?_
  refine mr_if_eq (tgt := 40) dX12_route_16 (by decide) (r32 h18.1 rfl) (fun h20 => ?_) (fun h20 => ?_)
  · have h21 : 0 ≤ z19 ∧ z19 ≤ 0 := (vc_X12_route_6 h20 h18.2.1 h18.2.2.1 hp2 h18.1)
    have h22 : p2 < 0 ∨ 1000 < p2 := (h18.2.2.1 (vc_X12_route_7 h18.2.1 h18.2.2.1 h20 hp2 h21))
    refine mr_iconst (z := (-1)) dX12_route_40 ?_
    exact mr_iret dX12_route_41 rfl (le_t rfl) (le_t rfl) hT mF.refl ⟨(rW (c := (-2147483648)) (d := 2147483647) (rR (x := (-1))) rfl), trivial⟩
  have h23 : 1 ≤ z19 ∧ z19 ≤ 1 := (vc_X12_route_8 h20 h18.2.1 h18.2.2.1 hp2 h18.1)
  have h24 : 0 ≤ p2 ∧ p2 ≤ 1000 := (h18.2.1 (vc_X12_route_9 h18.2.1 h18.2.2.1 h20 hp2 h23))
  have h25 : 0 ≤ p2 ∧ p2 ≤ 1000 := (vc_X12_route_10 h24 h18.2.1 h18.2.2.1 hp2 h23)
  refine mr_iload_n (z := p3) dX12_route_19 rfl rfl ?_
  refine mr_iconst (z := 0) dX12_route_20 ?_
  refine mr_iconst (z := 2) dX12_route_21 ?_
  refine mr_cSP (c_X12_in hw hT hp3 (rW (c := (-2147483648)) (d := 2147483647) (rR (x := 0)) rfl) (rW (c := (-2147483648)) (d := 2147483647) (rR (x := 2)) rfl)) (gOk _ _ _ _ _) dX12_route_22 (tX12_in _ _ _ _ _) wS_X12_in wM_X12_18 ⟨le_t rfl, le_t rfl⟩ ⟨le_t rfl, le_t rfl⟩ rfl (le_t rfl) fun z30 h29 => ?_
  refine mr_if_eq (tgt := 40) dX12_route_25 (by decide) (r32 h29.1 rfl) (fun h31 => ?_) (fun h31 => ?_)
  · have h32 : 0 ≤ z30 ∧ z30 ≤ 0 := (vc_X12_route_11 h31 h29.2.1 h29.2.2.1 hp3 h29.1)
    have h33 : p3 < 0 ∨ 2 < p3 := (h29.2.2.1 (vc_X12_route_12 h29.2.1 h29.2.2.1 h31 hp3 h32))
    refine mr_iconst (z := (-1)) dX12_route_40 ?_
    exact mr_iret dX12_route_41 rfl (le_t rfl) (le_t rfl) hT mF.refl ⟨(rW (c := (-2147483648)) (d := 2147483647) (rR (x := (-1))) rfl), trivial⟩
  have h34 : 1 ≤ z30 ∧ z30 ≤ 1 := (vc_X12_route_13 h31 h29.2.1 h29.2.2.1 hp3 h29.1)
  have h35 : 0 ≤ p3 ∧ p3 ≤ 2 := (h29.2.1 (vc_X12_route_14 h29.2.1 h29.2.2.1 h31 hp3 h34))
  have h36 : 0 ≤ p3 ∧ p3 ≤ 2 := (vc_X12_route_15 h35 h29.2.1 h29.2.2.1 hp3 h34)
  refine mr_iload (z := p4) dX12_route_28 rfl ?_
  refine mr_iconst (z := 0) dX12_route_30 ?_
  refine mr_ldcw (z := 1000000) dX12_route_31 wG_X12_291 (by decide) ?_
  refine mr_cSP (c_X12_in hw hT hp4 (rW (c := (-2147483648)) (d := 2147483647) (rR (x := 0)) rfl) (rW (c := (-2147483648)) (d := 2147483647) (rR (x := 1000000)) rfl)) (gOk _ _ _ _ _) dX12_route_34 (tX12_in _ _ _ _ _) wS_X12_in wM_X12_18 ⟨le_t rfl, le_t rfl⟩ ⟨le_t rfl, le_t rfl⟩ rfl (le_t rfl) fun z41 h40 => ?_
  refine mr_if_ne (tgt := 42) dX12_route_37 (by decide) (r32 h40.1 rfl) (fun h42 => ?_) (fun h42 => ?_)
  · have h43 : 1 ≤ z41 ∧ z41 ≤ 1 := (vc_X12_route_16 h42 h40.2.1 h40.2.2.1 hp4 h40.1)
    have h44 : 0 ≤ p4 ∧ p4 ≤ 1000000 := (h40.2.1 (vc_X12_route_17 h40.2.1 h40.2.2.1 h42 hp4 h43))
    have h45 : 0 ≤ p4 ∧ p4 ≤ 1000000 := (vc_X12_route_18 h44 h40.2.1 h40.2.2.1 hp4 h43)
    refine sv_aload_n dX12_route_42 rfl rfl ?_
    refine gf_X12_32 dX12_route_43 wF_X12_148 (A_106 hw) hT ?_
    refine mr_iconst (z := 0) dX12_route_46 ?_
    refine mr_iload_n (z := p1) dX12_route_47 rfl rfl ?_
    refine ss_126 dX12_route_48 (A_126 hw) hT (rIx (n := 84000) (rR (x := 0)) rfl) (vc_X12_route_19 h7.2.1 h7.2.2.1 h13 h9 h14 h3 h12) fun μ46 u47 T48 => ?_
    refine sv_aload_n dX12_route_49 rfl rfl ?_
    refine gf_X12_32 dX12_route_50 wF_X12_148 (A_106 hw) T48 ?_
    refine mr_iconst (z := 1) dX12_route_53 ?_
    refine mr_iload_n (z := p2) dX12_route_54 rfl rfl ?_
    refine ss_126 dX12_route_55 (A_126 hw) T48 (rIx (n := 84000) (rR (x := 1)) rfl) (vc_X12_route_20 h18.2.1 h18.2.2.1 h24 h20 h23) fun μ49 u50 T51 => ?_
    refine sv_aload_n dX12_route_56 rfl rfl ?_
    refine gf_X12_32 dX12_route_57 wF_X12_148 (A_106 hw) T51 ?_
    refine mr_iconst (z := 2) dX12_route_60 ?_
    refine mr_iload_n (z := p3) dX12_route_61 rfl rfl ?_
    refine ss_126 dX12_route_62 (A_126 hw) T51 (rIx (n := 84000) (rR (x := 2)) rfl) (vc_X12_route_21 h29.2.1 h29.2.2.1 h35 h31 h34) fun μ52 u53 T54 => ?_
    refine sv_aload_n dX12_route_63 rfl rfl ?_
    refine gf_X12_32 dX12_route_64 wF_X12_148 (A_106 hw) T54 ?_
    refine mr_iconst (z := 3) dX12_route_67 ?_
    refine mr_iload (z := p4) dX12_route_68 rfl ?_
    refine ss_126 dX12_route_70 (A_126 hw) T54 (rIx (n := 84000) (rR (x := 3)) rfl) (vc_X12_route_22 h40.2.1 h40.2.2.1 h44 h42 h43) fun μ55 u56 T57 => ?_
    refine sv_aload_n dX12_route_71 rfl rfl ?_
    refine gf_X12_32 dX12_route_72 wF_X12_148 (A_106 hw) T57 ?_
    refine mr_iconst (z := 4) dX12_route_75 ?_
    refine sv_aload_n dX12_route_76 rfl rfl ?_
    refine gf_X12_15 dX12_route_77 wF_X12_79 (A_106 hw) T57 fun z58 q59 h60 => ?_
    refine ss_126 dX12_route_80 (A_126 hw) T57 (rIx (n := 84000) (rR (x := 4)) rfl) (vc_X12_route_23 h60) fun μ61 u62 T63 => ?_
    refine sv_aload_n dX12_route_81 rfl rfl ?_
    refine gf_X12_32 dX12_route_82 wF_X12_148 (A_106 hw) T63 ?_
    refine mr_iconst (z := 5) dX12_route_85 ?_
    refine mr_iconst (z := 0) dX12_route_86 ?_
    refine ss_126 dX12_route_87 (A_126 hw) T63 (rIx (n := 84000) (rR (x := 5)) rfl) vc_X12_route_24 fun μ64 u65 T66 => ?_
    refine mr_iconst (z := 0) dX12_route_88 ?_
    refine mr_istore (lv' := [(5, iv 0), (0, .ref 106), (1, iv p1), (2, iv p2), (3, iv p3), (4, iv p4)]) dX12_route_89 (by decide) rfl ?_
    have L251 : ∀ (nL251 : Nat) (z249 : Int) (μ250 : mM), mT w μ250 → mF [126999] w μ64 μ250 → (0 ≤ z249 ∧ z249 ≤ 20) → (21 - z249) < (nL251 : Int) → sV (gG l D c H0 sa) mX12_route (sRm 3 0 0) (sZ (gG l D c H0 sa) 0 0 (qI w [106070, 126999] μ (fun z μ1 => ((-2147483648) ≤ z ∧ z ≤ 2147483647) ∧ True))) 91 [(0, .ref 106), (5, iv z249)] [] (mk w μ250) 0 0 := by
      intro nL251
      induction nL251 with
      | zero => intro z249 μ250 T253 F254 h252 h256; exact ((vc_X12_route_25 h256 h252)).elim
      | succ nL251 ih257 =>
        intro z249 μ250 T253 F254 h252 h256
        refine mr_iload (z := z249) dX12_route_91 rfl ?_
        refine sv_aload_n dX12_route_93 rfl rfl ?_
        refine gk_X12_15 dX12_route_94 wF_X12_79 (A_106 hw) (F254.f (A_106 hw) rfl (u65.f (Or.inl (mAt.ne (A_126 hw) (A_106 hw) rfl)) (u62.f (Or.inl (mAt.ne (A_126 hw) (A_106 hw) rfl)) q59))) ?_
        refine mr_icmp_ge (tgt := 123) dX12_route_97 (by decide) (r32 h252 rfl) (r32 h60 rfl) (fun h266 => ?_) (fun h266 => ?_)
        · refine sv_aload_n dX12_route_123 rfl rfl ?_
          refine mr_iconst (z := 1) dX12_route_124 ?_
          refine pf_X12_70 dX12_route_125 wF_X12_411 (A_106 hw) T253 (rW (c := 0) (d := 1) (rR (x := 1)) rfl) fun μ267 u268 T269 => ?_
          refine mr_iconst (z := 0) dX12_route_128 ?_
          exact mr_iret dX12_route_129 rfl (le_t rfl) (le_t rfl) T269 (mF.up (mF.call (mF.up (mF.up (mF.up (mF.up (mF.up (mF.up mF.refl (A_126 hw) u47 rfl) (A_126 hw) u50 rfl) (A_126 hw) u53 rfl) (A_126 hw) u56 rfl) (A_126 hw) u62 rfl) (A_126 hw) u65 rfl) F254 rfl) (A_106 hw) u268 rfl) ⟨(rW (c := (-2147483648)) (d := 2147483647) (rR (x := 0)) rfl), trivial⟩
        have h270 : 0 ≤ z249 ∧ z249 ≤ 19 := (vc_X12_route_26 h266 h252 h60)
        have h271 : 1 ≤ z58 ∧ z58 ≤ 20 := (vc_X12_route_27 h266 h270 h60)
        refine sv_aload_n dX12_route_100 rfl rfl ?_
        refine gf_X12_32 dX12_route_101 wF_X12_148 (A_106 hw) T253 ?_
        refine mr_bipush (z := 6) dX12_route_104 (by decide) ?_
        refine mr_iload (z := z249) dX12_route_106 rfl ?_
        refine mr_iadd (x := 6) (y := z249) dX12_route_108 ?_
        refine sv_aload_n dX12_route_109 rfl rfl ?_
        refine gf_X12_16 dX12_route_110 wF_X12_82 (A_106 hw) T253 ?_
        refine mr_iload (z := z249) dX12_route_113 rfl ?_
        refine la_118 dX12_route_115 (A_118 hw) T253 (rIx (n := 20) h270 rfl) fun z272 q273 h274 => ?_
        refine ss_126 dX12_route_116 (A_126 hw) T253 (rIx (n := 84000) (rAdd (e := 6) (f := 25) (rR (x := 6)) h270 rfl) rfl) (vc_X12_route_28 h266 h270 h274 h271) fun μ275 u276 T277 => ?_
        refine mr_iinc (lv' := [(5, iv (z249 + 1)), (0, .ref 106)]) dX12_route_117 rfl (by decide) rfl ?_
        refine sv_goto (tgt := 91) dX12_route_120 (by decide) ?_
        refine mr_lvS (lv' := [(0, .ref 106), (5, iv (z249 + 1))]) (List.forall_mem_cons.mpr ⟨rfl, List.forall_mem_cons.mpr ⟨rfl, fun _ h => absurd h List.not_mem_nil⟩⟩) ?_
        exact ih257 (z249 + 1) μ275 T277 (mF.up (mF.call mF.refl F254 rfl) (A_126 hw) u276 rfl) (rW (c := 0) (d := 20) (rAdd (e := 1) (f := 20) h270 (rR (x := 1)) rfl) rfl) (vc_X12_route_29 (nS h256) h266 h270 h271)
    refine mr_lvS (lv' := [(0, .ref 106), (5, iv 0)]) (List.forall_mem_cons.mpr ⟨rfl, List.forall_mem_cons.mpr ⟨rfl, fun _ h => absurd h List.not_mem_nil⟩⟩) ?_
    exact L251 22 0 μ64 T66 mF.refl (rW (c := 0) (d := 20) (rR (x := 0)) rfl) vc_X12_route_30
  have h278 : 0 ≤ z41 ∧ z41 ≤ 0 := (vc_X12_route_31 h42 h40.2.1 h40.2.2.1 hp4 h40.1)
  have h279 : p4 < 0 ∨ 1000000 < p4 := (h40.2.2.1 (vc_X12_route_32 h40.2.1 h40.2.2.1 h42 hp4 h278))
  refine mr_iconst (z := (-1)) dX12_route_40 ?_
  exact mr_iret dX12_route_41 rfl (le_t rfl) (le_t rfl) hT mF.refl ⟨(rW (c := (-2147483648)) (d := 2147483647) (rR (x := (-1))) rfl), trivial⟩
theorem vc_X12_hand_1 {z1 : Int} (h0 : z1 = 0) (h1 : 0 ≤ z1 ∧ z1 ≤ 1) : 0 ≤ z1 ∧ z1 ≤ 0 := by omega
theorem vc_X12_hand_2 {z1 : Int} (h0 : ¬ z1 = 0) (h1 : 0 ≤ z1 ∧ z1 ≤ 1) : 1 ≤ z1 ∧ z1 ≤ 1 := by omega
theorem vc_X12_hand_3 {p1 : Int} (h0 : 0 ≤ p1) (h1 : (-2147483648) ≤ p1 ∧ p1 ≤ 2147483647) : 0 ≤ p1 ∧ p1 ≤ 2147483647 := by omega
theorem vc_X12_hand_4 {p1 : Int} (h0 : 5 < p1) (h1 : 0 ≤ p1) (h2 : 0 ≤ p1 ∧ p1 ≤ 2147483647) : 6 ≤ p1 ∧ p1 ≤ 2147483647 := by omega
theorem vc_X12_hand_5 {p1 : Int} (h0 : p1 < 10) (h1 : 0 ≤ p1) (h2 : 5 < p1) (h3 : 6 ≤ p1 ∧ p1 ≤ 2147483647) : 6 ≤ p1 ∧ p1 ≤ 9 := by omega
theorem vc_X12_hand_6 {p1 : Int} (h0 : 100 ≤ p1) (h1 : 6 ≤ p1 ∧ p1 ≤ 9) : False := by omega
theorem vc_X12_hand_7 {p1 : Int} (h0 : 10 ≤ p1) (h1 : 0 ≤ p1) (h2 : 5 < p1) (h3 : 6 ≤ p1 ∧ p1 ≤ 2147483647) : 10 ≤ p1 ∧ p1 ≤ 2147483647 := by omega
theorem vc_X12_hand_8  : (4 : Int) % (40 : Int) = (4 : Int) := by omega
theorem vc_X12_hand_9 {p1 z14 : Int} (h0 : p1 < 100) (h1 : 0 ≤ p1) (h2 : 5 < p1) (h3 : 10 ≤ p1) (h4 : z14 ≤ (p1 - 10)) (h5 : 10 ≤ p1 ∧ p1 ≤ 2147483647) (h6 : 0 ≤ z14 ∧ z14 ≤ 20) : 10 ≤ p1 ∧ p1 ≤ 99 := by omega
theorem vc_X12_hand_10 {p1 z14 : Int} (h0 : 100 ≤ p1) (h1 : 0 ≤ p1) (h2 : 5 < p1) (h3 : 10 ≤ p1) (h4 : z14 ≤ (p1 - 10)) (h5 : 10 ≤ p1 ∧ p1 ≤ 2147483647) (h6 : 0 ≤ z14 ∧ z14 ≤ 20) : 100 ≤ p1 ∧ p1 ≤ 2147483647 := by omega
theorem vc_X12_hand_11  : (5 : Int) % (40 : Int) = (5 : Int) := by omega
theorem vc_X12_hand_12 {p1 z14 z33 : Int} (h0 : (p1 - 100) < z33) (h1 : 0 ≤ p1) (h2 : 5 < p1) (h3 : 10 ≤ p1) (h4 : z14 ≤ (p1 - 10)) (h5 : 100 ≤ p1) (h6 : 100 ≤ p1 ∧ p1 ≤ 2147483647) (h7 : 0 ≤ z14 ∧ z14 ≤ 20) (h8 : 0 ≤ z33 ∧ z33 ≤ 8) : 100 ≤ p1 ∧ p1 ≤ 107 := by omega
theorem vc_X12_hand_13 {p1 z14 z33 : Int} (h0 : (p1 - 100) < z33) (h1 : 0 ≤ p1) (h2 : 5 < p1) (h3 : 10 ≤ p1) (h4 : z14 ≤ (p1 - 10)) (h5 : 100 ≤ p1) (h6 : 100 ≤ p1 ∧ p1 ≤ 107) (h7 : 0 ≤ z14 ∧ z14 ≤ 20) (h8 : 0 ≤ z33 ∧ z33 ≤ 8) : 1 ≤ z33 ∧ z33 ≤ 8 := by omega
theorem vc_X12_hand_14 {p1 z14 : Int} (h0 : (p1 - 10) < z14) (h1 : 0 ≤ p1) (h2 : 5 < p1) (h3 : 10 ≤ p1) (h4 : 10 ≤ p1 ∧ p1 ≤ 2147483647) (h5 : 0 ≤ z14 ∧ z14 ≤ 20) : 10 ≤ p1 ∧ p1 ≤ 29 := by omega
theorem vc_X12_hand_15 {p1 z14 : Int} (h0 : (p1 - 10) < z14) (h1 : 0 ≤ p1) (h2 : 5 < p1) (h3 : 10 ≤ p1) (h4 : 10 ≤ p1 ∧ p1 ≤ 29) (h5 : 0 ≤ z14 ∧ z14 ≤ 20) : 1 ≤ z14 ∧ z14 ≤ 20 := by omega
theorem vc_X12_hand_16 {p1 : Int} (h0 : p1 ≤ 5) (h1 : 0 ≤ p1) (h2 : 0 ≤ p1 ∧ p1 ≤ 2147483647) : 0 ≤ p1 ∧ p1 ≤ 5 := by omega
theorem vc_X12_hand_17 {p1 : Int} (h0 : p1 < 0) (h1 : (-2147483648) ≤ p1 ∧ p1 ≤ 2147483647) : (-2147483648) ≤ p1 ∧ p1 ≤ (-1) := by omega
set_option maxRecDepth 4000 in
set_option maxHeartbeats 4000000 in
theorem c_X12_hand {l : Launch} {D : va_G} {c : Nat → ClassId} {H0 : Heap} {sa : Nat × Nat × (Nat → Int32)} {w : mW} {μ : mM} (hw : mWF w) (hT : mT w μ) {p1 : Int} (hp1 : (-2147483648) ≤ p1 ∧ p1 ≤ 2147483647) : sC (gG l D c H0 sa) mX12_hand 1 0 0 [.ref 106, iv p1] (mk w μ) (qP w μ (fun z => ((-2147483648) ≤ z ∧ z ≤ 2147483647) ∧ True)) := by
  refine sC.of rfl (by decide) (le_t rfl) ?_
  refine mr_lvE (lv' := [(0, .ref 106), (1, iv p1)]) rfl ?_
  refine sv_aload_n dX12_hand_0 rfl rfl ?_
  refine gf_X12_70 dX12_hand_1 wF_X12_411 (A_106 hw) hT fun z1 q2 h3 => ?_
  refine mr_if_eq (tgt := 11) dX12_hand_4 (by decide) (r32 h3 rfl) (fun h4 => ?_) (fun h4 => ?_)
  · have h5 : 0 ≤ z1 ∧ z1 ≤ 0 := (vc_X12_hand_1 h4 h3)
    refine mr_ldc (z := (-99999999)) dX12_hand_11 wG_X12_29 (by decide) ?_
    exact mr_iretP dX12_hand_13 rfl (le_t rfl) (le_t rfl) ⟨(rW (c := (-2147483648)) (d := 2147483647) (rR (x := (-99999999))) rfl), trivial⟩
  have h6 : 1 ≤ z1 ∧ z1 ≤ 1 := (vc_X12_hand_2 h4 h3)
  refine mr_iload_n (z := p1) dX12_hand_7 rfl rfl ?_
  refine mr_if_ge (tgt := 14) dX12_hand_8 (by decide) hp1 (fun h7 => ?_) (fun h7 => ?_)
  · have h8 : 0 ≤ p1 ∧ p1 ≤ 2147483647 := (vc_X12_hand_3 h7 hp1)
    refine mr_iload_n (z := p1) dX12_hand_14 rfl rfl ?_
    refine mr_iconst (z := 5) dX12_hand_15 ?_
    refine mr_icmp_gt (tgt := 26) dX12_hand_16 (by decide) (r32 h8 rfl) (r32 (rR (x := 5)) rfl) (fun h9 => ?_) (fun h9 => ?_)
    · have h10 : 6 ≤ p1 ∧ p1 ≤ 2147483647 := (vc_X12_hand_4 h9 h7 h8)
      refine mr_iload_n (z := p1) dX12_hand_26 rfl rfl ?_
      refine mr_bipush (z := 10) dX12_hand_27 (by decide) ?_
      refine mr_icmp_lt (tgt := 58) dX12_hand_29 (by decide) (r32 h10 rfl) (r32 (rR (x := 10)) rfl) (fun h11 => ?_) (fun h11 => ?_)
      · have h12 : 6 ≤ p1 ∧ p1 ≤ 9 := (vc_X12_hand_5 h11 h7 h9 h10)
        refine mr_iload_n (z := p1) dX12_hand_58 rfl rfl ?_
        refine mr_bipush (z := 100) dX12_hand_59 (by decide) ?_
        refine mr_icmp_lt (tgt := 92) dX12_hand_61 (by decide) (r32 h12 rfl) (r32 (rR (x := 100)) rfl) (fun _ => ?_) (fun h => ((vc_X12_hand_6 h h12)).elim)
        refine mr_ldc (z := (-99999999)) dX12_hand_92 wG_X12_29 (by decide) ?_
        exact mr_iretP dX12_hand_94 rfl (le_t rfl) (le_t rfl) ⟨(rW (c := (-2147483648)) (d := 2147483647) (rR (x := (-99999999))) rfl), trivial⟩
      have h13 : 10 ≤ p1 ∧ p1 ≤ 2147483647 := (vc_X12_hand_7 h11 h7 h9 h10)
      refine mr_iload_n (z := p1) dX12_hand_32 rfl rfl ?_
      refine mr_bipush (z := 10) dX12_hand_33 (by decide) ?_
      refine mr_isub (x := p1) (y := 10) dX12_hand_35 ?_
      refine sv_aload_n dX12_hand_36 rfl rfl ?_
      refine gf_X12_32 dX12_hand_37 wF_X12_148 (A_106 hw) hT ?_
      refine mr_iconst (z := 4) dX12_hand_40 ?_
      refine la_126 dX12_hand_41 (A_126 hw) hT (rIx (n := 84000) (rR (x := 4)) rfl) fun z14 q15 h16 => ?_
      have h17 : 0 ≤ z14 ∧ z14 ≤ 20 := h16.2.2.1 vc_X12_hand_8
      refine mr_icmp_ge (tgt := 58) dX12_hand_42 (by decide) (r32 (rSub (e := 0) (f := 2147483637) h13 (rR (x := 10)) rfl) rfl) (r32 h17 rfl) (fun h18 => ?_) (fun h18 => ?_)
      · refine mr_iload_n (z := p1) dX12_hand_58 rfl rfl ?_
        refine mr_bipush (z := 100) dX12_hand_59 (by decide) ?_
        refine mr_icmp_lt (tgt := 92) dX12_hand_61 (by decide) (r32 h13 rfl) (r32 (rR (x := 100)) rfl) (fun h30 => ?_) (fun h30 => ?_)
        · have h31 : 10 ≤ p1 ∧ p1 ≤ 99 := (vc_X12_hand_9 h30 h7 h9 h11 h18 h13 h17)
          refine mr_ldc (z := (-99999999)) dX12_hand_92 wG_X12_29 (by decide) ?_
          exact mr_iretP dX12_hand_94 rfl (le_t rfl) (le_t rfl) ⟨(rW (c := (-2147483648)) (d := 2147483647) (rR (x := (-99999999))) rfl), trivial⟩
        have h32 : 100 ≤ p1 ∧ p1 ≤ 2147483647 := (vc_X12_hand_10 h30 h7 h9 h11 h18 h13 h17)
        refine mr_iload_n (z := p1) dX12_hand_64 rfl rfl ?_
        refine mr_bipush (z := 100) dX12_hand_65 (by decide) ?_
        refine mr_isub (x := p1) (y := 100) dX12_hand_67 ?_
        refine sv_aload_n dX12_hand_68 rfl rfl ?_
        refine gf_X12_32 dX12_hand_69 wF_X12_148 (A_106 hw) hT ?_
        refine mr_iconst (z := 5) dX12_hand_72 ?_
        refine la_126 dX12_hand_73 (A_126 hw) hT (rIx (n := 84000) (rR (x := 5)) rfl) fun z33 q34 h35 => ?_
        have h36 : 0 ≤ z33 ∧ z33 ≤ 8 := h35.2.2.2 vc_X12_hand_11
        refine mr_icmp_ge (tgt := 92) dX12_hand_74 (by decide) (r32 (rSub (e := 0) (f := 2147483547) h32 (rR (x := 100)) rfl) rfl) (r32 h36 rfl) (fun h42 => ?_) (fun h42 => ?_)
        · refine mr_ldc (z := (-99999999)) dX12_hand_92 wG_X12_29 (by decide) ?_
          exact mr_iretP dX12_hand_94 rfl (le_t rfl) (le_t rfl) ⟨(rW (c := (-2147483648)) (d := 2147483647) (rR (x := (-99999999))) rfl), trivial⟩
        have h43 : 100 ≤ p1 ∧ p1 ≤ 107 := (vc_X12_hand_12 h42 h7 h9 h11 h18 h30 h32 h17 h36)
        have h44 : 1 ≤ z33 ∧ z33 ≤ 8 := (vc_X12_hand_13 h42 h7 h9 h11 h18 h30 h43 h17 h36)
        refine sv_aload_n dX12_hand_77 rfl rfl ?_
        refine gf_X12_32 dX12_hand_78 wF_X12_148 (A_106 hw) hT ?_
        refine mr_bipush (z := 26) dX12_hand_81 (by decide) ?_
        refine mr_iload_n (z := p1) dX12_hand_83 rfl rfl ?_
        refine mr_iadd (x := 26) (y := p1) dX12_hand_84 ?_
        refine mr_bipush (z := 100) dX12_hand_85 (by decide) ?_
        refine mr_isub (x := (26 + p1)) (y := 100) dX12_hand_87 ?_
        refine la_126 dX12_hand_88 (A_126 hw) hT (rIx (n := 84000) (rSub (e := 26) (f := 33) (rAdd (e := 126) (f := 133) (rR (x := 26)) h43 rfl) (rR (x := 100)) rfl) rfl) fun z45 q46 h47 => ?_
        refine sv_goto (tgt := 94) dX12_hand_89 (by decide) ?_
        exact mr_iretP dX12_hand_94 rfl (le_t rfl) (le_t rfl) ⟨h47.1, trivial⟩
      have h48 : 10 ≤ p1 ∧ p1 ≤ 29 := (vc_X12_hand_14 h18 h7 h9 h11 h13 h17)
      have h49 : 1 ≤ z14 ∧ z14 ≤ 20 := (vc_X12_hand_15 h18 h7 h9 h11 h48 h17)
      refine sv_aload_n dX12_hand_45 rfl rfl ?_
      refine gf_X12_32 dX12_hand_46 wF_X12_148 (A_106 hw) hT ?_
      refine mr_bipush (z := 6) dX12_hand_49 (by decide) ?_
      refine mr_iload_n (z := p1) dX12_hand_51 rfl rfl ?_
      refine mr_iadd (x := 6) (y := p1) dX12_hand_52 ?_
      refine mr_bipush (z := 10) dX12_hand_53 (by decide) ?_
      refine mr_isub (x := (6 + p1)) (y := 10) dX12_hand_55 ?_
      refine la_126 dX12_hand_56 (A_126 hw) hT (rIx (n := 84000) (rSub (e := 6) (f := 25) (rAdd (e := 16) (f := 35) (rR (x := 6)) h48 rfl) (rR (x := 10)) rfl) rfl) fun z50 q51 h52 => ?_
      exact mr_iretP dX12_hand_57 rfl (le_t rfl) (le_t rfl) ⟨h52.1, trivial⟩
    have h53 : 0 ≤ p1 ∧ p1 ≤ 5 := (vc_X12_hand_16 h9 h7 h8)
    refine sv_aload_n dX12_hand_19 rfl rfl ?_
    refine gf_X12_32 dX12_hand_20 wF_X12_148 (A_106 hw) hT ?_
    refine mr_iload_n (z := p1) dX12_hand_23 rfl rfl ?_
    refine la_126 dX12_hand_24 (A_126 hw) hT (rIx (n := 84000) h53 rfl) fun z54 q55 h56 => ?_
    exact mr_iretP dX12_hand_25 rfl (le_t rfl) (le_t rfl) ⟨h56.1, trivial⟩
  have h57 : (-2147483648) ≤ p1 ∧ p1 ≤ (-1) := (vc_X12_hand_17 h7 hp1)
  refine mr_ldc (z := (-99999999)) dX12_hand_11 wG_X12_29 (by decide) ?_
  exact mr_iretP dX12_hand_13 rfl (le_t rfl) (le_t rfl) ⟨(rW (c := (-2147483648)) (d := 2147483647) (rR (x := (-99999999))) rfl), trivial⟩
theorem vc_X12_nextEvent_1 {z441 : Int} (h0 : (801 - z441) < ((0 : Nat) : Int)) (h1 : 0 ≤ z441 ∧ z441 ≤ 800) : False := by omega
theorem vc_X12_nextEvent_2 {z441 : Int} (h0 : 800 ≤ z441) (h1 : 0 ≤ z441 ∧ z441 ≤ 800) : 800 ≤ z441 ∧ z441 ≤ 800 := by omega
theorem vc_X12_nextEvent_3 {z444 : Int} (h0 : z444 = -99999999 ∨ (0 ≤ z444 ∧ z444 ≤ 799)) (h1 : (-99999999) ≤ z444 ∧ z444 ≤ 799) : z444 = -99999999 ∨ (0 ≤ z444 ∧ z444 ≤ 799) := by omega
theorem vc_X12_nextEvent_4 {z441 : Int} (h0 : z441 < 800) (h1 : 0 ≤ z441 ∧ z441 ≤ 800) : 0 ≤ z441 ∧ z441 ≤ 799 := by omega
theorem vc_X12_nextEvent_5 {z529 : Int} (h0 : (-99999999) ≤ z529 ∧ z529 ≤ 799) : z529 = -99999999 ∨ (0 ≤ z529 ∧ z529 ≤ 799) := by omega
theorem vc_X12_nextEvent_6 {N z441 : Int} (h0 : (801 - z441) < N + 1) (h1 : z441 < 800) (h2 : 0 ≤ z441 ∧ z441 ≤ 799) : (801 - (z441 + 1)) < N := by omega
theorem vc_X12_nextEvent_7 {z505 : Int} (h0 : z505 < 0) (h1 : (-1) ≤ z505 ∧ z505 ≤ 2000001000) : (-1) ≤ z505 ∧ z505 ≤ (-1) := by omega
theorem vc_X12_nextEvent_8 {z505 : Int} (h0 : 0 ≤ z505) (h1 : (-1) ≤ z505 ∧ z505 ≤ 2000001000) : 0 ≤ z505 ∧ z505 ≤ 2000001000 := by omega
theorem vc_X12_nextEvent_9 {z505 : Int} (h0 : 2000000000 < z505) (h1 : 0 ≤ z505) (h2 : 0 ≤ z505 ∧ z505 ≤ 2000001000) : 2000000001 ≤ z505 ∧ z505 ≤ 2000001000 := by omega
theorem vc_X12_nextEvent_10 {z505 : Int} (h0 : z505 ≤ 2000000000) (h1 : 0 ≤ z505) (h2 : 0 ≤ z505 ∧ z505 ≤ 2000001000) : 0 ≤ z505 ∧ z505 ≤ 2000000000 := by omega
theorem vc_X12_nextEvent_11 {z444 : Int} (h0 : z444 = (-99999999)) (h1 : z444 = -99999999 ∨ (0 ≤ z444 ∧ z444 ≤ 799)) (h2 : (-99999999) ≤ z444 ∧ z444 ≤ 799) : (-99999999) ≤ z444 ∧ z444 ≤ (-99999999) := by omega
theorem vc_X12_nextEvent_12 {z444 : Int} (h0 : ¬ z444 = (-99999999)) (h1 : z444 = -99999999 ∨ (0 ≤ z444 ∧ z444 ≤ 799)) (h2 : (-99999999) ≤ z444 ∧ z444 ≤ 799) : (-99999998) ≤ z444 ∧ z444 ≤ 799 := by omega
theorem vc_X12_nextEvent_13 {z443 z505 : Int} (h0 : z505 < z443) (h1 : 0 ≤ z505) (h2 : z505 ≤ 2000000000) (h3 : 0 ≤ z443 ∧ z443 ≤ 2000000000) (h4 : 0 ≤ z505 ∧ z505 ≤ 2000000000) : 0 ≤ z505 ∧ z505 ≤ 1999999999 := by omega
theorem vc_X12_nextEvent_14 {z443 z505 : Int} (h0 : z505 < z443) (h1 : 0 ≤ z505) (h2 : z505 ≤ 2000000000) (h3 : 0 ≤ z443 ∧ z443 ≤ 2000000000) (h4 : 0 ≤ z505 ∧ z505 ≤ 1999999999) : 1 ≤ z443 ∧ z443 ≤ 2000000000 := by omega
theorem vc_X12_nextEvent_15 {z442 z516 : Int} (h0 : z516 < z442) (h1 : (-2147483648) ≤ z442 ∧ z442 ≤ 2147483647) (h2 : (-2147483648) ≤ z516 ∧ z516 ≤ 2147483647) : (-2147483648) ≤ z516 ∧ z516 ≤ 2147483646 := by omega
theorem vc_X12_nextEvent_16 {z442 z516 : Int} (h0 : z516 < z442) (h1 : (-2147483648) ≤ z442 ∧ z442 ≤ 2147483647) (h2 : (-2147483648) ≤ z516 ∧ z516 ≤ 2147483646) : (-2147483647) ≤ z442 ∧ z442 ≤ 2147483647 := by omega
theorem vc_X12_nextEvent_17 {z441 : Int} (h0 : 400 ≤ z441) (h1 : z441 < 800) (h2 : 0 ≤ z441 ∧ z441 ≤ 799) : 400 ≤ z441 ∧ z441 ≤ 799 := by omega
theorem vc_X12_nextEvent_18 {z441 : Int} (h0 : z441 < 400) (h1 : z441 < 800) (h2 : 0 ≤ z441 ∧ z441 ≤ 799) : 0 ≤ z441 ∧ z441 ≤ 399 := by omega
theorem vc_X12_nextEvent_19  : ((-99999999) : Int) = -(99999999 : Int) ∨ ((0 : Int) ≤ ((-99999999) : Int) ∧ ((-99999999) : Int) ≤ (799 : Int)) := by omega
theorem vc_X12_nextEvent_20  : (801 - 0) < ((802 : Nat) : Int) := by omega
set_option maxRecDepth 4000 in
set_option maxHeartbeats 4000000 in
theorem c_X12_nextEvent {l : Launch} {D : va_G} {c : Nat → ClassId} {H0 : Heap} {sa : Nat × Nat × (Nat → Int32)} {w : mW} {μ : mM} (hw : mWF w) (hT : mT w μ) : sC (gG l D c H0 sa) mX12_nextEvent 1 0 0 [.ref 106] (mk w μ) (qP w μ (fun z => ((-99999999) ≤ z ∧ z ≤ 799) ∧ (z = -99999999 ∨ (0 ≤ z ∧ z ≤ 799)) ∧ True)) := by
  refine sC.of rfl (by decide) (le_t rfl) ?_
  refine mr_lvE (lv' := [(0, .ref 106)]) rfl ?_
  refine mr_ldc (z := (-99999999)) dX12_nextEvent_0 wG_X12_29 (by decide) ?_
  refine mr_istore_n (lv' := [(1, iv (-99999999)), (0, .ref 106)]) dX12_nextEvent_2 rfl (by decide) rfl ?_
  refine mr_iconst (z := 0) dX12_nextEvent_3 ?_
  refine mr_istore_n (lv' := [(2, iv 0), (1, iv (-99999999)), (0, .ref 106)]) dX12_nextEvent_4 rfl (by decide) rfl ?_
  refine mr_iconst (z := 0) dX12_nextEvent_5 ?_
  refine mr_istore_n (lv' := [(3, iv 0), (2, iv 0), (1, iv (-99999999)), (0, .ref 106)]) dX12_nextEvent_6 rfl (by decide) rfl ?_
  refine mr_iconst (z := 0) dX12_nextEvent_7 ?_
  refine mr_istore (lv' := [(4, iv 0), (3, iv 0), (2, iv 0), (1, iv (-99999999)), (0, .ref 106)]) dX12_nextEvent_8 (by decide) rfl ?_
  have L445 : ∀ (nL445 : Nat) (z444 z443 z442 z441 : Int), True → ((-99999999) ≤ z444 ∧ z444 ≤ 799) → (0 ≤ z443 ∧ z443 ≤ 2000000000) → ((-2147483648) ≤ z442 ∧ z442 ≤ 2147483647) → (0 ≤ z441 ∧ z441 ≤ 800) → z444 = -99999999 ∨ (0 ≤ z444 ∧ z444 ≤ 799) → (801 - z441) < (nL445 : Int) → sV (gG l D c H0 sa) mX12_nextEvent (sRm 1 0 0) (sZ (gG l D c H0 sa) 0 0 (qP w μ (fun z => ((-99999999) ≤ z ∧ z ≤ 799) ∧ (z = -99999999 ∨ (0 ≤ z ∧ z ≤ 799)) ∧ True))) 10 [(0, .ref 106), (1, iv z444), (2, iv z443), (3, iv z442), (4, iv z441)] [] (mk w μ) 0 0 := by
    intro nL445
    induction nL445 with
    | zero => intro z444 z443 z442 z441 _ h446 h447 h448 h449 h453 h454; exact ((vc_X12_nextEvent_1 h454 h449)).elim
    | succ nL445 ih455 =>
      intro z444 z443 z442 z441 _ h446 h447 h448 h449 h453 h454
      refine mr_iload (z := z441) dX12_nextEvent_10 rfl ?_
      refine mr_sipush (z := 800) dX12_nextEvent_12 (by decide) ?_
      refine mr_icmp_ge (tgt := 132) dX12_nextEvent_15 (by decide) (r32 h449 rfl) (r32 (rR (x := 800)) rfl) (fun h494 => ?_) (fun h494 => ?_)
      · have h495 : 800 ≤ z441 ∧ z441 ≤ 800 := (vc_X12_nextEvent_2 h494 h449)
        refine mr_iload_n (z := z444) dX12_nextEvent_132 rfl rfl ?_
        exact mr_iretP dX12_nextEvent_133 rfl (le_t rfl) (le_t rfl) ⟨h446, (vc_X12_nextEvent_3 h453 h446), trivial⟩
      have h496 : 0 ≤ z441 ∧ z441 ≤ 799 := (vc_X12_nextEvent_4 h494 h449)
      refine mr_iload (z := z441) dX12_nextEvent_18 rfl ?_
      refine mr_sipush (z := 400) dX12_nextEvent_20 (by decide) ?_
      have J507 : ∀ (z505 : Int), ((-1) ≤ z505 ∧ z505 ≤ 2000001000) → sV (gG l D c H0 sa) mX12_nextEvent (sRm 1 0 0) (sZ (gG l D c H0 sa) 0 0 (qP w μ (fun z => ((-99999999) ≤ z ∧ z ≤ 799) ∧ (z = -99999999 ∨ (0 ≤ z ∧ z ≤ 799)) ∧ True))) 47 [(0, .ref 106), (1, iv z444), (2, iv z443), (3, iv z442), (4, iv z441)] [iv z505] (mk w μ) 0 0 := by
        intro z505 h506
        refine mr_istore (lv' := [(5, iv z505), (0, .ref 106), (1, iv z444), (2, iv z443), (3, iv z442), (4, iv z441)]) dX12_nextEvent_47 (by decide) rfl ?_
        refine mr_iload (z := z441) dX12_nextEvent_49 rfl ?_
        refine mr_sipush (z := 400) dX12_nextEvent_51 (by decide) ?_
        have J518 : ∀ (z516 : Int), ((-2147483648) ≤ z516 ∧ z516 ≤ 2147483647) → sV (gG l D c H0 sa) mX12_nextEvent (sRm 1 0 0) (sZ (gG l D c H0 sa) 0 0 (qP w μ (fun z => ((-99999999) ≤ z ∧ z ≤ 799) ∧ (z = -99999999 ∨ (0 ≤ z ∧ z ≤ 799)) ∧ True))) 78 [(0, .ref 106), (1, iv z444), (2, iv z443), (3, iv z442), (4, iv z441), (5, iv z505)] [iv z516] (mk w μ) 0 0 := by
          intro z516 h517
          refine mr_istore (lv' := [(6, iv z516), (0, .ref 106), (1, iv z444), (2, iv z443), (3, iv z442), (4, iv z441), (5, iv z505)]) dX12_nextEvent_78 (by decide) rfl ?_
          refine mr_iload (z := z505) dX12_nextEvent_80 rfl ?_
          have J535 : ∀ (z529 z531 z533 : Int), ((-99999999) ≤ z529 ∧ z529 ≤ 799) → (0 ≤ z531 ∧ z531 ≤ 2000000000) → ((-2147483648) ≤ z533 ∧ z533 ≤ 2147483647) → sV (gG l D c H0 sa) mX12_nextEvent (sRm 1 0 0) (sZ (gG l D c H0 sa) 0 0 (qP w μ (fun z => ((-99999999) ≤ z ∧ z ≤ 799) ∧ (z = -99999999 ∨ (0 ≤ z ∧ z ≤ 799)) ∧ True))) 126 [(0, .ref 106), (1, iv z529), (2, iv z531), (3, iv z533), (4, iv z441)] [] (mk w μ) 0 0 := by
            intro z529 z531 z533 h530 h532 h534
            refine mr_iinc (lv' := [(4, iv (z441 + 1)), (0, .ref 106), (1, iv z529), (2, iv z531), (3, iv z533)]) dX12_nextEvent_126 rfl (by decide) rfl ?_
            refine sv_goto (tgt := 10) dX12_nextEvent_129 (by decide) ?_
            refine mr_lvS (lv' := [(0, .ref 106), (1, iv z529), (2, iv z531), (3, iv z533), (4, iv (z441 + 1))]) (List.forall_mem_cons.mpr ⟨rfl, List.forall_mem_cons.mpr ⟨rfl, List.forall_mem_cons.mpr ⟨rfl, List.forall_mem_cons.mpr ⟨rfl, List.forall_mem_cons.mpr ⟨rfl, fun _ h => absurd h List.not_mem_nil⟩⟩⟩⟩⟩) ?_
            exact ih455 z529 z531 z533 (z441 + 1) trivial h530 h532 h534 (rW (c := 0) (d := 800) (rAdd (e := 1) (f := 800) h496 (rR (x := 1)) rfl) rfl) (vc_X12_nextEvent_5 h530) (vc_X12_nextEvent_6 (nS h454) h494 h496)
          refine mr_if_lt (tgt := 126) dX12_nextEvent_82 (by decide) (r32 h506 rfl) (fun h536 => ?_) (fun h536 => ?_)
          · have h537 : (-1) ≤ z505 ∧ z505 ≤ (-1) := (vc_X12_nextEvent_7 h536 h506)
            refine mr_lvS (lv' := [(0, .ref 106), (1, iv z444), (2, iv z443), (3, iv z442), (4, iv z441)]) (List.forall_mem_cons.mpr ⟨rfl, List.forall_mem_cons.mpr ⟨rfl, List.forall_mem_cons.mpr ⟨rfl, List.forall_mem_cons.mpr ⟨rfl, List.forall_mem_cons.mpr ⟨rfl, fun _ h => absurd h List.not_mem_nil⟩⟩⟩⟩⟩) ?_
            exact J535 z444 z443 z442 h446 h447 h448
          have h538 : 0 ≤ z505 ∧ z505 ≤ 2000001000 := (vc_X12_nextEvent_8 h536 h506)
          refine mr_iload (z := z505) dX12_nextEvent_85 rfl ?_
          refine mr_ldcw (z := 2000000000) dX12_nextEvent_87 wG_X12_606 (by decide) ?_
          refine mr_icmp_gt (tgt := 126) dX12_nextEvent_90 (by decide) (r32 h538 rfl) (r32 (rR (x := 2000000000)) rfl) (fun h539 => ?_) (fun h539 => ?_)
          · have h540 : 2000000001 ≤ z505 ∧ z505 ≤ 2000001000 := (vc_X12_nextEvent_9 h539 h536 h538)
            refine mr_lvS (lv' := [(0, .ref 106), (1, iv z444), (2, iv z443), (3, iv z442), (4, iv z441)]) (List.forall_mem_cons.mpr ⟨rfl, List.forall_mem_cons.mpr ⟨rfl, List.forall_mem_cons.mpr ⟨rfl, List.forall_mem_cons.mpr ⟨rfl, List.forall_mem_cons.mpr ⟨rfl, fun _ h => absurd h List.not_mem_nil⟩⟩⟩⟩⟩) ?_
            exact J535 z444 z443 z442 h446 h447 h448
          have h541 : 0 ≤ z505 ∧ z505 ≤ 2000000000 := (vc_X12_nextEvent_10 h539 h536 h538)
          refine mr_iload_n (z := z444) dX12_nextEvent_93 rfl rfl ?_
          refine mr_ldc (z := (-99999999)) dX12_nextEvent_94 wG_X12_29 (by decide) ?_
          refine mr_icmp_eq (tgt := 117) dX12_nextEvent_96 (by decide) (r32 h446 rfl) (r32 (rR (x := (-99999999))) rfl) (fun h542 => ?_) (fun h542 => ?_)
          · have h543 : (-99999999) ≤ z444 ∧ z444 ≤ (-99999999) := (vc_X12_nextEvent_11 h542 h453 h446)
            refine mr_iload (z := z441) dX12_nextEvent_117 rfl ?_
            refine mr_istore_n (lv' := [(1, iv z441), (6, iv z516), (0, .ref 106), (2, iv z443), (3, iv z442), (4, iv z441), (5, iv z505)]) dX12_nextEvent_119 rfl (by decide) rfl ?_
            refine mr_iload (z := z505) dX12_nextEvent_120 rfl ?_
            refine mr_istore_n (lv' := [(2, iv z505), (1, iv z441), (6, iv z516), (0, .ref 106), (3, iv z442), (4, iv z441), (5, iv z505)]) dX12_nextEvent_122 rfl (by decide) rfl ?_
            refine mr_iload (z := z516) dX12_nextEvent_123 rfl ?_
            refine mr_istore_n (lv' := [(3, iv z516), (2, iv z505), (1, iv z441), (6, iv z516), (0, .ref 106), (4, iv z441), (5, iv z505)]) dX12_nextEvent_125 rfl (by decide) rfl ?_
            refine mr_lvS (lv' := [(0, .ref 106), (1, iv z441), (2, iv z505), (3, iv z516), (4, iv z441)]) (List.forall_mem_cons.mpr ⟨rfl, List.forall_mem_cons.mpr ⟨rfl, List.forall_mem_cons.mpr ⟨rfl, List.forall_mem_cons.mpr ⟨rfl, List.forall_mem_cons.mpr ⟨rfl, fun _ h => absurd h List.not_mem_nil⟩⟩⟩⟩⟩) ?_
            exact J535 z441 z505 z516 (rW (c := (-99999999)) (d := 799) h496 rfl) h541 h517
          have h544 : (-99999998) ≤ z444 ∧ z444 ≤ 799 := (vc_X12_nextEvent_12 h542 h453 h446)
          refine mr_iload (z := z505) dX12_nextEvent_99 rfl ?_
          refine mr_iload_n (z := z443) dX12_nextEvent_101 rfl rfl ?_
          refine mr_icmp_lt (tgt := 117) dX12_nextEvent_102 (by decide) (r32 h541 rfl) (r32 h447 rfl) (fun h545 => ?_) (fun h545 => ?_)
          · have h546 : 0 ≤ z505 ∧ z505 ≤ 1999999999 := (vc_X12_nextEvent_13 h545 h536 h539 h447 h541)
            have h547 : 1 ≤ z443 ∧ z443 ≤ 2000000000 := (vc_X12_nextEvent_14 h545 h536 h539 h447 h546)
            refine mr_iload (z := z441) dX12_nextEvent_117 rfl ?_
            refine mr_istore_n (lv' := [(1, iv z441), (6, iv z516), (0, .ref 106), (2, iv z443), (3, iv z442), (4, iv z441), (5, iv z505)]) dX12_nextEvent_119 rfl (by decide) rfl ?_
            refine mr_iload (z := z505) dX12_nextEvent_120 rfl ?_
            refine mr_istore_n (lv' := [(2, iv z505), (1, iv z441), (6, iv z516), (0, .ref 106), (3, iv z442), (4, iv z441), (5, iv z505)]) dX12_nextEvent_122 rfl (by decide) rfl ?_
            refine mr_iload (z := z516) dX12_nextEvent_123 rfl ?_
            refine mr_istore_n (lv' := [(3, iv z516), (2, iv z505), (1, iv z441), (6, iv z516), (0, .ref 106), (4, iv z441), (5, iv z505)]) dX12_nextEvent_125 rfl (by decide) rfl ?_
            refine mr_lvS (lv' := [(0, .ref 106), (1, iv z441), (2, iv z505), (3, iv z516), (4, iv z441)]) (List.forall_mem_cons.mpr ⟨rfl, List.forall_mem_cons.mpr ⟨rfl, List.forall_mem_cons.mpr ⟨rfl, List.forall_mem_cons.mpr ⟨rfl, List.forall_mem_cons.mpr ⟨rfl, fun _ h => absurd h List.not_mem_nil⟩⟩⟩⟩⟩) ?_
            exact J535 z441 z505 z516 (rW (c := (-99999999)) (d := 799) h496 rfl) (rW (c := 0) (d := 2000000000) h546 rfl) h517
          refine mr_iload (z := z505) dX12_nextEvent_105 rfl ?_
          refine mr_iload_n (z := z443) dX12_nextEvent_107 rfl rfl ?_
          refine mr_icmp_ne (tgt := 126) dX12_nextEvent_108 (by decide) (r32 h541 rfl) (r32 h447 rfl) (fun h548 => ?_) (fun h548 => ?_)
          · refine mr_lvS (lv' := [(0, .ref 106), (1, iv z444), (2, iv z443), (3, iv z442), (4, iv z441)]) (List.forall_mem_cons.mpr ⟨rfl, List.forall_mem_cons.mpr ⟨rfl, List.forall_mem_cons.mpr ⟨rfl, List.forall_mem_cons.mpr ⟨rfl, List.forall_mem_cons.mpr ⟨rfl, fun _ h => absurd h List.not_mem_nil⟩⟩⟩⟩⟩) ?_
            exact J535 z444 z443 z442 (rW (c := (-99999999)) (d := 799) h544 rfl) h447 h448
          refine mr_iload (z := z516) dX12_nextEvent_111 rfl ?_
          refine mr_iload_n (z := z442) dX12_nextEvent_113 rfl rfl ?_
          refine mr_icmp_ge (tgt := 126) dX12_nextEvent_114 (by decide) h517 h448 (fun h549 => ?_) (fun h549 => ?_)
          · refine mr_lvS (lv' := [(0, .ref 106), (1, iv z444), (2, iv z443), (3, iv z442), (4, iv z441)]) (List.forall_mem_cons.mpr ⟨rfl, List.forall_mem_cons.mpr ⟨rfl, List.forall_mem_cons.mpr ⟨rfl, List.forall_mem_cons.mpr ⟨rfl, List.forall_mem_cons.mpr ⟨rfl, fun _ h => absurd h List.not_mem_nil⟩⟩⟩⟩⟩) ?_
            exact J535 z444 z443 z442 (rW (c := (-99999999)) (d := 799) h544 rfl) h447 h448
          have h550 : (-2147483648) ≤ z516 ∧ z516 ≤ 2147483646 := (vc_X12_nextEvent_15 h549 h448 h517)
          have h551 : (-2147483647) ≤ z442 ∧ z442 ≤ 2147483647 := (vc_X12_nextEvent_16 h549 h448 h550)
          refine mr_iload (z := z441) dX12_nextEvent_117 rfl ?_
          refine mr_istore_n (lv' := [(1, iv z441), (6, iv z516), (0, .ref 106), (2, iv z443), (3, iv z442), (4, iv z441), (5, iv z505)]) dX12_nextEvent_119 rfl (by decide) rfl ?_
          refine mr_iload (z := z505) dX12_nextEvent_120 rfl ?_
          refine mr_istore_n (lv' := [(2, iv z505), (1, iv z441), (6, iv z516), (0, .ref 106), (3, iv z442), (4, iv z441), (5, iv z505)]) dX12_nextEvent_122 rfl (by decide) rfl ?_
          refine mr_iload (z := z516) dX12_nextEvent_123 rfl ?_
          refine mr_istore_n (lv' := [(3, iv z516), (2, iv z505), (1, iv z441), (6, iv z516), (0, .ref 106), (4, iv z441), (5, iv z505)]) dX12_nextEvent_125 rfl (by decide) rfl ?_
          refine mr_lvS (lv' := [(0, .ref 106), (1, iv z441), (2, iv z505), (3, iv z516), (4, iv z441)]) (List.forall_mem_cons.mpr ⟨rfl, List.forall_mem_cons.mpr ⟨rfl, List.forall_mem_cons.mpr ⟨rfl, List.forall_mem_cons.mpr ⟨rfl, List.forall_mem_cons.mpr ⟨rfl, fun _ h => absurd h List.not_mem_nil⟩⟩⟩⟩⟩) ?_
          exact J535 z441 z505 z516 (rW (c := (-99999999)) (d := 799) h496 rfl) h541 (rW (c := (-2147483648)) (d := 2147483647) h550 rfl)
        refine mr_icmp_ge (tgt := 67) dX12_nextEvent_54 (by decide) (r32 h496 rfl) (r32 (rR (x := 400)) rfl) (fun h552 => ?_) (fun h552 => ?_)
        · have h553 : 400 ≤ z441 ∧ z441 ≤ 799 := (vc_X12_nextEvent_17 h552 h494 h496)
          refine sv_aload_n dX12_nextEvent_67 rfl rfl ?_
          refine gf_X12_80 dX12_nextEvent_68 wF_X12_442 (A_106 hw) hT ?_
          refine mr_iload (z := z441) dX12_nextEvent_71 rfl ?_
          refine mr_sipush (z := 400) dX12_nextEvent_73 (by decide) ?_
          refine mr_isub (x := z441) (y := 400) dX12_nextEvent_76 ?_
          refine la_160 dX12_nextEvent_77 (A_160 hw) hT (rIx (n := 400) (rSub (e := 0) (f := 399) h553 (rR (x := 400)) rfl) rfl) fun z554 q555 h556 => ?_
          refine mr_lvS (lv' := [(0, .ref 106), (1, iv z444), (2, iv z443), (3, iv z442), (4, iv z441), (5, iv z505)]) (List.forall_mem_cons.mpr ⟨rfl, List.forall_mem_cons.mpr ⟨rfl, List.forall_mem_cons.mpr ⟨rfl, List.forall_mem_cons.mpr ⟨rfl, List.forall_mem_cons.mpr ⟨rfl, List.forall_mem_cons.mpr ⟨rfl, fun _ h => absurd h List.not_mem_nil⟩⟩⟩⟩⟩⟩) ?_
          exact J518 z554 h556
        have h557 : 0 ≤ z441 ∧ z441 ≤ 399 := (vc_X12_nextEvent_18 h552 h494 h496)
        refine sv_aload_n dX12_nextEvent_57 rfl rfl ?_
        refine gf_X12_78 dX12_nextEvent_58 wF_X12_436 (A_106 hw) hT ?_
        refine mr_iload (z := z441) dX12_nextEvent_61 rfl ?_
        refine la_158 dX12_nextEvent_63 (A_158 hw) hT (rIx (n := 400) h557 rfl) fun z558 q559 h560 => ?_
        refine sv_goto (tgt := 78) dX12_nextEvent_64 (by decide) ?_
        refine mr_lvS (lv' := [(0, .ref 106), (1, iv z444), (2, iv z443), (3, iv z442), (4, iv z441), (5, iv z505)]) (List.forall_mem_cons.mpr ⟨rfl, List.forall_mem_cons.mpr ⟨rfl, List.forall_mem_cons.mpr ⟨rfl, List.forall_mem_cons.mpr ⟨rfl, List.forall_mem_cons.mpr ⟨rfl, List.forall_mem_cons.mpr ⟨rfl, fun _ h => absurd h List.not_mem_nil⟩⟩⟩⟩⟩⟩) ?_
        exact J518 z558 h560
      refine mr_icmp_ge (tgt := 36) dX12_nextEvent_23 (by decide) (r32 h496 rfl) (r32 (rR (x := 400)) rfl) (fun h561 => ?_) (fun h561 => ?_)
      · have h562 : 400 ≤ z441 ∧ z441 ≤ 799 := (vc_X12_nextEvent_17 h561 h494 h496)
        refine sv_aload_n dX12_nextEvent_36 rfl rfl ?_
        refine gf_X12_79 dX12_nextEvent_37 wF_X12_439 (A_106 hw) hT ?_
        refine mr_iload (z := z441) dX12_nextEvent_40 rfl ?_
        refine mr_sipush (z := 400) dX12_nextEvent_42 (by decide) ?_
        refine mr_isub (x := z441) (y := 400) dX12_nextEvent_45 ?_
        refine la_159 dX12_nextEvent_46 (A_159 hw) hT (rIx (n := 400) (rSub (e := 0) (f := 399) h562 (rR (x := 400)) rfl) rfl) fun z563 q564 h565 => ?_
        exact J507 z563 h565
      have h566 : 0 ≤ z441 ∧ z441 ≤ 399 := (vc_X12_nextEvent_18 h561 h494 h496)
      refine sv_aload_n dX12_nextEvent_26 rfl rfl ?_
      refine gf_X12_77 dX12_nextEvent_27 wF_X12_433 (A_106 hw) hT ?_
      refine mr_iload (z := z441) dX12_nextEvent_30 rfl ?_
      refine la_157 dX12_nextEvent_32 (A_157 hw) hT (rIx (n := 400) h566 rfl) fun z567 q568 h569 => ?_
      refine sv_goto (tgt := 47) dX12_nextEvent_33 (by decide) ?_
      exact J507 z567 h569
  refine mr_lvS (lv' := [(0, .ref 106), (1, iv (-99999999)), (2, iv 0), (3, iv 0), (4, iv 0)]) (List.forall_mem_cons.mpr ⟨rfl, List.forall_mem_cons.mpr ⟨rfl, List.forall_mem_cons.mpr ⟨rfl, List.forall_mem_cons.mpr ⟨rfl, List.forall_mem_cons.mpr ⟨rfl, fun _ h => absurd h List.not_mem_nil⟩⟩⟩⟩⟩) ?_
  exact L445 802 (-99999999) 0 0 0 trivial (rW (c := (-99999999)) (d := 799) (rR (x := (-99999999))) rfl) (rW (c := 0) (d := 2000000000) (rR (x := 0)) rfl) (rW (c := (-2147483648)) (d := 2147483647) (rR (x := 0)) rfl) (rW (c := 0) (d := 800) (rR (x := 0)) rfl) vc_X12_nextEvent_19 vc_X12_nextEvent_20
theorem vc_X12_eventAt_1 {p1 : Int} (h0 : 400 ≤ p1) (h1 : 0 ≤ p1 ∧ p1 ≤ 799) : 400 ≤ p1 ∧ p1 ≤ 799 := by omega
theorem vc_X12_eventAt_2 {p1 : Int} (h0 : p1 < 400) (h1 : 0 ≤ p1 ∧ p1 ≤ 799) : 0 ≤ p1 ∧ p1 ≤ 399 := by omega
set_option maxRecDepth 4000 in
set_option maxHeartbeats 4000000 in
theorem c_X12_eventAt {l : Launch} {D : va_G} {c : Nat → ClassId} {H0 : Heap} {sa : Nat × Nat × (Nat → Int32)} {w : mW} {μ : mM} (hw : mWF w) (hT : mT w μ) {p1 : Int} (hp1 : 0 ≤ p1 ∧ p1 ≤ 799) : sC (gG l D c H0 sa) mX12_eventAt 1 0 0 [.ref 106, iv p1] (mk w μ) (qP w μ (fun z => ((-1) ≤ z ∧ z ≤ 2000001000) ∧ True)) := by
  refine sC.of rfl (by decide) (le_t rfl) ?_
  refine mr_lvE (lv' := [(0, .ref 106), (1, iv p1)]) rfl ?_
  refine mr_iload_n (z := p1) dX12_eventAt_0 rfl rfl ?_
  refine mr_sipush (z := 400) dX12_eventAt_1 (by decide) ?_
  refine mr_icmp_ge (tgt := 16) dX12_eventAt_4 (by decide) (r32 hp1 rfl) (r32 (rR (x := 400)) rfl) (fun h9 => ?_) (fun h9 => ?_)
  · have h10 : 400 ≤ p1 ∧ p1 ≤ 799 := (vc_X12_eventAt_1 h9 hp1)
    refine sv_aload_n dX12_eventAt_16 rfl rfl ?_
    refine gf_X12_79 dX12_eventAt_17 wF_X12_439 (A_106 hw) hT ?_
    refine mr_iload_n (z := p1) dX12_eventAt_20 rfl rfl ?_
    refine mr_sipush (z := 400) dX12_eventAt_21 (by decide) ?_
    refine mr_isub (x := p1) (y := 400) dX12_eventAt_24 ?_
    refine la_159 dX12_eventAt_25 (A_159 hw) hT (rIx (n := 400) (rSub (e := 0) (f := 399) h10 (rR (x := 400)) rfl) rfl) fun z11 q12 h13 => ?_
    exact mr_iretP dX12_eventAt_26 rfl (le_t rfl) (le_t rfl) ⟨h13, trivial⟩
  have h14 : 0 ≤ p1 ∧ p1 ≤ 399 := (vc_X12_eventAt_2 h9 hp1)
  refine sv_aload_n dX12_eventAt_7 rfl rfl ?_
  refine gf_X12_77 dX12_eventAt_8 wF_X12_433 (A_106 hw) hT ?_
  refine mr_iload_n (z := p1) dX12_eventAt_11 rfl rfl ?_
  refine la_157 dX12_eventAt_12 (A_157 hw) hT (rIx (n := 400) h14 rfl) fun z15 q16 h17 => ?_
  refine sv_goto (tgt := 26) dX12_eventAt_13 (by decide) ?_
  exact mr_iretP dX12_eventAt_26 rfl (le_t rfl) (le_t rfl) ⟨h17, trivial⟩
theorem vc_X12_picked_1 {p1 z1 z8 : Int} (h0 : z8 = 0) (h1 : (z8 = 1 → 0 ≤ p1 ∧ p1 < z1)) (h2 : (z8 = 0 → p1 < 0 ∨ z1 ≤ p1)) (h3 : (-2147483648) ≤ p1 ∧ p1 ≤ 2147483647) (h4 : 0 ≤ z1 ∧ z1 ≤ 10) (h5 : 0 ≤ z8 ∧ z8 ≤ 1) : 0 ≤ z8 ∧ z8 ≤ 0 := by omega
theorem vc_X12_picked_2 {p1 z1 z8 : Int} (h0 : (z8 = 1 → 0 ≤ p1 ∧ p1 < z1)) (h1 : (z8 = 0 → p1 < 0 ∨ z1 ≤ p1)) (h2 : z8 = 0) (h3 : (-2147483648) ≤ p1 ∧ p1 ≤ 2147483647) (h4 : 0 ≤ z1 ∧ z1 ≤ 10) (h5 : 0 ≤ z8 ∧ z8 ≤ 0) : z8 = 0 := by omega
theorem vc_X12_picked_3 {p1 z1 z8 : Int} (h0 : ¬ z8 = 0) (h1 : (z8 = 1 → 0 ≤ p1 ∧ p1 < z1)) (h2 : (z8 = 0 → p1 < 0 ∨ z1 ≤ p1)) (h3 : (-2147483648) ≤ p1 ∧ p1 ≤ 2147483647) (h4 : 0 ≤ z1 ∧ z1 ≤ 10) (h5 : 0 ≤ z8 ∧ z8 ≤ 1) : 1 ≤ z8 ∧ z8 ≤ 1 := by omega
theorem vc_X12_picked_4 {p1 z1 z8 : Int} (h0 : (z8 = 1 → 0 ≤ p1 ∧ p1 < z1)) (h1 : (z8 = 0 → p1 < 0 ∨ z1 ≤ p1)) (h2 : ¬ z8 = 0) (h3 : (-2147483648) ≤ p1 ∧ p1 ≤ 2147483647) (h4 : 0 ≤ z1 ∧ z1 ≤ 10) (h5 : 1 ≤ z8 ∧ z8 ≤ 1) : z8 = 1 := by omega
theorem vc_X12_picked_5 {p1 z1 z8 : Int} (h0 : 0 ≤ p1 ∧ p1 < z1) (h1 : (z8 = 1 → 0 ≤ p1 ∧ p1 < z1)) (h2 : (z8 = 0 → p1 < 0 ∨ z1 ≤ p1)) (h3 : (-2147483648) ≤ p1 ∧ p1 ≤ 2147483647) (h4 : 0 ≤ z1 ∧ z1 ≤ 10) (h5 : 1 ≤ z8 ∧ z8 ≤ 1) : 0 ≤ p1 ∧ p1 ≤ 9 := by omega
theorem vc_X12_picked_6 {p2 z15 z22 : Int} (h0 : ¬ z22 = 0) (h1 : (z22 = 1 → 0 ≤ p2 ∧ p2 < z15)) (h2 : (z22 = 0 → p2 < 0 ∨ z15 ≤ p2)) (h3 : (-2147483648) ≤ p2 ∧ p2 ≤ 2147483647) (h4 : 0 ≤ z15 ∧ z15 ≤ 10) (h5 : 0 ≤ z22 ∧ z22 ≤ 1) : 1 ≤ z22 ∧ z22 ≤ 1 := by omega
theorem vc_X12_picked_7 {p2 z15 z22 : Int} (h0 : (z22 = 1 → 0 ≤ p2 ∧ p2 < z15)) (h1 : (z22 = 0 → p2 < 0 ∨ z15 ≤ p2)) (h2 : ¬ z22 = 0) (h3 : (-2147483648) ≤ p2 ∧ p2 ≤ 2147483647) (h4 : 0 ≤ z15 ∧ z15 ≤ 10) (h5 : 1 ≤ z22 ∧ z22 ≤ 1) : z22 = 1 := by omega
theorem vc_X12_picked_8 {p2 z15 z22 : Int} (h0 : 0 ≤ p2 ∧ p2 < z15) (h1 : (z22 = 1 → 0 ≤ p2 ∧ p2 < z15)) (h2 : (z22 = 0 → p2 < 0 ∨ z15 ≤ p2)) (h3 : (-2147483648) ≤ p2 ∧ p2 ≤ 2147483647) (h4 : 0 ≤ z15 ∧ z15 ≤ 10) (h5 : 1 ≤ z22 ∧ z22 ≤ 1) : 0 ≤ p2 ∧ p2 ≤ 9 := by omega
theorem vc_X12_picked_9 {p2 z15 z22 : Int} (h0 : 0 ≤ p2 ∧ p2 < z15) (h1 : (z22 = 1 → 0 ≤ p2 ∧ p2 < z15)) (h2 : (z22 = 0 → p2 < 0 ∨ z15 ≤ p2)) (h3 : 0 ≤ p2 ∧ p2 ≤ 9) (h4 : 0 ≤ z15 ∧ z15 ≤ 10) (h5 : 1 ≤ z22 ∧ z22 ≤ 1) : 1 ≤ z15 ∧ z15 ≤ 10 := by omega
theorem vc_X12_picked_10 {z28 : Int} (h0 : z28 = -99999999 ∨ z28 = -4 ∨ (0 ≤ z28 ∧ z28 ≤ 19)) : -99999999 ≤ z28 ∧ z28 ≤ 19 := by omega
theorem vc_X12_picked_11 {z28 : Int} (h0 : ¬ z28 = (-99999999)) (h1 : (-99999999) ≤ z28 ∧ z28 ≤ 19) (h2 : z28 = -99999999 ∨ z28 = -4 ∨ (0 ≤ z28 ∧ z28 ≤ 19)) : (-4) ≤ z28 ∧ z28 ≤ 19 := by omega
theorem vc_X12_picked_12 {p1 p2 z1 z15 z22 z8 : Int} (h0 : (z8 = 1 → 0 ≤ p1 ∧ p1 < z1)) (h1 : (z8 = 0 → p1 < 0 ∨ z1 ≤ p1)) (h2 : 0 ≤ p1 ∧ p1 < z1) (h3 : (z22 = 1 → 0 ≤ p2 ∧ p2 < z15)) (h4 : (z22 = 0 → p2 < 0 ∨ z15 ≤ p2)) (h5 : 0 ≤ p2 ∧ p2 < z15) (h6 : ¬ z8 = 0) (h7 : ¬ z22 = 0) (h8 : 0 ≤ p1 ∧ p1 ≤ 9) (h9 : 0 ≤ p2 ∧ p2 ≤ 9) (h10 : 0 ≤ z1 ∧ z1 ≤ 10) (h11 : 1 ≤ z15 ∧ z15 ≤ 10) (h12 : 1 ≤ z22 ∧ z22 ≤ 1) (h13 : 1 ≤ z8 ∧ z8 ≤ 1) : 0 ≤ (40 * (30 + ((10 * p1) + p2))) := by omega
theorem vc_X12_picked_13 {p1 p2 z1 z15 z22 z8 : Int} (h0 : (z8 = 1 → 0 ≤ p1 ∧ p1 < z1)) (h1 : (z8 = 0 → p1 < 0 ∨ z1 ≤ p1)) (h2 : 0 ≤ p1 ∧ p1 < z1) (h3 : (z22 = 1 → 0 ≤ p2 ∧ p2 < z15)) (h4 : (z22 = 0 → p2 < 0 ∨ z15 ≤ p2)) (h5 : 0 ≤ p2 ∧ p2 < z15) (h6 : ¬ z8 = 0) (h7 : ¬ z22 = 0) (h8 : 0 ≤ p1 ∧ p1 ≤ 9) (h9 : 0 ≤ p2 ∧ p2 ≤ 9) (h10 : 0 ≤ z1 ∧ z1 ≤ 10) (h11 : 1 ≤ z15 ∧ z15 ≤ 10) (h12 : 1 ≤ z22 ∧ z22 ≤ 1) (h13 : 1 ≤ z8 ∧ z8 ≤ 1) : (40 * (30 + ((10 * p1) + p2))) % 40 = 0 := by omega
theorem vc_X12_picked_14 {p1 p2 z1 z15 z22 z8 : Int} (h0 : (z8 = 1 → 0 ≤ p1 ∧ p1 < z1)) (h1 : (z8 = 0 → p1 < 0 ∨ z1 ≤ p1)) (h2 : 0 ≤ p1 ∧ p1 < z1) (h3 : (z22 = 1 → 0 ≤ p2 ∧ p2 < z15)) (h4 : (z22 = 0 → p2 < 0 ∨ z15 ≤ p2)) (h5 : 0 ≤ p2 ∧ p2 < z15) (h6 : ¬ z8 = 0) (h7 : ¬ z22 = 0) (h8 : 0 ≤ p1 ∧ p1 ≤ 9) (h9 : 0 ≤ p2 ∧ p2 ≤ 9) (h10 : 0 ≤ z1 ∧ z1 ≤ 10) (h11 : 1 ≤ z15 ∧ z15 ≤ 10) (h12 : 1 ≤ z22 ∧ z22 ≤ 1) (h13 : 1 ≤ z8 ∧ z8 ≤ 1) : (30 + ((10 * p1) + p2)) < 0 ∨ 0 < (30 + ((10 * p1) + p2)) := by omega
theorem vc_X12_picked_15  : (0 : Int) ≤ ((40 : Int) * (0 : Int)) := by omega
theorem vc_X12_picked_16  : ((40 : Int) * (0 : Int)) % (40 : Int) = (0 : Int) := by omega
theorem vc_X12_picked_17 {z28 : Int} (h0 : z28 = (-99999999)) (h1 : (-99999999) ≤ z28 ∧ z28 ≤ 19) (h2 : z28 = -99999999 ∨ z28 = -4 ∨ (0 ≤ z28 ∧ z28 ≤ 19)) : (-99999999) ≤ z28 ∧ z28 ≤ (-99999999) := by omega
theorem vc_X12_picked_18 {p2 z15 z22 : Int} (h0 : z22 = 0) (h1 : (z22 = 1 → 0 ≤ p2 ∧ p2 < z15)) (h2 : (z22 = 0 → p2 < 0 ∨ z15 ≤ p2)) (h3 : (-2147483648) ≤ p2 ∧ p2 ≤ 2147483647) (h4 : 0 ≤ z15 ∧ z15 ≤ 10) (h5 : 0 ≤ z22 ∧ z22 ≤ 1) : 0 ≤ z22 ∧ z22 ≤ 0 := by omega
theorem vc_X12_picked_19 {p2 z15 z22 : Int} (h0 : (z22 = 1 → 0 ≤ p2 ∧ p2 < z15)) (h1 : (z22 = 0 → p2 < 0 ∨ z15 ≤ p2)) (h2 : z22 = 0) (h3 : (-2147483648) ≤ p2 ∧ p2 ≤ 2147483647) (h4 : 0 ≤ z15 ∧ z15 ≤ 10) (h5 : 0 ≤ z22 ∧ z22 ≤ 0) : z22 = 0 := by omega
set_option maxRecDepth 4000 in
set_option maxHeartbeats 4000000 in
theorem c_X12_picked {l : Launch} {D : va_G} {c : Nat → ClassId} {H0 : Heap} {sa : Nat × Nat × (Nat → Int32)} {w : mW} {μ : mM} (hw : mWF w) (hT : mT w μ) {p1 : Int} (hp1 : (-2147483648) ≤ p1 ∧ p1 ≤ 2147483647) {p2 : Int} (hp2 : (-2147483648) ≤ p2 ∧ p2 ≤ 2147483647) : sC (gG l D c H0 sa) mX12_picked 3 0 0 [.ref 106, iv p1, iv p2] (mk w μ) (qI w [106070, 126999] μ (fun z μ1 => ((-2147483648) ≤ z ∧ z ≤ 2147483647) ∧ True)) := by
  refine sC.of rfl (by decide) (le_t rfl) ?_
  refine mr_lvE (lv' := [(0, .ref 106), (1, iv p1), (2, iv p2)]) rfl ?_
  refine sv_aload_n dX12_picked_0 rfl rfl ?_
  refine mr_iload_n (z := p1) dX12_picked_1 rfl rfl ?_
  obtain ⟨z1, q2⟩ : ∃ z, μ 106 5 = z := ⟨_, rfl⟩
  have h3 : (0 ≤ z1 ∧ z1 ≤ 10) := by rw [← q2]; exact hT 106 106 (A_106 hw) 5
  refine mr_cVP (c_X12_isDomain hw hT hp1 q2) (gOk _ _ _ _ _) dX12_picked_2 (tX12_isDomain _ _ _ _ _) ⟨wV_X12_isDomain, wL_X12_isDomain⟩ wM_X12_49 (gCX12 _ _ _ _ _) rfl (A_106 hw) rfl ⟨le_t rfl, le_t rfl⟩ ⟨le_t rfl, le_t rfl⟩ rfl (le_t rfl) fun z8 h7 => ?_
  refine mr_if_eq (tgt := 16) dX12_picked_5 (by decide) (r32 h7.1 rfl) (fun h9 => ?_) (fun h9 => ?_)
  · have h10 : 0 ≤ z8 ∧ z8 ≤ 0 := (vc_X12_picked_1 h9 h7.2.1 h7.2.2.1 hp1 h3 h7.1)
    have h11 : p1 < 0 ∨ z1 ≤ p1 := (h7.2.2.1 (vc_X12_picked_2 h7.2.1 h7.2.2.1 h9 hp1 h3 h10))
    refine mr_iconst (z := (-1)) dX12_picked_16 ?_
    exact mr_iret dX12_picked_17 rfl (le_t rfl) (le_t rfl) hT mF.refl ⟨(rW (c := (-2147483648)) (d := 2147483647) (rR (x := (-1))) rfl), trivial⟩
  have h12 : 1 ≤ z8 ∧ z8 ≤ 1 := (vc_X12_picked_3 h9 h7.2.1 h7.2.2.1 hp1 h3 h7.1)
  have h13 : 0 ≤ p1 ∧ p1 < z1 := (h7.2.1 (vc_X12_picked_4 h7.2.1 h7.2.2.1 h9 hp1 h3 h12))
  have h14 : 0 ≤ p1 ∧ p1 ≤ 9 := (vc_X12_picked_5 h13 h7.2.1 h7.2.2.1 hp1 h3 h12)
  refine sv_aload_n dX12_picked_8 rfl rfl ?_
  refine mr_iload_n (z := p2) dX12_picked_9 rfl rfl ?_
  obtain ⟨z15, q16⟩ : ∃ z, μ 106 2 = z := ⟨_, rfl⟩
  have h17 : (0 ≤ z15 ∧ z15 ≤ 10) := by rw [← q16]; exact hT 106 106 (A_106 hw) 2
  refine mr_cVP (c_X12_isPrefix hw hT hp2 q16) (gOk _ _ _ _ _) dX12_picked_10 (tX12_isPrefix _ _ _ _ _) ⟨wV_X12_isPrefix, wL_X12_isPrefix⟩ wM_X12_92 (gCX12 _ _ _ _ _) rfl (A_106 hw) rfl ⟨le_t rfl, le_t rfl⟩ ⟨le_t rfl, le_t rfl⟩ rfl (le_t rfl) fun z22 h21 => ?_
  refine mr_if_ne (tgt := 18) dX12_picked_13 (by decide) (r32 h21.1 rfl) (fun h23 => ?_) (fun h23 => ?_)
  · have h24 : 1 ≤ z22 ∧ z22 ≤ 1 := (vc_X12_picked_6 h23 h21.2.1 h21.2.2.1 hp2 h17 h21.1)
    have h25 : 0 ≤ p2 ∧ p2 < z15 := (h21.2.1 (vc_X12_picked_7 h21.2.1 h21.2.2.1 h23 hp2 h17 h24))
    have h26 : 0 ≤ p2 ∧ p2 ≤ 9 := (vc_X12_picked_8 h25 h21.2.1 h21.2.2.1 hp2 h17 h24)
    have h27 : 1 ≤ z15 ∧ z15 ≤ 10 := (vc_X12_picked_9 h25 h21.2.1 h21.2.2.1 h26 h17 h24)
    refine mr_bipush (z := 10) dX12_picked_18 (by decide) ?_
    refine mr_iload_n (z := p1) dX12_picked_20 rfl rfl ?_
    refine mr_imul (x := 10) (y := p1) dX12_picked_21 ?_
    refine mr_iload_n (z := p2) dX12_picked_22 rfl rfl ?_
    refine mr_iadd (x := (10 * p1)) (y := p2) dX12_picked_23 ?_
    refine mr_istore_n (lv' := [(3, iv ((10 * p1) + p2)), (0, .ref 106), (1, iv p1), (2, iv p2)]) dX12_picked_24 rfl (by decide) rfl ?_
    refine sv_aload_n dX12_picked_25 rfl rfl ?_
    refine gf_X12_81 dX12_picked_26 wF_X12_445 (A_106 hw) hT ?_
    refine mr_iload_n (z := ((10 * p1) + p2)) dX12_picked_29 rfl rfl ?_
    refine la_161 dX12_picked_30 (A_161 hw) hT (rIx (n := 100) (rAdd (e := 0) (f := 99) (rMulL (n := 10) (e := 0) (f := 90) h14 rfl) h26 rfl) rfl) fun z28 q29 h30 => ?_
    have h31 : (-99999999) ≤ z28 ∧ z28 ≤ 19 := (vc_X12_picked_10 h30)
    refine mr_ldc (z := (-99999999)) dX12_picked_31 wG_X12_29 (by decide) ?_
    refine mr_icmp_ne (tgt := 39) dX12_picked_33 (by decide) (r32 h31 rfl) (r32 (rR (x := (-99999999))) rfl) (fun h32 => ?_) (fun h32 => ?_)
    · have h33 : (-4) ≤ z28 ∧ z28 ≤ 19 := (vc_X12_picked_11 h32 h31 h30)
      refine sv_aload_n dX12_picked_39 rfl rfl ?_
      refine mr_bipush (z := 30) dX12_picked_40 (by decide) ?_
      refine mr_iload_n (z := ((10 * p1) + p2)) dX12_picked_42 rfl rfl ?_
      refine mr_iadd (x := 30) (y := ((10 * p1) + p2)) dX12_picked_43 ?_
      refine mr_iconst (z := 0) dX12_picked_44 ?_
      obtain ⟨z34, q35⟩ : ∃ z, μ 126 (40 * (30 + ((10 * p1) + p2))).toNat = z := ⟨_, rfl⟩
      have h36 := rt7 hT (A_126 hw) (vc_X12_picked_12 h7.2.1 h7.2.2.1 h13 h21.2.1 h21.2.2.1 h25 h9 h23 h14 h26 h3 h27 h24 h12) q35
      have h37 : (-1) ≤ z34 ∧ z34 ≤ 9 := h36.2.1 (vc_X12_picked_13 h7.2.1 h7.2.2.1 h13 h21.2.1 h21.2.2.1 h25 h9 h23 h14 h26 h3 h27 h24 h12)
      refine mr_cVV (c_X12_copy hw hT (rW (c := 0) (d := 2099) (rAdd (e := 30) (f := 129) (rR (x := 30)) (rAdd (e := 0) (f := 99) (rMulL (n := 10) (e := 0) (f := 90) h14 rfl) h26 rfl) rfl) rfl) (rW (c := 0) (d := 2099) (rR (x := 0)) rfl) q35 (vc_X12_picked_14 h7.2.1 h7.2.2.1 h13 h21.2.1 h21.2.2.1 h25 h9 h23 h14 h26 h3 h27 h24 h12)) (gOk _ _ _ _ _) dX12_picked_45 (tX12_copy _ _ _ _ _) ⟨wV_X12_copy, wL_X12_copy⟩ wM_X12_559 (gCX12 _ _ _ _ _) rfl (A_106 hw) rfl ⟨le_t rfl, le_t rfl⟩ ⟨le_t rfl, le_t rfl⟩ rfl (le_t rfl) fun μ38 T39 F40 h41 => ?_
      obtain ⟨z42, q43, h44⟩ := h41
      have h45 := rt7 T39 (A_126 hw) vc_X12_picked_15 q43
      have h46 : (-1) ≤ z42 ∧ z42 ≤ 9 := h45.2.1 vc_X12_picked_16
      refine sv_aload_n dX12_picked_48 rfl rfl ?_
      refine mr_iconst (z := 1) dX12_picked_49 ?_
      refine pf_X12_70 dX12_picked_50 wF_X12_411 (A_106 hw) T39 (rW (c := 0) (d := 1) (rR (x := 1)) rfl) fun μ47 u48 T49 => ?_
      refine sv_aload_n dX12_picked_53 rfl rfl ?_
      refine gf_X12_81 dX12_picked_54 wF_X12_445 (A_106 hw) T49 ?_
      refine mr_iload_n (z := ((10 * p1) + p2)) dX12_picked_57 rfl rfl ?_
      refine lk_161 dX12_picked_58 (A_161 hw) (rIx (n := 100) (rAdd (e := 0) (f := 99) (rMulL (n := 10) (e := 0) (f := 90) h14 rfl) h26 rfl) rfl) (u48.f (Or.inl (mAt.ne (A_106 hw) (A_161 hw) rfl)) (F40.f (A_161 hw) rfl q29)) ?_
      exact mr_iret dX12_picked_59 rfl (le_t rfl) (le_t rfl) T49 (mF.up (mF.call mF.refl F40 rfl) (A_106 hw) u48 rfl) ⟨(rW (c := (-2147483648)) (d := 2147483647) h33 rfl), trivial⟩
    have h50 : (-99999999) ≤ z28 ∧ z28 ≤ (-99999999) := (vc_X12_picked_17 h32 h31 h30)
    refine mr_ldc (z := (-99999999)) dX12_picked_36 wG_X12_29 (by decide) ?_
    exact mr_iret dX12_picked_38 rfl (le_t rfl) (le_t rfl) hT mF.refl ⟨(rW (c := (-2147483648)) (d := 2147483647) (rR (x := (-99999999))) rfl), trivial⟩
  have h51 : 0 ≤ z22 ∧ z22 ≤ 0 := (vc_X12_picked_18 h23 h21.2.1 h21.2.2.1 hp2 h17 h21.1)
  have h52 : p2 < 0 ∨ z15 ≤ p2 := (h21.2.2.1 (vc_X12_picked_19 h21.2.1 h21.2.2.1 h23 hp2 h17 h51))
  refine mr_iconst (z := (-1)) dX12_picked_16 ?_
  exact mr_iret dX12_picked_17 rfl (le_t rfl) (le_t rfl) hT mF.refl ⟨(rW (c := (-2147483648)) (d := 2147483647) (rR (x := (-1))) rfl), trivial⟩
theorem vc_X12_heard_1 {p1 z1 z8 : Int} (h0 : z8 = 0) (h1 : (z8 = 1 → 0 ≤ p1 ∧ p1 < z1)) (h2 : (z8 = 0 → p1 < 0 ∨ z1 ≤ p1)) (h3 : (-2147483648) ≤ p1 ∧ p1 ≤ 2147483647) (h4 : 0 ≤ z1 ∧ z1 ≤ 20) (h5 : 0 ≤ z8 ∧ z8 ≤ 1) : 0 ≤ z8 ∧ z8 ≤ 0 := by omega
theorem vc_X12_heard_2 {p1 z1 z8 : Int} (h0 : (z8 = 1 → 0 ≤ p1 ∧ p1 < z1)) (h1 : (z8 = 0 → p1 < 0 ∨ z1 ≤ p1)) (h2 : z8 = 0) (h3 : (-2147483648) ≤ p1 ∧ p1 ≤ 2147483647) (h4 : 0 ≤ z1 ∧ z1 ≤ 20) (h5 : 0 ≤ z8 ∧ z8 ≤ 0) : z8 = 0 := by omega
theorem vc_X12_heard_3 {p1 z1 z8 : Int} (h0 : ¬ z8 = 0) (h1 : (z8 = 1 → 0 ≤ p1 ∧ p1 < z1)) (h2 : (z8 = 0 → p1 < 0 ∨ z1 ≤ p1)) (h3 : (-2147483648) ≤ p1 ∧ p1 ≤ 2147483647) (h4 : 0 ≤ z1 ∧ z1 ≤ 20) (h5 : 0 ≤ z8 ∧ z8 ≤ 1) : 1 ≤ z8 ∧ z8 ≤ 1 := by omega
theorem vc_X12_heard_4 {p1 z1 z8 : Int} (h0 : (z8 = 1 → 0 ≤ p1 ∧ p1 < z1)) (h1 : (z8 = 0 → p1 < 0 ∨ z1 ≤ p1)) (h2 : ¬ z8 = 0) (h3 : (-2147483648) ≤ p1 ∧ p1 ≤ 2147483647) (h4 : 0 ≤ z1 ∧ z1 ≤ 20) (h5 : 1 ≤ z8 ∧ z8 ≤ 1) : z8 = 1 := by omega
theorem vc_X12_heard_5 {p1 z1 z8 : Int} (h0 : 0 ≤ p1 ∧ p1 < z1) (h1 : (z8 = 1 → 0 ≤ p1 ∧ p1 < z1)) (h2 : (z8 = 0 → p1 < 0 ∨ z1 ≤ p1)) (h3 : (-2147483648) ≤ p1 ∧ p1 ≤ 2147483647) (h4 : 0 ≤ z1 ∧ z1 ≤ 20) (h5 : 1 ≤ z8 ∧ z8 ≤ 1) : 0 ≤ p1 ∧ p1 ≤ 19 := by omega
theorem vc_X12_heard_6 {p2 z19 : Int} (h0 : z19 = 0) (h1 : (z19 = 1 → 0 ≤ p2 ∧ p2 ≤ 1)) (h2 : (z19 = 0 → p2 < 0 ∨ 1 < p2)) (h3 : (-2147483648) ≤ p2 ∧ p2 ≤ 2147483647) (h4 : 0 ≤ z19 ∧ z19 ≤ 1) : 0 ≤ z19 ∧ z19 ≤ 0 := by omega
theorem vc_X12_heard_7 {p2 z19 : Int} (h0 : (z19 = 1 → 0 ≤ p2 ∧ p2 ≤ 1)) (h1 : (z19 = 0 → p2 < 0 ∨ 1 < p2)) (h2 : z19 = 0) (h3 : (-2147483648) ≤ p2 ∧ p2 ≤ 2147483647) (h4 : 0 ≤ z19 ∧ z19 ≤ 0) : z19 = 0 := by omega
theorem vc_X12_heard_8 {p2 z19 : Int} (h0 : ¬ z19 = 0) (h1 : (z19 = 1 → 0 ≤ p2 ∧ p2 ≤ 1)) (h2 : (z19 = 0 → p2 < 0 ∨ 1 < p2)) (h3 : (-2147483648) ≤ p2 ∧ p2 ≤ 2147483647) (h4 : 0 ≤ z19 ∧ z19 ≤ 1) : 1 ≤ z19 ∧ z19 ≤ 1 := by omega
theorem vc_X12_heard_9 {p2 z19 : Int} (h0 : (z19 = 1 → 0 ≤ p2 ∧ p2 ≤ 1)) (h1 : (z19 = 0 → p2 < 0 ∨ 1 < p2)) (h2 : ¬ z19 = 0) (h3 : (-2147483648) ≤ p2 ∧ p2 ≤ 2147483647) (h4 : 1 ≤ z19 ∧ z19 ≤ 1) : z19 = 1 := by omega
theorem vc_X12_heard_10 {p2 z19 : Int} (h0 : 0 ≤ p2 ∧ p2 ≤ 1) (h1 : (z19 = 1 → 0 ≤ p2 ∧ p2 ≤ 1)) (h2 : (z19 = 0 → p2 < 0 ∨ 1 < p2)) (h3 : (-2147483648) ≤ p2 ∧ p2 ≤ 2147483647) (h4 : 1 ≤ z19 ∧ z19 ≤ 1) : 0 ≤ p2 ∧ p2 ≤ 1 := by omega
theorem vc_X12_heard_11 {p3 z26 z33 : Int} (h0 : z33 = 0) (h1 : (z33 = 1 → 0 ≤ p3 ∧ p3 < z26)) (h2 : (z33 = 0 → p3 < 0 ∨ z26 ≤ p3)) (h3 : (-2147483648) ≤ p3 ∧ p3 ≤ 2147483647) (h4 : 0 ≤ z26 ∧ z26 ≤ 10) (h5 : 0 ≤ z33 ∧ z33 ≤ 1) : 0 ≤ z33 ∧ z33 ≤ 0 := by omega
theorem vc_X12_heard_12 {p3 z26 z33 : Int} (h0 : (z33 = 1 → 0 ≤ p3 ∧ p3 < z26)) (h1 : (z33 = 0 → p3 < 0 ∨ z26 ≤ p3)) (h2 : z33 = 0) (h3 : (-2147483648) ≤ p3 ∧ p3 ≤ 2147483647) (h4 : 0 ≤ z26 ∧ z26 ≤ 10) (h5 : 0 ≤ z33 ∧ z33 ≤ 0) : z33 = 0 := by omega
theorem vc_X12_heard_13 {p3 z26 z33 : Int} (h0 : ¬ z33 = 0) (h1 : (z33 = 1 → 0 ≤ p3 ∧ p3 < z26)) (h2 : (z33 = 0 → p3 < 0 ∨ z26 ≤ p3)) (h3 : (-2147483648) ≤ p3 ∧ p3 ≤ 2147483647) (h4 : 0 ≤ z26 ∧ z26 ≤ 10) (h5 : 0 ≤ z33 ∧ z33 ≤ 1) : 1 ≤ z33 ∧ z33 ≤ 1 := by omega
theorem vc_X12_heard_14 {p3 z26 z33 : Int} (h0 : (z33 = 1 → 0 ≤ p3 ∧ p3 < z26)) (h1 : (z33 = 0 → p3 < 0 ∨ z26 ≤ p3)) (h2 : ¬ z33 = 0) (h3 : (-2147483648) ≤ p3 ∧ p3 ≤ 2147483647) (h4 : 0 ≤ z26 ∧ z26 ≤ 10) (h5 : 1 ≤ z33 ∧ z33 ≤ 1) : z33 = 1 := by omega
theorem vc_X12_heard_15 {p3 z26 z33 : Int} (h0 : 0 ≤ p3 ∧ p3 < z26) (h1 : (z33 = 1 → 0 ≤ p3 ∧ p3 < z26)) (h2 : (z33 = 0 → p3 < 0 ∨ z26 ≤ p3)) (h3 : (-2147483648) ≤ p3 ∧ p3 ≤ 2147483647) (h4 : 0 ≤ z26 ∧ z26 ≤ 10) (h5 : 1 ≤ z33 ∧ z33 ≤ 1) : 0 ≤ p3 ∧ p3 ≤ 9 := by omega
theorem vc_X12_heard_16 {p3 z26 z33 : Int} (h0 : 0 ≤ p3 ∧ p3 < z26) (h1 : (z33 = 1 → 0 ≤ p3 ∧ p3 < z26)) (h2 : (z33 = 0 → p3 < 0 ∨ z26 ≤ p3)) (h3 : 0 ≤ p3 ∧ p3 ≤ 9) (h4 : 0 ≤ z26 ∧ z26 ≤ 10) (h5 : 1 ≤ z33 ∧ z33 ≤ 1) : 1 ≤ z26 ∧ z26 ≤ 10 := by omega
theorem vc_X12_heard_17 {p4 z45 : Int} (h0 : ¬ z45 = 0) (h1 : (z45 = 1 → 0 ≤ p4 ∧ p4 ≤ 1)) (h2 : (z45 = 0 → p4 < 0 ∨ 1 < p4)) (h3 : (-2147483648) ≤ p4 ∧ p4 ≤ 2147483647) (h4 : 0 ≤ z45 ∧ z45 ≤ 1) : 1 ≤ z45 ∧ z45 ≤ 1 := by omega
theorem vc_X12_heard_18 {p4 z45 : Int} (h0 : (z45 = 1 → 0 ≤ p4 ∧ p4 ≤ 1)) (h1 : (z45 = 0 → p4 < 0 ∨ 1 < p4)) (h2 : ¬ z45 = 0) (h3 : (-2147483648) ≤ p4 ∧ p4 ≤ 2147483647) (h4 : 1 ≤ z45 ∧ z45 ≤ 1) : z45 = 1 := by omega
theorem vc_X12_heard_19 {p4 z45 : Int} (h0 : 0 ≤ p4 ∧ p4 ≤ 1) (h1 : (z45 = 1 → 0 ≤ p4 ∧ p4 ≤ 1)) (h2 : (z45 = 0 → p4 < 0 ∨ 1 < p4)) (h3 : (-2147483648) ≤ p4 ∧ p4 ≤ 2147483647) (h4 : 1 ≤ z45 ∧ z45 ≤ 1) : 0 ≤ p4 ∧ p4 ≤ 1 := by omega
theorem vc_X12_heard_20 {p1 p2 p3 z1 z19 z26 z33 z54 z57 z8 : Int} (h0 : z54 = 20 * p1 + 10 * p2 + p3) (h1 : (z8 = 1 → 0 ≤ p1 ∧ p1 < z1)) (h2 : (z8 = 0 → p1 < 0 ∨ z1 ≤ p1)) (h3 : 0 ≤ p1 ∧ p1 < z1) (h4 : (z19 = 1 → 0 ≤ p2 ∧ p2 ≤ 1)) (h5 : (z19 = 0 → p2 < 0 ∨ 1 < p2)) (h6 : 0 ≤ p2 ∧ p2 ≤ 1) (h7 : (z33 = 1 → 0 ≤ p3 ∧ p3 < z26)) (h8 : (z33 = 0 → p3 < 0 ∨ z26 ≤ p3)) (h9 : 0 ≤ p3 ∧ p3 < z26) (h10 : 0 ≤ p1 ∧ p1 ≤ 19) (h11 : 0 ≤ p3 ∧ p3 ≤ 9) (h12 : 0 ≤ z1 ∧ z1 ≤ 20) (h13 : 1 ≤ z19 ∧ z19 ≤ 1) (h14 : 1 ≤ z26 ∧ z26 ≤ 10) (h15 : 1 ≤ z33 ∧ z33 ≤ 1) (h16 : 0 ≤ z54 ∧ z54 ≤ 449) (h17 : 130 ≤ z57 ∧ z57 ≤ 530) (h18 : 1 ≤ z8 ∧ z8 ≤ 1) : 0 ≤ (40 * (z57 + z54)) := by omega
theorem vc_X12_heard_21 {p1 p2 p3 z1 z19 z26 z33 z54 z57 z8 : Int} (h0 : z54 = 20 * p1 + 10 * p2 + p3) (h1 : (z8 = 1 → 0 ≤ p1 ∧ p1 < z1)) (h2 : (z8 = 0 → p1 < 0 ∨ z1 ≤ p1)) (h3 : 0 ≤ p1 ∧ p1 < z1) (h4 : (z19 = 1 → 0 ≤ p2 ∧ p2 ≤ 1)) (h5 : (z19 = 0 → p2 < 0 ∨ 1 < p2)) (h6 : 0 ≤ p2 ∧ p2 ≤ 1) (h7 : (z33 = 1 → 0 ≤ p3 ∧ p3 < z26)) (h8 : (z33 = 0 → p3 < 0 ∨ z26 ≤ p3)) (h9 : 0 ≤ p3 ∧ p3 < z26) (h10 : 0 ≤ p1 ∧ p1 ≤ 19) (h11 : 0 ≤ p3 ∧ p3 ≤ 9) (h12 : 0 ≤ z1 ∧ z1 ≤ 20) (h13 : 1 ≤ z19 ∧ z19 ≤ 1) (h14 : 1 ≤ z26 ∧ z26 ≤ 10) (h15 : 1 ≤ z33 ∧ z33 ≤ 1) (h16 : 0 ≤ z54 ∧ z54 ≤ 449) (h17 : 130 ≤ z57 ∧ z57 ≤ 530) (h18 : 1 ≤ z8 ∧ z8 ≤ 1) : (40 * (z57 + z54)) % 40 = 0 := by omega
theorem vc_X12_heard_22 {z60 z68 : Int} (h0 : ¬ z68 = 0) (h1 : (z68 = 1 → 0 ≤ z60)) (h2 : (z68 = 0 → z60 < 0)) (h3 : (-1) ≤ z60 ∧ z60 ≤ 9) (h4 : 0 ≤ z68 ∧ z68 ≤ 1) : 1 ≤ z68 ∧ z68 ≤ 1 := by omega
theorem vc_X12_heard_23 {z60 z68 : Int} (h0 : (z68 = 1 → 0 ≤ z60)) (h1 : (z68 = 0 → z60 < 0)) (h2 : ¬ z68 = 0) (h3 : (-1) ≤ z60 ∧ z60 ≤ 9) (h4 : 1 ≤ z68 ∧ z68 ≤ 1) : z68 = 1 := by omega
theorem vc_X12_heard_24 {z60 z68 : Int} (h0 : 0 ≤ z60) (h1 : (z68 = 1 → 0 ≤ z60)) (h2 : (z68 = 0 → z60 < 0)) (h3 : (-1) ≤ z60 ∧ z60 ≤ 9) (h4 : 1 ≤ z68 ∧ z68 ≤ 1) : 0 ≤ z60 ∧ z60 ≤ 9 := by omega
theorem vc_X12_heard_25 {p1 p2 p3 z1 z19 z26 z33 z54 z57 z8 : Int} (h0 : z54 = 20 * p1 + 10 * p2 + p3) (h1 : (z8 = 1 → 0 ≤ p1 ∧ p1 < z1)) (h2 : (z8 = 0 → p1 < 0 ∨ z1 ≤ p1)) (h3 : 0 ≤ p1 ∧ p1 < z1) (h4 : (z19 = 1 → 0 ≤ p2 ∧ p2 ≤ 1)) (h5 : (z19 = 0 → p2 < 0 ∨ 1 < p2)) (h6 : 0 ≤ p2 ∧ p2 ≤ 1) (h7 : (z33 = 1 → 0 ≤ p3 ∧ p3 < z26)) (h8 : (z33 = 0 → p3 < 0 ∨ z26 ≤ p3)) (h9 : 0 ≤ p3 ∧ p3 < z26) (h10 : 0 ≤ p1 ∧ p1 ≤ 19) (h11 : 0 ≤ p3 ∧ p3 ≤ 9) (h12 : 0 ≤ z1 ∧ z1 ≤ 20) (h13 : 1 ≤ z19 ∧ z19 ≤ 1) (h14 : 1 ≤ z26 ∧ z26 ≤ 10) (h15 : 1 ≤ z33 ∧ z33 ≤ 1) (h16 : 0 ≤ z54 ∧ z54 ≤ 449) (h17 : 130 ≤ z57 ∧ z57 ≤ 530) (h18 : 1 ≤ z8 ∧ z8 ≤ 1) : (z57 + z54) < 0 ∨ 0 < (z57 + z54) := by omega
theorem vc_X12_heard_26  : (0 : Int) ≤ ((40 : Int) * (0 : Int)) := by omega
theorem vc_X12_heard_27  : ((40 : Int) * (0 : Int)) % (40 : Int) = (0 : Int) := by omega
theorem vc_X12_heard_28 {z60 z68 z77 : Int} (h0 : z77 = z60) (h1 : (z68 = 1 → 0 ≤ z60)) (h2 : (z68 = 0 → z60 < 0)) (h3 : 0 ≤ z60) (h4 : 0 ≤ z60 ∧ z60 ≤ 9) (h5 : 1 ≤ z68 ∧ z68 ≤ 1) (h6 : (-1) ≤ z77 ∧ z77 ≤ 9) : 0 ≤ z77 ∧ z77 ≤ 9 := by omega
theorem vc_X12_heard_29 {p4 z45 : Int} (h0 : ¬ p4 = 0) (h1 : (z45 = 1 → 0 ≤ p4 ∧ p4 ≤ 1)) (h2 : (z45 = 0 → p4 < 0 ∨ 1 < p4)) (h3 : 0 ≤ p4 ∧ p4 ≤ 1) (h4 : 1 ≤ z45 ∧ z45 ≤ 1) : 1 ≤ p4 ∧ p4 ≤ 1 := by omega
theorem vc_X12_heard_30 {p1 p2 p3 z1 z19 z26 z33 z54 z8 : Int} (h0 : z54 = 20 * p1 + 10 * p2 + p3) (h1 : (z8 = 1 → 0 ≤ p1 ∧ p1 < z1)) (h2 : (z8 = 0 → p1 < 0 ∨ z1 ≤ p1)) (h3 : 0 ≤ p1 ∧ p1 < z1) (h4 : (z19 = 1 → 0 ≤ p2 ∧ p2 ≤ 1)) (h5 : (z19 = 0 → p2 < 0 ∨ 1 < p2)) (h6 : 0 ≤ p2 ∧ p2 ≤ 1) (h7 : (z33 = 1 → 0 ≤ p3 ∧ p3 < z26)) (h8 : (z33 = 0 → p3 < 0 ∨ z26 ≤ p3)) (h9 : 0 ≤ p3 ∧ p3 < z26) (h10 : 0 ≤ p1 ∧ p1 ≤ 19) (h11 : 0 ≤ p3 ∧ p3 ≤ 9) (h12 : 0 ≤ z1 ∧ z1 ≤ 20) (h13 : 1 ≤ z19 ∧ z19 ≤ 1) (h14 : 1 ≤ z26 ∧ z26 ≤ 10) (h15 : 1 ≤ z33 ∧ z33 ≤ 1) (h16 : 0 ≤ z54 ∧ z54 ≤ 449) (h17 : 1 ≤ z8 ∧ z8 ≤ 1) : 0 ≤ z54 ∧ z54 < 400 := by omega
theorem vc_X12_heard_31 {p4 z45 : Int} (h0 : p4 = 0) (h1 : (z45 = 1 → 0 ≤ p4 ∧ p4 ≤ 1)) (h2 : (z45 = 0 → p4 < 0 ∨ 1 < p4)) (h3 : 0 ≤ p4 ∧ p4 ≤ 1) (h4 : 1 ≤ z45 ∧ z45 ≤ 1) : 0 ≤ p4 ∧ p4 ≤ 0 := by omega
theorem vc_X12_heard_32 {z60 z68 : Int} (h0 : z68 = 0) (h1 : (z68 = 1 → 0 ≤ z60)) (h2 : (z68 = 0 → z60 < 0)) (h3 : (-1) ≤ z60 ∧ z60 ≤ 9) (h4 : 0 ≤ z68 ∧ z68 ≤ 1) : 0 ≤ z68 ∧ z68 ≤ 0 := by omega
theorem vc_X12_heard_33 {z60 z68 : Int} (h0 : (z68 = 1 → 0 ≤ z60)) (h1 : (z68 = 0 → z60 < 0)) (h2 : z68 = 0) (h3 : (-1) ≤ z60 ∧ z60 ≤ 9) (h4 : 0 ≤ z68 ∧ z68 ≤ 0) : z68 = 0 := by omega
theorem vc_X12_heard_34 {z60 z68 : Int} (h0 : z60 < 0) (h1 : (z68 = 1 → 0 ≤ z60)) (h2 : (z68 = 0 → z60 < 0)) (h3 : (-1) ≤ z60 ∧ z60 ≤ 9) (h4 : 0 ≤ z68 ∧ z68 ≤ 0) : (-1) ≤ z60 ∧ z60 ≤ (-1) := by omega
theorem vc_X12_heard_35 {p4 z45 : Int} (h0 : z45 = 0) (h1 : (z45 = 1 → 0 ≤ p4 ∧ p4 ≤ 1)) (h2 : (z45 = 0 → p4 < 0 ∨ 1 < p4)) (h3 : (-2147483648) ≤ p4 ∧ p4 ≤ 2147483647) (h4 : 0 ≤ z45 ∧ z45 ≤ 1) : 0 ≤ z45 ∧ z45 ≤ 0 := by omega
theorem vc_X12_heard_36 {p4 z45 : Int} (h0 : (z45 = 1 → 0 ≤ p4 ∧ p4 ≤ 1)) (h1 : (z45 = 0 → p4 < 0 ∨ 1 < p4)) (h2 : z45 = 0) (h3 : (-2147483648) ≤ p4 ∧ p4 ≤ 2147483647) (h4 : 0 ≤ z45 ∧ z45 ≤ 0) : z45 = 0 := by omega
set_option maxRecDepth 4000 in
set_option maxHeartbeats 4000000 in
theorem c_X12_heard {l : Launch} {D : va_G} {c : Nat → ClassId} {H0 : Heap} {sa : Nat × Nat × (Nat → Int32)} {w : mW} {μ : mM} (hw : mWF w) (hT : mT w μ) {p1 : Int} (hp1 : (-2147483648) ≤ p1 ∧ p1 ≤ 2147483647) {p2 : Int} (hp2 : (-2147483648) ≤ p2 ∧ p2 ≤ 2147483647) {p3 : Int} (hp3 : (-2147483648) ≤ p3 ∧ p3 ≤ 2147483647) {p4 : Int} (hp4 : (-2147483648) ≤ p4 ∧ p4 ≤ 2147483647) : sC (gG l D c H0 sa) mX12_heard 3 0 0 [.ref 106, iv p1, iv p2, iv p3, iv p4] (mk w μ) (qI w [106070, 126999] μ (fun z μ1 => ((-2147483648) ≤ z ∧ z ≤ 2147483647) ∧ True)) := by
  refine sC.of rfl (by decide) (le_t rfl) ?_
  refine mr_lvE (lv' := [(0, .ref 106), (1, iv p1), (2, iv p2), (3, iv p3), (4, iv p4)]) rfl ?_
  refine sv_aload_n dX12_heard_0 rfl rfl ?_
  refine mr_iload_n (z := p1) dX12_heard_1 rfl rfl ?_
  obtain ⟨z1, q2⟩ : ∃ z, μ 106 6 = z := ⟨_, rfl⟩
  have h3 : (0 ≤ z1 ∧ z1 ≤ 20) := by rw [← q2]; exact hT 106 106 (A_106 hw) 6
  refine mr_cVP (c_X12_isTie hw hT hp1 q2) (gOk _ _ _ _ _) dX12_heard_2 (tX12_isTie _ _ _ _ _) ⟨wV_X12_isTie, wL_X12_isTie⟩ wM_X12_66 (gCX12 _ _ _ _ _) rfl (A_106 hw) rfl ⟨le_t rfl, le_t rfl⟩ ⟨le_t rfl, le_t rfl⟩ rfl (le_t rfl) fun z8 h7 => ?_
  refine mr_if_eq (tgt := 35) dX12_heard_5 (by decide) (r32 h7.1 rfl) (fun h9 => ?_) (fun h9 => ?_)
  · have h10 : 0 ≤ z8 ∧ z8 ≤ 0 := (vc_X12_heard_1 h9 h7.2.1 h7.2.2.1 hp1 h3 h7.1)
    have h11 : p1 < 0 ∨ z1 ≤ p1 := (h7.2.2.1 (vc_X12_heard_2 h7.2.1 h7.2.2.1 h9 hp1 h3 h10))
    refine mr_iconst (z := (-1)) dX12_heard_35 ?_
    exact mr_iret dX12_heard_36 rfl (le_t rfl) (le_t rfl) hT mF.refl ⟨(rW (c := (-2147483648)) (d := 2147483647) (rR (x := (-1))) rfl), trivial⟩
  have h12 : 1 ≤ z8 ∧ z8 ≤ 1 := (vc_X12_heard_3 h9 h7.2.1 h7.2.2.1 hp1 h3 h7.1)
  have h13 : 0 ≤ p1 ∧ p1 < z1 := (h7.2.1 (vc_X12_heard_4 h7.2.1 h7.2.2.1 h9 hp1 h3 h12))
  have h14 : 0 ≤ p1 ∧ p1 ≤ 19 := (vc_X12_heard_5 h13 h7.2.1 h7.2.2.1 hp1 h3 h12)
  refine mr_iload_n (z := p2) dX12_heard_8 rfl rfl ?_
  refine mr_iconst (z := 0) dX12_heard_9 ?_
  refine mr_iconst (z := 1) dX12_heard_10 ?_
  refine mr_cSP (c_X12_in hw hT hp2 (rW (c := (-2147483648)) (d := 2147483647) (rR (x := 0)) rfl) (rW (c := (-2147483648)) (d := 2147483647) (rR (x := 1)) rfl)) (gOk _ _ _ _ _) dX12_heard_11 (tX12_in _ _ _ _ _) wS_X12_in wM_X12_18 ⟨le_t rfl, le_t rfl⟩ ⟨le_t rfl, le_t rfl⟩ rfl (le_t rfl) fun z19 h18 => ?_
  refine mr_if_eq (tgt := 35) dX12_heard_14 (by decide) (r32 h18.1 rfl) (fun h20 => ?_) (fun h20 => ?_)
  · have h21 : 0 ≤ z19 ∧ z19 ≤ 0 := (vc_X12_heard_6 h20 h18.2.1 h18.2.2.1 hp2 h18.1)
    have h22 : p2 < 0 ∨ 1 < p2 := (h18.2.2.1 (vc_X12_heard_7 h18.2.1 h18.2.2.1 h20 hp2 h21))
    refine mr_iconst (z := (-1)) dX12_heard_35 ?_
    exact mr_iret dX12_heard_36 rfl (le_t rfl) (le_t rfl) hT mF.refl ⟨(rW (c := (-2147483648)) (d := 2147483647) (rR (x := (-1))) rfl), trivial⟩
  have h23 : 1 ≤ z19 ∧ z19 ≤ 1 := (vc_X12_heard_8 h20 h18.2.1 h18.2.2.1 hp2 h18.1)
  have h24 : 0 ≤ p2 ∧ p2 ≤ 1 := (h18.2.1 (vc_X12_heard_9 h18.2.1 h18.2.2.1 h20 hp2 h23))
  have h25 : 0 ≤ p2 ∧ p2 ≤ 1 := (vc_X12_heard_10 h24 h18.2.1 h18.2.2.1 hp2 h23)
  refine sv_aload_n dX12_heard_17 rfl rfl ?_
  refine mr_iload_n (z := p3) dX12_heard_18 rfl rfl ?_
  obtain ⟨z26, q27⟩ : ∃ z, μ 106 2 = z := ⟨_, rfl⟩
  have h28 : (0 ≤ z26 ∧ z26 ≤ 10) := by rw [← q27]; exact hT 106 106 (A_106 hw) 2
  refine mr_cVP (c_X12_isPrefix hw hT hp3 q27) (gOk _ _ _ _ _) dX12_heard_19 (tX12_isPrefix _ _ _ _ _) ⟨wV_X12_isPrefix, wL_X12_isPrefix⟩ wM_X12_92 (gCX12 _ _ _ _ _) rfl (A_106 hw) rfl ⟨le_t rfl, le_t rfl⟩ ⟨le_t rfl, le_t rfl⟩ rfl (le_t rfl) fun z33 h32 => ?_
  refine mr_if_eq (tgt := 35) dX12_heard_22 (by decide) (r32 h32.1 rfl) (fun h34 => ?_) (fun h34 => ?_)
  · have h35 : 0 ≤ z33 ∧ z33 ≤ 0 := (vc_X12_heard_11 h34 h32.2.1 h32.2.2.1 hp3 h28 h32.1)
    have h36 : p3 < 0 ∨ z26 ≤ p3 := (h32.2.2.1 (vc_X12_heard_12 h32.2.1 h32.2.2.1 h34 hp3 h28 h35))
    refine mr_iconst (z := (-1)) dX12_heard_35 ?_
    exact mr_iret dX12_heard_36 rfl (le_t rfl) (le_t rfl) hT mF.refl ⟨(rW (c := (-2147483648)) (d := 2147483647) (rR (x := (-1))) rfl), trivial⟩
  have h37 : 1 ≤ z33 ∧ z33 ≤ 1 := (vc_X12_heard_13 h34 h32.2.1 h32.2.2.1 hp3 h28 h32.1)
  have h38 : 0 ≤ p3 ∧ p3 < z26 := (h32.2.1 (vc_X12_heard_14 h32.2.1 h32.2.2.1 h34 hp3 h28 h37))
  have h39 : 0 ≤ p3 ∧ p3 ≤ 9 := (vc_X12_heard_15 h38 h32.2.1 h32.2.2.1 hp3 h28 h37)
  have h40 : 1 ≤ z26 ∧ z26 ≤ 10 := (vc_X12_heard_16 h38 h32.2.1 h32.2.2.1 h39 h28 h37)
  refine mr_iload (z := p4) dX12_heard_25 rfl ?_
  refine mr_iconst (z := 0) dX12_heard_27 ?_
  refine mr_iconst (z := 1) dX12_heard_28 ?_
  refine mr_cSP (c_X12_in hw hT hp4 (rW (c := (-2147483648)) (d := 2147483647) (rR (x := 0)) rfl) (rW (c := (-2147483648)) (d := 2147483647) (rR (x := 1)) rfl)) (gOk _ _ _ _ _) dX12_heard_29 (tX12_in _ _ _ _ _) wS_X12_in wM_X12_18 ⟨le_t rfl, le_t rfl⟩ ⟨le_t rfl, le_t rfl⟩ rfl (le_t rfl) fun z45 h44 => ?_
  refine mr_if_ne (tgt := 37) dX12_heard_32 (by decide) (r32 h44.1 rfl) (fun h46 => ?_) (fun h46 => ?_)
  · have h47 : 1 ≤ z45 ∧ z45 ≤ 1 := (vc_X12_heard_17 h46 h44.2.1 h44.2.2.1 hp4 h44.1)
    have h48 : 0 ≤ p4 ∧ p4 ≤ 1 := (h44.2.1 (vc_X12_heard_18 h44.2.1 h44.2.2.1 h46 hp4 h47))
    have h49 : 0 ≤ p4 ∧ p4 ≤ 1 := (vc_X12_heard_19 h48 h44.2.1 h44.2.2.1 hp4 h47)
    refine mr_iload_n (z := p1) dX12_heard_37 rfl rfl ?_
    refine mr_iload_n (z := p2) dX12_heard_38 rfl rfl ?_
    refine mr_iload_n (z := p3) dX12_heard_39 rfl rfl ?_
    refine mr_cSP (c_X12_slot hw hT (rW (c := 0) (d := 20) h14 rfl) (rW (c := 0) (d := 2) h25 rfl) h39) (gOk _ _ _ _ _) dX12_heard_40 (tX12_slot _ _ _ _ _) wS_X12_slot wM_X12_545 ⟨le_t rfl, le_t rfl⟩ ⟨le_t rfl, le_t rfl⟩ rfl (le_t rfl) fun z54 h53 => ?_
    refine mr_istore (lv' := [(5, iv z54), (0, .ref 106), (1, iv p1), (2, iv p2), (3, iv p3), (4, iv p4)]) dX12_heard_43 (by decide) rfl ?_
    refine mr_iload (z := p4) dX12_heard_45 rfl ?_
    have J59 : ∀ (z57 : Int), (130 ≤ z57 ∧ z57 ≤ 530) → sV (gG l D c H0 sa) mX12_heard (sRm 3 0 0) (sZ (gG l D c H0 sa) 0 0 (qI w [106070, 126999] μ (fun z μ1 => ((-2147483648) ≤ z ∧ z ≤ 2147483647) ∧ True))) 59 [(0, .ref 106), (4, iv p4), (5, iv z54)] [iv z57] (mk w μ) 0 0 := by
      intro z57 h58
      refine mr_iload (z := z54) dX12_heard_59 rfl ?_
      refine mr_iadd (x := z57) (y := z54) dX12_heard_61 ?_
      refine mr_istore (lv' := [(6, iv (z57 + z54)), (0, .ref 106), (4, iv p4), (5, iv z54)]) dX12_heard_62 (by decide) rfl ?_
      refine sv_aload_n dX12_heard_64 rfl rfl ?_
      refine mr_iload (z := (z57 + z54)) dX12_heard_65 rfl ?_
      obtain ⟨z60, q61⟩ : ∃ z, μ 126 (40 * (z57 + z54)).toNat = z := ⟨_, rfl⟩
      have h62 := rt7 hT (A_126 hw) (vc_X12_heard_20 h53.2.1 h7.2.1 h7.2.2.1 h13 h18.2.1 h18.2.2.1 h24 h32.2.1 h32.2.2.1 h38 h14 h39 h3 h23 h40 h37 h53.1 h58 h12) q61
      have h63 : (-1) ≤ z60 ∧ z60 ≤ 9 := h62.2.1 (vc_X12_heard_21 h53.2.1 h7.2.1 h7.2.2.1 h13 h18.2.1 h18.2.2.1 h24 h32.2.1 h32.2.2.1 h38 h14 h39 h3 h23 h40 h37 h53.1 h58 h12)
      refine mr_cVP (c_X12_isThere hw hT (rW (c := 0) (d := 2099) (rAdd (e := 130) (f := 979) h58 h53.1 rfl) rfl) q61) (gOk _ _ _ _ _) dX12_heard_67 (tX12_isThere _ _ _ _ _) ⟨wV_X12_isThere, wL_X12_isThere⟩ wM_X12_151 (gCX12 _ _ _ _ _) rfl (A_106 hw) rfl ⟨le_t rfl, le_t rfl⟩ ⟨le_t rfl, le_t rfl⟩ rfl (le_t rfl) fun z68 h67 => ?_
      refine mr_if_ne (tgt := 76) dX12_heard_70 (by decide) (r32 h67.1 rfl) (fun h69 => ?_) (fun h69 => ?_)
      · have h70 : 1 ≤ z68 ∧ z68 ≤ 1 := (vc_X12_heard_22 h69 h67.2.1 h67.2.2.1 h63 h67.1)
        have h71 : 0 ≤ z60 := (h67.2.1 (vc_X12_heard_23 h67.2.1 h67.2.2.1 h69 h63 h70))
        have h72 : 0 ≤ z60 ∧ z60 ≤ 9 := (vc_X12_heard_24 h71 h67.2.1 h67.2.2.1 h63 h70)
        refine sv_aload_n dX12_heard_76 rfl rfl ?_
        refine mr_iload (z := (z57 + z54)) dX12_heard_77 rfl ?_
        refine mr_iconst (z := 0) dX12_heard_79 ?_
        refine mr_cVV (c_X12_copy hw hT (rW (c := 0) (d := 2099) (rAdd (e := 130) (f := 979) h58 h53.1 rfl) rfl) (rW (c := 0) (d := 2099) (rR (x := 0)) rfl) q61 (vc_X12_heard_25 h53.2.1 h7.2.1 h7.2.2.1 h13 h18.2.1 h18.2.2.1 h24 h32.2.1 h32.2.2.1 h38 h14 h39 h3 h23 h40 h37 h53.1 h58 h12)) (gOk _ _ _ _ _) dX12_heard_80 (tX12_copy _ _ _ _ _) ⟨wV_X12_copy, wL_X12_copy⟩ wM_X12_559 (gCX12 _ _ _ _ _) rfl (A_106 hw) rfl ⟨le_t rfl, le_t rfl⟩ ⟨le_t rfl, le_t rfl⟩ rfl (le_t rfl) fun μ73 T74 F75 h76 => ?_
        obtain ⟨z77, q78, h79⟩ := h76
        have h80 := rt7 T74 (A_126 hw) vc_X12_heard_26 q78
        have h81 : (-1) ≤ z77 ∧ z77 ≤ 9 := h80.2.1 vc_X12_heard_27
        have h82 : 0 ≤ z77 ∧ z77 ≤ 9 := (vc_X12_heard_28 h79.2.1 h67.2.1 h67.2.2.1 h71 h72 h70 h81)
        refine sv_aload_n dX12_heard_83 rfl rfl ?_
        refine mr_iconst (z := 1) dX12_heard_84 ?_
        refine pf_X12_70 dX12_heard_85 wF_X12_411 (A_106 hw) T74 (rW (c := 0) (d := 1) (rR (x := 1)) rfl) fun μ83 u84 T85 => ?_
        refine mr_iload (z := p4) dX12_heard_88 rfl ?_
        refine mr_if_ne (tgt := 103) dX12_heard_90 (by decide) (r32 h49 rfl) (fun h94 => ?_) (fun h94 => ?_)
        · have h95 : 1 ≤ p4 ∧ p4 ≤ 1 := (vc_X12_heard_29 h94 h44.2.1 h44.2.2.1 h48 h47)
          refine sv_aload_n dX12_heard_103 rfl rfl ?_
          refine gf_X12_76 dX12_heard_104 wF_X12_430 (A_106 hw) T85 ?_
          refine mr_iload (z := z54) dX12_heard_107 rfl ?_
          refine la_156 dX12_heard_109 (A_156 hw) T85 (vc_X12_heard_30 h53.2.1 h7.2.1 h7.2.2.1 h13 h18.2.1 h18.2.2.1 h24 h32.2.1 h32.2.2.1 h38 h14 h39 h3 h23 h40 h37 h53.1 h12) fun z96 q97 h98 => ?_
          exact mr_iret dX12_heard_110 rfl (le_t rfl) (le_t rfl) T85 (mF.up (mF.call mF.refl F75 rfl) (A_106 hw) u84 rfl) ⟨(rW (c := (-2147483648)) (d := 2147483647) h98 rfl), trivial⟩
        have h99 : 0 ≤ p4 ∧ p4 ≤ 0 := (vc_X12_heard_31 h94 h44.2.1 h44.2.2.1 h48 h47)
        refine sv_aload_n dX12_heard_93 rfl rfl ?_
        refine gf_X12_74 dX12_heard_94 wF_X12_424 (A_106 hw) T85 ?_
        refine mr_iload (z := z54) dX12_heard_97 rfl ?_
        refine la_154 dX12_heard_99 (A_154 hw) T85 (vc_X12_heard_30 h53.2.1 h7.2.1 h7.2.2.1 h13 h18.2.1 h18.2.2.1 h24 h32.2.1 h32.2.2.1 h38 h14 h39 h3 h23 h40 h37 h53.1 h12) fun z100 q101 h102 => ?_
        refine sv_goto (tgt := 110) dX12_heard_100 (by decide) ?_
        exact mr_iret dX12_heard_110 rfl (le_t rfl) (le_t rfl) T85 (mF.up (mF.call mF.refl F75 rfl) (A_106 hw) u84 rfl) ⟨(rW (c := (-2147483648)) (d := 2147483647) h102 rfl), trivial⟩
      have h103 : 0 ≤ z68 ∧ z68 ≤ 0 := (vc_X12_heard_32 h69 h67.2.1 h67.2.2.1 h63 h67.1)
      have h104 : z60 < 0 := (h67.2.2.1 (vc_X12_heard_33 h67.2.1 h67.2.2.1 h69 h63 h103))
      have h105 : (-1) ≤ z60 ∧ z60 ≤ (-1) := (vc_X12_heard_34 h104 h67.2.1 h67.2.2.1 h63 h103)
      refine mr_ldc (z := (-99999999)) dX12_heard_73 wG_X12_29 (by decide) ?_
      exact mr_iret dX12_heard_75 rfl (le_t rfl) (le_t rfl) hT mF.refl ⟨(rW (c := (-2147483648)) (d := 2147483647) (rR (x := (-99999999))) rfl), trivial⟩
    refine mr_if_ne (tgt := 56) dX12_heard_47 (by decide) (r32 h49 rfl) (fun h106 => ?_) (fun h106 => ?_)
    · have h107 : 1 ≤ p4 ∧ p4 ≤ 1 := (vc_X12_heard_29 h106 h44.2.1 h44.2.2.1 h48 h47)
      refine mr_sipush (z := 530) dX12_heard_56 (by decide) ?_
      refine mr_lvS (lv' := [(0, .ref 106), (4, iv p4), (5, iv z54)]) (List.forall_mem_cons.mpr ⟨rfl, List.forall_mem_cons.mpr ⟨rfl, List.forall_mem_cons.mpr ⟨rfl, fun _ h => absurd h List.not_mem_nil⟩⟩⟩) ?_
      exact J59 530 (rW (c := 130) (d := 530) (rR (x := 530)) rfl)
    have h108 : 0 ≤ p4 ∧ p4 ≤ 0 := (vc_X12_heard_31 h106 h44.2.1 h44.2.2.1 h48 h47)
    refine mr_sipush (z := 130) dX12_heard_50 (by decide) ?_
    refine sv_goto (tgt := 59) dX12_heard_53 (by decide) ?_
    refine mr_lvS (lv' := [(0, .ref 106), (4, iv p4), (5, iv z54)]) (List.forall_mem_cons.mpr ⟨rfl, List.forall_mem_cons.mpr ⟨rfl, List.forall_mem_cons.mpr ⟨rfl, fun _ h => absurd h List.not_mem_nil⟩⟩⟩) ?_
    exact J59 130 (rW (c := 130) (d := 530) (rR (x := 130)) rfl)
  have h109 : 0 ≤ z45 ∧ z45 ≤ 0 := (vc_X12_heard_35 h46 h44.2.1 h44.2.2.1 hp4 h44.1)
  have h110 : p4 < 0 ∨ 1 < p4 := (h44.2.2.1 (vc_X12_heard_36 h44.2.1 h44.2.2.1 h46 hp4 h109))
  refine mr_iconst (z := (-1)) dX12_heard_35 ?_
  exact mr_iret dX12_heard_36 rfl (le_t rfl) (le_t rfl) hT mF.refl ⟨(rW (c := (-2147483648)) (d := 2147483647) (rR (x := (-1))) rfl), trivial⟩
theorem vc_X12_octet1_1 {z1 : Int} (h0 : 0 ≤ z1 ∧ z1 ≤ 300) : 0 ≤ z1 ∧ z1 < 300 := by omega
theorem vc_X12_octet1_2 {z1 : Int} (h0 : 0 ≤ z1 ∧ z1 ≤ 300) : 0 ≤ (z1 + 1) ∧ (z1 + 1) ≤ 300 := by omega
set_option maxRecDepth 4000 in
set_option maxHeartbeats 4000000 in
theorem c_X12_octet1 {l : Launch} {D : va_G} {c : Nat → ClassId} {H0 : Heap} {sa : Nat × Nat × (Nat → Int32)} {w : mW} {μ : mM} (hw : mWF w) (hT : mT w μ) {p1 : Int} (hp1 : (-2147483648) ≤ p1 ∧ p1 ≤ 2147483647) : sC (gG l D c H0 sa) mX12_octet1 1 0 0 [.ref 106, iv p1] (mk w μ) (qV w [106104, 174999] μ (fun μ1 => True)) := by
  refine sC.of rfl (by decide) (le_t rfl) ?_
  refine mr_lvE (lv' := [(0, .ref 106), (1, iv p1)]) rfl ?_
  refine sv_aload_n dX12_octet1_0 rfl rfl ?_
  refine gf_X12_103 dX12_octet1_1 wF_X12_484 (A_106 hw) hT ?_
  refine sv_aload_n dX12_octet1_4 rfl rfl ?_
  refine gf_X12_104 dX12_octet1_5 wF_X12_671 (A_106 hw) hT fun z1 q2 h3 => ?_
  refine mr_iload_n (z := p1) dX12_octet1_8 rfl rfl ?_
  refine mr_sipush (z := 255) dX12_octet1_9 (by decide) ?_
  refine mr_iand (x := p1) (y := 255) dX12_octet1_12 ?_
  refine mr_gen (P := fun z => 0 ≤ z ∧ z ≤ 255) (rAndR (rR (x := 255)) rfl) fun z4 q5 h6 => ?_
  refine ss_174 dX12_octet1_13 (A_174 hw) hT (vc_X12_octet1_1 h3) (rW (c := (-2147483648)) (d := 2147483647) h6 rfl) fun μ7 u8 T9 => ?_
  refine sv_aload_n dX12_octet1_14 rfl rfl ?_
  refine sv_dup dX12_octet1_15 rfl ?_
  refine gk_X12_104 dX12_octet1_16 wF_X12_671 (A_106 hw) (u8.f (Or.inl (mAt.ne (A_174 hw) (A_106 hw) rfl)) q2) ?_
  refine mr_iconst (z := 1) dX12_octet1_19 ?_
  refine mr_iadd (x := z1) (y := 1) dX12_octet1_20 ?_
  refine pf_X12_104 dX12_octet1_21 wF_X12_671 (A_106 hw) T9 (vc_X12_octet1_2 h3) fun μ10 u11 T12 => ?_
  exact mr_vret dX12_octet1_24 rfl (le_t rfl) (le_t rfl) T12 (mF.up (mF.up mF.refl (A_174 hw) u8 rfl) (A_106 hw) u11 rfl) trivial
theorem vc_X12_octet4_1 {z70 : Int} (h0 : (z70 - (-9)) < ((0 : Nat) : Int)) (h1 : (-8) ≤ z70 ∧ z70 ≤ 24) : False := by omega
theorem vc_X12_octet4_2 {z70 : Int} (h0 : z70 < 0) (h1 : (-8) ≤ z70 ∧ z70 ≤ 24) : (-8) ≤ z70 ∧ z70 ≤ (-1) := by omega
theorem vc_X12_octet4_3 {z70 : Int} (h0 : 0 ≤ z70) (h1 : (-8) ≤ z70 ∧ z70 ≤ 24) : 0 ≤ z70 ∧ z70 ≤ 24 := by omega
theorem vc_X12_octet4_4 {N z70 : Int} (h0 : (z70 - (-9)) < N + 1) (h1 : 0 ≤ z70) (h2 : 0 ≤ z70 ∧ z70 ≤ 24) : ((z70 + (-8)) - (-9)) < N := by omega
theorem vc_X12_octet4_5  : (24 - (-9)) < ((34 : Nat) : Int) := by omega
set_option maxRecDepth 4000 in
set_option maxHeartbeats 4000000 in
theorem c_X12_octet4 {l : Launch} {D : va_G} {c : Nat → ClassId} {H0 : Heap} {sa : Nat × Nat × (Nat → Int32)} {w : mW} {μ : mM} (hw : mWF w) (hT : mT w μ) {p1 : Int} (hp1 : (-2147483648) ≤ p1 ∧ p1 ≤ 2147483647) : sC (gG l D c H0 sa) mX12_octet4 2 0 0 [.ref 106, iv p1] (mk w μ) (qV w [106104, 174999] μ (fun μ1 => True)) := by
  refine sC.of rfl (by decide) (le_t rfl) ?_
  refine mr_lvE (lv' := [(0, .ref 106), (1, iv p1)]) rfl ?_
  refine mr_bipush (z := 24) dX12_octet4_0 (by decide) ?_
  refine mr_istore_n (lv' := [(2, iv 24), (0, .ref 106), (1, iv p1)]) dX12_octet4_2 rfl (by decide) rfl ?_
  have L72 : ∀ (nL72 : Nat) (z70 : Int) (μ71 : mM), mT w μ71 → mF [106104, 174999] w μ μ71 → ((-8) ≤ z70 ∧ z70 ≤ 24) → (z70 - (-9)) < (nL72 : Int) → sV (gG l D c H0 sa) mX12_octet4 (sRm 2 0 0) (sZ (gG l D c H0 sa) 0 0 (qV w [106104, 174999] μ (fun μ1 => True))) 3 [(0, .ref 106), (1, iv p1), (2, iv z70)] [] (mk w μ71) 0 0 := by
    intro nL72
    induction nL72 with
    | zero => intro z70 μ71 T74 F75 h73 h77; exact ((vc_X12_octet4_1 h77 h73)).elim
    | succ nL72 ih78 =>
      intro z70 μ71 T74 F75 h73 h77
      refine mr_iload_n (z := z70) dX12_octet4_3 rfl rfl ?_
      refine mr_if_lt (tgt := 20) dX12_octet4_4 (by decide) (r32 h73 rfl) (fun h88 => ?_) (fun h88 => ?_)
      · have h89 : (-8) ≤ z70 ∧ z70 ≤ (-1) := (vc_X12_octet4_2 h88 h73)
        exact mr_vret dX12_octet4_20 rfl (le_t rfl) (le_t rfl) T74 (mF.call mF.refl F75 rfl) trivial
      have h90 : 0 ≤ z70 ∧ z70 ≤ 24 := (vc_X12_octet4_3 h88 h73)
      refine sv_aload_n dX12_octet4_7 rfl rfl ?_
      refine mr_iload_n (z := p1) dX12_octet4_8 rfl rfl ?_
      refine mr_iload_n (z := z70) dX12_octet4_9 rfl rfl ?_
      refine mr_ishr (x := p1) (y := z70) dX12_octet4_10 ?_
      refine mr_gen (P := fun z => (-2147483648) ≤ z ∧ z ≤ 2147483647) (r32i _) fun z91 q92 h93 => ?_
      refine mr_cVV (c_X12_octet1 hw T74 h93) (gOk _ _ _ _ _) dX12_octet4_11 (tX12_octet1 _ _ _ _ _) ⟨wV_X12_octet1, wL_X12_octet1⟩ wM_X12_674 (gCX12 _ _ _ _ _) rfl (A_106 hw) rfl ⟨le_t rfl, le_t rfl⟩ ⟨le_t rfl, le_t rfl⟩ rfl (le_t rfl) fun μ94 T95 F96 h97 => ?_
      refine mr_iinc (lv' := [(2, iv (z70 + (-8))), (0, .ref 106), (1, iv p1)]) dX12_octet4_14 rfl (by decide) rfl ?_
      refine sv_goto (tgt := 3) dX12_octet4_17 (by decide) ?_
      refine mr_lvS (lv' := [(0, .ref 106), (1, iv p1), (2, iv (z70 + (-8)))]) (List.forall_mem_cons.mpr ⟨rfl, List.forall_mem_cons.mpr ⟨rfl, List.forall_mem_cons.mpr ⟨rfl, fun _ h => absurd h List.not_mem_nil⟩⟩⟩) ?_
      exact ih78 (z70 + (-8)) μ94 T95 (mF.call (mF.call mF.refl F75 rfl) F96 rfl) (rW (c := (-8)) (d := 24) (rAdd (e := (-8)) (f := 16) h90 (rR (x := (-8))) rfl) rfl) (vc_X12_octet4_4 (nS h77) h88 h90)
  refine mr_lvS (lv' := [(0, .ref 106), (1, iv p1), (2, iv 24)]) (List.forall_mem_cons.mpr ⟨rfl, List.forall_mem_cons.mpr ⟨rfl, List.forall_mem_cons.mpr ⟨rfl, fun _ h => absurd h List.not_mem_nil⟩⟩⟩) ?_
  exact L72 34 24 μ hT mF.refl (rW (c := (-8)) (d := 24) (rR (x := 24)) rfl) vc_X12_octet4_5
theorem vc_X12_prefixOut_1 {p1 : Int} (h0 : (-2147483648) ≤ p1 ∧ p1 ≤ 2147483647) : 0 ≤ p1 ∧ p1 < 10 := by omega
theorem vc_X12_prefixOut_2 {z93 : Int} (h0 : (5 - z93) < ((0 : Nat) : Int)) (h1 : 0 ≤ z93 ∧ z93 ≤ 4) : False := by omega
theorem vc_X12_prefixOut_3  : (0 : Int) < (8 : Int) ∧ (8 : Int) ≤ (2147483647 : Int) := by omega
theorem vc_X12_prefixOut_4 {z1 z102 z93 : Int} (h0 : z93 < z102) (h1 : (z1 + 7) / 8 = z102) (h2 : 0 ≤ z1 ∧ z1 ≤ 32) (h3 : 0 ≤ z102 ∧ z102 ≤ 4) (h4 : 0 ≤ z93 ∧ z93 ≤ 4) : 0 ≤ z93 ∧ z93 ≤ 3 := by omega
theorem vc_X12_prefixOut_5 {z1 z102 z93 : Int} (h0 : z93 < z102) (h1 : (z1 + 7) / 8 = z102) (h2 : 0 ≤ z1 ∧ z1 ≤ 32) (h3 : 0 ≤ z102 ∧ z102 ≤ 4) (h4 : 0 ≤ z93 ∧ z93 ≤ 3) : 1 ≤ z102 ∧ z102 ≤ 4 := by omega
theorem vc_X12_prefixOut_6 {N z1 z102 z93 : Int} (h0 : (5 - z93) < N + 1) (h1 : z93 < z102) (h2 : (z1 + 7) / 8 = z102) (h3 : 0 ≤ z1 ∧ z1 ≤ 32) (h4 : 1 ≤ z102 ∧ z102 ≤ 4) (h5 : 0 ≤ z93 ∧ z93 ≤ 3) : (5 - (z93 + 1)) < N := by omega
theorem vc_X12_prefixOut_7  : (5 - 0) < ((6 : Nat) : Int) := by omega
set_option maxRecDepth 4000 in
set_option maxHeartbeats 4000000 in
theorem c_X12_prefixOut {l : Launch} {D : va_G} {c : Nat → ClassId} {H0 : Heap} {sa : Nat × Nat × (Nat → Int32)} {w : mW} {μ : mM} (hw : mWF w) (hT : mT w μ) {p1 : Int} (hp1 : (-2147483648) ≤ p1 ∧ p1 ≤ 2147483647) : sC (gG l D c H0 sa) mX12_prefixOut 2 0 0 [.ref 106, iv p1] (mk w μ) (qV w [106104, 174999] μ (fun μ1 => True)) := by
  refine sC.of rfl (by decide) (le_t rfl) ?_
  refine mr_lvE (lv' := [(0, .ref 106), (1, iv p1)]) rfl ?_
  refine sv_aload_n dX12_prefixOut_0 rfl rfl ?_
  refine sv_aload_n dX12_prefixOut_1 rfl rfl ?_
  refine gf_X12_4 dX12_prefixOut_2 wF_X12_26 (A_106 hw) hT ?_
  refine mr_iload_n (z := p1) dX12_prefixOut_5 rfl rfl ?_
  refine la_109 dX12_prefixOut_6 (A_109 hw) hT (vc_X12_prefixOut_1 hp1) fun z1 q2 h3 => ?_
  refine mr_cVV (c_X12_octet1 hw hT (rW (c := (-2147483648)) (d := 2147483647) h3 rfl)) (gOk _ _ _ _ _) dX12_prefixOut_7 (tX12_octet1 _ _ _ _ _) ⟨wV_X12_octet1, wL_X12_octet1⟩ wM_X12_674 (gCX12 _ _ _ _ _) rfl (A_106 hw) rfl ⟨le_t rfl, le_t rfl⟩ ⟨le_t rfl, le_t rfl⟩ rfl (le_t rfl) fun μ4 T5 F6 h7 => ?_
  refine mr_iconst (z := 0) dX12_prefixOut_10 ?_
  refine mr_istore_n (lv' := [(2, iv 0), (0, .ref 106), (1, iv p1)]) dX12_prefixOut_11 rfl (by decide) rfl ?_
  have L95 : ∀ (nL95 : Nat) (z93 : Int) (μ94 : mM), mT w μ94 → mF [106104, 174999] w μ4 μ94 → (0 ≤ z93 ∧ z93 ≤ 4) → (5 - z93) < (nL95 : Int) → sV (gG l D c H0 sa) mX12_prefixOut (sRm 2 0 0) (sZ (gG l D c H0 sa) 0 0 (qV w [106104, 174999] μ (fun μ1 => True))) 12 [(0, .ref 106), (1, iv p1), (2, iv z93)] [] (mk w μ94) 0 0 := by
    intro nL95
    induction nL95 with
    | zero => intro z93 μ94 T97 F98 h96 h100; exact ((vc_X12_prefixOut_2 h100 h96)).elim
    | succ nL95 ih101 =>
      intro z93 μ94 T97 F98 h96 h100
      refine mr_iload_n (z := z93) dX12_prefixOut_12 rfl rfl ?_
      refine sv_aload_n dX12_prefixOut_13 rfl rfl ?_
      refine gf_X12_4 dX12_prefixOut_14 wF_X12_26 (A_106 hw) T97 ?_
      refine mr_iload_n (z := p1) dX12_prefixOut_17 rfl rfl ?_
      refine lk_109 dX12_prefixOut_18 (A_109 hw) (vc_X12_prefixOut_1 hp1) (F98.f (A_109 hw) rfl (F6.f (A_109 hw) rfl q2)) ?_
      refine mr_bipush (z := 7) dX12_prefixOut_19 (by decide) ?_
      refine mr_iadd (x := z1) (y := 7) dX12_prefixOut_21 ?_
      refine mr_bipush (z := 8) dX12_prefixOut_22 (by decide) ?_
      refine mr_idiv (x := (z1 + 7)) (y := 8) dX12_prefixOut_24 (rW (c := 0) (d := 2147483647) (rAdd (e := 7) (f := 39) h3 (rR (x := 7)) rfl) rfl) vc_X12_prefixOut_3 ?_
      refine mr_gen (P := fun z => 0 ≤ z ∧ z ≤ 4) (rDiv (rAdd (e := 7) (f := 39) h3 (rR (x := 7)) rfl) rfl) fun z102 q103 h104 => ?_
      refine mr_icmp_ge (tgt := 52) dX12_prefixOut_25 (by decide) (r32 h96 rfl) (r32 h104 rfl) (fun h117 => ?_) (fun h117 => ?_)
      · exact mr_vret dX12_prefixOut_52 rfl (le_t rfl) (le_t rfl) T97 (mF.call (mF.call mF.refl F6 rfl) F98 rfl) trivial
      have h118 : 0 ≤ z93 ∧ z93 ≤ 3 := (vc_X12_prefixOut_4 h117 q103 h3 h104 h96)
      have h119 : 1 ≤ z102 ∧ z102 ≤ 4 := (vc_X12_prefixOut_5 h117 q103 h3 h104 h118)
      refine sv_aload_n dX12_prefixOut_28 rfl rfl ?_
      refine sv_aload_n dX12_prefixOut_29 rfl rfl ?_
      refine gf_X12_3 dX12_prefixOut_30 wF_X12_22 (A_106 hw) T97 ?_
      refine mr_iload_n (z := p1) dX12_prefixOut_33 rfl rfl ?_
      refine la_108 dX12_prefixOut_34 (A_108 hw) T97 (vc_X12_prefixOut_1 hp1) fun z120 q121 h122 => ?_
      refine mr_bipush (z := 24) dX12_prefixOut_35 (by decide) ?_
      refine mr_bipush (z := 8) dX12_prefixOut_37 (by decide) ?_
      refine mr_iload_n (z := z93) dX12_prefixOut_39 rfl rfl ?_
      refine mr_imul (x := 8) (y := z93) dX12_prefixOut_40 ?_
      refine mr_isub (x := 24) (y := (8 * z93)) dX12_prefixOut_41 ?_
      refine mr_ishr (x := z120) (y := (24 - (8 * z93))) dX12_prefixOut_42 ?_
      refine mr_gen (P := fun z => (-2147483648) ≤ z ∧ z ≤ 2147483647) (r32i _) fun z123 q124 h125 => ?_
      refine mr_cVV (c_X12_octet1 hw T97 h125) (gOk _ _ _ _ _) dX12_prefixOut_43 (tX12_octet1 _ _ _ _ _) ⟨wV_X12_octet1, wL_X12_octet1⟩ wM_X12_674 (gCX12 _ _ _ _ _) rfl (A_106 hw) rfl ⟨le_t rfl, le_t rfl⟩ ⟨le_t rfl, le_t rfl⟩ rfl (le_t rfl) fun μ126 T127 F128 h129 => ?_
      refine mr_iinc (lv' := [(2, iv (z93 + 1)), (0, .ref 106), (1, iv p1)]) dX12_prefixOut_46 rfl (by decide) rfl ?_
      refine sv_goto (tgt := 12) dX12_prefixOut_49 (by decide) ?_
      refine mr_lvS (lv' := [(0, .ref 106), (1, iv p1), (2, iv (z93 + 1))]) (List.forall_mem_cons.mpr ⟨rfl, List.forall_mem_cons.mpr ⟨rfl, List.forall_mem_cons.mpr ⟨rfl, fun _ h => absurd h List.not_mem_nil⟩⟩⟩) ?_
      exact ih101 (z93 + 1) μ126 T127 (mF.call (mF.call mF.refl F98 rfl) F128 rfl) (rW (c := 0) (d := 4) (rAdd (e := 1) (f := 4) h118 (rR (x := 1)) rfl) rfl) (vc_X12_prefixOut_6 (nS h100) h117 q103 h3 h119 h118)
  refine mr_lvS (lv' := [(0, .ref 106), (1, iv p1), (2, iv 0)]) (List.forall_mem_cons.mpr ⟨rfl, List.forall_mem_cons.mpr ⟨rfl, List.forall_mem_cons.mpr ⟨rfl, fun _ h => absurd h List.not_mem_nil⟩⟩⟩) ?_
  exact L95 6 0 μ4 T5 mF.refl (rW (c := 0) (d := 4) (rR (x := 0)) rfl) vc_X12_prefixOut_7
theorem vc_X12_write_1 {p1 z1 z8 : Int} (h0 : z8 = 0) (h1 : (z8 = 1 → 0 ≤ p1 ∧ p1 < z1)) (h2 : (z8 = 0 → p1 < 0 ∨ z1 ≤ p1)) (h3 : (-2147483648) ≤ p1 ∧ p1 ≤ 2147483647) (h4 : 0 ≤ z1 ∧ z1 ≤ 20) (h5 : 0 ≤ z8 ∧ z8 ≤ 1) : 0 ≤ z8 ∧ z8 ≤ 0 := by omega
theorem vc_X12_write_2 {p1 z1 z8 : Int} (h0 : (z8 = 1 → 0 ≤ p1 ∧ p1 < z1)) (h1 : (z8 = 0 → p1 < 0 ∨ z1 ≤ p1)) (h2 : z8 = 0) (h3 : (-2147483648) ≤ p1 ∧ p1 ≤ 2147483647) (h4 : 0 ≤ z1 ∧ z1 ≤ 20) (h5 : 0 ≤ z8 ∧ z8 ≤ 0) : z8 = 0 := by omega
theorem vc_X12_write_3 {p1 z1 z8 : Int} (h0 : ¬ z8 = 0) (h1 : (z8 = 1 → 0 ≤ p1 ∧ p1 < z1)) (h2 : (z8 = 0 → p1 < 0 ∨ z1 ≤ p1)) (h3 : (-2147483648) ≤ p1 ∧ p1 ≤ 2147483647) (h4 : 0 ≤ z1 ∧ z1 ≤ 20) (h5 : 0 ≤ z8 ∧ z8 ≤ 1) : 1 ≤ z8 ∧ z8 ≤ 1 := by omega
theorem vc_X12_write_4 {p1 z1 z8 : Int} (h0 : (z8 = 1 → 0 ≤ p1 ∧ p1 < z1)) (h1 : (z8 = 0 → p1 < 0 ∨ z1 ≤ p1)) (h2 : ¬ z8 = 0) (h3 : (-2147483648) ≤ p1 ∧ p1 ≤ 2147483647) (h4 : 0 ≤ z1 ∧ z1 ≤ 20) (h5 : 1 ≤ z8 ∧ z8 ≤ 1) : z8 = 1 := by omega
theorem vc_X12_write_5 {p1 z1 z8 : Int} (h0 : 0 ≤ p1 ∧ p1 < z1) (h1 : (z8 = 1 → 0 ≤ p1 ∧ p1 < z1)) (h2 : (z8 = 0 → p1 < 0 ∨ z1 ≤ p1)) (h3 : (-2147483648) ≤ p1 ∧ p1 ≤ 2147483647) (h4 : 0 ≤ z1 ∧ z1 ≤ 20) (h5 : 1 ≤ z8 ∧ z8 ≤ 1) : 0 ≤ p1 ∧ p1 ≤ 19 := by omega
theorem vc_X12_write_6 {p2 z19 : Int} (h0 : z19 = 0) (h1 : (z19 = 1 → 0 ≤ p2 ∧ p2 ≤ 1)) (h2 : (z19 = 0 → p2 < 0 ∨ 1 < p2)) (h3 : (-2147483648) ≤ p2 ∧ p2 ≤ 2147483647) (h4 : 0 ≤ z19 ∧ z19 ≤ 1) : 0 ≤ z19 ∧ z19 ≤ 0 := by omega
theorem vc_X12_write_7 {p2 z19 : Int} (h0 : (z19 = 1 → 0 ≤ p2 ∧ p2 ≤ 1)) (h1 : (z19 = 0 → p2 < 0 ∨ 1 < p2)) (h2 : z19 = 0) (h3 : (-2147483648) ≤ p2 ∧ p2 ≤ 2147483647) (h4 : 0 ≤ z19 ∧ z19 ≤ 0) : z19 = 0 := by omega
theorem vc_X12_write_8 {p2 z19 : Int} (h0 : ¬ z19 = 0) (h1 : (z19 = 1 → 0 ≤ p2 ∧ p2 ≤ 1)) (h2 : (z19 = 0 → p2 < 0 ∨ 1 < p2)) (h3 : (-2147483648) ≤ p2 ∧ p2 ≤ 2147483647) (h4 : 0 ≤ z19 ∧ z19 ≤ 1) : 1 ≤ z19 ∧ z19 ≤ 1 := by omega
theorem vc_X12_write_9 {p2 z19 : Int} (h0 : (z19 = 1 → 0 ≤ p2 ∧ p2 ≤ 1)) (h1 : (z19 = 0 → p2 < 0 ∨ 1 < p2)) (h2 : ¬ z19 = 0) (h3 : (-2147483648) ≤ p2 ∧ p2 ≤ 2147483647) (h4 : 1 ≤ z19 ∧ z19 ≤ 1) : z19 = 1 := by omega
theorem vc_X12_write_10 {p2 z19 : Int} (h0 : 0 ≤ p2 ∧ p2 ≤ 1) (h1 : (z19 = 1 → 0 ≤ p2 ∧ p2 ≤ 1)) (h2 : (z19 = 0 → p2 < 0 ∨ 1 < p2)) (h3 : (-2147483648) ≤ p2 ∧ p2 ≤ 2147483647) (h4 : 1 ≤ z19 ∧ z19 ≤ 1) : 0 ≤ p2 ∧ p2 ≤ 1 := by omega
theorem vc_X12_write_11 {p3 z26 z33 : Int} (h0 : ¬ z33 = 0) (h1 : (z33 = 1 → 0 ≤ p3 ∧ p3 < z26)) (h2 : (z33 = 0 → p3 < 0 ∨ z26 ≤ p3)) (h3 : (-2147483648) ≤ p3 ∧ p3 ≤ 2147483647) (h4 : 0 ≤ z26 ∧ z26 ≤ 10) (h5 : 0 ≤ z33 ∧ z33 ≤ 1) : 1 ≤ z33 ∧ z33 ≤ 1 := by omega
theorem vc_X12_write_12 {p3 z26 z33 : Int} (h0 : (z33 = 1 → 0 ≤ p3 ∧ p3 < z26)) (h1 : (z33 = 0 → p3 < 0 ∨ z26 ≤ p3)) (h2 : ¬ z33 = 0) (h3 : (-2147483648) ≤ p3 ∧ p3 ≤ 2147483647) (h4 : 0 ≤ z26 ∧ z26 ≤ 10) (h5 : 1 ≤ z33 ∧ z33 ≤ 1) : z33 = 1 := by omega
theorem vc_X12_write_13 {p3 z26 z33 : Int} (h0 : 0 ≤ p3 ∧ p3 < z26) (h1 : (z33 = 1 → 0 ≤ p3 ∧ p3 < z26)) (h2 : (z33 = 0 → p3 < 0 ∨ z26 ≤ p3)) (h3 : (-2147483648) ≤ p3 ∧ p3 ≤ 2147483647) (h4 : 0 ≤ z26 ∧ z26 ≤ 10) (h5 : 1 ≤ z33 ∧ z33 ≤ 1) : 0 ≤ p3 ∧ p3 ≤ 9 := by omega
theorem vc_X12_write_14 {p3 z26 z33 : Int} (h0 : 0 ≤ p3 ∧ p3 < z26) (h1 : (z33 = 1 → 0 ≤ p3 ∧ p3 < z26)) (h2 : (z33 = 0 → p3 < 0 ∨ z26 ≤ p3)) (h3 : 0 ≤ p3 ∧ p3 ≤ 9) (h4 : 0 ≤ z26 ∧ z26 ≤ 10) (h5 : 1 ≤ z33 ∧ z33 ≤ 1) : 1 ≤ z26 ∧ z26 ≤ 10 := by omega
theorem vc_X12_write_15 {p1 p2 p3 z1 z19 z26 z33 z43 z8 : Int} (h0 : z43 = 20 * p1 + 10 * p2 + p3) (h1 : (z8 = 1 → 0 ≤ p1 ∧ p1 < z1)) (h2 : (z8 = 0 → p1 < 0 ∨ z1 ≤ p1)) (h3 : 0 ≤ p1 ∧ p1 < z1) (h4 : (z19 = 1 → 0 ≤ p2 ∧ p2 ≤ 1)) (h5 : (z19 = 0 → p2 < 0 ∨ 1 < p2)) (h6 : 0 ≤ p2 ∧ p2 ≤ 1) (h7 : (z33 = 1 → 0 ≤ p3 ∧ p3 < z26)) (h8 : (z33 = 0 → p3 < 0 ∨ z26 ≤ p3)) (h9 : 0 ≤ p3 ∧ p3 < z26) (h10 : 0 ≤ p1 ∧ p1 ≤ 19) (h11 : 0 ≤ p3 ∧ p3 ≤ 9) (h12 : 0 ≤ z1 ∧ z1 ≤ 20) (h13 : 1 ≤ z19 ∧ z19 ≤ 1) (h14 : 1 ≤ z26 ∧ z26 ≤ 10) (h15 : 1 ≤ z33 ∧ z33 ≤ 1) (h16 : 0 ≤ z43 ∧ z43 ≤ 449) (h17 : 1 ≤ z8 ∧ z8 ≤ 1) : (40 * (530 + z43)) % 40 = 0 := by omega
theorem vc_X12_write_16 {z47 : Int} (h0 : 0 ≤ z47) (h1 : (-1) ≤ z47 ∧ z47 ≤ 9) : 0 ≤ z47 ∧ z47 ≤ 9 := by omega
theorem vc_X12_write_17 {p1 p2 p3 z1 z19 z26 z33 z43 z8 : Int} (h0 : z43 = 20 * p1 + 10 * p2 + p3) (h1 : (z8 = 1 → 0 ≤ p1 ∧ p1 < z1)) (h2 : (z8 = 0 → p1 < 0 ∨ z1 ≤ p1)) (h3 : 0 ≤ p1 ∧ p1 < z1) (h4 : (z19 = 1 → 0 ≤ p2 ∧ p2 ≤ 1)) (h5 : (z19 = 0 → p2 < 0 ∨ 1 < p2)) (h6 : 0 ≤ p2 ∧ p2 ≤ 1) (h7 : (z33 = 1 → 0 ≤ p3 ∧ p3 < z26)) (h8 : (z33 = 0 → p3 < 0 ∨ z26 ≤ p3)) (h9 : 0 ≤ p3 ∧ p3 < z26) (h10 : 0 ≤ p1 ∧ p1 ≤ 19) (h11 : 0 ≤ p3 ∧ p3 ≤ 9) (h12 : 0 ≤ z1 ∧ z1 ≤ 20) (h13 : 1 ≤ z19 ∧ z19 ≤ 1) (h14 : 1 ≤ z26 ∧ z26 ≤ 10) (h15 : 1 ≤ z33 ∧ z33 ≤ 1) (h16 : 0 ≤ z43 ∧ z43 ≤ 449) (h17 : 1 ≤ z8 ∧ z8 ≤ 1) : ((40 * (530 + z43)) + 4) % 40 = 4 := by omega
theorem vc_X12_write_18 {p1 p2 p3 z1 z19 z26 z33 z43 z8 : Int} (h0 : z43 = 20 * p1 + 10 * p2 + p3) (h1 : (z8 = 1 → 0 ≤ p1 ∧ p1 < z1)) (h2 : (z8 = 0 → p1 < 0 ∨ z1 ≤ p1)) (h3 : 0 ≤ p1 ∧ p1 < z1) (h4 : (z19 = 1 → 0 ≤ p2 ∧ p2 ≤ 1)) (h5 : (z19 = 0 → p2 < 0 ∨ 1 < p2)) (h6 : 0 ≤ p2 ∧ p2 ≤ 1) (h7 : (z33 = 1 → 0 ≤ p3 ∧ p3 < z26)) (h8 : (z33 = 0 → p3 < 0 ∨ z26 ≤ p3)) (h9 : 0 ≤ p3 ∧ p3 < z26) (h10 : 0 ≤ p1 ∧ p1 ≤ 19) (h11 : 0 ≤ p3 ∧ p3 ≤ 9) (h12 : 0 ≤ z1 ∧ z1 ≤ 20) (h13 : 1 ≤ z19 ∧ z19 ≤ 1) (h14 : 1 ≤ z26 ∧ z26 ≤ 10) (h15 : 1 ≤ z33 ∧ z33 ≤ 1) (h16 : 0 ≤ z43 ∧ z43 ≤ 449) (h17 : 1 ≤ z8 ∧ z8 ≤ 1) : ((40 * (530 + z43)) + 5) % 40 = 5 := by omega
theorem vc_X12_write_19 {z57 : Int} (h0 : z57 ≤ 0) (h1 : 0 ≤ z57 ∧ z57 ≤ 8) : 0 ≤ z57 ∧ z57 ≤ 0 := by omega
theorem vc_X12_write_20 {z57 : Int} (h0 : 0 < z57) (h1 : 0 ≤ z57 ∧ z57 ≤ 8) : 1 ≤ z57 ∧ z57 ≤ 8 := by omega
theorem vc_X12_write_21 {z418 : Int} (h0 : (9 - z418) < ((0 : Nat) : Int)) (h1 : 0 ≤ z418 ∧ z418 ≤ 8) : False := by omega
theorem vc_X12_write_22 {z418 z57 : Int} (h0 : z57 ≤ z418) (h1 : 0 < z57) (h2 : 0 ≤ z418 ∧ z418 ≤ 8) (h3 : 1 ≤ z57 ∧ z57 ≤ 8) : 1 ≤ z418 ∧ z418 ≤ 8 := by omega
theorem vc_X12_write_23 {z418 z57 : Int} (h0 : z418 < z57) (h1 : 0 < z57) (h2 : 0 ≤ z418 ∧ z418 ≤ 8) (h3 : 1 ≤ z57 ∧ z57 ≤ 8) : 0 ≤ z418 ∧ z418 ≤ 7 := by omega
theorem vc_X12_write_24 {N p1 p2 p3 z418 z43 z446 z57 : Int} (h0 : (9 - z418) < N + 1) (h1 : z418 < z57) (h2 : ((((40 * (530 + z43)) + 26) + z418) % 40 = 0 → -1 ≤ z446 ∧ z446 ≤ 9)) (h3 : ((((40 * (530 + z43)) + 26) + z418) % 40 = 4 → 0 ≤ z446 ∧ z446 ≤ 20)) (h4 : ((((40 * (530 + z43)) + 26) + z418) % 40 = 5 → 0 ≤ z446 ∧ z446 ≤ 8)) (h5 : z43 = 20 * p1 + 10 * p2 + p3) (h6 : 0 < z57) (h7 : 0 ≤ p1 ∧ p1 ≤ 19) (h8 : 0 ≤ p2 ∧ p2 ≤ 1) (h9 : 0 ≤ p3 ∧ p3 ≤ 9) (h10 : 0 ≤ z418 ∧ z418 ≤ 7) (h11 : 0 ≤ z43 ∧ z43 ≤ 449) (h12 : (-2147483648) ≤ z446 ∧ z446 ≤ 2147483647) (h13 : 1 ≤ z57 ∧ z57 ≤ 8) : (9 - (z418 + 1)) < N := by omega
theorem vc_X12_write_25  : (9 - 0) < ((10 : Nat) : Int) := by omega
theorem vc_X12_write_26 {z66 : Int} (h0 : z66 ≤ 0) (h1 : (-2147483648) ≤ z66 ∧ z66 ≤ 2147483647) : (-2147483648) ≤ z66 ∧ z66 ≤ 0 := by omega
theorem vc_X12_write_27 {z66 : Int} (h0 : 0 < z66) (h1 : (-2147483648) ≤ z66 ∧ z66 ≤ 2147483647) : 1 ≤ z66 ∧ z66 ≤ 2147483647 := by omega
theorem vc_X12_write_28 {z53 : Int} (h0 : z53 ≤ 0) (h1 : 0 ≤ z53 ∧ z53 ≤ 20) : 0 ≤ z53 ∧ z53 ≤ 0 := by omega
theorem vc_X12_write_29 {z53 : Int} (h0 : 0 < z53) (h1 : 0 ≤ z53 ∧ z53 ≤ 20) : 1 ≤ z53 ∧ z53 ≤ 20 := by omega
theorem vc_X12_write_30 {z635 : Int} (h0 : (21 - z635) < ((0 : Nat) : Int)) (h1 : 0 ≤ z635 ∧ z635 ≤ 20) : False := by omega
theorem vc_X12_write_31 {z53 z635 : Int} (h0 : z53 ≤ z635) (h1 : 0 < z53) (h2 : 1 ≤ z53 ∧ z53 ≤ 20) (h3 : 0 ≤ z635 ∧ z635 ≤ 20) : 1 ≤ z635 ∧ z635 ≤ 20 := by omega
theorem vc_X12_write_32 {z53 z635 : Int} (h0 : z635 < z53) (h1 : 0 < z53) (h2 : 1 ≤ z53 ∧ z53 ≤ 20) (h3 : 0 ≤ z635 ∧ z635 ≤ 20) : 0 ≤ z635 ∧ z635 ≤ 19 := by omega
theorem vc_X12_write_33 {N p1 p2 p3 z43 z53 z635 z647 : Int} (h0 : (21 - z635) < N + 1) (h1 : z635 < z53) (h2 : ((((40 * (530 + z43)) + 6) + z635) % 40 = 0 → -1 ≤ z647 ∧ z647 ≤ 9)) (h3 : ((((40 * (530 + z43)) + 6) + z635) % 40 = 4 → 0 ≤ z647 ∧ z647 ≤ 20)) (h4 : ((((40 * (530 + z43)) + 6) + z635) % 40 = 5 → 0 ≤ z647 ∧ z647 ≤ 8)) (h5 : z43 = 20 * p1 + 10 * p2 + p3) (h6 : 0 < z53) (h7 : 0 ≤ p1 ∧ p1 ≤ 19) (h8 : 0 ≤ p2 ∧ p2 ≤ 1) (h9 : 0 ≤ p3 ∧ p3 ≤ 9) (h10 : 0 ≤ z43 ∧ z43 ≤ 449) (h11 : 1 ≤ z53 ∧ z53 ≤ 20) (h12 : 0 ≤ z635 ∧ z635 ≤ 19) (h13 : (-2147483648) ≤ z647 ∧ z647 ≤ 2147483647) : (21 - (z635 + 1)) < N := by omega
theorem vc_X12_write_34  : (21 - 0) < ((22 : Nat) : Int) := by omega
theorem vc_X12_write_35 {z53 : Int} (h0 : ¬ z53 = 0) (h1 : 0 ≤ z53 ∧ z53 ≤ 20) : 1 ≤ z53 ∧ z53 ≤ 20 := by omega
theorem vc_X12_write_36 {z53 : Int} (h0 : z53 = 0) (h1 : 0 ≤ z53 ∧ z53 ≤ 20) : 0 ≤ z53 ∧ z53 ≤ 0 := by omega
theorem vc_X12_write_37 {z47 : Int} (h0 : z47 < 0) (h1 : (-1) ≤ z47 ∧ z47 ≤ 9) : (-1) ≤ z47 ∧ z47 ≤ (-1) := by omega
theorem vc_X12_write_38  : (0 : Int) < (8 : Int) ∧ (8 : Int) ≤ (2147483647 : Int) := by omega
theorem vc_X12_write_39 {p3 z26 z33 : Int} (h0 : z33 = 0) (h1 : (z33 = 1 → 0 ≤ p3 ∧ p3 < z26)) (h2 : (z33 = 0 → p3 < 0 ∨ z26 ≤ p3)) (h3 : (-2147483648) ≤ p3 ∧ p3 ≤ 2147483647) (h4 : 0 ≤ z26 ∧ z26 ≤ 10) (h5 : 0 ≤ z33 ∧ z33 ≤ 1) : 0 ≤ z33 ∧ z33 ≤ 0 := by omega
theorem vc_X12_write_40 {p3 z26 z33 : Int} (h0 : (z33 = 1 → 0 ≤ p3 ∧ p3 < z26)) (h1 : (z33 = 0 → p3 < 0 ∨ z26 ≤ p3)) (h2 : z33 = 0) (h3 : (-2147483648) ≤ p3 ∧ p3 ≤ 2147483647) (h4 : 0 ≤ z26 ∧ z26 ≤ 10) (h5 : 0 ≤ z33 ∧ z33 ≤ 0) : z33 = 0 := by omega
set_option maxRecDepth 4000 in
set_option maxHeartbeats 4000000 in
theorem c_X12_write {l : Launch} {D : va_G} {c : Nat → ClassId} {H0 : Heap} {sa : Nat × Nat × (Nat → Int32)} {w : mW} {μ : mM} (hw : mWF w) (hT : mT w μ) {p1 : Int} (hp1 : (-2147483648) ≤ p1 ∧ p1 ≤ 2147483647) {p2 : Int} (hp2 : (-2147483648) ≤ p2 ∧ p2 ≤ 2147483647) {p3 : Int} (hp3 : (-2147483648) ≤ p3 ∧ p3 ≤ 2147483647) : sC (gG l D c H0 sa) mX12_write 3 0 0 [.ref 106, iv p1, iv p2, iv p3] (mk w μ) (qI w [106104, 174999] μ (fun z μ1 => ((-2147483648) ≤ z ∧ z ≤ 2147483647) ∧ True)) := by
  refine sC.of rfl (by decide) (le_t rfl) ?_
  refine mr_lvE (lv' := [(0, .ref 106), (1, iv p1), (2, iv p2), (3, iv p3)]) rfl ?_
  refine sv_aload_n dX12_write_0 rfl rfl ?_
  refine mr_iload_n (z := p1) dX12_write_1 rfl rfl ?_
  obtain ⟨z1, q2⟩ : ∃ z, μ 106 6 = z := ⟨_, rfl⟩
  have h3 : (0 ≤ z1 ∧ z1 ≤ 20) := by rw [← q2]; exact hT 106 106 (A_106 hw) 6
  refine mr_cVP (c_X12_isTie hw hT hp1 q2) (gOk _ _ _ _ _) dX12_write_2 (tX12_isTie _ _ _ _ _) ⟨wV_X12_isTie, wL_X12_isTie⟩ wM_X12_66 (gCX12 _ _ _ _ _) rfl (A_106 hw) rfl ⟨le_t rfl, le_t rfl⟩ ⟨le_t rfl, le_t rfl⟩ rfl (le_t rfl) fun z8 h7 => ?_
  refine mr_if_eq (tgt := 25) dX12_write_5 (by decide) (r32 h7.1 rfl) (fun h9 => ?_) (fun h9 => ?_)
  · have h10 : 0 ≤ z8 ∧ z8 ≤ 0 := (vc_X12_write_1 h9 h7.2.1 h7.2.2.1 hp1 h3 h7.1)
    have h11 : p1 < 0 ∨ z1 ≤ p1 := (h7.2.2.1 (vc_X12_write_2 h7.2.1 h7.2.2.1 h9 hp1 h3 h10))
    refine mr_iconst (z := (-1)) dX12_write_25 ?_
    exact mr_iret dX12_write_26 rfl (le_t rfl) (le_t rfl) hT mF.refl ⟨(rW (c := (-2147483648)) (d := 2147483647) (rR (x := (-1))) rfl), trivial⟩
  have h12 : 1 ≤ z8 ∧ z8 ≤ 1 := (vc_X12_write_3 h9 h7.2.1 h7.2.2.1 hp1 h3 h7.1)
  have h13 : 0 ≤ p1 ∧ p1 < z1 := (h7.2.1 (vc_X12_write_4 h7.2.1 h7.2.2.1 h9 hp1 h3 h12))
  have h14 : 0 ≤ p1 ∧ p1 ≤ 19 := (vc_X12_write_5 h13 h7.2.1 h7.2.2.1 hp1 h3 h12)
  refine mr_iload_n (z := p2) dX12_write_8 rfl rfl ?_
  refine mr_iconst (z := 0) dX12_write_9 ?_
  refine mr_iconst (z := 1) dX12_write_10 ?_
  refine mr_cSP (c_X12_in hw hT hp2 (rW (c := (-2147483648)) (d := 2147483647) (rR (x := 0)) rfl) (rW (c := (-2147483648)) (d := 2147483647) (rR (x := 1)) rfl)) (gOk _ _ _ _ _) dX12_write_11 (tX12_in _ _ _ _ _) wS_X12_in wM_X12_18 ⟨le_t rfl, le_t rfl⟩ ⟨le_t rfl, le_t rfl⟩ rfl (le_t rfl) fun z19 h18 => ?_
  refine mr_if_eq (tgt := 25) dX12_write_14 (by decide) (r32 h18.1 rfl) (fun h20 => ?_) (fun h20 => ?_)
  · have h21 : 0 ≤ z19 ∧ z19 ≤ 0 := (vc_X12_write_6 h20 h18.2.1 h18.2.2.1 hp2 h18.1)
    have h22 : p2 < 0 ∨ 1 < p2 := (h18.2.2.1 (vc_X12_write_7 h18.2.1 h18.2.2.1 h20 hp2 h21))
    refine mr_iconst (z := (-1)) dX12_write_25 ?_
    exact mr_iret dX12_write_26 rfl (le_t rfl) (le_t rfl) hT mF.refl ⟨(rW (c := (-2147483648)) (d := 2147483647) (rR (x := (-1))) rfl), trivial⟩
  have h23 : 1 ≤ z19 ∧ z19 ≤ 1 := (vc_X12_write_8 h20 h18.2.1 h18.2.2.1 hp2 h18.1)
  have h24 : 0 ≤ p2 ∧ p2 ≤ 1 := (h18.2.1 (vc_X12_write_9 h18.2.1 h18.2.2.1 h20 hp2 h23))
  have h25 : 0 ≤ p2 ∧ p2 ≤ 1 := (vc_X12_write_10 h24 h18.2.1 h18.2.2.1 hp2 h23)
  refine sv_aload_n dX12_write_17 rfl rfl ?_
  refine mr_iload_n (z := p3) dX12_write_18 rfl rfl ?_
  obtain ⟨z26, q27⟩ : ∃ z, μ 106 2 = z := ⟨_, rfl⟩
  have h28 : (0 ≤ z26 ∧ z26 ≤ 10) := by rw [← q27]; exact hT 106 106 (A_106 hw) 2
  refine mr_cVP (c_X12_isPrefix hw hT hp3 q27) (gOk _ _ _ _ _) dX12_write_19 (tX12_isPrefix _ _ _ _ _) ⟨wV_X12_isPrefix, wL_X12_isPrefix⟩ wM_X12_92 (gCX12 _ _ _ _ _) rfl (A_106 hw) rfl ⟨le_t rfl, le_t rfl⟩ ⟨le_t rfl, le_t rfl⟩ rfl (le_t rfl) fun z33 h32 => ?_
  refine mr_if_ne (tgt := 27) dX12_write_22 (by decide) (r32 h32.1 rfl) (fun h34 => ?_) (fun h34 => ?_)
  · have h35 : 1 ≤ z33 ∧ z33 ≤ 1 := (vc_X12_write_11 h34 h32.2.1 h32.2.2.1 hp3 h28 h32.1)
    have h36 : 0 ≤ p3 ∧ p3 < z26 := (h32.2.1 (vc_X12_write_12 h32.2.1 h32.2.2.1 h34 hp3 h28 h35))
    have h37 : 0 ≤ p3 ∧ p3 ≤ 9 := (vc_X12_write_13 h36 h32.2.1 h32.2.2.1 hp3 h28 h35)
    have h38 : 1 ≤ z26 ∧ z26 ≤ 10 := (vc_X12_write_14 h36 h32.2.1 h32.2.2.1 h37 h28 h35)
    refine mr_bipush (z := 40) dX12_write_27 (by decide) ?_
    refine mr_sipush (z := 530) dX12_write_29 (by decide) ?_
    refine mr_iload_n (z := p1) dX12_write_32 rfl rfl ?_
    refine mr_iload_n (z := p2) dX12_write_33 rfl rfl ?_
    refine mr_iload_n (z := p3) dX12_write_34 rfl rfl ?_
    refine mr_cSP (c_X12_slot hw hT (rW (c := 0) (d := 20) h14 rfl) (rW (c := 0) (d := 2) h25 rfl) h37) (gOk _ _ _ _ _) dX12_write_35 (tX12_slot _ _ _ _ _) wS_X12_slot wM_X12_545 ⟨le_t rfl, le_t rfl⟩ ⟨le_t rfl, le_t rfl⟩ rfl (le_t rfl) fun z43 h42 => ?_
    refine mr_iadd (x := 530) (y := z43) dX12_write_38 ?_
    refine mr_imul (x := 40) (y := (530 + z43)) dX12_write_39 ?_
    refine mr_istore (lv' := [(4, iv (40 * (530 + z43))), (0, .ref 106), (1, iv p1), (2, iv p2), (3, iv p3)]) dX12_write_40 (by decide) rfl ?_
    refine sv_aload_n dX12_write_42 rfl rfl ?_
    refine mr_iconst (z := 0) dX12_write_43 ?_
    refine pf_X12_104 dX12_write_44 wF_X12_671 (A_106 hw) hT (rW (c := 0) (d := 300) (rR (x := 0)) rfl) fun μ44 u45 T46 => ?_
    refine sv_aload_n dX12_write_47 rfl rfl ?_
    refine gf_X12_32 dX12_write_48 wF_X12_148 (A_106 hw) T46 ?_
    refine mr_iload (z := (40 * (530 + z43))) dX12_write_51 rfl ?_
    refine la_126 dX12_write_53 (A_126 hw) T46 (rIx (n := 84000) (rMulL (n := 40) (e := 21200) (f := 39160) (rAdd (e := 530) (f := 979) (rR (x := 530)) h42.1 rfl) rfl) rfl) fun z47 q48 h49 => ?_
    have h50 : (-1) ≤ z47 ∧ z47 ≤ 9 := h49.2.1 (vc_X12_write_15 h42.2.1 h7.2.1 h7.2.2.1 h13 h18.2.1 h18.2.2.1 h24 h32.2.1 h32.2.2.1 h36 h14 h37 h3 h23 h38 h35 h42.1 h12)
    refine mr_if_ge (tgt := 100) dX12_write_54 (by decide) (r32 h50 rfl) (fun h51 => ?_) (fun h51 => ?_)
    · have h52 : 0 ≤ z47 ∧ z47 ≤ 9 := (vc_X12_write_16 h51 h50)
      refine sv_aload_n dX12_write_100 rfl rfl ?_
      refine gf_X12_32 dX12_write_101 wF_X12_148 (A_106 hw) T46 ?_
      refine mr_iload (z := (40 * (530 + z43))) dX12_write_104 rfl ?_
      refine mr_iconst (z := 4) dX12_write_106 ?_
      refine mr_iadd (x := (40 * (530 + z43))) (y := 4) dX12_write_107 ?_
      refine la_126 dX12_write_108 (A_126 hw) T46 (rIx (n := 84000) (rAdd (e := 21204) (f := 39164) (rMulL (n := 40) (e := 21200) (f := 39160) (rAdd (e := 530) (f := 979) (rR (x := 530)) h42.1 rfl) rfl) (rR (x := 4)) rfl) rfl) fun z53 q54 h55 => ?_
      have h56 : 0 ≤ z53 ∧ z53 ≤ 20 := h55.2.2.1 (vc_X12_write_17 h42.2.1 h7.2.1 h7.2.2.1 h13 h18.2.1 h18.2.2.1 h24 h32.2.1 h32.2.2.1 h36 h14 h37 h3 h23 h38 h35 h42.1 h12)
      refine mr_istore (lv' := [(5, iv z53), (4, iv (40 * (530 + z43))), (0, .ref 106), (1, iv p1), (2, iv p2), (3, iv p3)]) dX12_write_109 (by decide) rfl ?_
      refine sv_aload_n dX12_write_111 rfl rfl ?_
      refine gf_X12_32 dX12_write_112 wF_X12_148 (A_106 hw) T46 ?_
      refine mr_iload (z := (40 * (530 + z43))) dX12_write_115 rfl ?_
      refine mr_iconst (z := 5) dX12_write_117 ?_
      refine mr_iadd (x := (40 * (530 + z43))) (y := 5) dX12_write_118 ?_
      refine la_126 dX12_write_119 (A_126 hw) T46 (rIx (n := 84000) (rAdd (e := 21205) (f := 39165) (rMulL (n := 40) (e := 21200) (f := 39160) (rAdd (e := 530) (f := 979) (rR (x := 530)) h42.1 rfl) rfl) (rR (x := 5)) rfl) rfl) fun z57 q58 h59 => ?_
      have h60 : 0 ≤ z57 ∧ z57 ≤ 8 := h59.2.2.2 (vc_X12_write_18 h42.2.1 h7.2.1 h7.2.2.1 h13 h18.2.1 h18.2.2.1 h24 h32.2.1 h32.2.2.1 h36 h14 h37 h3 h23 h38 h35 h42.1 h12)
      refine mr_istore (lv' := [(6, iv z57), (5, iv z53), (4, iv (40 * (530 + z43))), (0, .ref 106), (1, iv p1), (2, iv p2), (3, iv p3)]) dX12_write_120 (by decide) rfl ?_
      refine mr_iload (z := z53) dX12_write_122 rfl ?_
      have J65 : ∀ (z63 : Int), (0 ≤ z63 ∧ z63 ≤ 82) → sV (gG l D c H0 sa) mX12_write (sRm 3 0 0) (sZ (gG l D c H0 sa) 0 0 (qI w [106104, 174999] μ (fun z μ1 => ((-2147483648) ≤ z ∧ z ≤ 2147483647) ∧ True))) 137 [(0, .ref 106), (3, iv p3), (4, iv (40 * (530 + z43))), (5, iv z53), (6, iv z57)] [iv z63] (mk w μ44) 0 0 := by
        intro z63 h64
        refine mr_istore (lv' := [(7, iv z63), (0, .ref 106), (3, iv p3), (4, iv (40 * (530 + z43))), (5, iv z53), (6, iv z57)]) dX12_write_137 (by decide) rfl ?_
        refine mr_bipush (z := 7) dX12_write_139 (by decide) ?_
        refine mr_iload (z := z63) dX12_write_141 rfl ?_
        refine mr_iadd (x := 7) (y := z63) dX12_write_143 ?_
        refine sv_aload_n dX12_write_144 rfl rfl ?_
        refine gf_X12_32 dX12_write_145 wF_X12_148 (A_106 hw) T46 ?_
        refine mr_iload (z := (40 * (530 + z43))) dX12_write_148 rfl ?_
        refine mr_iconst (z := 3) dX12_write_150 ?_
        refine mr_iadd (x := (40 * (530 + z43))) (y := 3) dX12_write_151 ?_
        refine la_126 dX12_write_152 (A_126 hw) T46 (rIx (n := 84000) (rAdd (e := 21203) (f := 39163) (rMulL (n := 40) (e := 21200) (f := 39160) (rAdd (e := 530) (f := 979) (rR (x := 530)) h42.1 rfl) rfl) (rR (x := 3)) rfl) rfl) fun z66 q67 h68 => ?_
        have J73 : ∀ (z71 : Int), (0 ≤ z71 ∧ z71 ≤ 7) → sV (gG l D c H0 sa) mX12_write (sRm 3 0 0) (sZ (gG l D c H0 sa) 0 0 (qI w [106104, 174999] μ (fun z μ1 => ((-2147483648) ≤ z ∧ z ≤ 2147483647) ∧ True))) 162 [(0, .ref 106), (3, iv p3), (4, iv (40 * (530 + z43))), (5, iv z53), (6, iv z57), (7, iv z63)] [iv z71, iv (7 + z63)] (mk w μ44) 0 0 := by
          intro z71 h72
          refine mr_iadd (x := (7 + z63)) (y := z71) dX12_write_162 ?_
          refine mr_iload (z := z57) dX12_write_163 rfl ?_
          have J78 : ∀ (z76 : Int), (0 ≤ z76 ∧ z76 ≤ 35) → sV (gG l D c H0 sa) mX12_write (sRm 3 0 0) (sZ (gG l D c H0 sa) 0 0 (qI w [106104, 174999] μ (fun z μ1 => ((-2147483648) ≤ z ∧ z ≤ 2147483647) ∧ True))) 178 [(0, .ref 106), (3, iv p3), (4, iv (40 * (530 + z43))), (5, iv z53), (6, iv z57), (7, iv z63)] [iv z76, iv ((7 + z63) + z71)] (mk w μ44) 0 0 := by
            intro z76 h77
            refine mr_iadd (x := ((7 + z63) + z71)) (y := z76) dX12_write_178 ?_
            refine mr_istore (lv' := [(8, iv (((7 + z63) + z71) + z76)), (0, .ref 106), (3, iv p3), (4, iv (40 * (530 + z43))), (5, iv z53), (6, iv z57), (7, iv z63)]) dX12_write_179 (by decide) rfl ?_
            refine sv_aload_n dX12_write_181 rfl rfl ?_
            refine mr_iconst (z := 0) dX12_write_182 ?_
            refine mr_cVV (c_X12_octet1 hw T46 (rW (c := (-2147483648)) (d := 2147483647) (rR (x := 0)) rfl)) (gOk _ _ _ _ _) dX12_write_183 (tX12_octet1 _ _ _ _ _) ⟨wV_X12_octet1, wL_X12_octet1⟩ wM_X12_674 (gCX12 _ _ _ _ _) rfl (A_106 hw) rfl ⟨le_t rfl, le_t rfl⟩ ⟨le_t rfl, le_t rfl⟩ rfl (le_t rfl) fun μ79 T80 F81 h82 => ?_
            refine sv_aload_n dX12_write_186 rfl rfl ?_
            refine mr_iconst (z := 0) dX12_write_187 ?_
            refine mr_cVV (c_X12_octet1 hw T80 (rW (c := (-2147483648)) (d := 2147483647) (rR (x := 0)) rfl)) (gOk _ _ _ _ _) dX12_write_188 (tX12_octet1 _ _ _ _ _) ⟨wV_X12_octet1, wL_X12_octet1⟩ wM_X12_674 (gCX12 _ _ _ _ _) rfl (A_106 hw) rfl ⟨le_t rfl, le_t rfl⟩ ⟨le_t rfl, le_t rfl⟩ rfl (le_t rfl) fun μ83 T84 F85 h86 => ?_
            refine sv_aload_n dX12_write_191 rfl rfl ?_
            refine mr_iload (z := (((7 + z63) + z71) + z76)) dX12_write_192 rfl ?_
            refine mr_bipush (z := 8) dX12_write_194 (by decide) ?_
            refine mr_ishr (x := (((7 + z63) + z71) + z76)) (y := 8) dX12_write_196 ?_
            refine mr_gen (P := fun z => (-2147483648) ≤ z ∧ z ≤ 2147483647) (r32i _) fun z87 q88 h89 => ?_
            refine mr_cVV (c_X12_octet1 hw T84 h89) (gOk _ _ _ _ _) dX12_write_197 (tX12_octet1 _ _ _ _ _) ⟨wV_X12_octet1, wL_X12_octet1⟩ wM_X12_674 (gCX12 _ _ _ _ _) rfl (A_106 hw) rfl ⟨le_t rfl, le_t rfl⟩ ⟨le_t rfl, le_t rfl⟩ rfl (le_t rfl) fun μ90 T91 F92 h93 => ?_
            refine sv_aload_n dX12_write_200 rfl rfl ?_
            refine mr_iload (z := (((7 + z63) + z71) + z76)) dX12_write_201 rfl ?_
            refine mr_cVV (c_X12_octet1 hw T91 (rW (c := (-2147483648)) (d := 2147483647) (rAdd (e := 7) (f := 131) (rAdd (e := 7) (f := 96) (rAdd (e := 7) (f := 89) (rR (x := 7)) h64 rfl) h72 rfl) h77 rfl) rfl)) (gOk _ _ _ _ _) dX12_write_203 (tX12_octet1 _ _ _ _ _) ⟨wV_X12_octet1, wL_X12_octet1⟩ wM_X12_674 (gCX12 _ _ _ _ _) rfl (A_106 hw) rfl ⟨le_t rfl, le_t rfl⟩ ⟨le_t rfl, le_t rfl⟩ rfl (le_t rfl) fun μ94 T95 F96 h97 => ?_
            refine sv_aload_n dX12_write_206 rfl rfl ?_
            refine mr_bipush (z := 64) dX12_write_207 (by decide) ?_
            refine mr_cVV (c_X12_octet1 hw T95 (rW (c := (-2147483648)) (d := 2147483647) (rR (x := 64)) rfl)) (gOk _ _ _ _ _) dX12_write_209 (tX12_octet1 _ _ _ _ _) ⟨wV_X12_octet1, wL_X12_octet1⟩ wM_X12_674 (gCX12 _ _ _ _ _) rfl (A_106 hw) rfl ⟨le_t rfl, le_t rfl⟩ ⟨le_t rfl, le_t rfl⟩ rfl (le_t rfl) fun μ98 T99 F100 h101 => ?_
            refine sv_aload_n dX12_write_212 rfl rfl ?_
            refine mr_iconst (z := 1) dX12_write_213 ?_
            refine mr_cVV (c_X12_octet1 hw T99 (rW (c := (-2147483648)) (d := 2147483647) (rR (x := 1)) rfl)) (gOk _ _ _ _ _) dX12_write_214 (tX12_octet1 _ _ _ _ _) ⟨wV_X12_octet1, wL_X12_octet1⟩ wM_X12_674 (gCX12 _ _ _ _ _) rfl (A_106 hw) rfl ⟨le_t rfl, le_t rfl⟩ ⟨le_t rfl, le_t rfl⟩ rfl (le_t rfl) fun μ102 T103 F104 h105 => ?_
            refine sv_aload_n dX12_write_217 rfl rfl ?_
            refine mr_iconst (z := 1) dX12_write_218 ?_
            refine mr_cVV (c_X12_octet1 hw T103 (rW (c := (-2147483648)) (d := 2147483647) (rR (x := 1)) rfl)) (gOk _ _ _ _ _) dX12_write_219 (tX12_octet1 _ _ _ _ _) ⟨wV_X12_octet1, wL_X12_octet1⟩ wM_X12_674 (gCX12 _ _ _ _ _) rfl (A_106 hw) rfl ⟨le_t rfl, le_t rfl⟩ ⟨le_t rfl, le_t rfl⟩ rfl (le_t rfl) fun μ106 T107 F108 h109 => ?_
            refine sv_aload_n dX12_write_222 rfl rfl ?_
            refine sv_aload_n dX12_write_223 rfl rfl ?_
            refine gf_X12_32 dX12_write_224 wF_X12_148 (A_106 hw) T107 ?_
            refine mr_iload (z := (40 * (530 + z43))) dX12_write_227 rfl ?_
            refine mr_iconst (z := 2) dX12_write_229 ?_
            refine mr_iadd (x := (40 * (530 + z43))) (y := 2) dX12_write_230 ?_
            refine la_126 dX12_write_231 (A_126 hw) T107 (rIx (n := 84000) (rAdd (e := 21202) (f := 39162) (rMulL (n := 40) (e := 21200) (f := 39160) (rAdd (e := 530) (f := 979) (rR (x := 530)) h42.1 rfl) rfl) (rR (x := 2)) rfl) rfl) fun z110 q111 h112 => ?_
            refine mr_cVV (c_X12_octet1 hw T107 h112.1) (gOk _ _ _ _ _) dX12_write_232 (tX12_octet1 _ _ _ _ _) ⟨wV_X12_octet1, wL_X12_octet1⟩ wM_X12_674 (gCX12 _ _ _ _ _) rfl (A_106 hw) rfl ⟨le_t rfl, le_t rfl⟩ ⟨le_t rfl, le_t rfl⟩ rfl (le_t rfl) fun μ113 T114 F115 h116 => ?_
            refine sv_aload_n dX12_write_235 rfl rfl ?_
            refine mr_bipush (z := 64) dX12_write_236 (by decide) ?_
            refine mr_cVV (c_X12_octet1 hw T114 (rW (c := (-2147483648)) (d := 2147483647) (rR (x := 64)) rfl)) (gOk _ _ _ _ _) dX12_write_238 (tX12_octet1 _ _ _ _ _) ⟨wV_X12_octet1, wL_X12_octet1⟩ wM_X12_674 (gCX12 _ _ _ _ _) rfl (A_106 hw) rfl ⟨le_t rfl, le_t rfl⟩ ⟨le_t rfl, le_t rfl⟩ rfl (le_t rfl) fun μ117 T118 F119 h120 => ?_
            refine sv_aload_n dX12_write_241 rfl rfl ?_
            refine mr_iconst (z := 2) dX12_write_242 ?_
            refine mr_cVV (c_X12_octet1 hw T118 (rW (c := (-2147483648)) (d := 2147483647) (rR (x := 2)) rfl)) (gOk _ _ _ _ _) dX12_write_243 (tX12_octet1 _ _ _ _ _) ⟨wV_X12_octet1, wL_X12_octet1⟩ wM_X12_674 (gCX12 _ _ _ _ _) rfl (A_106 hw) rfl ⟨le_t rfl, le_t rfl⟩ ⟨le_t rfl, le_t rfl⟩ rfl (le_t rfl) fun μ121 T122 F123 h124 => ?_
            refine sv_aload_n dX12_write_246 rfl rfl ?_
            refine mr_iload (z := z63) dX12_write_247 rfl ?_
            refine mr_cVV (c_X12_octet1 hw T122 (rW (c := (-2147483648)) (d := 2147483647) h64 rfl)) (gOk _ _ _ _ _) dX12_write_249 (tX12_octet1 _ _ _ _ _) ⟨wV_X12_octet1, wL_X12_octet1⟩ wM_X12_674 (gCX12 _ _ _ _ _) rfl (A_106 hw) rfl ⟨le_t rfl, le_t rfl⟩ ⟨le_t rfl, le_t rfl⟩ rfl (le_t rfl) fun μ125 T126 F127 h128 => ?_
            refine mr_iload (z := z53) dX12_write_252 rfl ?_
            have J165 : ∀ (μ161 : mM), mT w μ161 → mF [106104, 174999] w μ125 μ161 → sV (gG l D c H0 sa) mX12_write (sRm 3 0 0) (sZ (gG l D c H0 sa) 0 0 (qI w [106104, 174999] μ (fun z μ1 => ((-2147483648) ≤ z ∧ z ≤ 2147483647) ∧ True))) 301 [(0, .ref 106), (3, iv p3), (4, iv (40 * (530 + z43))), (6, iv z57)] [] (mk w μ161) 0 0 := by
              intro μ161 T162 F163
              refine sv_aload_n dX12_write_301 rfl rfl ?_
              refine gf_X12_32 dX12_write_302 wF_X12_148 (A_106 hw) T162 ?_
              refine mr_iload (z := (40 * (530 + z43))) dX12_write_305 rfl ?_
              refine mr_iconst (z := 3) dX12_write_307 ?_
              refine mr_iadd (x := (40 * (530 + z43))) (y := 3) dX12_write_308 ?_
              refine lk_126 dX12_write_309 (A_126 hw) (rIx (n := 84000) (rAdd (e := 21203) (f := 39163) (rMulL (n := 40) (e := 21200) (f := 39160) (rAdd (e := 530) (f := 979) (rR (x := 530)) h42.1 rfl) rfl) (rR (x := 3)) rfl) rfl) (F163.f (A_126 hw) rfl (F127.f (A_126 hw) rfl (F123.f (A_126 hw) rfl (F119.f (A_126 hw) rfl (F115.f (A_126 hw) rfl (F108.f (A_126 hw) rfl (F104.f (A_126 hw) rfl (F100.f (A_126 hw) rfl (F96.f (A_126 hw) rfl (F92.f (A_126 hw) rfl (F85.f (A_126 hw) rfl (F81.f (A_126 hw) rfl q67)))))))))))) ?_
              have J188 : ∀ (μ184 : mM), mT w μ184 → mF [106104, 174999] w μ161 μ184 → sV (gG l D c H0 sa) mX12_write (sRm 3 0 0) (sZ (gG l D c H0 sa) 0 0 (qI w [106104, 174999] μ (fun z μ1 => ((-2147483648) ≤ z ∧ z ≤ 2147483647) ∧ True))) 343 [(0, .ref 106), (3, iv p3), (4, iv (40 * (530 + z43))), (6, iv z57)] [] (mk w μ184) 0 0 := by
                intro μ184 T185 F186
                refine mr_iload (z := z57) dX12_write_343 rfl ?_
                refine mr_if_le (tgt := 402) dX12_write_345 (by decide) (r32 h60 rfl) (fun h225 => ?_) (fun h225 => ?_)
                · have h226 : 0 ≤ z57 ∧ z57 ≤ 0 := (vc_X12_write_19 h225 h60)
                  refine sv_aload_n dX12_write_402 rfl rfl ?_
                  refine mr_iload_n (z := p3) dX12_write_403 rfl rfl ?_
                  refine mr_cVV (c_X12_prefixOut hw T185 (rW (c := (-2147483648)) (d := 2147483647) h37 rfl)) (gOk _ _ _ _ _) dX12_write_404 (tX12_prefixOut _ _ _ _ _) ⟨wV_X12_prefixOut, wL_X12_prefixOut⟩ wM_X12_677 (gCX12 _ _ _ _ _) rfl (A_106 hw) rfl ⟨le_t rfl, le_t rfl⟩ ⟨le_t rfl, le_t rfl⟩ rfl (le_t rfl) fun μ227 T228 F229 h230 => ?_
                  refine sv_aload_n dX12_write_407 rfl rfl ?_
                  refine gf_X12_104 dX12_write_408 wF_X12_671 (A_106 hw) T228 fun z231 q232 h233 => ?_
                  exact mr_iret dX12_write_411 rfl (le_t rfl) (le_t rfl) T228 (mF.call (mF.call (mF.call (mF.call (mF.call (mF.call (mF.call (mF.call (mF.call (mF.call (mF.call (mF.call (mF.call (mF.call (mF.up mF.refl (A_106 hw) u45 rfl) F81 rfl) F85 rfl) F92 rfl) F96 rfl) F100 rfl) F104 rfl) F108 rfl) F115 rfl) F119 rfl) F123 rfl) F127 rfl) F163 rfl) F186 rfl) F229 rfl) ⟨(rW (c := (-2147483648)) (d := 2147483647) h233 rfl), trivial⟩
                have h234 : 1 ≤ z57 ∧ z57 ≤ 8 := (vc_X12_write_20 h225 h60)
                refine sv_aload_n dX12_write_348 rfl rfl ?_
                refine mr_sipush (z := 192) dX12_write_349 (by decide) ?_
                refine mr_cVV (c_X12_octet1 hw T185 (rW (c := (-2147483648)) (d := 2147483647) (rR (x := 192)) rfl)) (gOk _ _ _ _ _) dX12_write_352 (tX12_octet1 _ _ _ _ _) ⟨wV_X12_octet1, wL_X12_octet1⟩ wM_X12_674 (gCX12 _ _ _ _ _) rfl (A_106 hw) rfl ⟨le_t rfl, le_t rfl⟩ ⟨le_t rfl, le_t rfl⟩ rfl (le_t rfl) fun μ235 T236 F237 h238 => ?_
                refine sv_aload_n dX12_write_355 rfl rfl ?_
                refine mr_bipush (z := 8) dX12_write_356 (by decide) ?_
                refine mr_cVV (c_X12_octet1 hw T236 (rW (c := (-2147483648)) (d := 2147483647) (rR (x := 8)) rfl)) (gOk _ _ _ _ _) dX12_write_358 (tX12_octet1 _ _ _ _ _) ⟨wV_X12_octet1, wL_X12_octet1⟩ wM_X12_674 (gCX12 _ _ _ _ _) rfl (A_106 hw) rfl ⟨le_t rfl, le_t rfl⟩ ⟨le_t rfl, le_t rfl⟩ rfl (le_t rfl) fun μ239 T240 F241 h242 => ?_
                refine sv_aload_n dX12_write_361 rfl rfl ?_
                refine mr_iconst (z := 4) dX12_write_362 ?_
                refine mr_iload (z := z57) dX12_write_363 rfl ?_
                refine mr_imul (x := 4) (y := z57) dX12_write_365 ?_
                refine mr_cVV (c_X12_octet1 hw T240 (rW (c := (-2147483648)) (d := 2147483647) (rMulL (n := 4) (e := 4) (f := 32) h234 rfl) rfl)) (gOk _ _ _ _ _) dX12_write_366 (tX12_octet1 _ _ _ _ _) ⟨wV_X12_octet1, wL_X12_octet1⟩ wM_X12_674 (gCX12 _ _ _ _ _) rfl (A_106 hw) rfl ⟨le_t rfl, le_t rfl⟩ ⟨le_t rfl, le_t rfl⟩ rfl (le_t rfl) fun μ243 T244 F245 h246 => ?_
                refine mr_iconst (z := 0) dX12_write_369 ?_
                refine mr_istore (lv' := [(9, iv 0), (0, .ref 106), (3, iv p3), (4, iv (40 * (530 + z43))), (6, iv z57)]) dX12_write_370 (by decide) rfl ?_
                have L420 : ∀ (nL420 : Nat) (z418 : Int) (μ419 : mM), mT w μ419 → mF [106104, 174999] w μ243 μ419 → (0 ≤ z418 ∧ z418 ≤ 8) → (9 - z418) < (nL420 : Int) → sV (gG l D c H0 sa) mX12_write (sRm 3 0 0) (sZ (gG l D c H0 sa) 0 0 (qI w [106104, 174999] μ (fun z μ1 => ((-2147483648) ≤ z ∧ z ≤ 2147483647) ∧ True))) 372 [(0, .ref 106), (3, iv p3), (4, iv (40 * (530 + z43))), (6, iv z57), (9, iv z418)] [] (mk w μ419) 0 0 := by
                  intro nL420
                  induction nL420 with
                  | zero => intro z418 μ419 T422 F423 h421 h425; exact ((vc_X12_write_21 h425 h421)).elim
                  | succ nL420 ih426 =>
                    intro z418 μ419 T422 F423 h421 h425
                    refine mr_iload (z := z418) dX12_write_372 rfl ?_
                    refine mr_iload (z := z57) dX12_write_374 rfl ?_
                    refine mr_icmp_ge (tgt := 402) dX12_write_376 (by decide) (r32 h421 rfl) (r32 h234 rfl) (fun h436 => ?_) (fun h436 => ?_)
                    · have h437 : 1 ≤ z418 ∧ z418 ≤ 8 := (vc_X12_write_22 h436 h225 h421 h234)
                      refine sv_aload_n dX12_write_402 rfl rfl ?_
                      refine mr_iload_n (z := p3) dX12_write_403 rfl rfl ?_
                      refine mr_cVV (c_X12_prefixOut hw T422 (rW (c := (-2147483648)) (d := 2147483647) h37 rfl)) (gOk _ _ _ _ _) dX12_write_404 (tX12_prefixOut _ _ _ _ _) ⟨wV_X12_prefixOut, wL_X12_prefixOut⟩ wM_X12_677 (gCX12 _ _ _ _ _) rfl (A_106 hw) rfl ⟨le_t rfl, le_t rfl⟩ ⟨le_t rfl, le_t rfl⟩ rfl (le_t rfl) fun μ438 T439 F440 h441 => ?_
                      refine sv_aload_n dX12_write_407 rfl rfl ?_
                      refine gf_X12_104 dX12_write_408 wF_X12_671 (A_106 hw) T439 fun z442 q443 h444 => ?_
                      exact mr_iret dX12_write_411 rfl (le_t rfl) (le_t rfl) T439 (mF.call (mF.call (mF.call (mF.call (mF.call (mF.call (mF.call (mF.call (mF.call (mF.call (mF.call (mF.call (mF.call (mF.call (mF.call (mF.call (mF.call (mF.call (mF.up mF.refl (A_106 hw) u45 rfl) F81 rfl) F85 rfl) F92 rfl) F96 rfl) F100 rfl) F104 rfl) F108 rfl) F115 rfl) F119 rfl) F123 rfl) F127 rfl) F163 rfl) F186 rfl) F237 rfl) F241 rfl) F245 rfl) F423 rfl) F440 rfl) ⟨(rW (c := (-2147483648)) (d := 2147483647) h444 rfl), trivial⟩
                    have h445 : 0 ≤ z418 ∧ z418 ≤ 7 := (vc_X12_write_23 h436 h225 h421 h234)
                    refine sv_aload_n dX12_write_379 rfl rfl ?_
                    refine sv_aload_n dX12_write_380 rfl rfl ?_
                    refine gf_X12_32 dX12_write_381 wF_X12_148 (A_106 hw) T422 ?_
                    refine mr_iload (z := (40 * (530 + z43))) dX12_write_384 rfl ?_
                    refine mr_bipush (z := 26) dX12_write_386 (by decide) ?_
                    refine mr_iadd (x := (40 * (530 + z43))) (y := 26) dX12_write_388 ?_
                    refine mr_iload (z := z418) dX12_write_389 rfl ?_
                    refine mr_iadd (x := ((40 * (530 + z43)) + 26)) (y := z418) dX12_write_391 ?_
                    refine la_126 dX12_write_392 (A_126 hw) T422 (rIx (n := 84000) (rAdd (e := 21226) (f := 39193) (rAdd (e := 21226) (f := 39186) (rMulL (n := 40) (e := 21200) (f := 39160) (rAdd (e := 530) (f := 979) (rR (x := 530)) h42.1 rfl) rfl) (rR (x := 26)) rfl) h445 rfl) rfl) fun z446 q447 h448 => ?_
                    refine mr_cVV (c_X12_octet4 hw T422 h448.1) (gOk _ _ _ _ _) dX12_write_393 (tX12_octet4 _ _ _ _ _) ⟨wV_X12_octet4, wL_X12_octet4⟩ wM_X12_680 (gCX12 _ _ _ _ _) rfl (A_106 hw) rfl ⟨le_t rfl, le_t rfl⟩ ⟨le_t rfl, le_t rfl⟩ rfl (le_t rfl) fun μ449 T450 F451 h452 => ?_
                    refine mr_iinc (lv' := [(9, iv (z418 + 1)), (0, .ref 106), (3, iv p3), (4, iv (40 * (530 + z43))), (6, iv z57)]) dX12_write_396 rfl (by decide) rfl ?_
                    refine sv_goto (tgt := 372) dX12_write_399 (by decide) ?_
                    refine mr_lvS (lv' := [(0, .ref 106), (3, iv p3), (4, iv (40 * (530 + z43))), (6, iv z57), (9, iv (z418 + 1))]) (List.forall_mem_cons.mpr ⟨rfl, List.forall_mem_cons.mpr ⟨rfl, List.forall_mem_cons.mpr ⟨rfl, List.forall_mem_cons.mpr ⟨rfl, List.forall_mem_cons.mpr ⟨rfl, fun _ h => absurd h List.not_mem_nil⟩⟩⟩⟩⟩) ?_
                    exact ih426 (z418 + 1) μ449 T450 (mF.call (mF.call mF.refl F423 rfl) F451 rfl) (rW (c := 0) (d := 8) (rAdd (e := 1) (f := 8) h445 (rR (x := 1)) rfl) rfl) (vc_X12_write_24 (nS h425) h436 h448.2.1 h448.2.2.1 h448.2.2.2 h42.2.1 h225 h14 h25 h37 h445 h42.1 h448.1 h234)
                refine mr_lvS (lv' := [(0, .ref 106), (3, iv p3), (4, iv (40 * (530 + z43))), (6, iv z57), (9, iv 0)]) (List.forall_mem_cons.mpr ⟨rfl, List.forall_mem_cons.mpr ⟨rfl, List.forall_mem_cons.mpr ⟨rfl, List.forall_mem_cons.mpr ⟨rfl, List.forall_mem_cons.mpr ⟨rfl, fun _ h => absurd h List.not_mem_nil⟩⟩⟩⟩⟩) ?_
                exact L420 10 0 μ243 T244 mF.refl (rW (c := 0) (d := 8) (rR (x := 0)) rfl) vc_X12_write_25
              refine mr_if_le (tgt := 343) dX12_write_310 (by decide) h68.1 (fun h453 => ?_) (fun h453 => ?_)
              · have h454 : (-2147483648) ≤ z66 ∧ z66 ≤ 0 := (vc_X12_write_26 h453 h68.1)
                exact J188 μ161 T162 mF.refl
              have h455 : 1 ≤ z66 ∧ z66 ≤ 2147483647 := (vc_X12_write_27 h453 h68.1)
              refine sv_aload_n dX12_write_313 rfl rfl ?_
              refine mr_sipush (z := 128) dX12_write_314 (by decide) ?_
              refine mr_cVV (c_X12_octet1 hw T162 (rW (c := (-2147483648)) (d := 2147483647) (rR (x := 128)) rfl)) (gOk _ _ _ _ _) dX12_write_317 (tX12_octet1 _ _ _ _ _) ⟨wV_X12_octet1, wL_X12_octet1⟩ wM_X12_674 (gCX12 _ _ _ _ _) rfl (A_106 hw) rfl ⟨le_t rfl, le_t rfl⟩ ⟨le_t rfl, le_t rfl⟩ rfl (le_t rfl) fun μ456 T457 F458 h459 => ?_
              refine sv_aload_n dX12_write_320 rfl rfl ?_
              refine mr_iconst (z := 4) dX12_write_321 ?_
              refine mr_cVV (c_X12_octet1 hw T457 (rW (c := (-2147483648)) (d := 2147483647) (rR (x := 4)) rfl)) (gOk _ _ _ _ _) dX12_write_322 (tX12_octet1 _ _ _ _ _) ⟨wV_X12_octet1, wL_X12_octet1⟩ wM_X12_674 (gCX12 _ _ _ _ _) rfl (A_106 hw) rfl ⟨le_t rfl, le_t rfl⟩ ⟨le_t rfl, le_t rfl⟩ rfl (le_t rfl) fun μ460 T461 F462 h463 => ?_
              refine sv_aload_n dX12_write_325 rfl rfl ?_
              refine mr_iconst (z := 4) dX12_write_326 ?_
              refine mr_cVV (c_X12_octet1 hw T461 (rW (c := (-2147483648)) (d := 2147483647) (rR (x := 4)) rfl)) (gOk _ _ _ _ _) dX12_write_327 (tX12_octet1 _ _ _ _ _) ⟨wV_X12_octet1, wL_X12_octet1⟩ wM_X12_674 (gCX12 _ _ _ _ _) rfl (A_106 hw) rfl ⟨le_t rfl, le_t rfl⟩ ⟨le_t rfl, le_t rfl⟩ rfl (le_t rfl) fun μ464 T465 F466 h467 => ?_
              refine sv_aload_n dX12_write_330 rfl rfl ?_
              refine sv_aload_n dX12_write_331 rfl rfl ?_
              refine gf_X12_32 dX12_write_332 wF_X12_148 (A_106 hw) T465 ?_
              refine mr_iload (z := (40 * (530 + z43))) dX12_write_335 rfl ?_
              refine mr_iconst (z := 3) dX12_write_337 ?_
              refine mr_iadd (x := (40 * (530 + z43))) (y := 3) dX12_write_338 ?_
              refine lk_126 dX12_write_339 (A_126 hw) (rIx (n := 84000) (rAdd (e := 21203) (f := 39163) (rMulL (n := 40) (e := 21200) (f := 39160) (rAdd (e := 530) (f := 979) (rR (x := 530)) h42.1 rfl) rfl) (rR (x := 3)) rfl) rfl) (F466.f (A_126 hw) rfl (F462.f (A_126 hw) rfl (F458.f (A_126 hw) rfl (F163.f (A_126 hw) rfl (F127.f (A_126 hw) rfl (F123.f (A_126 hw) rfl (F119.f (A_126 hw) rfl (F115.f (A_126 hw) rfl (F108.f (A_126 hw) rfl (F104.f (A_126 hw) rfl (F100.f (A_126 hw) rfl (F96.f (A_126 hw) rfl (F92.f (A_126 hw) rfl (F85.f (A_126 hw) rfl (F81.f (A_126 hw) rfl q67))))))))))))))) ?_
              refine mr_cVV (c_X12_octet4 hw T465 (rW (c := (-2147483648)) (d := 2147483647) h455 rfl)) (gOk _ _ _ _ _) dX12_write_340 (tX12_octet4 _ _ _ _ _) ⟨wV_X12_octet4, wL_X12_octet4⟩ wM_X12_680 (gCX12 _ _ _ _ _) rfl (A_106 hw) rfl ⟨le_t rfl, le_t rfl⟩ ⟨le_t rfl, le_t rfl⟩ rfl (le_t rfl) fun μ468 T469 F470 h471 => ?_
              exact J188 μ468 T469 (mF.call (mF.call (mF.call (mF.call mF.refl F458 rfl) F462 rfl) F466 rfl) F470 rfl)
            refine mr_if_le (tgt := 301) dX12_write_254 (by decide) (r32 h56 rfl) (fun h472 => ?_) (fun h472 => ?_)
            · have h473 : 0 ≤ z53 ∧ z53 ≤ 0 := (vc_X12_write_28 h472 h56)
              refine mr_lvS (lv' := [(0, .ref 106), (3, iv p3), (4, iv (40 * (530 + z43))), (6, iv z57)]) (List.forall_mem_cons.mpr ⟨rfl, List.forall_mem_cons.mpr ⟨rfl, List.forall_mem_cons.mpr ⟨rfl, List.forall_mem_cons.mpr ⟨rfl, fun _ h => absurd h List.not_mem_nil⟩⟩⟩⟩) ?_
              exact J165 μ125 T126 mF.refl
            have h474 : 1 ≤ z53 ∧ z53 ≤ 20 := (vc_X12_write_29 h472 h56)
            refine sv_aload_n dX12_write_257 rfl rfl ?_
            refine mr_iconst (z := 2) dX12_write_258 ?_
            refine mr_cVV (c_X12_octet1 hw T126 (rW (c := (-2147483648)) (d := 2147483647) (rR (x := 2)) rfl)) (gOk _ _ _ _ _) dX12_write_259 (tX12_octet1 _ _ _ _ _) ⟨wV_X12_octet1, wL_X12_octet1⟩ wM_X12_674 (gCX12 _ _ _ _ _) rfl (A_106 hw) rfl ⟨le_t rfl, le_t rfl⟩ ⟨le_t rfl, le_t rfl⟩ rfl (le_t rfl) fun μ475 T476 F477 h478 => ?_
            refine sv_aload_n dX12_write_262 rfl rfl ?_
            refine mr_iload (z := z53) dX12_write_263 rfl ?_
            refine mr_cVV (c_X12_octet1 hw T476 (rW (c := (-2147483648)) (d := 2147483647) h474 rfl)) (gOk _ _ _ _ _) dX12_write_265 (tX12_octet1 _ _ _ _ _) ⟨wV_X12_octet1, wL_X12_octet1⟩ wM_X12_674 (gCX12 _ _ _ _ _) rfl (A_106 hw) rfl ⟨le_t rfl, le_t rfl⟩ ⟨le_t rfl, le_t rfl⟩ rfl (le_t rfl) fun μ479 T480 F481 h482 => ?_
            refine mr_iconst (z := 0) dX12_write_268 ?_
            refine mr_istore (lv' := [(9, iv 0), (8, iv (((7 + z63) + z71) + z76)), (0, .ref 106), (3, iv p3), (4, iv (40 * (530 + z43))), (5, iv z53), (6, iv z57), (7, iv z63)]) dX12_write_269 (by decide) rfl ?_
            have L637 : ∀ (nL637 : Nat) (z635 : Int) (μ636 : mM), mT w μ636 → mF [106104, 174999] w μ479 μ636 → (0 ≤ z635 ∧ z635 ≤ 20) → (21 - z635) < (nL637 : Int) → sV (gG l D c H0 sa) mX12_write (sRm 3 0 0) (sZ (gG l D c H0 sa) 0 0 (qI w [106104, 174999] μ (fun z μ1 => ((-2147483648) ≤ z ∧ z ≤ 2147483647) ∧ True))) 271 [(0, .ref 106), (3, iv p3), (4, iv (40 * (530 + z43))), (5, iv z53), (6, iv z57), (9, iv z635)] [] (mk w μ636) 0 0 := by
              intro nL637
              induction nL637 with
              | zero => intro z635 μ636 T639 F640 h638 h642; exact ((vc_X12_write_30 h642 h638)).elim
              | succ nL637 ih643 =>
                intro z635 μ636 T639 F640 h638 h642
                refine mr_iload (z := z635) dX12_write_271 rfl ?_
                refine mr_iload (z := z53) dX12_write_273 rfl ?_
                refine mr_icmp_ge (tgt := 301) dX12_write_275 (by decide) (r32 h638 rfl) (r32 h474 rfl) (fun h644 => ?_) (fun h644 => ?_)
                · have h645 : 1 ≤ z635 ∧ z635 ≤ 20 := (vc_X12_write_31 h644 h472 h474 h638)
                  refine mr_lvS (lv' := [(0, .ref 106), (3, iv p3), (4, iv (40 * (530 + z43))), (6, iv z57)]) (List.forall_mem_cons.mpr ⟨rfl, List.forall_mem_cons.mpr ⟨rfl, List.forall_mem_cons.mpr ⟨rfl, List.forall_mem_cons.mpr ⟨rfl, fun _ h => absurd h List.not_mem_nil⟩⟩⟩⟩) ?_
                  exact J165 μ636 T639 (mF.call (mF.call (mF.call mF.refl F477 rfl) F481 rfl) F640 rfl)
                have h646 : 0 ≤ z635 ∧ z635 ≤ 19 := (vc_X12_write_32 h644 h472 h474 h638)
                refine sv_aload_n dX12_write_278 rfl rfl ?_
                refine sv_aload_n dX12_write_279 rfl rfl ?_
                refine gf_X12_32 dX12_write_280 wF_X12_148 (A_106 hw) T639 ?_
                refine mr_iload (z := (40 * (530 + z43))) dX12_write_283 rfl ?_
                refine mr_bipush (z := 6) dX12_write_285 (by decide) ?_
                refine mr_iadd (x := (40 * (530 + z43))) (y := 6) dX12_write_287 ?_
                refine mr_iload (z := z635) dX12_write_288 rfl ?_
                refine mr_iadd (x := ((40 * (530 + z43)) + 6)) (y := z635) dX12_write_290 ?_
                refine la_126 dX12_write_291 (A_126 hw) T639 (rIx (n := 84000) (rAdd (e := 21206) (f := 39185) (rAdd (e := 21206) (f := 39166) (rMulL (n := 40) (e := 21200) (f := 39160) (rAdd (e := 530) (f := 979) (rR (x := 530)) h42.1 rfl) rfl) (rR (x := 6)) rfl) h646 rfl) rfl) fun z647 q648 h649 => ?_
                refine mr_cVV (c_X12_octet4 hw T639 h649.1) (gOk _ _ _ _ _) dX12_write_292 (tX12_octet4 _ _ _ _ _) ⟨wV_X12_octet4, wL_X12_octet4⟩ wM_X12_680 (gCX12 _ _ _ _ _) rfl (A_106 hw) rfl ⟨le_t rfl, le_t rfl⟩ ⟨le_t rfl, le_t rfl⟩ rfl (le_t rfl) fun μ650 T651 F652 h653 => ?_
                refine mr_iinc (lv' := [(9, iv (z635 + 1)), (0, .ref 106), (3, iv p3), (4, iv (40 * (530 + z43))), (5, iv z53), (6, iv z57)]) dX12_write_295 rfl (by decide) rfl ?_
                refine sv_goto (tgt := 271) dX12_write_298 (by decide) ?_
                refine mr_lvS (lv' := [(0, .ref 106), (3, iv p3), (4, iv (40 * (530 + z43))), (5, iv z53), (6, iv z57), (9, iv (z635 + 1))]) (List.forall_mem_cons.mpr ⟨rfl, List.forall_mem_cons.mpr ⟨rfl, List.forall_mem_cons.mpr ⟨rfl, List.forall_mem_cons.mpr ⟨rfl, List.forall_mem_cons.mpr ⟨rfl, List.forall_mem_cons.mpr ⟨rfl, fun _ h => absurd h List.not_mem_nil⟩⟩⟩⟩⟩⟩) ?_
                exact ih643 (z635 + 1) μ650 T651 (mF.call (mF.call mF.refl F640 rfl) F652 rfl) (rW (c := 0) (d := 20) (rAdd (e := 1) (f := 20) h646 (rR (x := 1)) rfl) rfl) (vc_X12_write_33 (nS h642) h644 h649.2.1 h649.2.2.1 h649.2.2.2 h42.2.1 h472 h14 h25 h37 h42.1 h474 h646 h649.1)
            refine mr_lvS (lv' := [(0, .ref 106), (3, iv p3), (4, iv (40 * (530 + z43))), (5, iv z53), (6, iv z57), (9, iv 0)]) (List.forall_mem_cons.mpr ⟨rfl, List.forall_mem_cons.mpr ⟨rfl, List.forall_mem_cons.mpr ⟨rfl, List.forall_mem_cons.mpr ⟨rfl, List.forall_mem_cons.mpr ⟨rfl, List.forall_mem_cons.mpr ⟨rfl, fun _ h => absurd h List.not_mem_nil⟩⟩⟩⟩⟩⟩) ?_
            exact L637 22 0 μ479 T480 mF.refl (rW (c := 0) (d := 20) (rR (x := 0)) rfl) vc_X12_write_34
          refine mr_if_le (tgt := 177) dX12_write_165 (by decide) (r32 h60 rfl) (fun h654 => ?_) (fun h654 => ?_)
          · have h655 : 0 ≤ z57 ∧ z57 ≤ 0 := (vc_X12_write_19 h654 h60)
            refine mr_iconst (z := 0) dX12_write_177 ?_
            exact J78 0 (rW (c := 0) (d := 35) (rR (x := 0)) rfl)
          have h656 : 1 ≤ z57 ∧ z57 ≤ 8 := (vc_X12_write_20 h654 h60)
          refine mr_iconst (z := 3) dX12_write_168 ?_
          refine mr_iconst (z := 4) dX12_write_169 ?_
          refine mr_iload (z := z57) dX12_write_170 rfl ?_
          refine mr_imul (x := 4) (y := z57) dX12_write_172 ?_
          refine mr_iadd (x := 3) (y := (4 * z57)) dX12_write_173 ?_
          refine sv_goto (tgt := 178) dX12_write_174 (by decide) ?_
          exact J78 (3 + (4 * z57)) (rW (c := 0) (d := 35) (rAdd (e := 7) (f := 35) (rR (x := 3)) (rMulL (n := 4) (e := 4) (f := 32) h656 rfl) rfl) rfl)
        refine mr_if_le (tgt := 161) dX12_write_153 (by decide) h68.1 (fun h657 => ?_) (fun h657 => ?_)
        · have h658 : (-2147483648) ≤ z66 ∧ z66 ≤ 0 := (vc_X12_write_26 h657 h68.1)
          refine mr_iconst (z := 0) dX12_write_161 ?_
          refine mr_lvS (lv' := [(0, .ref 106), (3, iv p3), (4, iv (40 * (530 + z43))), (5, iv z53), (6, iv z57), (7, iv z63)]) (List.forall_mem_cons.mpr ⟨rfl, List.forall_mem_cons.mpr ⟨rfl, List.forall_mem_cons.mpr ⟨rfl, List.forall_mem_cons.mpr ⟨rfl, List.forall_mem_cons.mpr ⟨rfl, List.forall_mem_cons.mpr ⟨rfl, fun _ h => absurd h List.not_mem_nil⟩⟩⟩⟩⟩⟩) ?_
          exact J73 0 (rW (c := 0) (d := 7) (rR (x := 0)) rfl)
        have h659 : 1 ≤ z66 ∧ z66 ≤ 2147483647 := (vc_X12_write_27 h657 h68.1)
        refine mr_bipush (z := 7) dX12_write_156 (by decide) ?_
        refine sv_goto (tgt := 162) dX12_write_158 (by decide) ?_
        refine mr_lvS (lv' := [(0, .ref 106), (3, iv p3), (4, iv (40 * (530 + z43))), (5, iv z53), (6, iv z57), (7, iv z63)]) (List.forall_mem_cons.mpr ⟨rfl, List.forall_mem_cons.mpr ⟨rfl, List.forall_mem_cons.mpr ⟨rfl, List.forall_mem_cons.mpr ⟨rfl, List.forall_mem_cons.mpr ⟨rfl, List.forall_mem_cons.mpr ⟨rfl, fun _ h => absurd h List.not_mem_nil⟩⟩⟩⟩⟩⟩) ?_
        exact J73 7 (rW (c := 0) (d := 7) (rR (x := 7)) rfl)
      refine mr_if_ne (tgt := 131) dX12_write_124 (by decide) (r32 h56 rfl) (fun h660 => ?_) (fun h660 => ?_)
      · have h661 : 1 ≤ z53 ∧ z53 ≤ 20 := (vc_X12_write_35 h660 h56)
        refine mr_iconst (z := 2) dX12_write_131 ?_
        refine mr_iconst (z := 4) dX12_write_132 ?_
        refine mr_iload (z := z53) dX12_write_133 rfl ?_
        refine mr_imul (x := 4) (y := z53) dX12_write_135 ?_
        refine mr_iadd (x := 2) (y := (4 * z53)) dX12_write_136 ?_
        refine mr_lvS (lv' := [(0, .ref 106), (3, iv p3), (4, iv (40 * (530 + z43))), (5, iv z53), (6, iv z57)]) (List.forall_mem_cons.mpr ⟨rfl, List.forall_mem_cons.mpr ⟨rfl, List.forall_mem_cons.mpr ⟨rfl, List.forall_mem_cons.mpr ⟨rfl, List.forall_mem_cons.mpr ⟨rfl, fun _ h => absurd h List.not_mem_nil⟩⟩⟩⟩⟩) ?_
        exact J65 (2 + (4 * z53)) (rW (c := 0) (d := 82) (rAdd (e := 6) (f := 82) (rR (x := 2)) (rMulL (n := 4) (e := 4) (f := 80) h661 rfl) rfl) rfl)
      have h662 : 0 ≤ z53 ∧ z53 ≤ 0 := (vc_X12_write_36 h660 h56)
      refine mr_iconst (z := 0) dX12_write_127 ?_
      refine sv_goto (tgt := 137) dX12_write_128 (by decide) ?_
      refine mr_lvS (lv' := [(0, .ref 106), (3, iv p3), (4, iv (40 * (530 + z43))), (5, iv z53), (6, iv z57)]) (List.forall_mem_cons.mpr ⟨rfl, List.forall_mem_cons.mpr ⟨rfl, List.forall_mem_cons.mpr ⟨rfl, List.forall_mem_cons.mpr ⟨rfl, List.forall_mem_cons.mpr ⟨rfl, fun _ h => absurd h List.not_mem_nil⟩⟩⟩⟩⟩) ?_
      exact J65 0 (rW (c := 0) (d := 82) (rR (x := 0)) rfl)
    have h663 : (-1) ≤ z47 ∧ z47 ≤ (-1) := (vc_X12_write_37 h51 h50)
    refine sv_aload_n dX12_write_57 rfl rfl ?_
    refine mr_iconst (z := 0) dX12_write_58 ?_
    refine mr_cVV (c_X12_octet1 hw T46 (rW (c := (-2147483648)) (d := 2147483647) (rR (x := 0)) rfl)) (gOk _ _ _ _ _) dX12_write_59 (tX12_octet1 _ _ _ _ _) ⟨wV_X12_octet1, wL_X12_octet1⟩ wM_X12_674 (gCX12 _ _ _ _ _) rfl (A_106 hw) rfl ⟨le_t rfl, le_t rfl⟩ ⟨le_t rfl, le_t rfl⟩ rfl (le_t rfl) fun μ664 T665 F666 h667 => ?_
    refine sv_aload_n dX12_write_62 rfl rfl ?_
    refine mr_iconst (z := 1) dX12_write_63 ?_
    refine sv_aload_n dX12_write_64 rfl rfl ?_
    refine gf_X12_4 dX12_write_65 wF_X12_26 (A_106 hw) T665 ?_
    refine mr_iload_n (z := p3) dX12_write_68 rfl rfl ?_
    refine la_109 dX12_write_69 (A_109 hw) T665 (rIx (n := 10) h37 rfl) fun z668 q669 h670 => ?_
    refine mr_bipush (z := 7) dX12_write_70 (by decide) ?_
    refine mr_iadd (x := z668) (y := 7) dX12_write_72 ?_
    refine mr_bipush (z := 8) dX12_write_73 (by decide) ?_
    refine mr_idiv (x := (z668 + 7)) (y := 8) dX12_write_75 (rW (c := 0) (d := 2147483647) (rAdd (e := 7) (f := 39) h670 (rR (x := 7)) rfl) rfl) vc_X12_write_38 ?_
    refine mr_gen (P := fun z => 0 ≤ z ∧ z ≤ 4) (rDiv (rAdd (e := 7) (f := 39) h670 (rR (x := 7)) rfl) rfl) fun z671 q672 h673 => ?_
    refine mr_iadd (x := 1) (y := z671) dX12_write_76 ?_
    refine mr_cVV (c_X12_octet1 hw T665 (rW (c := (-2147483648)) (d := 2147483647) (rAdd (e := 1) (f := 5) (rR (x := 1)) h673 rfl) rfl)) (gOk _ _ _ _ _) dX12_write_77 (tX12_octet1 _ _ _ _ _) ⟨wV_X12_octet1, wL_X12_octet1⟩ wM_X12_674 (gCX12 _ _ _ _ _) rfl (A_106 hw) rfl ⟨le_t rfl, le_t rfl⟩ ⟨le_t rfl, le_t rfl⟩ rfl (le_t rfl) fun μ674 T675 F676 h677 => ?_
    refine sv_aload_n dX12_write_80 rfl rfl ?_
    refine mr_iload_n (z := p3) dX12_write_81 rfl rfl ?_
    refine mr_cVV (c_X12_prefixOut hw T675 (rW (c := (-2147483648)) (d := 2147483647) h37 rfl)) (gOk _ _ _ _ _) dX12_write_82 (tX12_prefixOut _ _ _ _ _) ⟨wV_X12_prefixOut, wL_X12_prefixOut⟩ wM_X12_677 (gCX12 _ _ _ _ _) rfl (A_106 hw) rfl ⟨le_t rfl, le_t rfl⟩ ⟨le_t rfl, le_t rfl⟩ rfl (le_t rfl) fun μ678 T679 F680 h681 => ?_
    refine sv_aload_n dX12_write_85 rfl rfl ?_
    refine mr_iconst (z := 0) dX12_write_86 ?_
    refine mr_cVV (c_X12_octet1 hw T679 (rW (c := (-2147483648)) (d := 2147483647) (rR (x := 0)) rfl)) (gOk _ _ _ _ _) dX12_write_87 (tX12_octet1 _ _ _ _ _) ⟨wV_X12_octet1, wL_X12_octet1⟩ wM_X12_674 (gCX12 _ _ _ _ _) rfl (A_106 hw) rfl ⟨le_t rfl, le_t rfl⟩ ⟨le_t rfl, le_t rfl⟩ rfl (le_t rfl) fun μ682 T683 F684 h685 => ?_
    refine sv_aload_n dX12_write_90 rfl rfl ?_
    refine mr_iconst (z := 0) dX12_write_91 ?_
    refine mr_cVV (c_X12_octet1 hw T683 (rW (c := (-2147483648)) (d := 2147483647) (rR (x := 0)) rfl)) (gOk _ _ _ _ _) dX12_write_92 (tX12_octet1 _ _ _ _ _) ⟨wV_X12_octet1, wL_X12_octet1⟩ wM_X12_674 (gCX12 _ _ _ _ _) rfl (A_106 hw) rfl ⟨le_t rfl, le_t rfl⟩ ⟨le_t rfl, le_t rfl⟩ rfl (le_t rfl) fun μ686 T687 F688 h689 => ?_
    refine sv_aload_n dX12_write_95 rfl rfl ?_
    refine gf_X12_104 dX12_write_96 wF_X12_671 (A_106 hw) T687 fun z690 q691 h692 => ?_
    exact mr_iret dX12_write_99 rfl (le_t rfl) (le_t rfl) T687 (mF.call (mF.call (mF.call (mF.call (mF.call (mF.up mF.refl (A_106 hw) u45 rfl) F666 rfl) F676 rfl) F680 rfl) F684 rfl) F688 rfl) ⟨(rW (c := (-2147483648)) (d := 2147483647) h692 rfl), trivial⟩
  have h693 : 0 ≤ z33 ∧ z33 ≤ 0 := (vc_X12_write_39 h34 h32.2.1 h32.2.2.1 hp3 h28 h32.1)
  have h694 : p3 < 0 ∨ z26 ≤ p3 := (h32.2.2.1 (vc_X12_write_40 h32.2.1 h32.2.2.1 h34 hp3 h28 h693))
  refine mr_iconst (z := (-1)) dX12_write_25 ?_
  exact mr_iret dX12_write_26 rfl (le_t rfl) (le_t rfl) hT mF.refl ⟨(rW (c := (-2147483648)) (d := 2147483647) (rR (x := (-1))) rfl), trivial⟩
theorem vc_X12_octet_1 {p1 z1 z8 : Int} (h0 : z8 = 0) (h1 : (z8 = 1 → 0 ≤ p1 ∧ p1 ≤ (z1 - 1))) (h2 : (z8 = 0 → p1 < 0 ∨ (z1 - 1) < p1)) (h3 : (-2147483648) ≤ p1 ∧ p1 ≤ 2147483647) (h4 : 0 ≤ z1 ∧ z1 ≤ 300) (h5 : 0 ≤ z8 ∧ z8 ≤ 1) : 0 ≤ z8 ∧ z8 ≤ 0 := by omega
theorem vc_X12_octet_2 {p1 z1 z8 : Int} (h0 : (z8 = 1 → 0 ≤ p1 ∧ p1 ≤ (z1 - 1))) (h1 : (z8 = 0 → p1 < 0 ∨ (z1 - 1) < p1)) (h2 : z8 = 0) (h3 : (-2147483648) ≤ p1 ∧ p1 ≤ 2147483647) (h4 : 0 ≤ z1 ∧ z1 ≤ 300) (h5 : 0 ≤ z8 ∧ z8 ≤ 0) : z8 = 0 := by omega
theorem vc_X12_octet_3 {p1 z1 z8 : Int} (h0 : ¬ z8 = 0) (h1 : (z8 = 1 → 0 ≤ p1 ∧ p1 ≤ (z1 - 1))) (h2 : (z8 = 0 → p1 < 0 ∨ (z1 - 1) < p1)) (h3 : (-2147483648) ≤ p1 ∧ p1 ≤ 2147483647) (h4 : 0 ≤ z1 ∧ z1 ≤ 300) (h5 : 0 ≤ z8 ∧ z8 ≤ 1) : 1 ≤ z8 ∧ z8 ≤ 1 := by omega
theorem vc_X12_octet_4 {p1 z1 z8 : Int} (h0 : (z8 = 1 → 0 ≤ p1 ∧ p1 ≤ (z1 - 1))) (h1 : (z8 = 0 → p1 < 0 ∨ (z1 - 1) < p1)) (h2 : ¬ z8 = 0) (h3 : (-2147483648) ≤ p1 ∧ p1 ≤ 2147483647) (h4 : 0 ≤ z1 ∧ z1 ≤ 300) (h5 : 1 ≤ z8 ∧ z8 ≤ 1) : z8 = 1 := by omega
theorem vc_X12_octet_5 {p1 z1 z8 : Int} (h0 : 0 ≤ p1 ∧ p1 ≤ (z1 - 1)) (h1 : (z8 = 1 → 0 ≤ p1 ∧ p1 ≤ (z1 - 1))) (h2 : (z8 = 0 → p1 < 0 ∨ (z1 - 1) < p1)) (h3 : (-2147483648) ≤ p1 ∧ p1 ≤ 2147483647) (h4 : 0 ≤ z1 ∧ z1 ≤ 300) (h5 : 1 ≤ z8 ∧ z8 ≤ 1) : 0 ≤ p1 ∧ p1 ≤ 2147483647 := by omega
theorem vc_X12_octet_6 {p1 z1 z8 : Int} (h0 : (z8 = 1 → 0 ≤ p1 ∧ p1 ≤ (z1 - 1))) (h1 : (z8 = 0 → p1 < 0 ∨ (z1 - 1) < p1)) (h2 : 0 ≤ p1 ∧ p1 ≤ (z1 - 1)) (h3 : ¬ z8 = 0) (h4 : 0 ≤ p1 ∧ p1 ≤ 2147483647) (h5 : 0 ≤ z1 ∧ z1 ≤ 300) (h6 : 1 ≤ z8 ∧ z8 ≤ 1) : 0 ≤ p1 ∧ p1 < 300 := by omega
set_option maxRecDepth 4000 in
set_option maxHeartbeats 4000000 in
theorem c_X12_octet {l : Launch} {D : va_G} {c : Nat → ClassId} {H0 : Heap} {sa : Nat × Nat × (Nat → Int32)} {w : mW} {μ : mM} (hw : mWF w) (hT : mT w μ) {p1 : Int} (hp1 : (-2147483648) ≤ p1 ∧ p1 ≤ 2147483647) : sC (gG l D c H0 sa) mX12_octet 2 0 0 [.ref 106, iv p1] (mk w μ) (qP w μ (fun z => ((-2147483648) ≤ z ∧ z ≤ 2147483647) ∧ True)) := by
  refine sC.of rfl (by decide) (le_t rfl) ?_
  refine mr_lvE (lv' := [(0, .ref 106), (1, iv p1)]) rfl ?_
  refine mr_iload_n (z := p1) dX12_octet_0 rfl rfl ?_
  refine mr_iconst (z := 0) dX12_octet_1 ?_
  refine sv_aload_n dX12_octet_2 rfl rfl ?_
  refine gf_X12_104 dX12_octet_3 wF_X12_671 (A_106 hw) hT fun z1 q2 h3 => ?_
  refine mr_iconst (z := 1) dX12_octet_6 ?_
  refine mr_isub (x := z1) (y := 1) dX12_octet_7 ?_
  refine mr_cSP (c_X12_in hw hT hp1 (rW (c := (-2147483648)) (d := 2147483647) (rR (x := 0)) rfl) (rW (c := (-2147483648)) (d := 2147483647) (rSub (e := (-1)) (f := 299) h3 (rR (x := 1)) rfl) rfl)) (gOk _ _ _ _ _) dX12_octet_8 (tX12_in _ _ _ _ _) wS_X12_in wM_X12_18 ⟨le_t rfl, le_t rfl⟩ ⟨le_t rfl, le_t rfl⟩ rfl (le_t rfl) fun z8 h7 => ?_
  refine mr_if_eq (tgt := 23) dX12_octet_11 (by decide) (r32 h7.1 rfl) (fun h17 => ?_) (fun h17 => ?_)
  · have h18 : 0 ≤ z8 ∧ z8 ≤ 0 := (vc_X12_octet_1 h17 h7.2.1 h7.2.2.1 hp1 h3 h7.1)
    have h19 : p1 < 0 ∨ (z1 - 1) < p1 := (h7.2.2.1 (vc_X12_octet_2 h7.2.1 h7.2.2.1 h17 hp1 h3 h18))
    refine mr_ldc (z := (-99999999)) dX12_octet_23 wG_X12_29 (by decide) ?_
    exact mr_iretP dX12_octet_25 rfl (le_t rfl) (le_t rfl) ⟨(rW (c := (-2147483648)) (d := 2147483647) (rR (x := (-99999999))) rfl), trivial⟩
  have h20 : 1 ≤ z8 ∧ z8 ≤ 1 := (vc_X12_octet_3 h17 h7.2.1 h7.2.2.1 hp1 h3 h7.1)
  have h21 : 0 ≤ p1 ∧ p1 ≤ (z1 - 1) := (h7.2.1 (vc_X12_octet_4 h7.2.1 h7.2.2.1 h17 hp1 h3 h20))
  have h22 : 0 ≤ p1 ∧ p1 ≤ 2147483647 := (vc_X12_octet_5 h21 h7.2.1 h7.2.2.1 hp1 h3 h20)
  refine sv_aload_n dX12_octet_14 rfl rfl ?_
  refine gf_X12_103 dX12_octet_15 wF_X12_484 (A_106 hw) hT ?_
  refine mr_iload_n (z := p1) dX12_octet_18 rfl rfl ?_
  refine la_174 dX12_octet_19 (A_174 hw) hT (vc_X12_octet_6 h7.2.1 h7.2.2.1 h21 h17 h22 h3 h20) fun z23 q24 h25 => ?_
  refine sv_goto (tgt := 25) dX12_octet_20 (by decide) ?_
  exact mr_iretP dX12_octet_25 rfl (le_t rfl) (le_t rfl) ⟨h25, trivial⟩
theorem vc_X12_sends_1 {z228 : Int} (h0 : (11 - z228) < ((0 : Nat) : Int)) (h1 : 0 ≤ z228 ∧ z228 ≤ 10) : False := by omega
theorem vc_X12_sends_2 {z229 : Int} (h0 : ¬ z229 = (-99999999)) (h1 : z229 = -99999999 ∨ (0 ≤ z229 ∧ z229 ≤ 9)) (h2 : (-99999999) ≤ z229 ∧ z229 ≤ 9) : (-99999998) ≤ z229 ∧ z229 ≤ 9 := by omega
theorem vc_X12_sends_3 {p1 z229 : Int} (h0 : z229 = -99999999 ∨ (0 ≤ z229 ∧ z229 ≤ 9)) (h1 : ¬ z229 = (-99999999)) (h2 : 0 ≤ p1 ∧ p1 ≤ 9) (h3 : (-99999998) ≤ z229 ∧ z229 ≤ 9) : 0 ≤ ((10 * p1) + z229) ∧ ((10 * p1) + z229) < 100 := by omega
theorem vc_X12_sends_4 {z279 : Int} (h0 : z279 = -99999999 ∨ z279 = -4 ∨ (0 ≤ z279 ∧ z279 ≤ 19)) : -99999999 ≤ z279 ∧ z279 ≤ 19 := by omega
theorem vc_X12_sends_5 {z279 : Int} (h0 : (-99999999) ≤ z279 ∧ z279 ≤ 19) (h1 : z279 = -99999999 ∨ z279 = -4 ∨ (0 ≤ z279 ∧ z279 ≤ 19)) : z279 = -99999999 ∨ z279 = -4 ∨ (0 ≤ z279 ∧ z279 ≤ 19) := by omega
theorem vc_X12_sends_6 {z229 : Int} (h0 : z229 = (-99999999)) (h1 : z229 = -99999999 ∨ (0 ≤ z229 ∧ z229 ≤ 9)) (h2 : (-99999999) ≤ z229 ∧ z229 ≤ 9) : (-99999999) ≤ z229 ∧ z229 ≤ (-99999999) := by omega
theorem vc_X12_sends_7  : (-(99999999 : Int) : Int) = -(99999999 : Int) ∨ (-(99999999 : Int) : Int) = -(4 : Int) ∨ ((0 : Int) ≤ (-(99999999 : Int) : Int) ∧ (-(99999999 : Int) : Int) ≤ (19 : Int)) := by omega
theorem vc_X12_sends_8 {z228 z239 : Int} (h0 : z228 < z239) (h1 : 0 ≤ z228 ∧ z228 ≤ 10) (h2 : 0 ≤ z239 ∧ z239 ≤ 10) : 0 ≤ z228 ∧ z228 ≤ 9 := by omega
theorem vc_X12_sends_9 {z228 z239 : Int} (h0 : z228 < z239) (h1 : 0 ≤ z228 ∧ z228 ≤ 9) (h2 : 0 ≤ z239 ∧ z239 ≤ 10) : 1 ≤ z239 ∧ z239 ≤ 10 := by omega
theorem vc_X12_sends_10 {z286 : Int} (h0 : z286 = -99999999 ∨ z286 = -4 ∨ (0 ≤ z286 ∧ z286 ≤ 19)) : -99999999 ≤ z286 ∧ z286 ≤ 19 := by omega
theorem vc_X12_sends_11 {z286 : Int} (h0 : z286 = (-99999999)) (h1 : (-99999999) ≤ z286 ∧ z286 ≤ 19) (h2 : z286 = -99999999 ∨ z286 = -4 ∨ (0 ≤ z286 ∧ z286 ≤ 19)) : (-99999999) ≤ z286 ∧ z286 ≤ (-99999999) := by omega
theorem vc_X12_sends_12 {z229 : Int} (h0 : z229 = -99999999 ∨ (0 ≤ z229 ∧ z229 ≤ 9)) (h1 : (-99999999) ≤ z229 ∧ z229 ≤ 9) : z229 = -99999999 ∨ (0 ≤ z229 ∧ z229 ≤ 9) := by omega
theorem vc_X12_sends_13 {N z228 z239 : Int} (h0 : (11 - z228) < N + 1) (h1 : z228 < z239) (h2 : 0 ≤ z228 ∧ z228 ≤ 9) (h3 : 1 ≤ z239 ∧ z239 ≤ 10) : (11 - (z228 + 1)) < N := by omega
theorem vc_X12_sends_14 {z286 : Int} (h0 : ¬ z286 = (-99999999)) (h1 : (-99999999) ≤ z286 ∧ z286 ≤ 19) (h2 : z286 = -99999999 ∨ z286 = -4 ∨ (0 ≤ z286 ∧ z286 ≤ 19)) : (-4) ≤ z286 ∧ z286 ≤ 19 := by omega
theorem vc_X12_sends_15 {z325 : Int} (h0 : ¬ z325 = 0) (h1 : 0 ≤ z325 ∧ z325 ≤ 1) : 1 ≤ z325 ∧ z325 ≤ 1 := by omega
theorem vc_X12_sends_16 {z228 z239 : Int} (h0 : z228 < z239) (h1 : 0 ≤ z228 ∧ z228 ≤ 9) (h2 : 1 ≤ z239 ∧ z239 ≤ 10) : z228 = -99999999 ∨ (0 ≤ z228 ∧ z228 ≤ 9) := by omega
theorem vc_X12_sends_17 {z229 : Int} (h0 : z229 = -99999999 ∨ (0 ≤ z229 ∧ z229 ≤ 9)) (h1 : ¬ z229 = (-99999999)) (h2 : (-99999998) ≤ z229 ∧ z229 ≤ 9) : 0 ≤ z229 ∧ z229 < 10 := by omega
theorem vc_X12_sends_18 {z229 : Int} (h0 : z229 = -99999999 ∨ (0 ≤ z229 ∧ z229 ≤ 9)) (h1 : ¬ z229 = (-99999999)) (h2 : (-99999998) ≤ z229 ∧ z229 ≤ 9) : z229 = -99999999 ∨ (0 ≤ z229 ∧ z229 ≤ 9) := by omega
theorem vc_X12_sends_19 {z318 z347 : Int} (h0 : z347 < z318) (h1 : 0 ≤ z318 ∧ z318 ≤ 32) (h2 : 0 ≤ z347 ∧ z347 ≤ 32) : 1 ≤ z318 ∧ z318 ≤ 32 := by omega
theorem vc_X12_sends_20 {z318 z347 : Int} (h0 : z347 < z318) (h1 : 1 ≤ z318 ∧ z318 ≤ 32) (h2 : 0 ≤ z347 ∧ z347 ≤ 32) : 0 ≤ z347 ∧ z347 ≤ 31 := by omega
theorem vc_X12_sends_21 {z325 : Int} (h0 : z325 = 0) (h1 : 0 ≤ z325 ∧ z325 ≤ 1) : 0 ≤ z325 ∧ z325 ≤ 0 := by omega
theorem vc_X12_sends_22  : ((-99999999) : Int) = -(99999999 : Int) ∨ ((0 : Int) ≤ ((-99999999) : Int) ∧ ((-99999999) : Int) ≤ (9 : Int)) := by omega
theorem vc_X12_sends_23  : (11 - 0) < ((12 : Nat) : Int) := by omega
set_option maxRecDepth 4000 in
set_option maxHeartbeats 4000000 in
theorem c_X12_sends {l : Launch} {D : va_G} {c : Nat → ClassId} {H0 : Heap} {sa : Nat × Nat × (Nat → Int32)} {w : mW} {μ : mM} (hw : mWF w) (hT : mT w μ) {p1 : Int} (hp1 : 0 ≤ p1 ∧ p1 ≤ 9) {p2 : Int} (hp2 : (-2147483648) ≤ p2 ∧ p2 ≤ 2147483647) : sC (gG l D c H0 sa) mX12_sends 3 0 0 [.ref 106, iv p1, iv p2] (mk w μ) (qP w μ (fun z => ((-99999999) ≤ z ∧ z ≤ 19) ∧ (z = -99999999 ∨ z = -4 ∨ (0 ≤ z ∧ z ≤ 19)) ∧ True)) := by
  refine sC.of rfl (by decide) (le_t rfl) ?_
  refine mr_lvE (lv' := [(0, .ref 106), (1, iv p1), (2, iv p2)]) rfl ?_
  refine mr_ldc (z := (-99999999)) dX12_sends_0 wG_X12_29 (by decide) ?_
  refine mr_istore_n (lv' := [(3, iv (-99999999)), (0, .ref 106), (1, iv p1), (2, iv p2)]) dX12_sends_2 rfl (by decide) rfl ?_
  refine mr_iconst (z := 0) dX12_sends_3 ?_
  refine mr_istore (lv' := [(4, iv 0), (3, iv (-99999999)), (0, .ref 106), (1, iv p1), (2, iv p2)]) dX12_sends_4 (by decide) rfl ?_
  have L230 : ∀ (nL230 : Nat) (z229 z228 : Int), True → ((-99999999) ≤ z229 ∧ z229 ≤ 9) → (0 ≤ z228 ∧ z228 ≤ 10) → z229 = -99999999 ∨ (0 ≤ z229 ∧ z229 ≤ 9) → (11 - z228) < (nL230 : Int) → sV (gG l D c H0 sa) mX12_sends (sRm 3 0 0) (sZ (gG l D c H0 sa) 0 0 (qP w μ (fun z => ((-99999999) ≤ z ∧ z ≤ 19) ∧ (z = -99999999 ∨ z = -4 ∨ (0 ≤ z ∧ z ≤ 19)) ∧ True))) 6 [(0, .ref 106), (1, iv p1), (2, iv p2), (3, iv z229), (4, iv z228)] [] (mk w μ) 0 0 := by
    intro nL230
    induction nL230 with
    | zero => intro z229 z228 _ h231 h232 h236 h237; exact ((vc_X12_sends_1 h237 h232)).elim
    | succ nL230 ih238 =>
      intro z229 z228 _ h231 h232 h236 h237
      refine mr_iload (z := z228) dX12_sends_6 rfl ?_
      refine sv_aload_n dX12_sends_8 rfl rfl ?_
      refine gf_X12_2 dX12_sends_9 wF_X12_15 (A_106 hw) hT fun z239 q240 h241 => ?_
      refine mr_icmp_ge (tgt := 87) dX12_sends_12 (by decide) (r32 h232 rfl) (r32 h241 rfl) (fun h270 => ?_) (fun h270 => ?_)
      · refine mr_iload_n (z := z229) dX12_sends_87 rfl rfl ?_
        refine mr_ldc (z := (-99999999)) dX12_sends_88 wG_X12_29 (by decide) ?_
        refine mr_icmp_ne (tgt := 98) dX12_sends_90 (by decide) (r32 h231 rfl) (r32 (rR (x := (-99999999))) rfl) (fun h277 => ?_) (fun h277 => ?_)
        · have h278 : (-99999998) ≤ z229 ∧ z229 ≤ 9 := (vc_X12_sends_2 h277 h236 h231)
          refine sv_aload_n dX12_sends_98 rfl rfl ?_
          refine gf_X12_81 dX12_sends_99 wF_X12_445 (A_106 hw) hT ?_
          refine mr_bipush (z := 10) dX12_sends_102 (by decide) ?_
          refine mr_iload_n (z := p1) dX12_sends_104 rfl rfl ?_
          refine mr_imul (x := 10) (y := p1) dX12_sends_105 ?_
          refine mr_iload_n (z := z229) dX12_sends_106 rfl rfl ?_
          refine mr_iadd (x := (10 * p1)) (y := z229) dX12_sends_107 ?_
          refine la_161 dX12_sends_108 (A_161 hw) hT (vc_X12_sends_3 h236 h277 hp1 h278) fun z279 q280 h281 => ?_
          have h282 : (-99999999) ≤ z279 ∧ z279 ≤ 19 := (vc_X12_sends_4 h281)
          exact mr_iretP dX12_sends_109 rfl (le_t rfl) (le_t rfl) ⟨h282, (vc_X12_sends_5 h282 h281), trivial⟩
        have h283 : (-99999999) ≤ z229 ∧ z229 ≤ (-99999999) := (vc_X12_sends_6 h277 h236 h231)
        refine mr_ldc (z := (-99999999)) dX12_sends_93 wG_X12_29 (by decide) ?_
        refine sv_goto (tgt := 109) dX12_sends_95 (by decide) ?_
        exact mr_iretP dX12_sends_109 rfl (le_t rfl) (le_t rfl) ⟨(rW (c := (-99999999)) (d := 19) (rR (x := (-99999999))) rfl), vc_X12_sends_7, trivial⟩
      have h284 : 0 ≤ z228 ∧ z228 ≤ 9 := (vc_X12_sends_8 h270 h232 h241)
      have h285 : 1 ≤ z239 ∧ z239 ≤ 10 := (vc_X12_sends_9 h270 h284 h241)
      refine sv_aload_n dX12_sends_15 rfl rfl ?_
      refine gf_X12_81 dX12_sends_16 wF_X12_445 (A_106 hw) hT ?_
      refine mr_bipush (z := 10) dX12_sends_19 (by decide) ?_
      refine mr_iload_n (z := p1) dX12_sends_21 rfl rfl ?_
      refine mr_imul (x := 10) (y := p1) dX12_sends_22 ?_
      refine mr_iload (z := z228) dX12_sends_23 rfl ?_
      refine mr_iadd (x := (10 * p1)) (y := z228) dX12_sends_25 ?_
      refine la_161 dX12_sends_26 (A_161 hw) hT (rIx (n := 100) (rAdd (e := 0) (f := 99) (rMulL (n := 10) (e := 0) (f := 90) hp1 rfl) h284 rfl) rfl) fun z286 q287 h288 => ?_
      have h289 : (-99999999) ≤ z286 ∧ z286 ≤ 19 := (vc_X12_sends_10 h288)
      refine mr_ldc (z := (-99999999)) dX12_sends_27 wG_X12_29 (by decide) ?_
      refine mr_icmp_eq (tgt := 81) dX12_sends_29 (by decide) (r32 h289 rfl) (r32 (rR (x := (-99999999))) rfl) (fun h312 => ?_) (fun h312 => ?_)
      · have h313 : (-99999999) ≤ z286 ∧ z286 ≤ (-99999999) := (vc_X12_sends_11 h312 h289 h288)
        refine mr_iinc (lv' := [(4, iv (z228 + 1)), (0, .ref 106), (1, iv p1), (2, iv p2), (3, iv z229)]) dX12_sends_81 rfl (by decide) rfl ?_
        refine sv_goto (tgt := 6) dX12_sends_84 (by decide) ?_
        refine mr_lvS (lv' := [(0, .ref 106), (1, iv p1), (2, iv p2), (3, iv z229), (4, iv (z228 + 1))]) (List.forall_mem_cons.mpr ⟨rfl, List.forall_mem_cons.mpr ⟨rfl, List.forall_mem_cons.mpr ⟨rfl, List.forall_mem_cons.mpr ⟨rfl, List.forall_mem_cons.mpr ⟨rfl, fun _ h => absurd h List.not_mem_nil⟩⟩⟩⟩⟩) ?_
        exact ih238 z229 (z228 + 1) trivial h231 (rW (c := 0) (d := 10) (rAdd (e := 1) (f := 10) h284 (rR (x := 1)) rfl) rfl) (vc_X12_sends_12 h236 h231) (vc_X12_sends_13 (nS h237) h270 h284 h285)
      have h314 : (-4) ≤ z286 ∧ z286 ≤ 19 := (vc_X12_sends_14 h312 h289 h288)
      refine sv_aload_n dX12_sends_32 rfl rfl ?_
      refine gf_X12_3 dX12_sends_33 wF_X12_22 (A_106 hw) hT ?_
      refine mr_iload (z := z228) dX12_sends_36 rfl ?_
      refine la_108 dX12_sends_38 (A_108 hw) hT (rIx (n := 10) h284 rfl) fun z315 q316 h317 => ?_
      refine sv_aload_n dX12_sends_39 rfl rfl ?_
      refine gf_X12_4 dX12_sends_40 wF_X12_26 (A_106 hw) hT ?_
      refine mr_iload (z := z228) dX12_sends_43 rfl ?_
      refine la_109 dX12_sends_45 (A_109 hw) hT (rIx (n := 10) h284 rfl) fun z318 q319 h320 => ?_
      refine mr_iload_n (z := p2) dX12_sends_46 rfl rfl ?_
      refine mr_cSP (c_X12_holds hw hT h317 h320 hp2) (gOk _ _ _ _ _) dX12_sends_47 (tX12_holds _ _ _ _ _) wS_X12_holds wM_X12_142 ⟨le_t rfl, le_t rfl⟩ ⟨le_t rfl, le_t rfl⟩ rfl (le_t rfl) fun z325 h324 => ?_
      refine mr_if_ne (tgt := 56) dX12_sends_50 (by decide) (r32 h324.1 rfl) (fun h335 => ?_) (fun h335 => ?_)
      · have h336 : 1 ≤ z325 ∧ z325 ≤ 1 := (vc_X12_sends_15 h335 h324.1)
        refine mr_iload_n (z := z229) dX12_sends_56 rfl rfl ?_
        refine mr_ldc (z := (-99999999)) dX12_sends_57 wG_X12_29 (by decide) ?_
        refine mr_icmp_eq (tgt := 78) dX12_sends_59 (by decide) (r32 h231 rfl) (r32 (rR (x := (-99999999))) rfl) (fun h344 => ?_) (fun h344 => ?_)
        · have h345 : (-99999999) ≤ z229 ∧ z229 ≤ (-99999999) := (vc_X12_sends_6 h344 h236 h231)
          refine mr_iload (z := z228) dX12_sends_78 rfl ?_
          refine mr_istore_n (lv' := [(3, iv z228), (0, .ref 106), (1, iv p1), (2, iv p2), (4, iv z228)]) dX12_sends_80 rfl (by decide) rfl ?_
          refine mr_iinc (lv' := [(4, iv (z228 + 1)), (3, iv z228), (0, .ref 106), (1, iv p1), (2, iv p2)]) dX12_sends_81 rfl (by decide) rfl ?_
          refine sv_goto (tgt := 6) dX12_sends_84 (by decide) ?_
          refine mr_lvS (lv' := [(0, .ref 106), (1, iv p1), (2, iv p2), (3, iv z228), (4, iv (z228 + 1))]) (List.forall_mem_cons.mpr ⟨rfl, List.forall_mem_cons.mpr ⟨rfl, List.forall_mem_cons.mpr ⟨rfl, List.forall_mem_cons.mpr ⟨rfl, List.forall_mem_cons.mpr ⟨rfl, fun _ h => absurd h List.not_mem_nil⟩⟩⟩⟩⟩) ?_
          exact ih238 z228 (z228 + 1) trivial (rW (c := (-99999999)) (d := 9) h284 rfl) (rW (c := 0) (d := 10) (rAdd (e := 1) (f := 10) h284 (rR (x := 1)) rfl) rfl) (vc_X12_sends_16 h270 h284 h285) (vc_X12_sends_13 (nS h237) h270 h284 h285)
        have h346 : (-99999998) ≤ z229 ∧ z229 ≤ 9 := (vc_X12_sends_2 h344 h236 h231)
        refine sv_aload_n dX12_sends_62 rfl rfl ?_
        refine gf_X12_4 dX12_sends_63 wF_X12_26 (A_106 hw) hT ?_
        refine mr_iload (z := z228) dX12_sends_66 rfl ?_
        refine lk_109 dX12_sends_68 (A_109 hw) (rIx (n := 10) h284 rfl) q319 ?_
        refine sv_aload_n dX12_sends_69 rfl rfl ?_
        refine gf_X12_4 dX12_sends_70 wF_X12_26 (A_106 hw) hT ?_
        refine mr_iload_n (z := z229) dX12_sends_73 rfl rfl ?_
        refine la_109 dX12_sends_74 (A_109 hw) hT (vc_X12_sends_17 h236 h344 h346) fun z347 q348 h349 => ?_
        refine mr_icmp_le (tgt := 81) dX12_sends_75 (by decide) (r32 h320 rfl) (r32 h349 rfl) (fun h352 => ?_) (fun h352 => ?_)
        · refine mr_iinc (lv' := [(4, iv (z228 + 1)), (0, .ref 106), (1, iv p1), (2, iv p2), (3, iv z229)]) dX12_sends_81 rfl (by decide) rfl ?_
          refine sv_goto (tgt := 6) dX12_sends_84 (by decide) ?_
          refine mr_lvS (lv' := [(0, .ref 106), (1, iv p1), (2, iv p2), (3, iv z229), (4, iv (z228 + 1))]) (List.forall_mem_cons.mpr ⟨rfl, List.forall_mem_cons.mpr ⟨rfl, List.forall_mem_cons.mpr ⟨rfl, List.forall_mem_cons.mpr ⟨rfl, List.forall_mem_cons.mpr ⟨rfl, fun _ h => absurd h List.not_mem_nil⟩⟩⟩⟩⟩) ?_
          exact ih238 z229 (z228 + 1) trivial (rW (c := (-99999999)) (d := 9) h346 rfl) (rW (c := 0) (d := 10) (rAdd (e := 1) (f := 10) h284 (rR (x := 1)) rfl) rfl) (vc_X12_sends_18 h236 h344 h346) (vc_X12_sends_13 (nS h237) h270 h284 h285)
        have h353 : 1 ≤ z318 ∧ z318 ≤ 32 := (vc_X12_sends_19 h352 h320 h349)
        have h354 : 0 ≤ z347 ∧ z347 ≤ 31 := (vc_X12_sends_20 h352 h353 h349)
        refine mr_iload (z := z228) dX12_sends_78 rfl ?_
        refine mr_istore_n (lv' := [(3, iv z228), (0, .ref 106), (1, iv p1), (2, iv p2), (4, iv z228)]) dX12_sends_80 rfl (by decide) rfl ?_
        refine mr_iinc (lv' := [(4, iv (z228 + 1)), (3, iv z228), (0, .ref 106), (1, iv p1), (2, iv p2)]) dX12_sends_81 rfl (by decide) rfl ?_
        refine sv_goto (tgt := 6) dX12_sends_84 (by decide) ?_
        refine mr_lvS (lv' := [(0, .ref 106), (1, iv p1), (2, iv p2), (3, iv z228), (4, iv (z228 + 1))]) (List.forall_mem_cons.mpr ⟨rfl, List.forall_mem_cons.mpr ⟨rfl, List.forall_mem_cons.mpr ⟨rfl, List.forall_mem_cons.mpr ⟨rfl, List.forall_mem_cons.mpr ⟨rfl, fun _ h => absurd h List.not_mem_nil⟩⟩⟩⟩⟩) ?_
        exact ih238 z228 (z228 + 1) trivial (rW (c := (-99999999)) (d := 9) h284 rfl) (rW (c := 0) (d := 10) (rAdd (e := 1) (f := 10) h284 (rR (x := 1)) rfl) rfl) (vc_X12_sends_16 h270 h284 h285) (vc_X12_sends_13 (nS h237) h270 h284 h285)
      have h355 : 0 ≤ z325 ∧ z325 ≤ 0 := (vc_X12_sends_21 h335 h324.1)
      refine sv_goto (tgt := 81) dX12_sends_53 (by decide) ?_
      refine mr_iinc (lv' := [(4, iv (z228 + 1)), (0, .ref 106), (1, iv p1), (2, iv p2), (3, iv z229)]) dX12_sends_81 rfl (by decide) rfl ?_
      refine sv_goto (tgt := 6) dX12_sends_84 (by decide) ?_
      refine mr_lvS (lv' := [(0, .ref 106), (1, iv p1), (2, iv p2), (3, iv z229), (4, iv (z228 + 1))]) (List.forall_mem_cons.mpr ⟨rfl, List.forall_mem_cons.mpr ⟨rfl, List.forall_mem_cons.mpr ⟨rfl, List.forall_mem_cons.mpr ⟨rfl, List.forall_mem_cons.mpr ⟨rfl, fun _ h => absurd h List.not_mem_nil⟩⟩⟩⟩⟩) ?_
      exact ih238 z229 (z228 + 1) trivial h231 (rW (c := 0) (d := 10) (rAdd (e := 1) (f := 10) h284 (rR (x := 1)) rfl) rfl) (vc_X12_sends_12 h236 h231) (vc_X12_sends_13 (nS h237) h270 h284 h285)
  refine mr_lvS (lv' := [(0, .ref 106), (1, iv p1), (2, iv p2), (3, iv (-99999999)), (4, iv 0)]) (List.forall_mem_cons.mpr ⟨rfl, List.forall_mem_cons.mpr ⟨rfl, List.forall_mem_cons.mpr ⟨rfl, List.forall_mem_cons.mpr ⟨rfl, List.forall_mem_cons.mpr ⟨rfl, fun _ h => absurd h List.not_mem_nil⟩⟩⟩⟩⟩) ?_
  exact L230 12 (-99999999) 0 trivial (rW (c := (-99999999)) (d := 9) (rR (x := (-99999999))) rfl) (rW (c := 0) (d := 10) (rR (x := 0)) rfl) vc_X12_sends_22 vc_X12_sends_23
theorem vc_X12_led_1 {p1 z1 z8 : Int} (h0 : z8 = 0) (h1 : (z8 = 1 → 0 ≤ p1 ∧ p1 ≤ (z1 - 1))) (h2 : (z8 = 0 → p1 < 0 ∨ (z1 - 1) < p1)) (h3 : (-2147483648) ≤ p1 ∧ p1 ≤ 2147483647) (h4 : 0 ≤ z1 ∧ z1 ≤ 12) (h5 : 0 ≤ z8 ∧ z8 ≤ 1) : 0 ≤ z8 ∧ z8 ≤ 0 := by omega
theorem vc_X12_led_2 {p1 z1 z8 : Int} (h0 : (z8 = 1 → 0 ≤ p1 ∧ p1 ≤ (z1 - 1))) (h1 : (z8 = 0 → p1 < 0 ∨ (z1 - 1) < p1)) (h2 : z8 = 0) (h3 : (-2147483648) ≤ p1 ∧ p1 ≤ 2147483647) (h4 : 0 ≤ z1 ∧ z1 ≤ 12) (h5 : 0 ≤ z8 ∧ z8 ≤ 0) : z8 = 0 := by omega
theorem vc_X12_led_3 {p1 z1 z8 : Int} (h0 : ¬ z8 = 0) (h1 : (z8 = 1 → 0 ≤ p1 ∧ p1 ≤ (z1 - 1))) (h2 : (z8 = 0 → p1 < 0 ∨ (z1 - 1) < p1)) (h3 : (-2147483648) ≤ p1 ∧ p1 ≤ 2147483647) (h4 : 0 ≤ z1 ∧ z1 ≤ 12) (h5 : 0 ≤ z8 ∧ z8 ≤ 1) : 1 ≤ z8 ∧ z8 ≤ 1 := by omega
theorem vc_X12_led_4 {p1 z1 z8 : Int} (h0 : (z8 = 1 → 0 ≤ p1 ∧ p1 ≤ (z1 - 1))) (h1 : (z8 = 0 → p1 < 0 ∨ (z1 - 1) < p1)) (h2 : ¬ z8 = 0) (h3 : (-2147483648) ≤ p1 ∧ p1 ≤ 2147483647) (h4 : 0 ≤ z1 ∧ z1 ≤ 12) (h5 : 1 ≤ z8 ∧ z8 ≤ 1) : z8 = 1 := by omega
theorem vc_X12_led_5 {p1 z1 z8 : Int} (h0 : 0 ≤ p1 ∧ p1 ≤ (z1 - 1)) (h1 : (z8 = 1 → 0 ≤ p1 ∧ p1 ≤ (z1 - 1))) (h2 : (z8 = 0 → p1 < 0 ∨ (z1 - 1) < p1)) (h3 : (-2147483648) ≤ p1 ∧ p1 ≤ 2147483647) (h4 : 0 ≤ z1 ∧ z1 ≤ 12) (h5 : 1 ≤ z8 ∧ z8 ≤ 1) : 0 ≤ p1 ∧ p1 ≤ 2147483647 := by omega
theorem vc_X12_led_6 {p1 z1 z8 : Int} (h0 : (z8 = 1 → 0 ≤ p1 ∧ p1 ≤ (z1 - 1))) (h1 : (z8 = 0 → p1 < 0 ∨ (z1 - 1) < p1)) (h2 : 0 ≤ p1 ∧ p1 ≤ (z1 - 1)) (h3 : ¬ z8 = 0) (h4 : 0 ≤ p1 ∧ p1 ≤ 2147483647) (h5 : 0 ≤ z1 ∧ z1 ≤ 12) (h6 : 1 ≤ z8 ∧ z8 ≤ 1) : 0 ≤ p1 ∧ p1 < 12 := by omega
set_option maxRecDepth 4000 in
set_option maxHeartbeats 4000000 in
theorem c_X12_led {l : Launch} {D : va_G} {c : Nat → ClassId} {H0 : Heap} {sa : Nat × Nat × (Nat → Int32)} {w : mW} {μ : mM} (hw : mWF w) (hT : mT w μ) {p1 : Int} (hp1 : (-2147483648) ≤ p1 ∧ p1 ≤ 2147483647) : sC (gG l D c H0 sa) mX12_led 2 0 0 [.ref 106, iv p1] (mk w μ) (qP w μ (fun z => ((-2147483648) ≤ z ∧ z ≤ 2147483647) ∧ True)) := by
  refine sC.of rfl (by decide) (le_t rfl) ?_
  refine mr_lvE (lv' := [(0, .ref 106), (1, iv p1)]) rfl ?_
  refine mr_iload_n (z := p1) dX12_led_0 rfl rfl ?_
  refine mr_iconst (z := 0) dX12_led_1 ?_
  refine sv_aload_n dX12_led_2 rfl rfl ?_
  refine gf_X12_108 dX12_led_3 wF_X12_692 (A_106 hw) hT fun z1 q2 h3 => ?_
  refine mr_iconst (z := 1) dX12_led_6 ?_
  refine mr_isub (x := z1) (y := 1) dX12_led_7 ?_
  refine mr_cSP (c_X12_in hw hT hp1 (rW (c := (-2147483648)) (d := 2147483647) (rR (x := 0)) rfl) (rW (c := (-2147483648)) (d := 2147483647) (rSub (e := (-1)) (f := 11) h3 (rR (x := 1)) rfl) rfl)) (gOk _ _ _ _ _) dX12_led_8 (tX12_in _ _ _ _ _) wS_X12_in wM_X12_18 ⟨le_t rfl, le_t rfl⟩ ⟨le_t rfl, le_t rfl⟩ rfl (le_t rfl) fun z8 h7 => ?_
  refine mr_if_eq (tgt := 23) dX12_led_11 (by decide) (r32 h7.1 rfl) (fun h17 => ?_) (fun h17 => ?_)
  · have h18 : 0 ≤ z8 ∧ z8 ≤ 0 := (vc_X12_led_1 h17 h7.2.1 h7.2.2.1 hp1 h3 h7.1)
    have h19 : p1 < 0 ∨ (z1 - 1) < p1 := (h7.2.2.1 (vc_X12_led_2 h7.2.1 h7.2.2.1 h17 hp1 h3 h18))
    refine mr_ldc (z := (-99999999)) dX12_led_23 wG_X12_29 (by decide) ?_
    exact mr_iretP dX12_led_25 rfl (le_t rfl) (le_t rfl) ⟨(rW (c := (-2147483648)) (d := 2147483647) (rR (x := (-99999999))) rfl), trivial⟩
  have h20 : 1 ≤ z8 ∧ z8 ≤ 1 := (vc_X12_led_3 h17 h7.2.1 h7.2.2.1 hp1 h3 h7.1)
  have h21 : 0 ≤ p1 ∧ p1 ≤ (z1 - 1) := (h7.2.1 (vc_X12_led_4 h7.2.1 h7.2.2.1 h17 hp1 h3 h20))
  have h22 : 0 ≤ p1 ∧ p1 ≤ 2147483647 := (vc_X12_led_5 h21 h7.2.1 h7.2.2.1 hp1 h3 h20)
  refine sv_aload_n dX12_led_14 rfl rfl ?_
  refine gf_X12_107 dX12_led_15 wF_X12_490 (A_106 hw) hT ?_
  refine mr_iload_n (z := p1) dX12_led_18 rfl rfl ?_
  refine la_176 dX12_led_19 (A_176 hw) hT (vc_X12_led_6 h7.2.1 h7.2.2.1 h21 h17 h22 h3 h20) fun z23 q24 h25 => ?_
  refine sv_goto (tgt := 25) dX12_led_20 (by decide) ?_
  exact mr_iretP dX12_led_25 rfl (le_t rfl) (le_t rfl) ⟨h25, trivial⟩
theorem vc_X12_demand_1 {p1 z1 z8 : Int} (h0 : z8 = 0) (h1 : (z8 = 1 → 0 ≤ p1 ∧ p1 < z1)) (h2 : (z8 = 0 → p1 < 0 ∨ z1 ≤ p1)) (h3 : (-2147483648) ≤ p1 ∧ p1 ≤ 2147483647) (h4 : 0 ≤ z1 ∧ z1 ≤ 10) (h5 : 0 ≤ z8 ∧ z8 ≤ 1) : 0 ≤ z8 ∧ z8 ≤ 0 := by omega
theorem vc_X12_demand_2 {p1 z1 z8 : Int} (h0 : (z8 = 1 → 0 ≤ p1 ∧ p1 < z1)) (h1 : (z8 = 0 → p1 < 0 ∨ z1 ≤ p1)) (h2 : z8 = 0) (h3 : (-2147483648) ≤ p1 ∧ p1 ≤ 2147483647) (h4 : 0 ≤ z1 ∧ z1 ≤ 10) (h5 : 0 ≤ z8 ∧ z8 ≤ 0) : z8 = 0 := by omega
theorem vc_X12_demand_3 {p1 z1 z8 : Int} (h0 : ¬ z8 = 0) (h1 : (z8 = 1 → 0 ≤ p1 ∧ p1 < z1)) (h2 : (z8 = 0 → p1 < 0 ∨ z1 ≤ p1)) (h3 : (-2147483648) ≤ p1 ∧ p1 ≤ 2147483647) (h4 : 0 ≤ z1 ∧ z1 ≤ 10) (h5 : 0 ≤ z8 ∧ z8 ≤ 1) : 1 ≤ z8 ∧ z8 ≤ 1 := by omega
theorem vc_X12_demand_4 {p1 z1 z8 : Int} (h0 : (z8 = 1 → 0 ≤ p1 ∧ p1 < z1)) (h1 : (z8 = 0 → p1 < 0 ∨ z1 ≤ p1)) (h2 : ¬ z8 = 0) (h3 : (-2147483648) ≤ p1 ∧ p1 ≤ 2147483647) (h4 : 0 ≤ z1 ∧ z1 ≤ 10) (h5 : 1 ≤ z8 ∧ z8 ≤ 1) : z8 = 1 := by omega
theorem vc_X12_demand_5 {p1 z1 z8 : Int} (h0 : 0 ≤ p1 ∧ p1 < z1) (h1 : (z8 = 1 → 0 ≤ p1 ∧ p1 < z1)) (h2 : (z8 = 0 → p1 < 0 ∨ z1 ≤ p1)) (h3 : (-2147483648) ≤ p1 ∧ p1 ≤ 2147483647) (h4 : 0 ≤ z1 ∧ z1 ≤ 10) (h5 : 1 ≤ z8 ∧ z8 ≤ 1) : 0 ≤ p1 ∧ p1 ≤ 9 := by omega
theorem vc_X12_demand_6 {p3 z19 : Int} (h0 : ¬ z19 = 0) (h1 : (z19 = 1 → 1 ≤ p3 ∧ p3 ≤ 1000000)) (h2 : (z19 = 0 → p3 < 1 ∨ 1000000 < p3)) (h3 : (-2147483648) ≤ p3 ∧ p3 ≤ 2147483647) (h4 : 0 ≤ z19 ∧ z19 ≤ 1) : 1 ≤ z19 ∧ z19 ≤ 1 := by omega
theorem vc_X12_demand_7 {p3 z19 : Int} (h0 : (z19 = 1 → 1 ≤ p3 ∧ p3 ≤ 1000000)) (h1 : (z19 = 0 → p3 < 1 ∨ 1000000 < p3)) (h2 : ¬ z19 = 0) (h3 : (-2147483648) ≤ p3 ∧ p3 ≤ 2147483647) (h4 : 1 ≤ z19 ∧ z19 ≤ 1) : z19 = 1 := by omega
theorem vc_X12_demand_8 {p3 z19 : Int} (h0 : 1 ≤ p3 ∧ p3 ≤ 1000000) (h1 : (z19 = 1 → 1 ≤ p3 ∧ p3 ≤ 1000000)) (h2 : (z19 = 0 → p3 < 1 ∨ 1000000 < p3)) (h3 : (-2147483648) ≤ p3 ∧ p3 ≤ 2147483647) (h4 : 1 ≤ z19 ∧ z19 ≤ 1) : 1 ≤ p3 ∧ p3 ≤ 1000000 := by omega
theorem vc_X12_demand_9 {z24 : Int} (h0 : ¬ z24 = 16) (h1 : 0 ≤ z24 ∧ z24 ≤ 16) : 0 ≤ z24 ∧ z24 ≤ 15 := by omega
theorem vc_X12_demand_10 {z24 : Int} (h0 : z24 = 16) (h1 : 0 ≤ z24 ∧ z24 ≤ 16) : 16 ≤ z24 ∧ z24 ≤ 16 := by omega
theorem vc_X12_demand_11 {p3 z19 : Int} (h0 : z19 = 0) (h1 : (z19 = 1 → 1 ≤ p3 ∧ p3 ≤ 1000000)) (h2 : (z19 = 0 → p3 < 1 ∨ 1000000 < p3)) (h3 : (-2147483648) ≤ p3 ∧ p3 ≤ 2147483647) (h4 : 0 ≤ z19 ∧ z19 ≤ 1) : 0 ≤ z19 ∧ z19 ≤ 0 := by omega
theorem vc_X12_demand_12 {p3 z19 : Int} (h0 : (z19 = 1 → 1 ≤ p3 ∧ p3 ≤ 1000000)) (h1 : (z19 = 0 → p3 < 1 ∨ 1000000 < p3)) (h2 : z19 = 0) (h3 : (-2147483648) ≤ p3 ∧ p3 ≤ 2147483647) (h4 : 0 ≤ z19 ∧ z19 ≤ 0) : z19 = 0 := by omega
set_option maxRecDepth 4000 in
set_option maxHeartbeats 4000000 in
theorem c_X12_demand {l : Launch} {D : va_G} {c : Nat → ClassId} {H0 : Heap} {sa : Nat × Nat × (Nat → Int32)} {w : mW} {μ : mM} (hw : mWF w) (hT : mT w μ) {p1 : Int} (hp1 : (-2147483648) ≤ p1 ∧ p1 ≤ 2147483647) {p2 : Int} (hp2 : (-2147483648) ≤ p2 ∧ p2 ≤ 2147483647) {p3 : Int} (hp3 : (-2147483648) ≤ p3 ∧ p3 ≤ 2147483647) : sC (gG l D c H0 sa) mX12_demand 3 0 0 [.ref 106, iv p1, iv p2, iv p3] (mk w μ) (qI w [106109, 177999, 178999, 179999] μ (fun z μ1 => ((-2147483648) ≤ z ∧ z ≤ 2147483647) ∧ True)) := by
  refine sC.of rfl (by decide) (le_t rfl) ?_
  refine mr_lvE (lv' := [(0, .ref 106), (1, iv p1), (2, iv p2), (3, iv p3)]) rfl ?_
  refine sv_aload_n dX12_demand_0 rfl rfl ?_
  refine mr_iload_n (z := p1) dX12_demand_1 rfl rfl ?_
  obtain ⟨z1, q2⟩ : ∃ z, μ 106 5 = z := ⟨_, rfl⟩
  have h3 : (0 ≤ z1 ∧ z1 ≤ 10) := by rw [← q2]; exact hT 106 106 (A_106 hw) 5
  refine mr_cVP (c_X12_isDomain hw hT hp1 q2) (gOk _ _ _ _ _) dX12_demand_2 (tX12_isDomain _ _ _ _ _) ⟨wV_X12_isDomain, wL_X12_isDomain⟩ wM_X12_49 (gCX12 _ _ _ _ _) rfl (A_106 hw) rfl ⟨le_t rfl, le_t rfl⟩ ⟨le_t rfl, le_t rfl⟩ rfl (le_t rfl) fun z8 h7 => ?_
  refine mr_if_eq (tgt := 19) dX12_demand_5 (by decide) (r32 h7.1 rfl) (fun h9 => ?_) (fun h9 => ?_)
  · have h10 : 0 ≤ z8 ∧ z8 ≤ 0 := (vc_X12_demand_1 h9 h7.2.1 h7.2.2.1 hp1 h3 h7.1)
    have h11 : p1 < 0 ∨ z1 ≤ p1 := (h7.2.2.1 (vc_X12_demand_2 h7.2.1 h7.2.2.1 h9 hp1 h3 h10))
    refine mr_iconst (z := (-1)) dX12_demand_19 ?_
    exact mr_iret dX12_demand_20 rfl (le_t rfl) (le_t rfl) hT mF.refl ⟨(rW (c := (-2147483648)) (d := 2147483647) (rR (x := (-1))) rfl), trivial⟩
  have h12 : 1 ≤ z8 ∧ z8 ≤ 1 := (vc_X12_demand_3 h9 h7.2.1 h7.2.2.1 hp1 h3 h7.1)
  have h13 : 0 ≤ p1 ∧ p1 < z1 := (h7.2.1 (vc_X12_demand_4 h7.2.1 h7.2.2.1 h9 hp1 h3 h12))
  have h14 : 0 ≤ p1 ∧ p1 ≤ 9 := (vc_X12_demand_5 h13 h7.2.1 h7.2.2.1 hp1 h3 h12)
  refine mr_iload_n (z := p3) dX12_demand_8 rfl rfl ?_
  refine mr_iconst (z := 1) dX12_demand_9 ?_
  refine mr_ldcw (z := 1000000) dX12_demand_10 wG_X12_291 (by decide) ?_
  refine mr_cSP (c_X12_in hw hT hp3 (rW (c := (-2147483648)) (d := 2147483647) (rR (x := 1)) rfl) (rW (c := (-2147483648)) (d := 2147483647) (rR (x := 1000000)) rfl)) (gOk _ _ _ _ _) dX12_demand_13 (tX12_in _ _ _ _ _) wS_X12_in wM_X12_18 ⟨le_t rfl, le_t rfl⟩ ⟨le_t rfl, le_t rfl⟩ rfl (le_t rfl) fun z19 h18 => ?_
  refine mr_if_ne (tgt := 21) dX12_demand_16 (by decide) (r32 h18.1 rfl) (fun h20 => ?_) (fun h20 => ?_)
  · have h21 : 1 ≤ z19 ∧ z19 ≤ 1 := (vc_X12_demand_6 h20 h18.2.1 h18.2.2.1 hp3 h18.1)
    have h22 : 1 ≤ p3 ∧ p3 ≤ 1000000 := (h18.2.1 (vc_X12_demand_7 h18.2.1 h18.2.2.1 h20 hp3 h21))
    have h23 : 1 ≤ p3 ∧ p3 ≤ 1000000 := (vc_X12_demand_8 h22 h18.2.1 h18.2.2.1 hp3 h21)
    refine sv_aload_n dX12_demand_21 rfl rfl ?_
    refine gf_X12_109 dX12_demand_22 wF_X12_695 (A_106 hw) hT fun z24 q25 h26 => ?_
    refine mr_bipush (z := 16) dX12_demand_25 (by decide) ?_
    refine mr_icmp_ne (tgt := 33) dX12_demand_27 (by decide) (r32 h26 rfl) (r32 (rR (x := 16)) rfl) (fun h27 => ?_) (fun h27 => ?_)
    · have h28 : 0 ≤ z24 ∧ z24 ≤ 15 := (vc_X12_demand_9 h27 h26)
      refine sv_aload_n dX12_demand_33 rfl rfl ?_
      refine gf_X12_110 dX12_demand_34 wF_X12_493 (A_106 hw) hT ?_
      refine sv_aload_n dX12_demand_37 rfl rfl ?_
      refine gk_X12_109 dX12_demand_38 wF_X12_695 (A_106 hw) q25 ?_
      refine mr_iload_n (z := p1) dX12_demand_41 rfl rfl ?_
      refine ss_177 dX12_demand_42 (A_177 hw) hT (rIx (n := 16) h28 rfl) h14 fun μ29 u30 T31 => ?_
      refine sv_aload_n dX12_demand_43 rfl rfl ?_
      refine gf_X12_111 dX12_demand_44 wF_X12_496 (A_106 hw) T31 ?_
      refine sv_aload_n dX12_demand_47 rfl rfl ?_
      refine gk_X12_109 dX12_demand_48 wF_X12_695 (A_106 hw) (u30.f (Or.inl (mAt.ne (A_177 hw) (A_106 hw) rfl)) q25) ?_
      refine mr_iload_n (z := p2) dX12_demand_51 rfl rfl ?_
      refine ss_178 dX12_demand_52 (A_178 hw) T31 (rIx (n := 16) h28 rfl) hp2 fun μ32 u33 T34 => ?_
      refine sv_aload_n dX12_demand_53 rfl rfl ?_
      refine gf_X12_112 dX12_demand_54 wF_X12_499 (A_106 hw) T34 ?_
      refine sv_aload_n dX12_demand_57 rfl rfl ?_
      refine gk_X12_109 dX12_demand_58 wF_X12_695 (A_106 hw) (u33.f (Or.inl (mAt.ne (A_178 hw) (A_106 hw) rfl)) (u30.f (Or.inl (mAt.ne (A_177 hw) (A_106 hw) rfl)) q25)) ?_
      refine mr_iload_n (z := p3) dX12_demand_61 rfl rfl ?_
      refine ss_179 dX12_demand_62 (A_179 hw) T34 (rIx (n := 16) h28 rfl) (rW (c := (-2147483648)) (d := 2147483647) h23 rfl) fun μ35 u36 T37 => ?_
      refine sv_aload_n dX12_demand_63 rfl rfl ?_
      refine sv_dup dX12_demand_64 rfl ?_
      refine gk_X12_109 dX12_demand_65 wF_X12_695 (A_106 hw) (u36.f (Or.inl (mAt.ne (A_179 hw) (A_106 hw) rfl)) (u33.f (Or.inl (mAt.ne (A_178 hw) (A_106 hw) rfl)) (u30.f (Or.inl (mAt.ne (A_177 hw) (A_106 hw) rfl)) q25))) ?_
      refine mr_iconst (z := 1) dX12_demand_68 ?_
      refine mr_iadd (x := z24) (y := 1) dX12_demand_69 ?_
      refine pf_X12_109 dX12_demand_70 wF_X12_695 (A_106 hw) T37 (rW (c := 0) (d := 16) (rAdd (e := 1) (f := 16) h28 (rR (x := 1)) rfl) rfl) fun μ38 u39 T40 => ?_
      refine sv_aload_n dX12_demand_73 rfl rfl ?_
      refine gk_X12_109 dX12_demand_74 wF_X12_695 (A_106 hw) u39.1 ?_
      refine mr_iconst (z := 1) dX12_demand_77 ?_
      refine mr_isub (x := (z24 + 1)) (y := 1) dX12_demand_78 ?_
      exact mr_iret dX12_demand_79 rfl (le_t rfl) (le_t rfl) T40 (mF.up (mF.up (mF.up (mF.up mF.refl (A_177 hw) u30 rfl) (A_178 hw) u33 rfl) (A_179 hw) u36 rfl) (A_106 hw) u39 rfl) ⟨(rW (c := (-2147483648)) (d := 2147483647) (rSub (e := 0) (f := 15) (rAdd (e := 1) (f := 16) h28 (rR (x := 1)) rfl) (rR (x := 1)) rfl) rfl), trivial⟩
    have h41 : 16 ≤ z24 ∧ z24 ≤ 16 := (vc_X12_demand_10 h27 h26)
    refine mr_bipush (z := (-3)) dX12_demand_30 (by decide) ?_
    exact mr_iret dX12_demand_32 rfl (le_t rfl) (le_t rfl) hT mF.refl ⟨(rW (c := (-2147483648)) (d := 2147483647) (rR (x := (-3))) rfl), trivial⟩
  have h42 : 0 ≤ z19 ∧ z19 ≤ 0 := (vc_X12_demand_11 h20 h18.2.1 h18.2.2.1 hp3 h18.1)
  have h43 : p3 < 1 ∨ 1000000 < p3 := (h18.2.2.1 (vc_X12_demand_12 h18.2.1 h18.2.2.1 h20 hp3 h42))
  refine mr_iconst (z := (-1)) dX12_demand_19 ?_
  exact mr_iret dX12_demand_20 rfl (le_t rfl) (le_t rfl) hT mF.refl ⟨(rW (c := (-2147483648)) (d := 2147483647) (rR (x := (-1))) rfl), trivial⟩
theorem vc_X12_nodeOf_1 {z121 : Int} (h0 : (401 - z121) < ((0 : Nat) : Int)) (h1 : 0 ≤ z121 ∧ z121 ≤ 400) : False := by omega
theorem vc_X12_nodeOf_2  : (-(99999999 : Int) : Int) = -(99999999 : Int) ∨ ((0 : Int) ≤ (-(99999999 : Int) : Int) ∧ (-(99999999 : Int) : Int) ≤ (399 : Int)) := by omega
theorem vc_X12_nodeOf_3 {z121 z129 : Int} (h0 : z121 < z129) (h1 : 0 ≤ z121 ∧ z121 ≤ 400) (h2 : 0 ≤ z129 ∧ z129 ≤ 400) : 0 ≤ z121 ∧ z121 ≤ 399 := by omega
theorem vc_X12_nodeOf_4 {z121 z129 : Int} (h0 : z121 < z129) (h1 : 0 ≤ z121 ∧ z121 ≤ 399) (h2 : 0 ≤ z129 ∧ z129 ≤ 400) : 1 ≤ z129 ∧ z129 ≤ 400 := by omega
theorem vc_X12_nodeOf_5 {N z121 z129 : Int} (h0 : (401 - z121) < N + 1) (h1 : z121 < z129) (h2 : 0 ≤ z121 ∧ z121 ≤ 399) (h3 : 1 ≤ z129 ∧ z129 ≤ 400) : (401 - (z121 + 1)) < N := by omega
theorem vc_X12_nodeOf_6 {z121 z129 : Int} (h0 : z121 < z129) (h1 : 0 ≤ z121 ∧ z121 ≤ 399) (h2 : 1 ≤ z129 ∧ z129 ≤ 400) : z121 = -99999999 ∨ (0 ≤ z121 ∧ z121 ≤ 399) := by omega
theorem vc_X12_nodeOf_7  : (401 - 0) < ((402 : Nat) : Int) := by omega
set_option maxRecDepth 4000 in
set_option maxHeartbeats 4000000 in
theorem c_X12_nodeOf {l : Launch} {D : va_G} {c : Nat → ClassId} {H0 : Heap} {sa : Nat × Nat × (Nat → Int32)} {w : mW} {μ : mM} (hw : mWF w) (hT : mT w μ) {p1 : Int} (hp1 : (-2147483648) ≤ p1 ∧ p1 ≤ 2147483647) {p2 : Int} (hp2 : (-2147483648) ≤ p2 ∧ p2 ≤ 2147483647) : sC (gG l D c H0 sa) mX12_nodeOf 1 0 0 [.ref 106, iv p1, iv p2] (mk w μ) (qP w μ (fun z => ((-99999999) ≤ z ∧ z ≤ 399) ∧ (z = -99999999 ∨ (0 ≤ z ∧ z ≤ 399)) ∧ True)) := by
  refine sC.of rfl (by decide) (le_t rfl) ?_
  refine mr_lvE (lv' := [(0, .ref 106), (1, iv p1), (2, iv p2)]) rfl ?_
  refine mr_iconst (z := 0) dX12_nodeOf_0 ?_
  refine mr_istore_n (lv' := [(3, iv 0), (0, .ref 106), (1, iv p1), (2, iv p2)]) dX12_nodeOf_1 rfl (by decide) rfl ?_
  have L122 : ∀ (nL122 : Nat) (z121 : Int), True → (0 ≤ z121 ∧ z121 ≤ 400) → (401 - z121) < (nL122 : Int) → sV (gG l D c H0 sa) mX12_nodeOf (sRm 1 0 0) (sZ (gG l D c H0 sa) 0 0 (qP w μ (fun z => ((-99999999) ≤ z ∧ z ≤ 399) ∧ (z = -99999999 ∨ (0 ≤ z ∧ z ≤ 399)) ∧ True))) 2 [(0, .ref 106), (1, iv p1), (2, iv p2), (3, iv z121)] [] (mk w μ) 0 0 := by
    intro nL122
    induction nL122 with
    | zero => intro z121 _ h123 h127; exact ((vc_X12_nodeOf_1 h127 h123)).elim
    | succ nL122 ih128 =>
      intro z121 _ h123 h127
      refine mr_iload_n (z := z121) dX12_nodeOf_2 rfl rfl ?_
      refine sv_aload_n dX12_nodeOf_3 rfl rfl ?_
      refine gf_X12_116 dX12_nodeOf_4 wF_X12_698 (A_106 hw) hT fun z129 q130 h131 => ?_
      refine mr_icmp_ge (tgt := 38) dX12_nodeOf_7 (by decide) (r32 h123 rfl) (r32 h131 rfl) (fun h132 => ?_) (fun h132 => ?_)
      · refine mr_ldc (z := (-99999999)) dX12_nodeOf_38 wG_X12_29 (by decide) ?_
        exact mr_iretP dX12_nodeOf_40 rfl (le_t rfl) (le_t rfl) ⟨(rW (c := (-99999999)) (d := 399) (rR (x := (-99999999))) rfl), vc_X12_nodeOf_2, trivial⟩
      have h133 : 0 ≤ z121 ∧ z121 ≤ 399 := (vc_X12_nodeOf_3 h132 h123 h131)
      have h134 : 1 ≤ z129 ∧ z129 ≤ 400 := (vc_X12_nodeOf_4 h132 h133 h131)
      refine sv_aload_n dX12_nodeOf_10 rfl rfl ?_
      refine gf_X12_113 dX12_nodeOf_11 wF_X12_502 (A_106 hw) hT ?_
      refine mr_iload_n (z := z121) dX12_nodeOf_14 rfl rfl ?_
      refine la_180 dX12_nodeOf_15 (A_180 hw) hT (rIx (n := 400) h133 rfl) fun z135 q136 h137 => ?_
      refine mr_iload_n (z := p1) dX12_nodeOf_16 rfl rfl ?_
      refine mr_icmp_ne (tgt := 32) dX12_nodeOf_17 (by decide) h137 hp1 (fun h138 => ?_) (fun h138 => ?_)
      · refine mr_iinc (lv' := [(3, iv (z121 + 1)), (0, .ref 106), (1, iv p1), (2, iv p2)]) dX12_nodeOf_32 rfl (by decide) rfl ?_
        refine sv_goto (tgt := 2) dX12_nodeOf_35 (by decide) ?_
        refine mr_lvS (lv' := [(0, .ref 106), (1, iv p1), (2, iv p2), (3, iv (z121 + 1))]) (List.forall_mem_cons.mpr ⟨rfl, List.forall_mem_cons.mpr ⟨rfl, List.forall_mem_cons.mpr ⟨rfl, List.forall_mem_cons.mpr ⟨rfl, fun _ h => absurd h List.not_mem_nil⟩⟩⟩⟩) ?_
        exact ih128 (z121 + 1) trivial (rW (c := 0) (d := 400) (rAdd (e := 1) (f := 400) h133 (rR (x := 1)) rfl) rfl) (vc_X12_nodeOf_5 (nS h127) h132 h133 h134)
      refine sv_aload_n dX12_nodeOf_20 rfl rfl ?_
      refine gf_X12_114 dX12_nodeOf_21 wF_X12_505 (A_106 hw) hT ?_
      refine mr_iload_n (z := z121) dX12_nodeOf_24 rfl rfl ?_
      refine la_181 dX12_nodeOf_25 (A_181 hw) hT (rIx (n := 400) h133 rfl) fun z139 q140 h141 => ?_
      refine mr_iload_n (z := p2) dX12_nodeOf_26 rfl rfl ?_
      refine mr_icmp_ne (tgt := 32) dX12_nodeOf_27 (by decide) h141 hp2 (fun h142 => ?_) (fun h142 => ?_)
      · refine mr_iinc (lv' := [(3, iv (z121 + 1)), (0, .ref 106), (1, iv p1), (2, iv p2)]) dX12_nodeOf_32 rfl (by decide) rfl ?_
        refine sv_goto (tgt := 2) dX12_nodeOf_35 (by decide) ?_
        refine mr_lvS (lv' := [(0, .ref 106), (1, iv p1), (2, iv p2), (3, iv (z121 + 1))]) (List.forall_mem_cons.mpr ⟨rfl, List.forall_mem_cons.mpr ⟨rfl, List.forall_mem_cons.mpr ⟨rfl, List.forall_mem_cons.mpr ⟨rfl, fun _ h => absurd h List.not_mem_nil⟩⟩⟩⟩) ?_
        exact ih128 (z121 + 1) trivial (rW (c := 0) (d := 400) (rAdd (e := 1) (f := 400) h133 (rR (x := 1)) rfl) rfl) (vc_X12_nodeOf_5 (nS h127) h132 h133 h134)
      refine mr_iload_n (z := z121) dX12_nodeOf_30 rfl rfl ?_
      exact mr_iretP dX12_nodeOf_31 rfl (le_t rfl) (le_t rfl) ⟨(rW (c := (-99999999)) (d := 399) h133 rfl), (vc_X12_nodeOf_6 h132 h133 h134), trivial⟩
  refine mr_lvS (lv' := [(0, .ref 106), (1, iv p1), (2, iv p2), (3, iv 0)]) (List.forall_mem_cons.mpr ⟨rfl, List.forall_mem_cons.mpr ⟨rfl, List.forall_mem_cons.mpr ⟨rfl, List.forall_mem_cons.mpr ⟨rfl, fun _ h => absurd h List.not_mem_nil⟩⟩⟩⟩) ?_
  exact L122 402 0 trivial (rW (c := 0) (d := 400) (rR (x := 0)) rfl) vc_X12_nodeOf_7
theorem vc_X12_aim_1 {p1 : Int} (h0 : p1 = (-99999999)) (h1 : ¬ p1 = (-4)) (h2 : (-2147483648) ≤ p1 ∧ p1 ≤ 2147483647) : (-99999999) ≤ p1 ∧ p1 ≤ (-99999999) := by omega
theorem vc_X12_aim_2 {p1 : Int} (h0 : p1 = (-4)) (h1 : (-2147483648) ≤ p1 ∧ p1 ≤ 2147483647) : (-4) ≤ p1 ∧ p1 ≤ (-4) := by omega
set_option maxRecDepth 4000 in
set_option maxHeartbeats 4000000 in
theorem c_X12_aim {l : Launch} {D : va_G} {c : Nat → ClassId} {H0 : Heap} {sa : Nat × Nat × (Nat → Int32)} {w : mW} {μ : mM} (hw : mWF w) (hT : mT w μ) {p1 : Int} (hp1 : (-2147483648) ≤ p1 ∧ p1 ≤ 2147483647) : sC (gG l D c H0 sa) mX12_aim 1 0 0 [iv p1] (mk w μ) (qP w μ (fun z => ((-2147483648) ≤ z ∧ z ≤ 2147483647) ∧ True)) := by
  refine sC.of rfl (by decide) (le_t rfl) ?_
  refine mr_lvE (lv' := [(0, iv p1)]) rfl ?_
  refine mr_iload_n (z := p1) dX12_aim_0 rfl rfl ?_
  refine mr_bipush (z := (-4)) dX12_aim_1 (by decide) ?_
  refine mr_icmp_ne (tgt := 11) dX12_aim_3 (by decide) hp1 (r32 (rR (x := (-4))) rfl) (fun h3 => ?_) (fun h3 => ?_)
  · refine mr_iload_n (z := p1) dX12_aim_11 rfl rfl ?_
    refine mr_ldc (z := (-99999999)) dX12_aim_12 wG_X12_29 (by decide) ?_
    refine mr_icmp_ne (tgt := 22) dX12_aim_14 (by decide) hp1 (r32 (rR (x := (-99999999))) rfl) (fun h5 => ?_) (fun h5 => ?_)
    · refine mr_iload_n (z := p1) dX12_aim_22 rfl rfl ?_
      exact mr_iretP dX12_aim_23 rfl (le_t rfl) (le_t rfl) ⟨hp1, trivial⟩
    have h6 : (-99999999) ≤ p1 ∧ p1 ≤ (-99999999) := (vc_X12_aim_1 h5 h3 hp1)
    refine mr_bipush (z := 21) dX12_aim_17 (by decide) ?_
    refine sv_goto (tgt := 23) dX12_aim_19 (by decide) ?_
    exact mr_iretP dX12_aim_23 rfl (le_t rfl) (le_t rfl) ⟨(rW (c := (-2147483648)) (d := 2147483647) (rR (x := 21)) rfl), trivial⟩
  have h7 : (-4) ≤ p1 ∧ p1 ≤ (-4) := (vc_X12_aim_2 h3 hp1)
  refine mr_bipush (z := 20) dX12_aim_6 (by decide) ?_
  refine sv_goto (tgt := 23) dX12_aim_8 (by decide) ?_
  exact mr_iretP dX12_aim_23 rfl (le_t rfl) (le_t rfl) ⟨(rW (c := (-2147483648)) (d := 2147483647) (rR (x := 20)) rfl), trivial⟩
theorem vc_X12_costOf_1 {z5 : Int} (h0 : z5 = (-99999999)) (h1 : z5 = -99999999 ∨ (0 ≤ z5 ∧ z5 ≤ 399)) (h2 : (-99999999) ≤ z5 ∧ z5 ≤ 399) : (-99999999) ≤ z5 ∧ z5 ≤ (-99999999) := by omega
theorem vc_X12_costOf_2 {p4 z17 : Int} (h0 : z17 = p4) (h1 : 0 ≤ p4 ∧ p4 ≤ 21) (h2 : (-2147483648) ≤ z17 ∧ z17 ≤ 2147483647) : 0 ≤ z17 ∧ z17 ≤ 21 := by omega
theorem vc_X12_costOf_3 {z5 : Int} (h0 : ¬ z5 = (-99999999)) (h1 : z5 = -99999999 ∨ (0 ≤ z5 ∧ z5 ≤ 399)) (h2 : (-99999999) ≤ z5 ∧ z5 ≤ 399) : 0 ≤ z5 ∧ z5 ≤ 399 := by omega
set_option maxRecDepth 4000 in
set_option maxHeartbeats 4000000 in
theorem c_X12_costOf {l : Launch} {D : va_G} {c : Nat → ClassId} {H0 : Heap} {sa : Nat × Nat × (Nat → Int32)} {w : mW} {μ : mM} (hw : mWF w) (hT : mT w μ) {p1 : Int} (hp1 : 0 ≤ p1 ∧ p1 ≤ 9) {p2 : Int} (hp2 : (-2147483648) ≤ p2 ∧ p2 ≤ 2147483647) {p3 : Int} (hp3 : (-2147483648) ≤ p3 ∧ p3 ≤ 2147483647) {p4 : Int} (hp4 : 0 ≤ p4 ∧ p4 ≤ 21) : sC (gG l D c H0 sa) mX12_costOf 4 0 0 [.ref 106, iv p1, iv p2, iv p3, iv p4] (mk w μ) (qP w μ (fun z => ((-2147483648) ≤ z ∧ z ≤ 2147483647) ∧ True)) := by
  refine sC.of rfl (by decide) (le_t rfl) ?_
  refine mr_lvE (lv' := [(0, .ref 106), (1, iv p1), (2, iv p2), (3, iv p3), (4, iv p4)]) rfl ?_
  refine sv_aload_n dX12_costOf_0 rfl rfl ?_
  refine mr_iload_n (z := p2) dX12_costOf_1 rfl rfl ?_
  refine mr_iload_n (z := p3) dX12_costOf_2 rfl rfl ?_
  refine mr_cVP (c_X12_nodeOf hw hT hp2 hp3) (gOk _ _ _ _ _) dX12_costOf_3 (tX12_nodeOf _ _ _ _ _) ⟨wV_X12_nodeOf, wL_X12_nodeOf⟩ wM_X12_701 (gCX12 _ _ _ _ _) rfl (A_106 hw) rfl ⟨le_t rfl, le_t rfl⟩ ⟨le_t rfl, le_t rfl⟩ rfl (le_t rfl) fun z5 h4 => ?_
  refine mr_istore (lv' := [(5, iv z5), (0, .ref 106), (1, iv p1), (2, iv p2), (3, iv p3), (4, iv p4)]) dX12_costOf_6 (by decide) rfl ?_
  refine mr_iload (z := z5) dX12_costOf_8 rfl ?_
  refine mr_ldc (z := (-99999999)) dX12_costOf_10 wG_X12_29 (by decide) ?_
  refine mr_icmp_eq (tgt := 29) dX12_costOf_12 (by decide) (r32 h4.1 rfl) (r32 (rR (x := (-99999999))) rfl) (fun h6 => ?_) (fun h6 => ?_)
  · have h7 : (-99999999) ≤ z5 ∧ z5 ≤ (-99999999) := (vc_X12_costOf_1 h6 h4.2.1 h4.1)
    refine sv_aload_n dX12_costOf_29 rfl rfl ?_
    refine mr_iload_n (z := p1) dX12_costOf_30 rfl rfl ?_
    refine mr_iload_n (z := p2) dX12_costOf_31 rfl rfl ?_
    refine mr_cVP (c_X12_sends hw hT hp1 hp2) (gOk _ _ _ _ _) dX12_costOf_32 (tX12_sends _ _ _ _ _) ⟨wV_X12_sends, wL_X12_sends⟩ wM_X12_686 (gCX12 _ _ _ _ _) rfl (A_106 hw) rfl ⟨le_t rfl, le_t rfl⟩ ⟨le_t rfl, le_t rfl⟩ rfl (le_t rfl) fun z12 h11 => ?_
    refine mr_cSP (c_X12_aim hw hT (rW (c := (-2147483648)) (d := 2147483647) h11.1 rfl)) (gOk _ _ _ _ _) dX12_costOf_35 (tX12_aim _ _ _ _ _) wS_X12_aim wM_X12_704 ⟨le_t rfl, le_t rfl⟩ ⟨le_t rfl, le_t rfl⟩ rfl (le_t rfl) fun z17 h16 => ?_
    refine mr_iload (z := p4) dX12_costOf_38 rfl ?_
    refine mr_icmp_ne (tgt := 47) dX12_costOf_40 (by decide) h16.1 (r32 hp4 rfl) (fun h19 => ?_) (fun h19 => ?_)
    · refine mr_iconst (z := 1) dX12_costOf_47 ?_
      exact mr_iretP dX12_costOf_48 rfl (le_t rfl) (le_t rfl) ⟨(rW (c := (-2147483648)) (d := 2147483647) (rR (x := 1)) rfl), trivial⟩
    have h20 : 0 ≤ z17 ∧ z17 ≤ 21 := (vc_X12_costOf_2 h19 hp4 h16.1)
    refine mr_iconst (z := 0) dX12_costOf_43 ?_
    refine sv_goto (tgt := 48) dX12_costOf_44 (by decide) ?_
    exact mr_iretP dX12_costOf_48 rfl (le_t rfl) (le_t rfl) ⟨(rW (c := (-2147483648)) (d := 2147483647) (rR (x := 0)) rfl), trivial⟩
  have h21 : 0 ≤ z5 ∧ z5 ≤ 399 := (vc_X12_costOf_3 h6 h4.2.1 h4.1)
  refine sv_aload_n dX12_costOf_15 rfl rfl ?_
  refine gf_X12_115 dX12_costOf_16 wF_X12_508 (A_106 hw) hT ?_
  refine mr_bipush (z := 22) dX12_costOf_19 (by decide) ?_
  refine mr_iload (z := z5) dX12_costOf_21 rfl ?_
  refine mr_imul (x := 22) (y := z5) dX12_costOf_23 ?_
  refine mr_iload (z := p4) dX12_costOf_24 rfl ?_
  refine mr_iadd (x := (22 * z5)) (y := p4) dX12_costOf_26 ?_
  refine la_182 dX12_costOf_27 (A_182 hw) hT (rIx (n := 8800) (rAdd (e := 0) (f := 8799) (rMulL (n := 22) (e := 0) (f := 8778) h21 rfl) hp4 rfl) rfl) fun z22 q23 h24 => ?_
  exact mr_iretP dX12_costOf_28 rfl (le_t rfl) (le_t rfl) ⟨h24, trivial⟩
theorem vc_X12_least_1 {p1 z1 z8 : Int} (h0 : ¬ z8 = 0) (h1 : (z8 = 1 → 0 ≤ p1 ∧ p1 < z1)) (h2 : (z8 = 0 → p1 < 0 ∨ z1 ≤ p1)) (h3 : (-2147483648) ≤ p1 ∧ p1 ≤ 2147483647) (h4 : 0 ≤ z1 ∧ z1 ≤ 10) (h5 : 0 ≤ z8 ∧ z8 ≤ 1) : 1 ≤ z8 ∧ z8 ≤ 1 := by omega
theorem vc_X12_least_2 {p1 z1 z8 : Int} (h0 : (z8 = 1 → 0 ≤ p1 ∧ p1 < z1)) (h1 : (z8 = 0 → p1 < 0 ∨ z1 ≤ p1)) (h2 : ¬ z8 = 0) (h3 : (-2147483648) ≤ p1 ∧ p1 ≤ 2147483647) (h4 : 0 ≤ z1 ∧ z1 ≤ 10) (h5 : 1 ≤ z8 ∧ z8 ≤ 1) : z8 = 1 := by omega
theorem vc_X12_least_3 {p1 z1 z8 : Int} (h0 : 0 ≤ p1 ∧ p1 < z1) (h1 : (z8 = 1 → 0 ≤ p1 ∧ p1 < z1)) (h2 : (z8 = 0 → p1 < 0 ∨ z1 ≤ p1)) (h3 : (-2147483648) ≤ p1 ∧ p1 ≤ 2147483647) (h4 : 0 ≤ z1 ∧ z1 ≤ 10) (h5 : 1 ≤ z8 ∧ z8 ≤ 1) : 0 ≤ p1 ∧ p1 ≤ 9 := by omega
theorem vc_X12_least_4 {z7038 : Int} (h0 : (z7038 - (-2)) < ((0 : Nat) : Int)) (h1 : (-1) ≤ z7038 ∧ z7038 ≤ 31) : False := by omega
theorem vc_X12_least_5 {z7038 : Int} (h0 : z7038 < 0) (h1 : (-1) ≤ z7038 ∧ z7038 ≤ 31) : (-1) ≤ z7038 ∧ z7038 ≤ (-1) := by omega
theorem vc_X12_least_6 {z7038 : Int} (h0 : 0 ≤ z7038) (h1 : (-1) ≤ z7038 ∧ z7038 ≤ 31) : 0 ≤ z7038 ∧ z7038 ≤ 31 := by omega
theorem vc_X12_least_7 {z9019 : Int} (h0 : (11 - z9019) < ((0 : Nat) : Int)) (h1 : 0 ≤ z9019 ∧ z9019 ≤ 10) : False := by omega
theorem vc_X12_least_8 {N z7038 : Int} (h0 : (z7038 - (-2)) < N + 1) (h1 : 0 ≤ z7038) (h2 : 0 ≤ z7038 ∧ z7038 ≤ 31) : ((z7038 + (-1)) - (-2)) < N := by omega
theorem vc_X12_least_9 {z9019 z9028 : Int} (h0 : z9019 < z9028) (h1 : 0 ≤ z9019 ∧ z9019 ≤ 10) (h2 : 0 ≤ z9028 ∧ z9028 ≤ 10) : 0 ≤ z9019 ∧ z9019 ≤ 9 := by omega
theorem vc_X12_least_10 {z9019 z9028 : Int} (h0 : z9019 < z9028) (h1 : 0 ≤ z9019 ∧ z9019 ≤ 9) (h2 : 0 ≤ z9028 ∧ z9028 ≤ 10) : 1 ≤ z9028 ∧ z9028 ≤ 10 := by omega
theorem vc_X12_least_11 {z9247 : Int} (h0 : z9247 = -99999999 ∨ z9247 = -4 ∨ (0 ≤ z9247 ∧ z9247 ≤ 19)) : -99999999 ≤ z9247 ∧ z9247 ≤ 19 := by omega
theorem vc_X12_least_12 {z9247 : Int} (h0 : z9247 = (-99999999)) (h1 : (-99999999) ≤ z9247 ∧ z9247 ≤ 19) (h2 : z9247 = -99999999 ∨ z9247 = -4 ∨ (0 ≤ z9247 ∧ z9247 ≤ 19)) : (-99999999) ≤ z9247 ∧ z9247 ≤ (-99999999) := by omega
theorem vc_X12_least_13 {N z9019 z9028 : Int} (h0 : (11 - z9019) < N + 1) (h1 : z9019 < z9028) (h2 : 0 ≤ z9019 ∧ z9019 ≤ 9) (h3 : 1 ≤ z9028 ∧ z9028 ≤ 10) : (11 - (z9019 + 1)) < N := by omega
theorem vc_X12_least_14 {z9247 : Int} (h0 : ¬ z9247 = (-99999999)) (h1 : (-99999999) ≤ z9247 ∧ z9247 ≤ 19) (h2 : z9247 = -99999999 ∨ z9247 = -4 ∨ (0 ≤ z9247 ∧ z9247 ≤ 19)) : (-4) ≤ z9247 ∧ z9247 ≤ 19 := by omega
theorem vc_X12_least_15 {z7038 z9461 : Int} (h0 : z7038 < z9461) (h1 : 0 ≤ z7038) (h2 : 0 ≤ z7038 ∧ z7038 ≤ 31) (h3 : 0 ≤ z9461 ∧ z9461 ≤ 32) : 1 ≤ z9461 ∧ z9461 ≤ 32 := by omega
theorem vc_X12_least_16 {z9683 : Int} (h0 : z9683 = (-99999999)) (h1 : z9683 = -99999999 ∨ (0 ≤ z9683 ∧ z9683 ≤ 399)) (h2 : (-99999999) ≤ z9683 ∧ z9683 ≤ 399) : (-99999999) ≤ z9683 ∧ z9683 ≤ (-99999999) := by omega
theorem vc_X12_least_17 {z10289 : Int} (h0 : (23 - z10289) < ((0 : Nat) : Int)) (h1 : 0 ≤ z10289 ∧ z10289 ≤ 22) : False := by omega
theorem vc_X12_least_18 {z10289 : Int} (h0 : 22 ≤ z10289) (h1 : 0 ≤ z10289 ∧ z10289 ≤ 22) : 22 ≤ z10289 ∧ z10289 ≤ 22 := by omega
theorem vc_X12_least_19 {z10557 : Int} (h0 : (23 - z10557) < ((0 : Nat) : Int)) (h1 : 0 ≤ z10557 ∧ z10557 ≤ 22) : False := by omega
theorem vc_X12_least_20 {z10557 : Int} (h0 : 22 ≤ z10557) (h1 : 0 ≤ z10557 ∧ z10557 ≤ 22) : 22 ≤ z10557 ∧ z10557 ≤ 22 := by omega
theorem vc_X12_least_21 {z10585 : Int} (h0 : 0 ≤ z10585 ∧ z10585 ≤ 400) : 0 ≤ z10585 ∧ z10585 < 400 := by omega
theorem vc_X12_least_22 {z10585 : Int} (h0 : 0 ≤ z10585 ∧ z10585 ≤ 400) : 0 ≤ (z10585 + 1) ∧ (z10585 + 1) ≤ 400 := by omega
theorem vc_X12_least_23 {z10557 : Int} (h0 : z10557 < 22) (h1 : 0 ≤ z10557 ∧ z10557 ≤ 22) : 0 ≤ z10557 ∧ z10557 ≤ 21 := by omega
theorem vc_X12_least_24 {z10557 z10598 : Int} (h0 : z10557 < 22) (h1 : 0 ≤ z10557 ∧ z10557 ≤ 21) (h2 : 0 ≤ z10598 ∧ z10598 ≤ 400) : 0 ≤ ((22 * z10598) + z10557) ∧ ((22 * z10598) + z10557) < 8800 := by omega
theorem vc_X12_least_25 {N z10557 : Int} (h0 : (23 - z10557) < N + 1) (h1 : z10557 < 22) (h2 : 0 ≤ z10557 ∧ z10557 ≤ 21) : (23 - (z10557 + 1)) < N := by omega
theorem vc_X12_least_26 {z10601 z10604 : Int} (h0 : z10604 < z10601) (h1 : (-2147483648) ≤ z10601 ∧ z10601 ≤ 2147483647) (h2 : (-2147483648) ≤ z10604 ∧ z10604 ≤ 2147483647) : (-2147483647) ≤ z10601 ∧ z10601 ≤ 2147483647 := by omega
theorem vc_X12_least_27 {z10601 z10604 : Int} (h0 : z10604 < z10601) (h1 : (-2147483647) ≤ z10601 ∧ z10601 ≤ 2147483647) (h2 : (-2147483648) ≤ z10604 ∧ z10604 ≤ 2147483647) : (-2147483648) ≤ z10604 ∧ z10604 ≤ 2147483646 := by omega
theorem vc_X12_least_28  : (23 - 0) < ((24 : Nat) : Int) := by omega
theorem vc_X12_least_29 {z10289 : Int} (h0 : z10289 < 22) (h1 : 0 ≤ z10289 ∧ z10289 ≤ 22) : 0 ≤ z10289 ∧ z10289 ≤ 21 := by omega
theorem vc_X12_least_30 {z10289 z10634 : Int} (h0 : z10289 < 22) (h1 : 0 ≤ z10289 ∧ z10289 ≤ 21) (h2 : 0 ≤ z10634 ∧ z10634 ≤ 400) : 0 ≤ ((22 * z10634) + z10289) ∧ ((22 * z10634) + z10289) < 8800 := by omega
theorem vc_X12_least_31 {z10290 : Int} (h0 : z10290 = (-99999999)) (h1 : (-2147483648) ≤ z10290 ∧ z10290 ≤ 2147483647) : (-99999999) ≤ z10290 ∧ z10290 ≤ (-99999999) := by omega
theorem vc_X12_least_32 {N z10289 : Int} (h0 : (23 - z10289) < N + 1) (h1 : z10289 < 22) (h2 : 0 ≤ z10289 ∧ z10289 ≤ 21) : (23 - (z10289 + 1)) < N := by omega
theorem vc_X12_least_33 {z10290 z10632 : Int} (h0 : z10632 < z10290) (h1 : ¬ z10290 = (-99999999)) (h2 : (-2147483648) ≤ z10290 ∧ z10290 ≤ 2147483647) (h3 : (-2147483648) ≤ z10632 ∧ z10632 ≤ 2147483647) : (-2147483648) ≤ z10632 ∧ z10632 ≤ 2147483646 := by omega
theorem vc_X12_least_34 {z10290 z10632 : Int} (h0 : z10632 < z10290) (h1 : ¬ z10290 = (-99999999)) (h2 : (-2147483648) ≤ z10290 ∧ z10290 ≤ 2147483647) (h3 : (-2147483648) ≤ z10632 ∧ z10632 ≤ 2147483646) : (-2147483647) ≤ z10290 ∧ z10290 ≤ 2147483647 := by omega
theorem vc_X12_least_35 {z9683 : Int} (h0 : ¬ z9683 = (-99999999)) (h1 : z9683 = -99999999 ∨ (0 ≤ z9683 ∧ z9683 ≤ 399)) (h2 : (-99999999) ≤ z9683 ∧ z9683 ≤ 399) : 0 ≤ z9683 ∧ z9683 ≤ 399 := by omega
theorem vc_X12_least_36 {z7038 z9461 : Int} (h0 : z9461 ≤ z7038) (h1 : 0 ≤ z7038) (h2 : 0 ≤ z7038 ∧ z7038 ≤ 31) (h3 : 0 ≤ z9461 ∧ z9461 ≤ 32) : 0 ≤ z9461 ∧ z9461 ≤ 31 := by omega
theorem vc_X12_least_37  : (11 - 0) < ((12 : Nat) : Int) := by omega
theorem vc_X12_least_38  : (31 - (-2)) < ((34 : Nat) : Int) := by omega
theorem vc_X12_least_39 {p1 z1 z8 : Int} (h0 : z8 = 0) (h1 : (z8 = 1 → 0 ≤ p1 ∧ p1 < z1)) (h2 : (z8 = 0 → p1 < 0 ∨ z1 ≤ p1)) (h3 : (-2147483648) ≤ p1 ∧ p1 ≤ 2147483647) (h4 : 0 ≤ z1 ∧ z1 ≤ 10) (h5 : 0 ≤ z8 ∧ z8 ≤ 1) : 0 ≤ z8 ∧ z8 ≤ 0 := by omega
theorem vc_X12_least_40 {p1 z1 z8 : Int} (h0 : (z8 = 1 → 0 ≤ p1 ∧ p1 < z1)) (h1 : (z8 = 0 → p1 < 0 ∨ z1 ≤ p1)) (h2 : z8 = 0) (h3 : (-2147483648) ≤ p1 ∧ p1 ≤ 2147483647) (h4 : 0 ≤ z1 ∧ z1 ≤ 10) (h5 : 0 ≤ z8 ∧ z8 ≤ 0) : z8 = 0 := by omega
set_option maxRecDepth 4000 in
set_option maxHeartbeats 4000000 in
theorem c_X12_least {l : Launch} {D : va_G} {c : Nat → ClassId} {H0 : Heap} {sa : Nat × Nat × (Nat → Int32)} {w : mW} {μ : mM} (hw : mWF w) (hT : mT w μ) {p1 : Int} (hp1 : (-2147483648) ≤ p1 ∧ p1 ≤ 2147483647) : sC (gG l D c H0 sa) mX12_least 5 0 0 [.ref 106, iv p1] (mk w μ) (qI w [106116, 180999, 181999, 182999] μ (fun z μ1 => ((-2147483648) ≤ z ∧ z ≤ 2147483647) ∧ True)) := by
  refine sC.of rfl (by decide) (le_t rfl) ?_
  refine mr_lvE (lv' := [(0, .ref 106), (1, iv p1)]) rfl ?_
  refine sv_aload_n dX12_least_0 rfl rfl ?_
  refine mr_iload_n (z := p1) dX12_least_1 rfl rfl ?_
  obtain ⟨z1, q2⟩ : ∃ z, μ 106 5 = z := ⟨_, rfl⟩
  have h3 : (0 ≤ z1 ∧ z1 ≤ 10) := by rw [← q2]; exact hT 106 106 (A_106 hw) 5
  refine mr_cVP (c_X12_isDomain hw hT hp1 q2) (gOk _ _ _ _ _) dX12_least_2 (tX12_isDomain _ _ _ _ _) ⟨wV_X12_isDomain, wL_X12_isDomain⟩ wM_X12_49 (gCX12 _ _ _ _ _) rfl (A_106 hw) rfl ⟨le_t rfl, le_t rfl⟩ ⟨le_t rfl, le_t rfl⟩ rfl (le_t rfl) fun z8 h7 => ?_
  refine mr_if_ne (tgt := 10) dX12_least_5 (by decide) (r32 h7.1 rfl) (fun h9 => ?_) (fun h9 => ?_)
  · have h10 : 1 ≤ z8 ∧ z8 ≤ 1 := (vc_X12_least_1 h9 h7.2.1 h7.2.2.1 hp1 h3 h7.1)
    have h11 : 0 ≤ p1 ∧ p1 < z1 := (h7.2.1 (vc_X12_least_2 h7.2.1 h7.2.2.1 h9 hp1 h3 h10))
    have h12 : 0 ≤ p1 ∧ p1 ≤ 9 := (vc_X12_least_3 h11 h7.2.1 h7.2.2.1 hp1 h3 h10)
    refine sv_aload_n dX12_least_10 rfl rfl ?_
    refine mr_iconst (z := 0) dX12_least_11 ?_
    refine pf_X12_116 dX12_least_12 wF_X12_698 (A_106 hw) hT (rW (c := 0) (d := 400) (rR (x := 0)) rfl) fun μ13 u14 T15 => ?_
    refine mr_bipush (z := 31) dX12_least_15 (by decide) ?_
    refine mr_istore_n (lv' := [(2, iv 31), (0, .ref 106), (1, iv p1)]) dX12_least_17 rfl (by decide) rfl ?_
    have L7040 : ∀ (nL7040 : Nat) (z7038 : Int) (μ7039 : mM), mT w μ7039 → mF [106116, 180999, 181999, 182999] w μ13 μ7039 → ((-1) ≤ z7038 ∧ z7038 ≤ 31) → (z7038 - (-2)) < (nL7040 : Int) → sV (gG l D c H0 sa) mX12_least (sRm 5 0 0) (sZ (gG l D c H0 sa) 0 0 (qI w [106116, 180999, 181999, 182999] μ (fun z μ1 => ((-2147483648) ≤ z ∧ z ≤ 2147483647) ∧ True))) 18 [(0, .ref 106), (1, iv p1), (2, iv z7038)] [] (mk w μ7039) 0 0 := by
      intro nL7040
      induction nL7040 with
      | zero => intro z7038 μ7039 T7042 F7043 h7041 h7045; exact ((vc_X12_least_4 h7045 h7041)).elim
      | succ nL7040 ih7046 =>
        intro z7038 μ7039 T7042 F7043 h7041 h7045
        refine mr_iload_n (z := z7038) dX12_least_18 rfl rfl ?_
        refine mr_if_lt (tgt := 287) dX12_least_19 (by decide) (r32 h7041 rfl) (fun h7485 => ?_) (fun h7485 => ?_)
        · have h7486 : (-1) ≤ z7038 ∧ z7038 ≤ (-1) := (vc_X12_least_5 h7485 h7041)
          refine sv_aload_n dX12_least_287 rfl rfl ?_
          refine mr_iload_n (z := p1) dX12_least_288 rfl rfl ?_
          refine mr_iconst (z := 0) dX12_least_289 ?_
          refine mr_iconst (z := 0) dX12_least_290 ?_
          refine mr_bipush (z := 21) dX12_least_291 (by decide) ?_
          refine mr_cVP (c_X12_costOf hw T7042 h12 (rW (c := (-2147483648)) (d := 2147483647) (rR (x := 0)) rfl) (rW (c := (-2147483648)) (d := 2147483647) (rR (x := 0)) rfl) (rW (c := 0) (d := 21) (rR (x := 21)) rfl)) (gOk _ _ _ _ _) dX12_least_293 (tX12_costOf _ _ _ _ _) ⟨wV_X12_costOf, wL_X12_costOf⟩ wM_X12_707 (gCX12 _ _ _ _ _) rfl (A_106 hw) rfl ⟨le_t rfl, le_t rfl⟩ ⟨le_t rfl, le_t rfl⟩ rfl (le_t rfl) fun z7491 h7490 => ?_
          exact mr_iret dX12_least_296 rfl (le_t rfl) (le_t rfl) T7042 (mF.call (mF.up mF.refl (A_106 hw) u14 rfl) F7043 rfl) ⟨h7490.1, trivial⟩
        have h7492 : 0 ≤ z7038 ∧ z7038 ≤ 31 := (vc_X12_least_6 h7485 h7041)
        refine mr_iconst (z := 0) dX12_least_22 ?_
        refine mr_istore_n (lv' := [(3, iv 0), (0, .ref 106), (1, iv p1), (2, iv z7038)]) dX12_least_23 rfl (by decide) rfl ?_
        have L9021 : ∀ (nL9021 : Nat) (z9019 : Int) (μ9020 : mM), mT w μ9020 → mF [106116, 180999, 181999, 182999] w μ7039 μ9020 → (0 ≤ z9019 ∧ z9019 ≤ 10) → (11 - z9019) < (nL9021 : Int) → sV (gG l D c H0 sa) mX12_least (sRm 5 0 0) (sZ (gG l D c H0 sa) 0 0 (qI w [106116, 180999, 181999, 182999] μ (fun z μ1 => ((-2147483648) ≤ z ∧ z ≤ 2147483647) ∧ True))) 24 [(0, .ref 106), (1, iv p1), (2, iv z7038), (3, iv z9019)] [] (mk w μ9020) 0 0 := by
          intro nL9021
          induction nL9021 with
          | zero => intro z9019 μ9020 T9023 F9024 h9022 h9026; exact ((vc_X12_least_7 h9026 h9022)).elim
          | succ nL9021 ih9027 =>
            intro z9019 μ9020 T9023 F9024 h9022 h9026
            refine mr_iload_n (z := z9019) dX12_least_24 rfl rfl ?_
            refine sv_aload_n dX12_least_25 rfl rfl ?_
            refine gf_X12_2 dX12_least_26 wF_X12_15 (A_106 hw) T9023 fun z9028 q9029 h9030 => ?_
            refine mr_icmp_ge (tgt := 281) dX12_least_29 (by decide) (r32 h9022 rfl) (r32 h9030 rfl) (fun h9244 => ?_) (fun h9244 => ?_)
            · refine mr_iinc (lv' := [(2, iv (z7038 + (-1))), (0, .ref 106), (1, iv p1), (3, iv z9019)]) dX12_least_281 rfl (by decide) rfl ?_
              refine sv_goto (tgt := 18) dX12_least_284 (by decide) ?_
              refine mr_lvS (lv' := [(0, .ref 106), (1, iv p1), (2, iv (z7038 + (-1)))]) (List.forall_mem_cons.mpr ⟨rfl, List.forall_mem_cons.mpr ⟨rfl, List.forall_mem_cons.mpr ⟨rfl, fun _ h => absurd h List.not_mem_nil⟩⟩⟩) ?_
              exact ih7046 (z7038 + (-1)) μ9020 T9023 (mF.call (mF.call mF.refl F7043 rfl) F9024 rfl) (rW (c := (-1)) (d := 31) (rAdd (e := (-1)) (f := 30) h7492 (rR (x := (-1))) rfl) rfl) (vc_X12_least_8 (nS h7045) h7485 h7492)
            have h9245 : 0 ≤ z9019 ∧ z9019 ≤ 9 := (vc_X12_least_9 h9244 h9022 h9030)
            have h9246 : 1 ≤ z9028 ∧ z9028 ≤ 10 := (vc_X12_least_10 h9244 h9245 h9030)
            refine sv_aload_n dX12_least_32 rfl rfl ?_
            refine gf_X12_81 dX12_least_33 wF_X12_445 (A_106 hw) T9023 ?_
            refine mr_bipush (z := 10) dX12_least_36 (by decide) ?_
            refine mr_iload_n (z := p1) dX12_least_38 rfl rfl ?_
            refine mr_imul (x := 10) (y := p1) dX12_least_39 ?_
            refine mr_iload_n (z := z9019) dX12_least_40 rfl rfl ?_
            refine mr_iadd (x := (10 * p1)) (y := z9019) dX12_least_41 ?_
            refine la_161 dX12_least_42 (A_161 hw) T9023 (rIx (n := 100) (rAdd (e := 0) (f := 99) (rMulL (n := 10) (e := 0) (f := 90) h12 rfl) h9245 rfl) rfl) fun z9247 q9248 h9249 => ?_
            have h9250 : (-99999999) ≤ z9247 ∧ z9247 ≤ 19 := (vc_X12_least_11 h9249)
            refine mr_ldc (z := (-99999999)) dX12_least_43 wG_X12_29 (by decide) ?_
            refine mr_icmp_eq (tgt := 275) dX12_least_45 (by decide) (r32 h9250 rfl) (r32 (rR (x := (-99999999))) rfl) (fun h9458 => ?_) (fun h9458 => ?_)
            · have h9459 : (-99999999) ≤ z9247 ∧ z9247 ≤ (-99999999) := (vc_X12_least_12 h9458 h9250 h9249)
              refine mr_iinc (lv' := [(3, iv (z9019 + 1)), (0, .ref 106), (1, iv p1), (2, iv z7038)]) dX12_least_275 rfl (by decide) rfl ?_
              refine sv_goto (tgt := 24) dX12_least_278 (by decide) ?_
              refine mr_lvS (lv' := [(0, .ref 106), (1, iv p1), (2, iv z7038), (3, iv (z9019 + 1))]) (List.forall_mem_cons.mpr ⟨rfl, List.forall_mem_cons.mpr ⟨rfl, List.forall_mem_cons.mpr ⟨rfl, List.forall_mem_cons.mpr ⟨rfl, fun _ h => absurd h List.not_mem_nil⟩⟩⟩⟩) ?_
              exact ih9027 (z9019 + 1) μ9020 T9023 (mF.call mF.refl F9024 rfl) (rW (c := 0) (d := 10) (rAdd (e := 1) (f := 10) h9245 (rR (x := 1)) rfl) rfl) (vc_X12_least_13 (nS h9026) h9244 h9245 h9246)
            have h9460 : (-4) ≤ z9247 ∧ z9247 ≤ 19 := (vc_X12_least_14 h9458 h9250 h9249)
            refine sv_aload_n dX12_least_48 rfl rfl ?_
            refine gf_X12_4 dX12_least_49 wF_X12_26 (A_106 hw) T9023 ?_
            refine mr_iload_n (z := z9019) dX12_least_52 rfl rfl ?_
            refine la_109 dX12_least_53 (A_109 hw) T9023 (rIx (n := 10) h9245 rfl) fun z9461 q9462 h9463 => ?_
            refine mr_iload_n (z := z7038) dX12_least_54 rfl rfl ?_
            refine mr_icmp_gt (tgt := 61) dX12_least_55 (by decide) (r32 h9463 rfl) (r32 h7492 rfl) (fun h9666 => ?_) (fun h9666 => ?_)
            · have h9667 : 1 ≤ z9461 ∧ z9461 ≤ 32 := (vc_X12_least_15 h9666 h7485 h7492 h9463)
              refine sv_aload_n dX12_least_61 rfl rfl ?_
              refine gf_X12_3 dX12_least_62 wF_X12_22 (A_106 hw) T9023 ?_
              refine mr_iload_n (z := z9019) dX12_least_65 rfl rfl ?_
              refine la_108 dX12_least_66 (A_108 hw) T9023 (rIx (n := 10) h9245 rfl) fun z9668 q9669 h9670 => ?_
              refine mr_iload_n (z := z7038) dX12_least_67 rfl rfl ?_
              refine mr_cSP (c_X12_mask hw T9023 (rW (c := 0) (d := 32) h7492 rfl)) (gOk _ _ _ _ _) dX12_least_68 (tX12_mask _ _ _ _ _) wS_X12_mask wM_X12_11 ⟨le_t rfl, le_t rfl⟩ ⟨le_t rfl, le_t rfl⟩ rfl (le_t rfl) fun z9675 h9674 => ?_
              refine mr_iand (x := z9668) (y := z9675) dX12_least_71 ?_
              refine mr_gen (P := fun z => (-2147483648) ≤ z ∧ z ≤ 2147483647) (r32i _) fun z9676 q9677 h9678 => ?_
              refine mr_istore (lv' := [(4, iv z9676), (0, .ref 106), (1, iv p1), (2, iv z7038), (3, iv z9019)]) dX12_least_72 (by decide) rfl ?_
              refine sv_aload_n dX12_least_74 rfl rfl ?_
              refine mr_iload (z := z9676) dX12_least_75 rfl ?_
              refine mr_iload_n (z := z7038) dX12_least_77 rfl rfl ?_
              refine mr_cVP (c_X12_nodeOf hw T9023 h9678 (rW (c := (-2147483648)) (d := 2147483647) h7492 rfl)) (gOk _ _ _ _ _) dX12_least_78 (tX12_nodeOf _ _ _ _ _) ⟨wV_X12_nodeOf, wL_X12_nodeOf⟩ wM_X12_701 (gCX12 _ _ _ _ _) rfl (A_106 hw) rfl ⟨le_t rfl, le_t rfl⟩ ⟨le_t rfl, le_t rfl⟩ rfl (le_t rfl) fun z9683 h9682 => ?_
              refine mr_ldc (z := (-99999999)) dX12_least_81 wG_X12_29 (by decide) ?_
              refine mr_icmp_eq (tgt := 89) dX12_least_83 (by decide) (r32 h9682.1 rfl) (r32 (rR (x := (-99999999))) rfl) (fun h9868 => ?_) (fun h9868 => ?_)
              · have h9869 : (-99999999) ≤ z9683 ∧ z9683 ≤ (-99999999) := (vc_X12_least_16 h9868 h9682.2.1 h9682.1)
                refine mr_iload (z := z9676) dX12_least_89 rfl ?_
                refine mr_iconst (z := 1) dX12_least_91 ?_
                refine mr_bipush (z := 31) dX12_least_92 (by decide) ?_
                refine mr_iload_n (z := z7038) dX12_least_94 rfl rfl ?_
                refine mr_isub (x := 31) (y := z7038) dX12_least_95 ?_
                refine mr_ishl (x := 1) (y := (31 - z7038)) dX12_least_96 ?_
                refine mr_gen (P := fun z => (-2147483648) ≤ z ∧ z ≤ 2147483647) (r32i _) fun z9870 q9871 h9872 => ?_
                refine mr_ior (x := z9676) (y := z9870) dX12_least_97 ?_
                refine mr_gen (P := fun z => (-2147483648) ≤ z ∧ z ≤ 2147483647) (r32i _) fun z9873 q9874 h9875 => ?_
                refine mr_istore (lv' := [(5, iv z9873), (4, iv z9676), (0, .ref 106), (1, iv p1), (2, iv z7038), (3, iv z9019)]) dX12_least_98 (by decide) rfl ?_
                refine mr_ldc (z := (-99999999)) dX12_least_100 wG_X12_29 (by decide) ?_
                refine mr_istore (lv' := [(6, iv (-99999999)), (5, iv z9873), (4, iv z9676), (0, .ref 106), (1, iv p1), (2, iv z7038), (3, iv z9019)]) dX12_least_102 (by decide) rfl ?_
                refine mr_iconst (z := 0) dX12_least_104 ?_
                refine mr_istore (lv' := [(7, iv 0), (6, iv (-99999999)), (5, iv z9873), (4, iv z9676), (0, .ref 106), (1, iv p1), (2, iv z7038), (3, iv z9019)]) dX12_least_105 (by decide) rfl ?_
                have L10292 : ∀ (nL10292 : Nat) (z10290 z10289 : Int) (μ10291 : mM), mT w μ10291 → mF [182999] w μ9020 μ10291 → ((-2147483648) ≤ z10290 ∧ z10290 ≤ 2147483647) → (0 ≤ z10289 ∧ z10289 ≤ 22) → (23 - z10289) < (nL10292 : Int) → sV (gG l D c H0 sa) mX12_least (sRm 5 0 0) (sZ (gG l D c H0 sa) 0 0 (qI w [106116, 180999, 181999, 182999] μ (fun z μ1 => ((-2147483648) ≤ z ∧ z ≤ 2147483647) ∧ True))) 107 [(0, .ref 106), (1, iv p1), (2, iv z7038), (3, iv z9019), (4, iv z9676), (5, iv z9873), (6, iv z10290), (7, iv z10289)] [] (mk w μ10291) 0 0 := by
                  intro nL10292
                  induction nL10292 with
                  | zero => intro z10290 z10289 μ10291 T10295 F10296 h10293 h10294 h10298; exact ((vc_X12_least_17 h10298 h10294)).elim
                  | succ nL10292 ih10299 =>
                    intro z10290 z10289 μ10291 T10295 F10296 h10293 h10294 h10298
                    refine mr_iload (z := z10289) dX12_least_107 rfl ?_
                    refine mr_bipush (z := 22) dX12_least_109 (by decide) ?_
                    refine mr_icmp_ge (tgt := 187) dX12_least_111 (by decide) (r32 h10294 rfl) (r32 (rR (x := 22)) rfl) (fun h10323 => ?_) (fun h10323 => ?_)
                    · have h10324 : 22 ≤ z10289 ∧ z10289 ≤ 22 := (vc_X12_least_18 h10323 h10294)
                      refine mr_iconst (z := 0) dX12_least_187 ?_
                      refine mr_istore (lv' := [(7, iv 0), (0, .ref 106), (1, iv p1), (2, iv z7038), (3, iv z9019), (4, iv z9676), (5, iv z9873), (6, iv z10290)]) dX12_least_188 (by decide) rfl ?_
                      have L10559 : ∀ (nL10559 : Nat) (z10557 : Int) (μ10558 : mM), mT w μ10558 → mF [182999] w μ10291 μ10558 → (0 ≤ z10557 ∧ z10557 ≤ 22) → (23 - z10557) < (nL10559 : Int) → sV (gG l D c H0 sa) mX12_least (sRm 5 0 0) (sZ (gG l D c H0 sa) 0 0 (qI w [106116, 180999, 181999, 182999] μ (fun z μ1 => ((-2147483648) ≤ z ∧ z ≤ 2147483647) ∧ True))) 190 [(0, .ref 106), (1, iv p1), (2, iv z7038), (3, iv z9019), (4, iv z9676), (6, iv z10290), (7, iv z10557)] [] (mk w μ10558) 0 0 := by
                        intro nL10559
                        induction nL10559 with
                        | zero => intro z10557 μ10558 T10561 F10562 h10560 h10564; exact ((vc_X12_least_19 h10564 h10560)).elim
                        | succ nL10559 ih10565 =>
                          intro z10557 μ10558 T10561 F10562 h10560 h10564
                          refine mr_iload (z := z10557) dX12_least_190 rfl ?_
                          refine mr_bipush (z := 22) dX12_least_192 (by decide) ?_
                          refine mr_icmp_ge (tgt := 244) dX12_least_194 (by decide) (r32 h10560 rfl) (r32 (rR (x := 22)) rfl) (fun h10583 => ?_) (fun h10583 => ?_)
                          · have h10584 : 22 ≤ z10557 ∧ z10557 ≤ 22 := (vc_X12_least_20 h10583 h10560)
                            refine sv_aload_n dX12_least_244 rfl rfl ?_
                            refine gf_X12_113 dX12_least_245 wF_X12_502 (A_106 hw) T10561 ?_
                            refine sv_aload_n dX12_least_248 rfl rfl ?_
                            refine gf_X12_116 dX12_least_249 wF_X12_698 (A_106 hw) T10561 fun z10585 q10586 h10587 => ?_
                            refine mr_iload (z := z9676) dX12_least_252 rfl ?_
                            refine ss_180 dX12_least_254 (A_180 hw) T10561 (vc_X12_least_21 h10587) h9678 fun μ10588 u10589 T10590 => ?_
                            refine sv_aload_n dX12_least_255 rfl rfl ?_
                            refine gf_X12_114 dX12_least_256 wF_X12_505 (A_106 hw) T10590 ?_
                            refine sv_aload_n dX12_least_259 rfl rfl ?_
                            refine gk_X12_116 dX12_least_260 wF_X12_698 (A_106 hw) (u10589.f (Or.inl (mAt.ne (A_180 hw) (A_106 hw) rfl)) q10586) ?_
                            refine mr_iload_n (z := z7038) dX12_least_263 rfl rfl ?_
                            refine ss_181 dX12_least_264 (A_181 hw) T10590 (vc_X12_least_21 h10587) (rW (c := (-2147483648)) (d := 2147483647) h7492 rfl) fun μ10591 u10592 T10593 => ?_
                            refine sv_aload_n dX12_least_265 rfl rfl ?_
                            refine sv_dup dX12_least_266 rfl ?_
                            refine gk_X12_116 dX12_least_267 wF_X12_698 (A_106 hw) (u10592.f (Or.inl (mAt.ne (A_181 hw) (A_106 hw) rfl)) (u10589.f (Or.inl (mAt.ne (A_180 hw) (A_106 hw) rfl)) q10586)) ?_
                            refine mr_iconst (z := 1) dX12_least_270 ?_
                            refine mr_iadd (x := z10585) (y := 1) dX12_least_271 ?_
                            refine pf_X12_116 dX12_least_272 wF_X12_698 (A_106 hw) T10593 (vc_X12_least_22 h10587) fun μ10594 u10595 T10596 => ?_
                            refine mr_iinc (lv' := [(3, iv (z9019 + 1)), (0, .ref 106), (1, iv p1), (2, iv z7038), (4, iv z9676), (6, iv z10290), (7, iv z10557)]) dX12_least_275 rfl (by decide) rfl ?_
                            refine sv_goto (tgt := 24) dX12_least_278 (by decide) ?_
                            refine mr_lvS (lv' := [(0, .ref 106), (1, iv p1), (2, iv z7038), (3, iv (z9019 + 1))]) (List.forall_mem_cons.mpr ⟨rfl, List.forall_mem_cons.mpr ⟨rfl, List.forall_mem_cons.mpr ⟨rfl, List.forall_mem_cons.mpr ⟨rfl, fun _ h => absurd h List.not_mem_nil⟩⟩⟩⟩) ?_
                            exact ih9027 (z9019 + 1) μ10594 T10596 (mF.up (mF.up (mF.up (mF.call (mF.call (mF.call mF.refl F9024 rfl) F10296 rfl) F10562 rfl) (A_180 hw) u10589 rfl) (A_181 hw) u10592 rfl) (A_106 hw) u10595 rfl) (rW (c := 0) (d := 10) (rAdd (e := 1) (f := 10) h9245 (rR (x := 1)) rfl) rfl) (vc_X12_least_13 (nS h9026) h9244 h9245 h9246)
                          have h10597 : 0 ≤ z10557 ∧ z10557 ≤ 21 := (vc_X12_least_23 h10583 h10560)
                          refine sv_aload_n dX12_least_197 rfl rfl ?_
                          refine gf_X12_115 dX12_least_198 wF_X12_508 (A_106 hw) T10561 ?_
                          refine mr_bipush (z := 22) dX12_least_201 (by decide) ?_
                          refine sv_aload_n dX12_least_203 rfl rfl ?_
                          refine gf_X12_116 dX12_least_204 wF_X12_698 (A_106 hw) T10561 fun z10598 q10599 h10600 => ?_
                          refine mr_imul (x := 22) (y := z10598) dX12_least_207 ?_
                          refine mr_iload (z := z10557) dX12_least_208 rfl ?_
                          refine mr_iadd (x := (22 * z10598)) (y := z10557) dX12_least_210 ?_
                          refine la_182 dX12_least_211 (A_182 hw) T10561 (vc_X12_least_24 h10583 h10597 h10600) fun z10601 q10602 h10603 => ?_
                          refine mr_iload (z := z10290) dX12_least_212 rfl ?_
                          refine mr_iconst (z := 1) dX12_least_214 ?_
                          refine mr_iadd (x := z10290) (y := 1) dX12_least_215 ?_
                          refine mr_wrap fun z10604 h10605 => ?_
                          refine mr_icmp_le (tgt := 238) dX12_least_216 (by decide) h10603 h10605 (fun h10613 => ?_) (fun h10613 => ?_)
                          · refine mr_iinc (lv' := [(7, iv (z10557 + 1)), (0, .ref 106), (1, iv p1), (2, iv z7038), (3, iv z9019), (4, iv z9676), (6, iv z10290)]) dX12_least_238 rfl (by decide) rfl ?_
                            refine sv_goto (tgt := 190) dX12_least_241 (by decide) ?_
                            refine mr_lvS (lv' := [(0, .ref 106), (1, iv p1), (2, iv z7038), (3, iv z9019), (4, iv z9676), (6, iv z10290), (7, iv (z10557 + 1))]) (List.forall_mem_cons.mpr ⟨rfl, List.forall_mem_cons.mpr ⟨rfl, List.forall_mem_cons.mpr ⟨rfl, List.forall_mem_cons.mpr ⟨rfl, List.forall_mem_cons.mpr ⟨rfl, List.forall_mem_cons.mpr ⟨rfl, List.forall_mem_cons.mpr ⟨rfl, fun _ h => absurd h List.not_mem_nil⟩⟩⟩⟩⟩⟩⟩) ?_
                            exact ih10565 (z10557 + 1) μ10558 T10561 (mF.call mF.refl F10562 rfl) (rW (c := 0) (d := 22) (rAdd (e := 1) (f := 22) h10597 (rR (x := 1)) rfl) rfl) (vc_X12_least_25 (nS h10564) h10583 h10597)
                          have h10614 : (-2147483647) ≤ z10601 ∧ z10601 ≤ 2147483647 := (vc_X12_least_26 h10613 h10603 h10605)
                          have h10615 : (-2147483648) ≤ z10604 ∧ z10604 ≤ 2147483646 := (vc_X12_least_27 h10613 h10614 h10605)
                          refine sv_aload_n dX12_least_219 rfl rfl ?_
                          refine gf_X12_115 dX12_least_220 wF_X12_508 (A_106 hw) T10561 ?_
                          refine mr_bipush (z := 22) dX12_least_223 (by decide) ?_
                          refine sv_aload_n dX12_least_225 rfl rfl ?_
                          refine gk_X12_116 dX12_least_226 wF_X12_698 (A_106 hw) q10599 ?_
                          refine mr_imul (x := 22) (y := z10598) dX12_least_229 ?_
                          refine mr_iload (z := z10557) dX12_least_230 rfl ?_
                          refine mr_iadd (x := (22 * z10598)) (y := z10557) dX12_least_232 ?_
                          refine mr_iload (z := z10290) dX12_least_233 rfl ?_
                          refine mr_iconst (z := 1) dX12_least_235 ?_
                          refine mr_iadd (x := z10290) (y := 1) dX12_least_236 ?_
                          refine mr_wrap fun z10616 h10617 => ?_
                          refine ss_182 dX12_least_237 (A_182 hw) T10561 (vc_X12_least_24 h10583 h10597 h10600) h10617 fun μ10618 u10619 T10620 => ?_
                          refine mr_iinc (lv' := [(7, iv (z10557 + 1)), (0, .ref 106), (1, iv p1), (2, iv z7038), (3, iv z9019), (4, iv z9676), (6, iv z10290)]) dX12_least_238 rfl (by decide) rfl ?_
                          refine sv_goto (tgt := 190) dX12_least_241 (by decide) ?_
                          refine mr_lvS (lv' := [(0, .ref 106), (1, iv p1), (2, iv z7038), (3, iv z9019), (4, iv z9676), (6, iv z10290), (7, iv (z10557 + 1))]) (List.forall_mem_cons.mpr ⟨rfl, List.forall_mem_cons.mpr ⟨rfl, List.forall_mem_cons.mpr ⟨rfl, List.forall_mem_cons.mpr ⟨rfl, List.forall_mem_cons.mpr ⟨rfl, List.forall_mem_cons.mpr ⟨rfl, List.forall_mem_cons.mpr ⟨rfl, fun _ h => absurd h List.not_mem_nil⟩⟩⟩⟩⟩⟩⟩) ?_
                          exact ih10565 (z10557 + 1) μ10618 T10620 (mF.up (mF.call mF.refl F10562 rfl) (A_182 hw) u10619 rfl) (rW (c := 0) (d := 22) (rAdd (e := 1) (f := 22) h10597 (rR (x := 1)) rfl) rfl) (vc_X12_least_25 (nS h10564) h10583 h10597)
                      refine mr_lvS (lv' := [(0, .ref 106), (1, iv p1), (2, iv z7038), (3, iv z9019), (4, iv z9676), (6, iv z10290), (7, iv 0)]) (List.forall_mem_cons.mpr ⟨rfl, List.forall_mem_cons.mpr ⟨rfl, List.forall_mem_cons.mpr ⟨rfl, List.forall_mem_cons.mpr ⟨rfl, List.forall_mem_cons.mpr ⟨rfl, List.forall_mem_cons.mpr ⟨rfl, List.forall_mem_cons.mpr ⟨rfl, fun _ h => absurd h List.not_mem_nil⟩⟩⟩⟩⟩⟩⟩) ?_
                      exact L10559 24 0 μ10291 T10295 mF.refl (rW (c := 0) (d := 22) (rR (x := 0)) rfl) vc_X12_least_28
                    have h10621 : 0 ≤ z10289 ∧ z10289 ≤ 21 := (vc_X12_least_29 h10323 h10294)
                    refine sv_aload_n dX12_least_114 rfl rfl ?_
                    refine mr_iload_n (z := p1) dX12_least_115 rfl rfl ?_
                    refine mr_iload (z := z9676) dX12_least_116 rfl ?_
                    refine mr_iload_n (z := z7038) dX12_least_118 rfl rfl ?_
                    refine mr_iconst (z := 1) dX12_least_119 ?_
                    refine mr_iadd (x := z7038) (y := 1) dX12_least_120 ?_
                    refine mr_iload (z := z10289) dX12_least_121 rfl ?_
                    refine mr_cVP (c_X12_costOf hw T10295 h12 h9678 (rW (c := (-2147483648)) (d := 2147483647) (rAdd (e := 1) (f := 32) h7492 (rR (x := 1)) rfl) rfl) h10621) (gOk _ _ _ _ _) dX12_least_123 (tX12_costOf _ _ _ _ _) ⟨wV_X12_costOf, wL_X12_costOf⟩ wM_X12_707 (gCX12 _ _ _ _ _) rfl (A_106 hw) rfl ⟨le_t rfl, le_t rfl⟩ ⟨le_t rfl, le_t rfl⟩ rfl (le_t rfl) fun z10626 h10625 => ?_
                    refine sv_aload_n dX12_least_126 rfl rfl ?_
                    refine mr_iload_n (z := p1) dX12_least_127 rfl rfl ?_
                    refine mr_iload (z := z9873) dX12_least_128 rfl ?_
                    refine mr_iload_n (z := z7038) dX12_least_130 rfl rfl ?_
                    refine mr_iconst (z := 1) dX12_least_131 ?_
                    refine mr_iadd (x := z7038) (y := 1) dX12_least_132 ?_
                    refine mr_iload (z := z10289) dX12_least_133 rfl ?_
                    refine mr_cVP (c_X12_costOf hw T10295 h12 h9875 (rW (c := (-2147483648)) (d := 2147483647) (rAdd (e := 1) (f := 32) h7492 (rR (x := 1)) rfl) rfl) h10621) (gOk _ _ _ _ _) dX12_least_135 (tX12_costOf _ _ _ _ _) ⟨wV_X12_costOf, wL_X12_costOf⟩ wM_X12_707 (gCX12 _ _ _ _ _) rfl (A_106 hw) rfl ⟨le_t rfl, le_t rfl⟩ ⟨le_t rfl, le_t rfl⟩ rfl (le_t rfl) fun z10631 h10630 => ?_
                    refine mr_iadd (x := z10626) (y := z10631) dX12_least_138 ?_
                    refine mr_wrap fun z10632 h10633 => ?_
                    refine mr_istore (lv' := [(8, iv z10632), (0, .ref 106), (1, iv p1), (2, iv z7038), (3, iv z9019), (4, iv z9676), (5, iv z9873), (6, iv z10290), (7, iv z10289)]) dX12_least_139 (by decide) rfl ?_
                    refine sv_aload_n dX12_least_141 rfl rfl ?_
                    refine gf_X12_115 dX12_least_142 wF_X12_508 (A_106 hw) T10295 ?_
                    refine mr_bipush (z := 22) dX12_least_145 (by decide) ?_
                    refine sv_aload_n dX12_least_147 rfl rfl ?_
                    refine gf_X12_116 dX12_least_148 wF_X12_698 (A_106 hw) T10295 fun z10634 q10635 h10636 => ?_
                    refine mr_imul (x := 22) (y := z10634) dX12_least_151 ?_
                    refine mr_iload (z := z10289) dX12_least_152 rfl ?_
                    refine mr_iadd (x := (22 * z10634)) (y := z10289) dX12_least_154 ?_
                    refine mr_iload (z := z10632) dX12_least_155 rfl ?_
                    refine ss_182 dX12_least_157 (A_182 hw) T10295 (vc_X12_least_30 h10323 h10621 h10636) h10633 fun μ10637 u10638 T10639 => ?_
                    refine mr_iload (z := z10290) dX12_least_158 rfl ?_
                    refine mr_ldc (z := (-99999999)) dX12_least_160 wG_X12_29 (by decide) ?_
                    refine mr_icmp_eq (tgt := 172) dX12_least_162 (by decide) h10293 (r32 (rR (x := (-99999999))) rfl) (fun h10643 => ?_) (fun h10643 => ?_)
                    · have h10644 : (-99999999) ≤ z10290 ∧ z10290 ≤ (-99999999) := (vc_X12_least_31 h10643 h10293)
                      refine mr_iload (z := z10632) dX12_least_172 rfl ?_
                      refine sv_goto (tgt := 179) dX12_least_174 (by decide) ?_
                      refine mr_istore (lv' := [(6, iv z10632), (8, iv z10632), (0, .ref 106), (1, iv p1), (2, iv z7038), (3, iv z9019), (4, iv z9676), (5, iv z9873), (7, iv z10289)]) dX12_least_179 (by decide) rfl ?_
                      refine mr_iinc (lv' := [(7, iv (z10289 + 1)), (6, iv z10632), (8, iv z10632), (0, .ref 106), (1, iv p1), (2, iv z7038), (3, iv z9019), (4, iv z9676), (5, iv z9873)]) dX12_least_181 rfl (by decide) rfl ?_
                      refine sv_goto (tgt := 107) dX12_least_184 (by decide) ?_
                      refine mr_lvS (lv' := [(0, .ref 106), (1, iv p1), (2, iv z7038), (3, iv z9019), (4, iv z9676), (5, iv z9873), (6, iv z10632), (7, iv (z10289 + 1))]) (List.forall_mem_cons.mpr ⟨rfl, List.forall_mem_cons.mpr ⟨rfl, List.forall_mem_cons.mpr ⟨rfl, List.forall_mem_cons.mpr ⟨rfl, List.forall_mem_cons.mpr ⟨rfl, List.forall_mem_cons.mpr ⟨rfl, List.forall_mem_cons.mpr ⟨rfl, List.forall_mem_cons.mpr ⟨rfl, fun _ h => absurd h List.not_mem_nil⟩⟩⟩⟩⟩⟩⟩⟩) ?_
                      exact ih10299 z10632 (z10289 + 1) μ10637 T10639 (mF.up (mF.call mF.refl F10296 rfl) (A_182 hw) u10638 rfl) h10633 (rW (c := 0) (d := 22) (rAdd (e := 1) (f := 22) h10621 (rR (x := 1)) rfl) rfl) (vc_X12_least_32 (nS h10298) h10323 h10621)
                    refine mr_iload (z := z10632) dX12_least_165 rfl ?_
                    refine mr_iload (z := z10290) dX12_least_167 rfl ?_
                    refine mr_icmp_ge (tgt := 177) dX12_least_169 (by decide) h10633 h10293 (fun h10647 => ?_) (fun h10647 => ?_)
                    · refine mr_iload (z := z10290) dX12_least_177 rfl ?_
                      refine mr_istore (lv' := [(6, iv z10290), (8, iv z10632), (0, .ref 106), (1, iv p1), (2, iv z7038), (3, iv z9019), (4, iv z9676), (5, iv z9873), (7, iv z10289)]) dX12_least_179 (by decide) rfl ?_
                      refine mr_iinc (lv' := [(7, iv (z10289 + 1)), (6, iv z10290), (8, iv z10632), (0, .ref 106), (1, iv p1), (2, iv z7038), (3, iv z9019), (4, iv z9676), (5, iv z9873)]) dX12_least_181 rfl (by decide) rfl ?_
                      refine sv_goto (tgt := 107) dX12_least_184 (by decide) ?_
                      refine mr_lvS (lv' := [(0, .ref 106), (1, iv p1), (2, iv z7038), (3, iv z9019), (4, iv z9676), (5, iv z9873), (6, iv z10290), (7, iv (z10289 + 1))]) (List.forall_mem_cons.mpr ⟨rfl, List.forall_mem_cons.mpr ⟨rfl, List.forall_mem_cons.mpr ⟨rfl, List.forall_mem_cons.mpr ⟨rfl, List.forall_mem_cons.mpr ⟨rfl, List.forall_mem_cons.mpr ⟨rfl, List.forall_mem_cons.mpr ⟨rfl, List.forall_mem_cons.mpr ⟨rfl, fun _ h => absurd h List.not_mem_nil⟩⟩⟩⟩⟩⟩⟩⟩) ?_
                      exact ih10299 z10290 (z10289 + 1) μ10637 T10639 (mF.up (mF.call mF.refl F10296 rfl) (A_182 hw) u10638 rfl) h10293 (rW (c := 0) (d := 22) (rAdd (e := 1) (f := 22) h10621 (rR (x := 1)) rfl) rfl) (vc_X12_least_32 (nS h10298) h10323 h10621)
                    have h10648 : (-2147483648) ≤ z10632 ∧ z10632 ≤ 2147483646 := (vc_X12_least_33 h10647 h10643 h10293 h10633)
                    have h10649 : (-2147483647) ≤ z10290 ∧ z10290 ≤ 2147483647 := (vc_X12_least_34 h10647 h10643 h10293 h10648)
                    refine mr_iload (z := z10632) dX12_least_172 rfl ?_
                    refine sv_goto (tgt := 179) dX12_least_174 (by decide) ?_
                    refine mr_istore (lv' := [(6, iv z10632), (8, iv z10632), (0, .ref 106), (1, iv p1), (2, iv z7038), (3, iv z9019), (4, iv z9676), (5, iv z9873), (7, iv z10289)]) dX12_least_179 (by decide) rfl ?_
                    refine mr_iinc (lv' := [(7, iv (z10289 + 1)), (6, iv z10632), (8, iv z10632), (0, .ref 106), (1, iv p1), (2, iv z7038), (3, iv z9019), (4, iv z9676), (5, iv z9873)]) dX12_least_181 rfl (by decide) rfl ?_
                    refine sv_goto (tgt := 107) dX12_least_184 (by decide) ?_
                    refine mr_lvS (lv' := [(0, .ref 106), (1, iv p1), (2, iv z7038), (3, iv z9019), (4, iv z9676), (5, iv z9873), (6, iv z10632), (7, iv (z10289 + 1))]) (List.forall_mem_cons.mpr ⟨rfl, List.forall_mem_cons.mpr ⟨rfl, List.forall_mem_cons.mpr ⟨rfl, List.forall_mem_cons.mpr ⟨rfl, List.forall_mem_cons.mpr ⟨rfl, List.forall_mem_cons.mpr ⟨rfl, List.forall_mem_cons.mpr ⟨rfl, List.forall_mem_cons.mpr ⟨rfl, fun _ h => absurd h List.not_mem_nil⟩⟩⟩⟩⟩⟩⟩⟩) ?_
                    exact ih10299 z10632 (z10289 + 1) μ10637 T10639 (mF.up (mF.call mF.refl F10296 rfl) (A_182 hw) u10638 rfl) (rW (c := (-2147483648)) (d := 2147483647) h10648 rfl) (rW (c := 0) (d := 22) (rAdd (e := 1) (f := 22) h10621 (rR (x := 1)) rfl) rfl) (vc_X12_least_32 (nS h10298) h10323 h10621)
                refine mr_lvS (lv' := [(0, .ref 106), (1, iv p1), (2, iv z7038), (3, iv z9019), (4, iv z9676), (5, iv z9873), (6, iv (-99999999)), (7, iv 0)]) (List.forall_mem_cons.mpr ⟨rfl, List.forall_mem_cons.mpr ⟨rfl, List.forall_mem_cons.mpr ⟨rfl, List.forall_mem_cons.mpr ⟨rfl, List.forall_mem_cons.mpr ⟨rfl, List.forall_mem_cons.mpr ⟨rfl, List.forall_mem_cons.mpr ⟨rfl, List.forall_mem_cons.mpr ⟨rfl, fun _ h => absurd h List.not_mem_nil⟩⟩⟩⟩⟩⟩⟩⟩) ?_
                exact L10292 24 (-99999999) 0 μ9020 T9023 mF.refl (rW (c := (-2147483648)) (d := 2147483647) (rR (x := (-99999999))) rfl) (rW (c := 0) (d := 22) (rR (x := 0)) rfl) vc_X12_least_28
              have h10650 : 0 ≤ z9683 ∧ z9683 ≤ 399 := (vc_X12_least_35 h9868 h9682.2.1 h9682.1)
              refine sv_goto (tgt := 275) dX12_least_86 (by decide) ?_
              refine mr_iinc (lv' := [(3, iv (z9019 + 1)), (4, iv z9676), (0, .ref 106), (1, iv p1), (2, iv z7038)]) dX12_least_275 rfl (by decide) rfl ?_
              refine sv_goto (tgt := 24) dX12_least_278 (by decide) ?_
              refine mr_lvS (lv' := [(0, .ref 106), (1, iv p1), (2, iv z7038), (3, iv (z9019 + 1))]) (List.forall_mem_cons.mpr ⟨rfl, List.forall_mem_cons.mpr ⟨rfl, List.forall_mem_cons.mpr ⟨rfl, List.forall_mem_cons.mpr ⟨rfl, fun _ h => absurd h List.not_mem_nil⟩⟩⟩⟩) ?_
              exact ih9027 (z9019 + 1) μ9020 T9023 (mF.call mF.refl F9024 rfl) (rW (c := 0) (d := 10) (rAdd (e := 1) (f := 10) h9245 (rR (x := 1)) rfl) rfl) (vc_X12_least_13 (nS h9026) h9244 h9245 h9246)
            have h10651 : 0 ≤ z9461 ∧ z9461 ≤ 31 := (vc_X12_least_36 h9666 h7485 h7492 h9463)
            refine sv_goto (tgt := 275) dX12_least_58 (by decide) ?_
            refine mr_iinc (lv' := [(3, iv (z9019 + 1)), (0, .ref 106), (1, iv p1), (2, iv z7038)]) dX12_least_275 rfl (by decide) rfl ?_
            refine sv_goto (tgt := 24) dX12_least_278 (by decide) ?_
            refine mr_lvS (lv' := [(0, .ref 106), (1, iv p1), (2, iv z7038), (3, iv (z9019 + 1))]) (List.forall_mem_cons.mpr ⟨rfl, List.forall_mem_cons.mpr ⟨rfl, List.forall_mem_cons.mpr ⟨rfl, List.forall_mem_cons.mpr ⟨rfl, fun _ h => absurd h List.not_mem_nil⟩⟩⟩⟩) ?_
            exact ih9027 (z9019 + 1) μ9020 T9023 (mF.call mF.refl F9024 rfl) (rW (c := 0) (d := 10) (rAdd (e := 1) (f := 10) h9245 (rR (x := 1)) rfl) rfl) (vc_X12_least_13 (nS h9026) h9244 h9245 h9246)
        refine mr_lvS (lv' := [(0, .ref 106), (1, iv p1), (2, iv z7038), (3, iv 0)]) (List.forall_mem_cons.mpr ⟨rfl, List.forall_mem_cons.mpr ⟨rfl, List.forall_mem_cons.mpr ⟨rfl, List.forall_mem_cons.mpr ⟨rfl, fun _ h => absurd h List.not_mem_nil⟩⟩⟩⟩) ?_
        exact L9021 12 0 μ7039 T7042 mF.refl (rW (c := 0) (d := 10) (rR (x := 0)) rfl) vc_X12_least_37
    refine mr_lvS (lv' := [(0, .ref 106), (1, iv p1), (2, iv 31)]) (List.forall_mem_cons.mpr ⟨rfl, List.forall_mem_cons.mpr ⟨rfl, List.forall_mem_cons.mpr ⟨rfl, fun _ h => absurd h List.not_mem_nil⟩⟩⟩) ?_
    exact L7040 34 31 μ13 T15 mF.refl (rW (c := (-1)) (d := 31) (rR (x := 31)) rfl) vc_X12_least_38
  have h10652 : 0 ≤ z8 ∧ z8 ≤ 0 := (vc_X12_least_39 h9 h7.2.1 h7.2.2.1 hp1 h3 h7.1)
  have h10653 : p1 < 0 ∨ z1 ≤ p1 := (h7.2.2.1 (vc_X12_least_40 h7.2.1 h7.2.2.1 h9 hp1 h3 h10652))
  refine mr_iconst (z := (-1)) dX12_least_8 ?_
  exact mr_iret dX12_least_9 rfl (le_t rfl) (le_t rfl) hT mF.refl ⟨(rW (c := (-2147483648)) (d := 2147483647) (rR (x := (-1))) rfl), trivial⟩
theorem vc_X12_clear_1 {z87 : Int} (h0 : (8 - z87) < ((0 : Nat) : Int)) (h1 : 1 ≤ z87 ∧ z87 ≤ 7) : False := by omega
theorem vc_X12_clear_2 {z87 : Int} (h0 : 6 < z87) (h1 : 1 ≤ z87 ∧ z87 ≤ 7) : 7 ≤ z87 ∧ z87 ≤ 7 := by omega
theorem vc_X12_clear_3 {z87 : Int} (h0 : z87 ≤ 6) (h1 : 1 ≤ z87 ∧ z87 ≤ 7) : 1 ≤ z87 ∧ z87 ≤ 6 := by omega
theorem vc_X12_clear_4 {N z87 : Int} (h0 : (8 - z87) < N + 1) (h1 : z87 ≤ 6) (h2 : 1 ≤ z87 ∧ z87 ≤ 6) : (8 - (z87 + 1)) < N := by omega
theorem vc_X12_clear_5  : (8 - 1) < ((8 : Nat) : Int) := by omega
set_option maxRecDepth 4000 in
set_option maxHeartbeats 4000000 in
theorem c_X12_clear {l : Launch} {D : va_G} {c : Nat → ClassId} {H0 : Heap} {sa : Nat × Nat × (Nat → Int32)} {w : mW} {μ : mM} (hw : mWF w) (hT : mT w μ) : sC (gG l D c H0 sa) mX12_clear 1 0 0 [.ref 106] (mk w μ) (qI w [184999] μ (fun z μ1 => ((-2147483648) ≤ z ∧ z ≤ 2147483647) ∧ True)) := by
  refine sC.of rfl (by decide) (le_t rfl) ?_
  refine mr_lvE (lv' := [(0, .ref 106)]) rfl ?_
  refine mr_iconst (z := 0) dX12_clear_0 ?_
  refine mr_istore_n (lv' := [(1, iv 0), (0, .ref 106)]) dX12_clear_1 rfl (by decide) rfl ?_
  refine mr_iconst (z := 1) dX12_clear_2 ?_
  refine mr_istore_n (lv' := [(2, iv 1), (1, iv 0), (0, .ref 106)]) dX12_clear_3 rfl (by decide) rfl ?_
  have L90 : ∀ (nL90 : Nat) (z88 z87 : Int) (μ89 : mM), mT w μ89 → mF [184999] w μ μ89 → ((-2147483648) ≤ z88 ∧ z88 ≤ 2147483647) → (1 ≤ z87 ∧ z87 ≤ 7) → (8 - z87) < (nL90 : Int) → sV (gG l D c H0 sa) mX12_clear (sRm 1 0 0) (sZ (gG l D c H0 sa) 0 0 (qI w [184999] μ (fun z μ1 => ((-2147483648) ≤ z ∧ z ≤ 2147483647) ∧ True))) 4 [(0, .ref 106), (1, iv z88), (2, iv z87)] [] (mk w μ89) 0 0 := by
    intro nL90
    induction nL90 with
    | zero => intro z88 z87 μ89 T93 F94 h91 h92 h96; exact ((vc_X12_clear_1 h96 h92)).elim
    | succ nL90 ih97 =>
      intro z88 z87 μ89 T93 F94 h91 h92 h96
      refine mr_iload_n (z := z87) dX12_clear_4 rfl rfl ?_
      refine mr_bipush (z := 6) dX12_clear_5 (by decide) ?_
      refine mr_icmp_gt (tgt := 32) dX12_clear_7 (by decide) (r32 h92 rfl) (r32 (rR (x := 6)) rfl) (fun h108 => ?_) (fun h108 => ?_)
      · have h109 : 7 ≤ z87 ∧ z87 ≤ 7 := (vc_X12_clear_2 h108 h92)
        refine mr_iload_n (z := z88) dX12_clear_32 rfl rfl ?_
        exact mr_iret dX12_clear_33 rfl (le_t rfl) (le_t rfl) T93 (mF.call mF.refl F94 rfl) ⟨h91, trivial⟩
      have h110 : 1 ≤ z87 ∧ z87 ≤ 6 := (vc_X12_clear_3 h108 h92)
      refine mr_iload_n (z := z88) dX12_clear_10 rfl rfl ?_
      refine sv_aload_n dX12_clear_11 rfl rfl ?_
      refine gf_X12_118 dX12_clear_12 wF_X12_514 (A_106 hw) T93 ?_
      refine mr_iload_n (z := z87) dX12_clear_15 rfl rfl ?_
      refine la_184 dX12_clear_16 (A_184 hw) T93 (rIx (n := 7) h110 rfl) fun z111 q112 h113 => ?_
      refine mr_iadd (x := z88) (y := z111) dX12_clear_17 ?_
      refine mr_wrap fun z114 h115 => ?_
      refine mr_istore_n (lv' := [(1, iv z114), (0, .ref 106), (2, iv z87)]) dX12_clear_18 rfl (by decide) rfl ?_
      refine sv_aload_n dX12_clear_19 rfl rfl ?_
      refine gf_X12_118 dX12_clear_20 wF_X12_514 (A_106 hw) T93 ?_
      refine mr_iload_n (z := z87) dX12_clear_23 rfl rfl ?_
      refine mr_iconst (z := 0) dX12_clear_24 ?_
      refine ss_184 dX12_clear_25 (A_184 hw) T93 (rIx (n := 7) h110 rfl) (rW (c := 0) (d := 5) (rR (x := 0)) rfl) fun μ116 u117 T118 => ?_
      refine mr_iinc (lv' := [(2, iv (z87 + 1)), (1, iv z114), (0, .ref 106)]) dX12_clear_26 rfl (by decide) rfl ?_
      refine sv_goto (tgt := 4) dX12_clear_29 (by decide) ?_
      refine mr_lvS (lv' := [(0, .ref 106), (1, iv z114), (2, iv (z87 + 1))]) (List.forall_mem_cons.mpr ⟨rfl, List.forall_mem_cons.mpr ⟨rfl, List.forall_mem_cons.mpr ⟨rfl, fun _ h => absurd h List.not_mem_nil⟩⟩⟩) ?_
      exact ih97 z114 (z87 + 1) μ116 T118 (mF.up (mF.call mF.refl F94 rfl) (A_184 hw) u117 rfl) h115 (rW (c := 1) (d := 7) (rAdd (e := 2) (f := 7) h110 (rR (x := 1)) rfl) rfl) (vc_X12_clear_4 (nS h96) h108 h110)
  refine mr_lvS (lv' := [(0, .ref 106), (1, iv 0), (2, iv 1)]) (List.forall_mem_cons.mpr ⟨rfl, List.forall_mem_cons.mpr ⟨rfl, List.forall_mem_cons.mpr ⟨rfl, fun _ h => absurd h List.not_mem_nil⟩⟩⟩) ?_
  exact L90 8 0 1 μ hT mF.refl (rW (c := (-2147483648)) (d := 2147483647) (rR (x := 0)) rfl) (rW (c := 1) (d := 7) (rR (x := 1)) rfl) vc_X12_clear_5
theorem vc_X12_isWished_1 {z180 : Int} (h0 : (21 - z180) < ((0 : Nat) : Int)) (h1 : 0 ≤ z180 ∧ z180 ≤ 20) : False := by omega
theorem vc_X12_isWished_2 {z180 z4 : Int} (h0 : z180 < z4) (h1 : 0 ≤ z180 ∧ z180 ≤ 20) (h2 : 0 ≤ z4 ∧ z4 ≤ 20) : 0 ≤ z180 ∧ z180 ≤ 19 := by omega
theorem vc_X12_isWished_3 {z180 z4 : Int} (h0 : z180 < z4) (h1 : 0 ≤ z180 ∧ z180 ≤ 19) (h2 : 0 ≤ z4 ∧ z4 ≤ 20) : 1 ≤ z4 ∧ z4 ≤ 20 := by omega
theorem vc_X12_isWished_4 {z181 : Int} (h0 : z181 = 0) (h1 : 0 ≤ z181 ∧ z181 ≤ 1) : 0 ≤ z181 ∧ z181 ≤ 0 := by omega
theorem vc_X12_isWished_5 {z181 : Int} (h0 : ¬ z181 = 0) (h1 : 0 ≤ z181 ∧ z181 ≤ 1) : 1 ≤ z181 ∧ z181 ≤ 1 := by omega
theorem vc_X12_isWished_6 {p1 p2 z180 z4 : Int} (h0 : z180 < z4) (h1 : 0 ≤ p1 ∧ p1 ≤ 6) (h2 : 0 ≤ p2 ∧ p2 ≤ 4) (h3 : 0 ≤ z180 ∧ z180 ≤ 19) (h4 : 1 ≤ z4 ∧ z4 ≤ 20) : 0 ≤ ((8 * ((5 * p1) + p2)) + z180) ∧ ((8 * ((5 * p1) + p2)) + z180) < 280 := by omega
theorem vc_X12_isWished_7 {N z180 z4 : Int} (h0 : (21 - z180) < N + 1) (h1 : z180 < z4) (h2 : 0 ≤ z180 ∧ z180 ≤ 19) (h3 : 1 ≤ z4 ∧ z4 ≤ 20) : (21 - (z180 + 1)) < N := by omega
theorem vc_X12_isWished_8 {z216 z219 : Int} (h0 : z216 = z219) (h1 : 0 ≤ z216 ∧ z216 ≤ 6) (h2 : 0 ≤ z219 ∧ z219 ≤ 9) : 0 ≤ z219 ∧ z219 ≤ 6 := by omega
theorem vc_X12_isWished_9  : (21 - 0) < ((22 : Nat) : Int) := by omega
theorem vc_X12_isWished_10 {z1 z4 : Int} (h0 : z1 = z4) (h1 : 0 ≤ z1 ∧ z1 ≤ 7) (h2 : 0 ≤ z4 ∧ z4 ≤ 20) : 0 ≤ z4 ∧ z4 ≤ 7 := by omega
set_option maxRecDepth 4000 in
set_option maxHeartbeats 4000000 in
theorem c_X12_isWished {l : Launch} {D : va_G} {c : Nat → ClassId} {H0 : Heap} {sa : Nat × Nat × (Nat → Int32)} {w : mW} {μ : mM} (hw : mWF w) (hT : mT w μ) {p1 : Int} (hp1 : 0 ≤ p1 ∧ p1 ≤ 6) {p2 : Int} (hp2 : 0 ≤ p2 ∧ p2 ≤ 4) : sC (gG l D c H0 sa) mX12_isWished 1 0 0 [.ref 106, iv p1, iv p2] (mk w μ) (qP w μ (fun z => (0 ≤ z ∧ z ≤ 1) ∧ True)) := by
  refine sC.of rfl (by decide) (le_t rfl) ?_
  refine mr_lvE (lv' := [(0, .ref 106), (1, iv p1), (2, iv p2)]) rfl ?_
  refine sv_aload_n dX12_isWished_0 rfl rfl ?_
  refine gf_X12_119 dX12_isWished_1 wF_X12_517 (A_106 hw) hT ?_
  refine mr_iconst (z := 5) dX12_isWished_4 ?_
  refine mr_iload_n (z := p1) dX12_isWished_5 rfl rfl ?_
  refine mr_imul (x := 5) (y := p1) dX12_isWished_6 ?_
  refine mr_iload_n (z := p2) dX12_isWished_7 rfl rfl ?_
  refine mr_iadd (x := (5 * p1)) (y := p2) dX12_isWished_8 ?_
  refine la_185 dX12_isWished_9 (A_185 hw) hT (rIx (n := 35) (rAdd (e := 0) (f := 34) (rMulL (n := 5) (e := 0) (f := 30) hp1 rfl) hp2 rfl) rfl) fun z1 q2 h3 => ?_
  refine sv_aload_n dX12_isWished_10 rfl rfl ?_
  refine gf_X12_15 dX12_isWished_11 wF_X12_79 (A_106 hw) hT fun z4 q5 h6 => ?_
  have J10 : ∀ (z8 : Int), (0 ≤ z8 ∧ z8 ≤ 1) → sV (gG l D c H0 sa) mX12_isWished (sRm 1 0 0) (sZ (gG l D c H0 sa) 0 0 (qP w μ (fun z => (0 ≤ z ∧ z ≤ 1) ∧ True))) 22 [(0, .ref 106), (1, iv p1), (2, iv p2)] [iv z8] (mk w μ) 0 0 := by
    intro z8 h9
    refine mr_istore_n (lv' := [(3, iv z8), (0, .ref 106), (1, iv p1), (2, iv p2)]) dX12_isWished_22 rfl (by decide) rfl ?_
    refine mr_iconst (z := 0) dX12_isWished_23 ?_
    refine mr_istore (lv' := [(4, iv 0), (3, iv z8), (0, .ref 106), (1, iv p1), (2, iv p2)]) dX12_isWished_24 (by decide) rfl ?_
    have L182 : ∀ (nL182 : Nat) (z181 z180 : Int), True → (0 ≤ z181 ∧ z181 ≤ 1) → (0 ≤ z180 ∧ z180 ≤ 20) → (21 - z180) < (nL182 : Int) → sV (gG l D c H0 sa) mX12_isWished (sRm 1 0 0) (sZ (gG l D c H0 sa) 0 0 (qP w μ (fun z => (0 ≤ z ∧ z ≤ 1) ∧ True))) 26 [(0, .ref 106), (1, iv p1), (2, iv p2), (3, iv z181), (4, iv z180)] [] (mk w μ) 0 0 := by
      intro nL182
      induction nL182 with
      | zero => intro z181 z180 _ h183 h184 h188; exact ((vc_X12_isWished_1 h188 h184)).elim
      | succ nL182 ih189 =>
        intro z181 z180 _ h183 h184 h188
        refine mr_iload (z := z180) dX12_isWished_26 rfl ?_
        refine sv_aload_n dX12_isWished_28 rfl rfl ?_
        refine gk_X12_15 dX12_isWished_29 wF_X12_79 (A_106 hw) q5 ?_
        refine mr_icmp_ge (tgt := 77) dX12_isWished_32 (by decide) (r32 h184 rfl) (r32 h6 rfl) (fun h201 => ?_) (fun h201 => ?_)
        · refine mr_iload_n (z := z181) dX12_isWished_77 rfl rfl ?_
          exact mr_zretP dX12_isWished_78 rfl h183 (le_t rfl) (le_t rfl) ⟨h183, trivial⟩
        have h202 : 0 ≤ z180 ∧ z180 ≤ 19 := (vc_X12_isWished_2 h201 h184 h6)
        have h203 : 1 ≤ z4 ∧ z4 ≤ 20 := (vc_X12_isWished_3 h201 h202 h6)
        refine mr_iload_n (z := z181) dX12_isWished_35 rfl rfl ?_
        refine mr_if_eq (tgt := 77) dX12_isWished_36 (by decide) (r32 h183 rfl) (fun h213 => ?_) (fun h213 => ?_)
        · have h214 : 0 ≤ z181 ∧ z181 ≤ 0 := (vc_X12_isWished_4 h213 h183)
          refine mr_iload_n (z := z181) dX12_isWished_77 rfl rfl ?_
          exact mr_zretP dX12_isWished_78 rfl (rW (c := 0) (d := 1) h214 rfl) (le_t rfl) (le_t rfl) ⟨(rW (c := 0) (d := 1) h214 rfl), trivial⟩
        have h215 : 1 ≤ z181 ∧ z181 ≤ 1 := (vc_X12_isWished_5 h213 h183)
        refine sv_aload_n dX12_isWished_39 rfl rfl ?_
        refine gf_X12_120 dX12_isWished_40 wF_X12_520 (A_106 hw) hT ?_
        refine mr_bipush (z := 8) dX12_isWished_43 (by decide) ?_
        refine mr_iconst (z := 5) dX12_isWished_45 ?_
        refine mr_iload_n (z := p1) dX12_isWished_46 rfl rfl ?_
        refine mr_imul (x := 5) (y := p1) dX12_isWished_47 ?_
        refine mr_iload_n (z := p2) dX12_isWished_48 rfl rfl ?_
        refine mr_iadd (x := (5 * p1)) (y := p2) dX12_isWished_49 ?_
        refine mr_imul (x := 8) (y := ((5 * p1) + p2)) dX12_isWished_50 ?_
        refine mr_iload (z := z180) dX12_isWished_51 rfl ?_
        refine mr_iadd (x := (8 * ((5 * p1) + p2))) (y := z180) dX12_isWished_53 ?_
        refine la_186 dX12_isWished_54 (A_186 hw) hT (vc_X12_isWished_6 h201 hp1 hp2 h202 h203) fun z216 q217 h218 => ?_
        refine sv_aload_n dX12_isWished_55 rfl rfl ?_
        refine gf_X12_16 dX12_isWished_56 wF_X12_82 (A_106 hw) hT ?_
        refine mr_iload (z := z180) dX12_isWished_59 rfl ?_
        refine la_118 dX12_isWished_61 (A_118 hw) hT (rIx (n := 20) h202 rfl) fun z219 q220 h221 => ?_
        refine mr_icmp_ne (tgt := 69) dX12_isWished_62 (by decide) (r32 h218 rfl) (r32 h221 rfl) (fun h223 => ?_) (fun h223 => ?_)
        · refine mr_iconst (z := 0) dX12_isWished_69 ?_
          refine mr_istore_n (lv' := [(3, iv 0), (0, .ref 106), (1, iv p1), (2, iv p2), (4, iv z180)]) dX12_isWished_70 rfl (by decide) rfl ?_
          refine mr_iinc (lv' := [(4, iv (z180 + 1)), (3, iv 0), (0, .ref 106), (1, iv p1), (2, iv p2)]) dX12_isWished_71 rfl (by decide) rfl ?_
          refine sv_goto (tgt := 26) dX12_isWished_74 (by decide) ?_
          refine mr_lvS (lv' := [(0, .ref 106), (1, iv p1), (2, iv p2), (3, iv 0), (4, iv (z180 + 1))]) (List.forall_mem_cons.mpr ⟨rfl, List.forall_mem_cons.mpr ⟨rfl, List.forall_mem_cons.mpr ⟨rfl, List.forall_mem_cons.mpr ⟨rfl, List.forall_mem_cons.mpr ⟨rfl, fun _ h => absurd h List.not_mem_nil⟩⟩⟩⟩⟩) ?_
          exact ih189 0 (z180 + 1) trivial (rW (c := 0) (d := 1) (rR (x := 0)) rfl) (rW (c := 0) (d := 20) (rAdd (e := 1) (f := 20) h202 (rR (x := 1)) rfl) rfl) (vc_X12_isWished_7 (nS h188) h201 h202 h203)
        have h224 : 0 ≤ z219 ∧ z219 ≤ 6 := (vc_X12_isWished_8 h223 h218 h221)
        refine mr_iconst (z := 1) dX12_isWished_65 ?_
        refine sv_goto (tgt := 70) dX12_isWished_66 (by decide) ?_
        refine mr_istore_n (lv' := [(3, iv 1), (0, .ref 106), (1, iv p1), (2, iv p2), (4, iv z180)]) dX12_isWished_70 rfl (by decide) rfl ?_
        refine mr_iinc (lv' := [(4, iv (z180 + 1)), (3, iv 1), (0, .ref 106), (1, iv p1), (2, iv p2)]) dX12_isWished_71 rfl (by decide) rfl ?_
        refine sv_goto (tgt := 26) dX12_isWished_74 (by decide) ?_
        refine mr_lvS (lv' := [(0, .ref 106), (1, iv p1), (2, iv p2), (3, iv 1), (4, iv (z180 + 1))]) (List.forall_mem_cons.mpr ⟨rfl, List.forall_mem_cons.mpr ⟨rfl, List.forall_mem_cons.mpr ⟨rfl, List.forall_mem_cons.mpr ⟨rfl, List.forall_mem_cons.mpr ⟨rfl, fun _ h => absurd h List.not_mem_nil⟩⟩⟩⟩⟩) ?_
        exact ih189 1 (z180 + 1) trivial (rW (c := 0) (d := 1) (rR (x := 1)) rfl) (rW (c := 0) (d := 20) (rAdd (e := 1) (f := 20) h202 (rR (x := 1)) rfl) rfl) (vc_X12_isWished_7 (nS h188) h201 h202 h203)
    refine mr_lvS (lv' := [(0, .ref 106), (1, iv p1), (2, iv p2), (3, iv z8), (4, iv 0)]) (List.forall_mem_cons.mpr ⟨rfl, List.forall_mem_cons.mpr ⟨rfl, List.forall_mem_cons.mpr ⟨rfl, List.forall_mem_cons.mpr ⟨rfl, List.forall_mem_cons.mpr ⟨rfl, fun _ h => absurd h List.not_mem_nil⟩⟩⟩⟩⟩) ?_
    exact L182 22 z8 0 trivial h9 (rW (c := 0) (d := 20) (rR (x := 0)) rfl) vc_X12_isWished_9
  refine mr_icmp_ne (tgt := 21) dX12_isWished_14 (by decide) (r32 h3 rfl) (r32 h6 rfl) (fun h225 => ?_) (fun h225 => ?_)
  · refine mr_iconst (z := 0) dX12_isWished_21 ?_
    exact J10 0 (rW (c := 0) (d := 1) (rR (x := 0)) rfl)
  have h226 : 0 ≤ z4 ∧ z4 ≤ 7 := (vc_X12_isWished_10 h225 h3 h6)
  refine mr_iconst (z := 1) dX12_isWished_17 ?_
  refine sv_goto (tgt := 22) dX12_isWished_18 (by decide) ?_
  exact J10 1 (rW (c := 0) (d := 1) (rR (x := 1)) rfl)
theorem vc_X12_wish_1 {z1851 : Int} (h0 : (21 - z1851) < ((0 : Nat) : Int)) (h1 : 0 ≤ z1851 ∧ z1851 ≤ 20) : False := by omega
theorem vc_X12_wish_2 {z1852 : Int} (h0 : ¬ z1852 = 0) (h1 : 0 ≤ z1852 ∧ z1852 ≤ 1) : 1 ≤ z1852 ∧ z1852 ≤ 1 := by omega
theorem vc_X12_wish_3 {z2194 : Int} (h0 : (6 - z2194) < ((0 : Nat) : Int)) (h1 : 0 ≤ z2194 ∧ z2194 ≤ 5) : False := by omega
theorem vc_X12_wish_4 {z1893 : Int} (h0 : 0 ≤ z1893 ∧ z1893 ≤ 9) : 0 ≤ z1893 ∧ z1893 < 7 := by omega
theorem vc_X12_wish_5 {z2194 z2202 : Int} (h0 : ¬ z2202 = 5) (h1 : z2202 ≤ z2194) (h2 : 0 ≤ z2194 ∧ z2194 ≤ 5) (h3 : 0 ≤ z2202 ∧ z2202 ≤ 5) : 0 ≤ z2202 ∧ z2202 ≤ 4 := by omega
theorem vc_X12_wish_6 {z1893 z2194 z2202 : Int} (h0 : z2202 ≤ z2194) (h1 : ¬ z2202 = 5) (h2 : 0 ≤ z1893 ∧ z1893 ≤ 9) (h3 : 0 ≤ z2194 ∧ z2194 ≤ 5) (h4 : 0 ≤ z2202 ∧ z2202 ≤ 4) : 0 ≤ ((5 * z1893) + z2202) ∧ ((5 * z1893) + z2202) < 35 := by omega
theorem vc_X12_wish_7 {z1 : Int} (h0 : 0 ≤ z1 ∧ z1 ≤ 20) : 0 ≤ z1 ∧ z1 ≤ 7 := by omega
theorem vc_X12_wish_8 {z2393 : Int} (h0 : (21 - z2393) < ((0 : Nat) : Int)) (h1 : 0 ≤ z2393 ∧ z2393 ≤ 20) : False := by omega
theorem vc_X12_wish_9 {z1 z2393 : Int} (h0 : z2393 < z1) (h1 : 0 ≤ z1 ∧ z1 ≤ 20) (h2 : 0 ≤ z2393 ∧ z2393 ≤ 20) : 0 ≤ z2393 ∧ z2393 ≤ 19 := by omega
theorem vc_X12_wish_10 {z1 z2393 : Int} (h0 : z2393 < z1) (h1 : 0 ≤ z1 ∧ z1 ≤ 20) (h2 : 0 ≤ z2393 ∧ z2393 ≤ 19) : 1 ≤ z1 ∧ z1 ≤ 20 := by omega
theorem vc_X12_wish_11 {z1 z1893 z2194 z2202 z2393 : Int} (h0 : z2202 ≤ z2194) (h1 : ¬ z2202 = 5) (h2 : z2393 < z1) (h3 : 1 ≤ z1 ∧ z1 ≤ 20) (h4 : 0 ≤ z1893 ∧ z1893 ≤ 9) (h5 : 0 ≤ z2194 ∧ z2194 ≤ 5) (h6 : 0 ≤ z2202 ∧ z2202 ≤ 4) (h7 : 0 ≤ z2393 ∧ z2393 ≤ 19) : 0 ≤ ((8 * ((5 * z1893) + z2202)) + z2393) ∧ ((8 * ((5 * z1893) + z2202)) + z2393) < 280 := by omega
theorem vc_X12_wish_12 {z2416 : Int} (h0 : 0 ≤ z2416 ∧ z2416 ≤ 9) : 0 ≤ z2416 ∧ z2416 ≤ 6 := by omega
theorem vc_X12_wish_13 {N z1 z2393 : Int} (h0 : (21 - z2393) < N + 1) (h1 : z2393 < z1) (h2 : 1 ≤ z1 ∧ z1 ≤ 20) (h3 : 0 ≤ z2393 ∧ z2393 ≤ 19) : (21 - (z2393 + 1)) < N := by omega
theorem vc_X12_wish_14  : (21 - 0) < ((22 : Nat) : Int) := by omega
theorem vc_X12_wish_15 {z2194 z2202 : Int} (h0 : z2202 = 5) (h1 : z2202 ≤ z2194) (h2 : 0 ≤ z2194 ∧ z2194 ≤ 5) (h3 : 0 ≤ z2202 ∧ z2202 ≤ 5) : 5 ≤ z2202 ∧ z2202 ≤ 5 := by omega
theorem vc_X12_wish_16 {z2194 z2202 : Int} (h0 : z2194 < z2202) (h1 : 0 ≤ z2194 ∧ z2194 ≤ 5) (h2 : 0 ≤ z2202 ∧ z2202 ≤ 5) : 0 ≤ z2194 ∧ z2194 ≤ 4 := by omega
theorem vc_X12_wish_17 {z2194 z2202 : Int} (h0 : z2194 < z2202) (h1 : 0 ≤ z2194 ∧ z2194 ≤ 4) (h2 : 0 ≤ z2202 ∧ z2202 ≤ 5) : 1 ≤ z2202 ∧ z2202 ≤ 5 := by omega
theorem vc_X12_wish_18 {z1893 : Int} (h0 : 0 ≤ z1893 ∧ z1893 ≤ 9) : 0 ≤ z1893 ∧ z1893 ≤ 6 := by omega
theorem vc_X12_wish_19 {z2429 : Int} (h0 : z2429 = 0) (h1 : 0 ≤ z2429 ∧ z2429 ≤ 1) : 0 ≤ z2429 ∧ z2429 ≤ 0 := by omega
theorem vc_X12_wish_20 {N z2194 z2202 : Int} (h0 : (6 - z2194) < N + 1) (h1 : z2194 < z2202) (h2 : 0 ≤ z2194 ∧ z2194 ≤ 4) (h3 : 1 ≤ z2202 ∧ z2202 ≤ 5) : (6 - (z2194 + 1)) < N := by omega
theorem vc_X12_wish_21 {z2429 : Int} (h0 : ¬ z2429 = 0) (h1 : 0 ≤ z2429 ∧ z2429 ≤ 1) : 1 ≤ z2429 ∧ z2429 ≤ 1 := by omega
theorem vc_X12_wish_22  : (6 - 0) < ((7 : Nat) : Int) := by omega
theorem vc_X12_wish_23 {z1852 : Int} (h0 : z1852 = 0) (h1 : 0 ≤ z1852 ∧ z1852 ≤ 1) : 0 ≤ z1852 ∧ z1852 ≤ 0 := by omega
theorem vc_X12_wish_24 {z1 z1851 : Int} (h0 : z1851 < z1) (h1 : 0 ≤ z1 ∧ z1 ≤ 20) (h2 : 0 ≤ z1851 ∧ z1851 ≤ 20) : 0 ≤ z1851 ∧ z1851 ≤ 19 := by omega
theorem vc_X12_wish_25 {z1 z1851 : Int} (h0 : z1851 < z1) (h1 : 0 ≤ z1 ∧ z1 ≤ 20) (h2 : 0 ≤ z1851 ∧ z1851 ≤ 19) : 1 ≤ z1 ∧ z1 ≤ 20 := by omega
theorem vc_X12_wish_26 {z2565 : Int} (h0 : (20 - z2565) < ((0 : Nat) : Int)) (h1 : 0 ≤ z2565 ∧ z2565 ≤ 19) : False := by omega
theorem vc_X12_wish_27 {N z1 z1851 z2565 : Int} (h0 : (21 - z1851) < N + 1) (h1 : z1851 < z1) (h2 : z1851 ≤ z2565) (h3 : 1 ≤ z1 ∧ z1 ≤ 20) (h4 : 0 ≤ z1851 ∧ z1851 ≤ 19) (h5 : 0 ≤ z2565 ∧ z2565 ≤ 19) : (21 - (z1851 + 1)) < N := by omega
theorem vc_X12_wish_28 {z1 z1851 z2565 : Int} (h0 : z2565 < z1851) (h1 : z1851 < z1) (h2 : 1 ≤ z1 ∧ z1 ≤ 20) (h3 : 0 ≤ z1851 ∧ z1851 ≤ 19) (h4 : 0 ≤ z2565 ∧ z2565 ≤ 19) : 0 ≤ z2565 ∧ z2565 ≤ 18 := by omega
theorem vc_X12_wish_29 {z1 z1851 z2565 : Int} (h0 : z2565 < z1851) (h1 : z1851 < z1) (h2 : 1 ≤ z1 ∧ z1 ≤ 20) (h3 : 0 ≤ z1851 ∧ z1851 ≤ 19) (h4 : 0 ≤ z2565 ∧ z2565 ≤ 18) : 1 ≤ z1851 ∧ z1851 ≤ 19 := by omega
theorem vc_X12_wish_30 {z2566 : Int} (h0 : z2566 = 0) (h1 : 0 ≤ z2566 ∧ z2566 ≤ 1) : 0 ≤ z2566 ∧ z2566 ≤ 0 := by omega
theorem vc_X12_wish_31 {N z1 z1851 z2565 : Int} (h0 : (20 - z2565) < N + 1) (h1 : z2565 < z1851) (h2 : z1851 < z1) (h3 : 1 ≤ z1 ∧ z1 ≤ 20) (h4 : 1 ≤ z1851 ∧ z1851 ≤ 19) (h5 : 0 ≤ z2565 ∧ z2565 ≤ 18) : (20 - (z2565 + 1)) < N := by omega
theorem vc_X12_wish_32 {z2566 : Int} (h0 : ¬ z2566 = 0) (h1 : 0 ≤ z2566 ∧ z2566 ≤ 1) : 1 ≤ z2566 ∧ z2566 ≤ 1 := by omega
theorem vc_X12_wish_33  : (20 - 0) < ((21 : Nat) : Int) := by omega
theorem vc_X12_wish_34 {z2440 : Int} (h0 : 6 < z2440) (h1 : 0 ≤ z2440 ∧ z2440 ≤ 9) : 7 ≤ z2440 ∧ z2440 ≤ 9 := by omega
theorem vc_X12_wish_35 {z2440 : Int} (h0 : z2440 ≤ 6) (h1 : 0 ≤ z2440 ∧ z2440 ≤ 9) : 0 ≤ z2440 ∧ z2440 ≤ 6 := by omega
theorem vc_X12_wish_36 {z1 : Int} (h0 : z1 < 2) (h1 : 0 ≤ z1 ∧ z1 ≤ 20) : 0 ≤ z1 ∧ z1 ≤ 1 := by omega
theorem vc_X12_wish_37 {z1 : Int} (h0 : 2 ≤ z1) (h1 : 0 ≤ z1 ∧ z1 ≤ 20) : 2 ≤ z1 ∧ z1 ≤ 20 := by omega
theorem vc_X12_wish_38 {z1 : Int} (h0 : 7 < z1) (h1 : 2 ≤ z1) (h2 : 2 ≤ z1 ∧ z1 ≤ 20) : 8 ≤ z1 ∧ z1 ≤ 20 := by omega
theorem vc_X12_wish_39 {z1 : Int} (h0 : z1 ≤ 7) (h1 : 2 ≤ z1) (h2 : 2 ≤ z1 ∧ z1 ≤ 20) : 2 ≤ z1 ∧ z1 ≤ 7 := by omega
theorem vc_X12_wish_40 {z2606 : Int} (h0 : z2606 = 0) (h1 : 0 ≤ z2606 ∧ z2606 ≤ 9) : 0 ≤ z2606 ∧ z2606 ≤ 0 := by omega
theorem vc_X12_wish_41 {z2606 : Int} (h0 : ¬ z2606 = 0) (h1 : 0 ≤ z2606 ∧ z2606 ≤ 9) : 1 ≤ z2606 ∧ z2606 ≤ 9 := by omega
theorem vc_X12_wish_42 {z2612 : Int} (h0 : ¬ z2612 = 0) (h1 : 0 ≤ z2612 ∧ z2612 ≤ 9) : 1 ≤ z2612 ∧ z2612 ≤ 9 := by omega
theorem vc_X12_wish_43 {z2612 : Int} (h0 : z2612 = 0) (h1 : 0 ≤ z2612 ∧ z2612 ≤ 9) : 0 ≤ z2612 ∧ z2612 ≤ 0 := by omega
set_option maxRecDepth 4000 in
set_option maxHeartbeats 4000000 in
theorem c_X12_wish {l : Launch} {D : va_G} {c : Nat → ClassId} {H0 : Heap} {sa : Nat × Nat × (Nat → Int32)} {w : mW} {μ : mM} (hw : mWF w) (hT : mT w μ) : sC (gG l D c H0 sa) mX12_wish 2 0 0 [.ref 106] (mk w μ) (qI w [184999, 185999, 186999] μ (fun z μ1 => ((-2147483648) ≤ z ∧ z ≤ 2147483647) ∧ True)) := by
  refine sC.of rfl (by decide) (le_t rfl) ?_
  refine mr_lvE (lv' := [(0, .ref 106)]) rfl ?_
  refine sv_aload_n dX12_wish_0 rfl rfl ?_
  refine gf_X12_15 dX12_wish_1 wF_X12_79 (A_106 hw) hT fun z1 q2 h3 => ?_
  refine mr_iconst (z := 2) dX12_wish_4 ?_
  have J20 : ∀ (z18 : Int), (0 ≤ z18 ∧ z18 ≤ 1) → sV (gG l D c H0 sa) mX12_wish (sRm 2 0 0) (sZ (gG l D c H0 sa) 0 0 (qI w [184999, 185999, 186999] μ (fun z μ1 => ((-2147483648) ≤ z ∧ z ≤ 2147483647) ∧ True))) 45 [(0, .ref 106)] [iv z18] (mk w μ) 0 0 := by
    intro z18 h19
    refine mr_istore_n (lv' := [(1, iv z18), (0, .ref 106)]) dX12_wish_45 rfl (by decide) rfl ?_
    refine mr_iconst (z := 0) dX12_wish_46 ?_
    refine mr_istore_n (lv' := [(2, iv 0), (1, iv z18), (0, .ref 106)]) dX12_wish_47 rfl (by decide) rfl ?_
    have L1853 : ∀ (nL1853 : Nat) (z1852 z1851 : Int), True → (0 ≤ z1852 ∧ z1852 ≤ 1) → (0 ≤ z1851 ∧ z1851 ≤ 20) → (21 - z1851) < (nL1853 : Int) → sV (gG l D c H0 sa) mX12_wish (sRm 2 0 0) (sZ (gG l D c H0 sa) 0 0 (qI w [184999, 185999, 186999] μ (fun z μ1 => ((-2147483648) ≤ z ∧ z ≤ 2147483647) ∧ True))) 48 [(0, .ref 106), (1, iv z1852), (2, iv z1851)] [] (mk w μ) 0 0 := by
      intro nL1853
      induction nL1853 with
      | zero => intro z1852 z1851 _ h1854 h1855 h1859; exact ((vc_X12_wish_1 h1859 h1855)).elim
      | succ nL1853 ih1860 =>
        intro z1852 z1851 _ h1854 h1855 h1859
        refine mr_iload_n (z := z1851) dX12_wish_48 rfl rfl ?_
        refine sv_aload_n dX12_wish_49 rfl rfl ?_
        refine gk_X12_15 dX12_wish_50 wF_X12_79 (A_106 hw) q2 ?_
        have J1890 : sV (gG l D c H0 sa) mX12_wish (sRm 2 0 0) (sZ (gG l D c H0 sa) 0 0 (qI w [184999, 185999, 186999] μ (fun z μ1 => ((-2147483648) ≤ z ∧ z ≤ 2147483647) ∧ True))) 121 [(0, .ref 106), (1, iv z1852)] [] (mk w μ) 0 0 := by
          refine mr_iload_n (z := z1852) dX12_wish_121 rfl rfl ?_
          refine mr_if_ne (tgt := 127) dX12_wish_122 (by decide) (r32 h1854 rfl) (fun h1891 => ?_) (fun h1891 => ?_)
          · have h1892 : 1 ≤ z1852 ∧ z1852 ≤ 1 := (vc_X12_wish_2 h1891 h1854)
            refine sv_aload_n dX12_wish_127 rfl rfl ?_
            refine gf_X12_16 dX12_wish_128 wF_X12_82 (A_106 hw) hT ?_
            refine mr_iconst (z := 0) dX12_wish_131 ?_
            refine la_118 dX12_wish_132 (A_118 hw) hT (rIx (n := 20) (rR (x := 0)) rfl) fun z1893 q1894 h1895 => ?_
            refine mr_istore_n (lv' := [(2, iv z1893), (0, .ref 106), (1, iv z1852)]) dX12_wish_133 rfl (by decide) rfl ?_
            refine mr_iconst (z := 0) dX12_wish_134 ?_
            refine mr_istore_n (lv' := [(3, iv 0), (2, iv z1893), (0, .ref 106), (1, iv z1852)]) dX12_wish_135 rfl (by decide) rfl ?_
            have L2195 : ∀ (nL2195 : Nat) (z2194 : Int), True → (0 ≤ z2194 ∧ z2194 ≤ 5) → (6 - z2194) < (nL2195 : Int) → sV (gG l D c H0 sa) mX12_wish (sRm 2 0 0) (sZ (gG l D c H0 sa) 0 0 (qI w [184999, 185999, 186999] μ (fun z μ1 => ((-2147483648) ≤ z ∧ z ≤ 2147483647) ∧ True))) 136 [(0, .ref 106), (2, iv z1893), (3, iv z2194)] [] (mk w μ) 0 0 := by
              intro nL2195
              induction nL2195 with
              | zero => intro z2194 _ h2196 h2200; exact ((vc_X12_wish_3 h2200 h2196)).elim
              | succ nL2195 ih2201 =>
                intro z2194 _ h2196 h2200
                refine mr_iload_n (z := z2194) dX12_wish_136 rfl rfl ?_
                refine sv_aload_n dX12_wish_137 rfl rfl ?_
                refine gf_X12_118 dX12_wish_138 wF_X12_514 (A_106 hw) hT ?_
                refine mr_iload_n (z := z1893) dX12_wish_141 rfl rfl ?_
                refine la_184 dX12_wish_142 (A_184 hw) hT (vc_X12_wish_4 h1895) fun z2202 q2203 h2204 => ?_
                refine mr_icmp_ge (tgt := 164) dX12_wish_143 (by decide) (r32 h2196 rfl) (r32 h2204 rfl) (fun h2205 => ?_) (fun h2205 => ?_)
                · refine sv_aload_n dX12_wish_164 rfl rfl ?_
                  refine gf_X12_118 dX12_wish_165 wF_X12_514 (A_106 hw) hT ?_
                  refine mr_iload_n (z := z1893) dX12_wish_168 rfl rfl ?_
                  refine lk_184 dX12_wish_169 (A_184 hw) (vc_X12_wish_4 h1895) q2203 ?_
                  refine mr_iconst (z := 5) dX12_wish_170 ?_
                  refine mr_icmp_ne (tgt := 177) dX12_wish_171 (by decide) (r32 h2204 rfl) (r32 (rR (x := 5)) rfl) (fun h2206 => ?_) (fun h2206 => ?_)
                  · have h2207 : 0 ≤ z2202 ∧ z2202 ≤ 4 := (vc_X12_wish_5 h2206 h2205 h2196 h2204)
                    refine mr_iconst (z := 5) dX12_wish_177 ?_
                    refine mr_iload_n (z := z1893) dX12_wish_178 rfl rfl ?_
                    refine mr_imul (x := 5) (y := z1893) dX12_wish_179 ?_
                    refine sv_aload_n dX12_wish_180 rfl rfl ?_
                    refine gf_X12_118 dX12_wish_181 wF_X12_514 (A_106 hw) hT ?_
                    refine mr_iload_n (z := z1893) dX12_wish_184 rfl rfl ?_
                    refine lk_184 dX12_wish_185 (A_184 hw) (vc_X12_wish_4 h1895) q2203 ?_
                    refine mr_iadd (x := (5 * z1893)) (y := z2202) dX12_wish_186 ?_
                    refine mr_istore_n (lv' := [(3, iv ((5 * z1893) + z2202)), (0, .ref 106), (2, iv z1893)]) dX12_wish_187 rfl (by decide) rfl ?_
                    refine sv_aload_n dX12_wish_188 rfl rfl ?_
                    refine gf_X12_119 dX12_wish_189 wF_X12_517 (A_106 hw) hT ?_
                    refine mr_iload_n (z := ((5 * z1893) + z2202)) dX12_wish_192 rfl rfl ?_
                    refine sv_aload_n dX12_wish_193 rfl rfl ?_
                    refine gk_X12_15 dX12_wish_194 wF_X12_79 (A_106 hw) q2 ?_
                    refine ss_185 dX12_wish_197 (A_185 hw) hT (vc_X12_wish_6 h2205 h2206 h1895 h2196 h2207) (vc_X12_wish_7 h3) fun μ2208 u2209 T2210 => ?_
                    refine mr_iconst (z := 0) dX12_wish_198 ?_
                    refine mr_istore (lv' := [(4, iv 0), (3, iv ((5 * z1893) + z2202)), (0, .ref 106), (2, iv z1893)]) dX12_wish_199 (by decide) rfl ?_
                    have L2395 : ∀ (nL2395 : Nat) (z2393 : Int) (μ2394 : mM), mT w μ2394 → mF [186999] w μ2208 μ2394 → (0 ≤ z2393 ∧ z2393 ≤ 20) → (21 - z2393) < (nL2395 : Int) → sV (gG l D c H0 sa) mX12_wish (sRm 2 0 0) (sZ (gG l D c H0 sa) 0 0 (qI w [184999, 185999, 186999] μ (fun z μ1 => ((-2147483648) ≤ z ∧ z ≤ 2147483647) ∧ True))) 201 [(0, .ref 106), (2, iv z1893), (3, iv ((5 * z1893) + z2202)), (4, iv z2393)] [] (mk w μ2394) 0 0 := by
                      intro nL2395
                      induction nL2395 with
                      | zero => intro z2393 μ2394 T2397 F2398 h2396 h2400; exact ((vc_X12_wish_8 h2400 h2396)).elim
                      | succ nL2395 ih2401 =>
                        intro z2393 μ2394 T2397 F2398 h2396 h2400
                        refine mr_iload (z := z2393) dX12_wish_201 rfl ?_
                        refine sv_aload_n dX12_wish_203 rfl rfl ?_
                        refine gk_X12_15 dX12_wish_204 wF_X12_79 (A_106 hw) (F2398.f (A_106 hw) rfl (u2209.f (Or.inl (mAt.ne (A_185 hw) (A_106 hw) rfl)) q2)) ?_
                        refine mr_icmp_ge (tgt := 235) dX12_wish_207 (by decide) (r32 h2396 rfl) (r32 h3 rfl) (fun h2410 => ?_) (fun h2410 => ?_)
                        · refine sv_aload_n dX12_wish_235 rfl rfl ?_
                          refine gf_X12_118 dX12_wish_236 wF_X12_514 (A_106 hw) T2397 ?_
                          refine mr_iload_n (z := z1893) dX12_wish_239 rfl rfl ?_
                          refine sv_dup2 dX12_wish_240 rfl rfl ?_
                          refine lk_184 dX12_wish_241 (A_184 hw) (vc_X12_wish_4 h1895) (F2398.f (A_184 hw) rfl (u2209.f (Or.inl (mAt.ne (A_185 hw) (A_184 hw) rfl)) q2203)) ?_
                          refine mr_iconst (z := 1) dX12_wish_242 ?_
                          refine mr_iadd (x := z2202) (y := 1) dX12_wish_243 ?_
                          refine ss_184 dX12_wish_244 (A_184 hw) T2397 (vc_X12_wish_4 h1895) (rW (c := 0) (d := 5) (rAdd (e := 1) (f := 5) h2207 (rR (x := 1)) rfl) rfl) fun μ2411 u2412 T2413 => ?_
                          refine sv_aload_n dX12_wish_245 rfl rfl ?_
                          refine gf_X12_118 dX12_wish_246 wF_X12_514 (A_106 hw) T2413 ?_
                          refine mr_iload_n (z := z1893) dX12_wish_249 rfl rfl ?_
                          refine lk_184 dX12_wish_250 (A_184 hw) (vc_X12_wish_4 h1895) u2412.1 ?_
                          exact mr_iret dX12_wish_251 rfl (le_t rfl) (le_t rfl) T2413 (mF.up (mF.call (mF.up mF.refl (A_185 hw) u2209 rfl) F2398 rfl) (A_184 hw) u2412 rfl) ⟨(rW (c := (-2147483648)) (d := 2147483647) (rAdd (e := 1) (f := 5) h2207 (rR (x := 1)) rfl) rfl), trivial⟩
                        have h2414 : 0 ≤ z2393 ∧ z2393 ≤ 19 := (vc_X12_wish_9 h2410 h3 h2396)
                        have h2415 : 1 ≤ z1 ∧ z1 ≤ 20 := (vc_X12_wish_10 h2410 h3 h2414)
                        refine sv_aload_n dX12_wish_210 rfl rfl ?_
                        refine gf_X12_120 dX12_wish_211 wF_X12_520 (A_106 hw) T2397 ?_
                        refine mr_bipush (z := 8) dX12_wish_214 (by decide) ?_
                        refine mr_iload_n (z := ((5 * z1893) + z2202)) dX12_wish_216 rfl rfl ?_
                        refine mr_imul (x := 8) (y := ((5 * z1893) + z2202)) dX12_wish_217 ?_
                        refine mr_iload (z := z2393) dX12_wish_218 rfl ?_
                        refine mr_iadd (x := (8 * ((5 * z1893) + z2202))) (y := z2393) dX12_wish_220 ?_
                        refine sv_aload_n dX12_wish_221 rfl rfl ?_
                        refine gf_X12_16 dX12_wish_222 wF_X12_82 (A_106 hw) T2397 ?_
                        refine mr_iload (z := z2393) dX12_wish_225 rfl ?_
                        refine la_118 dX12_wish_227 (A_118 hw) T2397 (rIx (n := 20) h2414 rfl) fun z2416 q2417 h2418 => ?_
                        refine ss_186 dX12_wish_228 (A_186 hw) T2397 (vc_X12_wish_11 h2205 h2206 h2410 h2415 h1895 h2196 h2207 h2414) (vc_X12_wish_12 h2418) fun μ2419 u2420 T2421 => ?_
                        refine mr_iinc (lv' := [(4, iv (z2393 + 1)), (0, .ref 106), (2, iv z1893), (3, iv ((5 * z1893) + z2202))]) dX12_wish_229 rfl (by decide) rfl ?_
                        refine sv_goto (tgt := 201) dX12_wish_232 (by decide) ?_
                        refine mr_lvS (lv' := [(0, .ref 106), (2, iv z1893), (3, iv ((5 * z1893) + z2202)), (4, iv (z2393 + 1))]) (List.forall_mem_cons.mpr ⟨rfl, List.forall_mem_cons.mpr ⟨rfl, List.forall_mem_cons.mpr ⟨rfl, List.forall_mem_cons.mpr ⟨rfl, fun _ h => absurd h List.not_mem_nil⟩⟩⟩⟩) ?_
                        exact ih2401 (z2393 + 1) μ2419 T2421 (mF.up (mF.call mF.refl F2398 rfl) (A_186 hw) u2420 rfl) (rW (c := 0) (d := 20) (rAdd (e := 1) (f := 20) h2414 (rR (x := 1)) rfl) rfl) (vc_X12_wish_13 (nS h2400) h2410 h2415 h2414)
                    refine mr_lvS (lv' := [(0, .ref 106), (2, iv z1893), (3, iv ((5 * z1893) + z2202)), (4, iv 0)]) (List.forall_mem_cons.mpr ⟨rfl, List.forall_mem_cons.mpr ⟨rfl, List.forall_mem_cons.mpr ⟨rfl, List.forall_mem_cons.mpr ⟨rfl, fun _ h => absurd h List.not_mem_nil⟩⟩⟩⟩) ?_
                    exact L2395 22 0 μ2208 T2210 mF.refl (rW (c := 0) (d := 20) (rR (x := 0)) rfl) vc_X12_wish_14
                  have h2422 : 5 ≤ z2202 ∧ z2202 ≤ 5 := (vc_X12_wish_15 h2206 h2205 h2196 h2204)
                  refine mr_bipush (z := (-3)) dX12_wish_174 (by decide) ?_
                  exact mr_iret dX12_wish_176 rfl (le_t rfl) (le_t rfl) hT mF.refl ⟨(rW (c := (-2147483648)) (d := 2147483647) (rR (x := (-3))) rfl), trivial⟩
                have h2423 : 0 ≤ z2194 ∧ z2194 ≤ 4 := (vc_X12_wish_16 h2205 h2196 h2204)
                have h2424 : 1 ≤ z2202 ∧ z2202 ≤ 5 := (vc_X12_wish_17 h2205 h2423 h2204)
                refine sv_aload_n dX12_wish_146 rfl rfl ?_
                refine mr_iload_n (z := z1893) dX12_wish_147 rfl rfl ?_
                refine mr_iload_n (z := z2194) dX12_wish_148 rfl rfl ?_
                refine mr_cVP (c_X12_isWished hw hT (vc_X12_wish_18 h1895) h2423) (gOk _ _ _ _ _) dX12_wish_149 (tX12_isWished _ _ _ _ _) ⟨wV_X12_isWished, wL_X12_isWished⟩ wM_X12_716 (gCX12 _ _ _ _ _) rfl (A_106 hw) rfl ⟨le_t rfl, le_t rfl⟩ ⟨le_t rfl, le_t rfl⟩ rfl (le_t rfl) fun z2429 h2428 => ?_
                refine mr_if_eq (tgt := 158) dX12_wish_152 (by decide) (r32 h2428.1 rfl) (fun h2430 => ?_) (fun h2430 => ?_)
                · have h2431 : 0 ≤ z2429 ∧ z2429 ≤ 0 := (vc_X12_wish_19 h2430 h2428.1)
                  refine mr_iinc (lv' := [(3, iv (z2194 + 1)), (0, .ref 106), (2, iv z1893)]) dX12_wish_158 rfl (by decide) rfl ?_
                  refine sv_goto (tgt := 136) dX12_wish_161 (by decide) ?_
                  refine mr_lvS (lv' := [(0, .ref 106), (2, iv z1893), (3, iv (z2194 + 1))]) (List.forall_mem_cons.mpr ⟨rfl, List.forall_mem_cons.mpr ⟨rfl, List.forall_mem_cons.mpr ⟨rfl, fun _ h => absurd h List.not_mem_nil⟩⟩⟩) ?_
                  exact ih2201 (z2194 + 1) trivial (rW (c := 0) (d := 5) (rAdd (e := 1) (f := 5) h2423 (rR (x := 1)) rfl) rfl) (vc_X12_wish_20 (nS h2200) h2205 h2423 h2424)
                have h2432 : 1 ≤ z2429 ∧ z2429 ≤ 1 := (vc_X12_wish_21 h2430 h2428.1)
                refine mr_bipush (z := (-2)) dX12_wish_155 (by decide) ?_
                exact mr_iret dX12_wish_157 rfl (le_t rfl) (le_t rfl) hT mF.refl ⟨(rW (c := (-2147483648)) (d := 2147483647) (rR (x := (-2))) rfl), trivial⟩
            refine mr_lvS (lv' := [(0, .ref 106), (2, iv z1893), (3, iv 0)]) (List.forall_mem_cons.mpr ⟨rfl, List.forall_mem_cons.mpr ⟨rfl, List.forall_mem_cons.mpr ⟨rfl, fun _ h => absurd h List.not_mem_nil⟩⟩⟩) ?_
            exact L2195 7 0 trivial (rW (c := 0) (d := 5) (rR (x := 0)) rfl) vc_X12_wish_22
          have h2433 : 0 ≤ z1852 ∧ z1852 ≤ 0 := (vc_X12_wish_23 h1891 h1854)
          refine mr_iconst (z := (-1)) dX12_wish_125 ?_
          exact mr_iret dX12_wish_126 rfl (le_t rfl) (le_t rfl) hT mF.refl ⟨(rW (c := (-2147483648)) (d := 2147483647) (rR (x := (-1))) rfl), trivial⟩
        refine mr_icmp_ge (tgt := 121) dX12_wish_53 (by decide) (r32 h1855 rfl) (r32 h3 rfl) (fun h2434 => ?_) (fun h2434 => ?_)
        · refine mr_lvS (lv' := [(0, .ref 106), (1, iv z1852)]) (List.forall_mem_cons.mpr ⟨rfl, List.forall_mem_cons.mpr ⟨rfl, fun _ h => absurd h List.not_mem_nil⟩⟩) ?_
          exact J1890 
        have h2435 : 0 ≤ z1851 ∧ z1851 ≤ 19 := (vc_X12_wish_24 h2434 h3 h1855)
        have h2436 : 1 ≤ z1 ∧ z1 ≤ 20 := (vc_X12_wish_25 h2434 h3 h2435)
        refine mr_iload_n (z := z1852) dX12_wish_56 rfl rfl ?_
        refine mr_if_eq (tgt := 121) dX12_wish_57 (by decide) (r32 h1854 rfl) (fun h2437 => ?_) (fun h2437 => ?_)
        · have h2438 : 0 ≤ z1852 ∧ z1852 ≤ 0 := (vc_X12_wish_23 h2437 h1854)
          refine mr_lvS (lv' := [(0, .ref 106), (1, iv z1852)]) (List.forall_mem_cons.mpr ⟨rfl, List.forall_mem_cons.mpr ⟨rfl, fun _ h => absurd h List.not_mem_nil⟩⟩) ?_
          exact J1890 
        have h2439 : 1 ≤ z1852 ∧ z1852 ≤ 1 := (vc_X12_wish_2 h2437 h1854)
        refine sv_aload_n dX12_wish_60 rfl rfl ?_
        refine gf_X12_16 dX12_wish_61 wF_X12_82 (A_106 hw) hT ?_
        refine mr_iload_n (z := z1851) dX12_wish_64 rfl rfl ?_
        refine la_118 dX12_wish_65 (A_118 hw) hT (rIx (n := 20) h2435 rfl) fun z2440 q2441 h2442 => ?_
        refine mr_bipush (z := 6) dX12_wish_66 (by decide) ?_
        have J2447 : ∀ (z2445 : Int), (0 ≤ z2445 ∧ z2445 ≤ 1) → sV (gG l D c H0 sa) mX12_wish (sRm 2 0 0) (sZ (gG l D c H0 sa) 0 0 (qI w [184999, 185999, 186999] μ (fun z μ1 => ((-2147483648) ≤ z ∧ z ≤ 2147483647) ∧ True))) 76 [(0, .ref 106), (2, iv z1851)] [iv z2445] (mk w μ) 0 0 := by
          intro z2445 h2446
          refine mr_istore_n (lv' := [(1, iv z2445), (0, .ref 106), (2, iv z1851)]) dX12_wish_76 rfl (by decide) rfl ?_
          refine mr_iconst (z := 0) dX12_wish_77 ?_
          refine mr_istore_n (lv' := [(3, iv 0), (1, iv z2445), (0, .ref 106), (2, iv z1851)]) dX12_wish_78 rfl (by decide) rfl ?_
          have L2567 : ∀ (nL2567 : Nat) (z2566 z2565 : Int), True → (0 ≤ z2566 ∧ z2566 ≤ 1) → (0 ≤ z2565 ∧ z2565 ≤ 19) → (20 - z2565) < (nL2567 : Int) → sV (gG l D c H0 sa) mX12_wish (sRm 2 0 0) (sZ (gG l D c H0 sa) 0 0 (qI w [184999, 185999, 186999] μ (fun z μ1 => ((-2147483648) ≤ z ∧ z ≤ 2147483647) ∧ True))) 79 [(0, .ref 106), (1, iv z2566), (2, iv z1851), (3, iv z2565)] [] (mk w μ) 0 0 := by
            intro nL2567
            induction nL2567 with
            | zero => intro z2566 z2565 _ h2568 h2569 h2573; exact ((vc_X12_wish_26 h2573 h2569)).elim
            | succ nL2567 ih2574 =>
              intro z2566 z2565 _ h2568 h2569 h2573
              refine mr_iload_n (z := z2565) dX12_wish_79 rfl rfl ?_
              refine mr_iload_n (z := z1851) dX12_wish_80 rfl rfl ?_
              refine mr_icmp_ge (tgt := 115) dX12_wish_81 (by decide) (r32 h2569 rfl) (r32 h2435 rfl) (fun h2582 => ?_) (fun h2582 => ?_)
              · refine mr_iinc (lv' := [(2, iv (z1851 + 1)), (0, .ref 106), (1, iv z2566), (3, iv z2565)]) dX12_wish_115 rfl (by decide) rfl ?_
                refine sv_goto (tgt := 48) dX12_wish_118 (by decide) ?_
                refine mr_lvS (lv' := [(0, .ref 106), (1, iv z2566), (2, iv (z1851 + 1))]) (List.forall_mem_cons.mpr ⟨rfl, List.forall_mem_cons.mpr ⟨rfl, List.forall_mem_cons.mpr ⟨rfl, fun _ h => absurd h List.not_mem_nil⟩⟩⟩) ?_
                exact ih1860 z2566 (z1851 + 1) trivial h2568 (rW (c := 0) (d := 20) (rAdd (e := 1) (f := 20) h2435 (rR (x := 1)) rfl) rfl) (vc_X12_wish_27 (nS h1859) h2434 h2582 h2436 h2435 h2569)
              have h2583 : 0 ≤ z2565 ∧ z2565 ≤ 18 := (vc_X12_wish_28 h2582 h2434 h2436 h2435 h2569)
              have h2584 : 1 ≤ z1851 ∧ z1851 ≤ 19 := (vc_X12_wish_29 h2582 h2434 h2436 h2435 h2583)
              refine mr_iload_n (z := z2566) dX12_wish_84 rfl rfl ?_
              refine mr_if_eq (tgt := 107) dX12_wish_85 (by decide) (r32 h2568 rfl) (fun h2590 => ?_) (fun h2590 => ?_)
              · have h2591 : 0 ≤ z2566 ∧ z2566 ≤ 0 := (vc_X12_wish_30 h2590 h2568)
                refine mr_iconst (z := 0) dX12_wish_107 ?_
                refine mr_istore_n (lv' := [(1, iv 0), (0, .ref 106), (2, iv z1851), (3, iv z2565)]) dX12_wish_108 rfl (by decide) rfl ?_
                refine mr_iinc (lv' := [(3, iv (z2565 + 1)), (1, iv 0), (0, .ref 106), (2, iv z1851)]) dX12_wish_109 rfl (by decide) rfl ?_
                refine sv_goto (tgt := 79) dX12_wish_112 (by decide) ?_
                refine mr_lvS (lv' := [(0, .ref 106), (1, iv 0), (2, iv z1851), (3, iv (z2565 + 1))]) (List.forall_mem_cons.mpr ⟨rfl, List.forall_mem_cons.mpr ⟨rfl, List.forall_mem_cons.mpr ⟨rfl, List.forall_mem_cons.mpr ⟨rfl, fun _ h => absurd h List.not_mem_nil⟩⟩⟩⟩) ?_
                exact ih2574 0 (z2565 + 1) trivial (rW (c := 0) (d := 1) (rR (x := 0)) rfl) (rW (c := 0) (d := 19) (rAdd (e := 1) (f := 19) h2583 (rR (x := 1)) rfl) rfl) (vc_X12_wish_31 (nS h2573) h2582 h2434 h2436 h2584 h2583)
              have h2592 : 1 ≤ z2566 ∧ z2566 ≤ 1 := (vc_X12_wish_32 h2590 h2568)
              refine sv_aload_n dX12_wish_88 rfl rfl ?_
              refine gf_X12_16 dX12_wish_89 wF_X12_82 (A_106 hw) hT ?_
              refine mr_iload_n (z := z1851) dX12_wish_92 rfl rfl ?_
              refine lk_118 dX12_wish_93 (A_118 hw) (rIx (n := 20) h2584 rfl) q2441 ?_
              refine sv_aload_n dX12_wish_94 rfl rfl ?_
              refine gf_X12_16 dX12_wish_95 wF_X12_82 (A_106 hw) hT ?_
              refine mr_iload_n (z := z2565) dX12_wish_98 rfl rfl ?_
              refine la_118 dX12_wish_99 (A_118 hw) hT (rIx (n := 20) h2583 rfl) fun z2593 q2594 h2595 => ?_
              refine mr_icmp_eq (tgt := 107) dX12_wish_100 (by decide) (r32 h2442 rfl) (r32 h2595 rfl) (fun h2596 => ?_) (fun h2596 => ?_)
              · refine mr_iconst (z := 0) dX12_wish_107 ?_
                refine mr_istore_n (lv' := [(1, iv 0), (0, .ref 106), (2, iv z1851), (3, iv z2565)]) dX12_wish_108 rfl (by decide) rfl ?_
                refine mr_iinc (lv' := [(3, iv (z2565 + 1)), (1, iv 0), (0, .ref 106), (2, iv z1851)]) dX12_wish_109 rfl (by decide) rfl ?_
                refine sv_goto (tgt := 79) dX12_wish_112 (by decide) ?_
                refine mr_lvS (lv' := [(0, .ref 106), (1, iv 0), (2, iv z1851), (3, iv (z2565 + 1))]) (List.forall_mem_cons.mpr ⟨rfl, List.forall_mem_cons.mpr ⟨rfl, List.forall_mem_cons.mpr ⟨rfl, List.forall_mem_cons.mpr ⟨rfl, fun _ h => absurd h List.not_mem_nil⟩⟩⟩⟩) ?_
                exact ih2574 0 (z2565 + 1) trivial (rW (c := 0) (d := 1) (rR (x := 0)) rfl) (rW (c := 0) (d := 19) (rAdd (e := 1) (f := 19) h2583 (rR (x := 1)) rfl) rfl) (vc_X12_wish_31 (nS h2573) h2582 h2434 h2436 h2584 h2583)
              refine mr_iconst (z := 1) dX12_wish_103 ?_
              refine sv_goto (tgt := 108) dX12_wish_104 (by decide) ?_
              refine mr_istore_n (lv' := [(1, iv 1), (0, .ref 106), (2, iv z1851), (3, iv z2565)]) dX12_wish_108 rfl (by decide) rfl ?_
              refine mr_iinc (lv' := [(3, iv (z2565 + 1)), (1, iv 1), (0, .ref 106), (2, iv z1851)]) dX12_wish_109 rfl (by decide) rfl ?_
              refine sv_goto (tgt := 79) dX12_wish_112 (by decide) ?_
              refine mr_lvS (lv' := [(0, .ref 106), (1, iv 1), (2, iv z1851), (3, iv (z2565 + 1))]) (List.forall_mem_cons.mpr ⟨rfl, List.forall_mem_cons.mpr ⟨rfl, List.forall_mem_cons.mpr ⟨rfl, List.forall_mem_cons.mpr ⟨rfl, fun _ h => absurd h List.not_mem_nil⟩⟩⟩⟩) ?_
              exact ih2574 1 (z2565 + 1) trivial (rW (c := 0) (d := 1) (rR (x := 1)) rfl) (rW (c := 0) (d := 19) (rAdd (e := 1) (f := 19) h2583 (rR (x := 1)) rfl) rfl) (vc_X12_wish_31 (nS h2573) h2582 h2434 h2436 h2584 h2583)
          refine mr_lvS (lv' := [(0, .ref 106), (1, iv z2445), (2, iv z1851), (3, iv 0)]) (List.forall_mem_cons.mpr ⟨rfl, List.forall_mem_cons.mpr ⟨rfl, List.forall_mem_cons.mpr ⟨rfl, List.forall_mem_cons.mpr ⟨rfl, fun _ h => absurd h List.not_mem_nil⟩⟩⟩⟩) ?_
          exact L2567 21 z2445 0 trivial h2446 (rW (c := 0) (d := 19) (rR (x := 0)) rfl) vc_X12_wish_33
        refine mr_icmp_gt (tgt := 75) dX12_wish_68 (by decide) (r32 h2442 rfl) (r32 (rR (x := 6)) rfl) (fun h2597 => ?_) (fun h2597 => ?_)
        · have h2598 : 7 ≤ z2440 ∧ z2440 ≤ 9 := (vc_X12_wish_34 h2597 h2442)
          refine mr_iconst (z := 0) dX12_wish_75 ?_
          refine mr_lvS (lv' := [(0, .ref 106), (2, iv z1851)]) (List.forall_mem_cons.mpr ⟨rfl, List.forall_mem_cons.mpr ⟨rfl, fun _ h => absurd h List.not_mem_nil⟩⟩) ?_
          exact J2447 0 (rW (c := 0) (d := 1) (rR (x := 0)) rfl)
        have h2599 : 0 ≤ z2440 ∧ z2440 ≤ 6 := (vc_X12_wish_35 h2597 h2442)
        refine mr_iconst (z := 1) dX12_wish_71 ?_
        refine sv_goto (tgt := 76) dX12_wish_72 (by decide) ?_
        refine mr_lvS (lv' := [(0, .ref 106), (2, iv z1851)]) (List.forall_mem_cons.mpr ⟨rfl, List.forall_mem_cons.mpr ⟨rfl, fun _ h => absurd h List.not_mem_nil⟩⟩) ?_
        exact J2447 1 (rW (c := 0) (d := 1) (rR (x := 1)) rfl)
    refine mr_lvS (lv' := [(0, .ref 106), (1, iv z18), (2, iv 0)]) (List.forall_mem_cons.mpr ⟨rfl, List.forall_mem_cons.mpr ⟨rfl, List.forall_mem_cons.mpr ⟨rfl, fun _ h => absurd h List.not_mem_nil⟩⟩⟩) ?_
    exact L1853 22 z18 0 trivial h19 (rW (c := 0) (d := 20) (rR (x := 0)) rfl) vc_X12_wish_14
  refine mr_icmp_lt (tgt := 44) dX12_wish_5 (by decide) (r32 h3 rfl) (r32 (rR (x := 2)) rfl) (fun h2600 => ?_) (fun h2600 => ?_)
  · have h2601 : 0 ≤ z1 ∧ z1 ≤ 1 := (vc_X12_wish_36 h2600 h3)
    refine mr_iconst (z := 0) dX12_wish_44 ?_
    exact J20 0 (rW (c := 0) (d := 1) (rR (x := 0)) rfl)
  have h2602 : 2 ≤ z1 ∧ z1 ≤ 20 := (vc_X12_wish_37 h2600 h3)
  refine sv_aload_n dX12_wish_8 rfl rfl ?_
  refine gk_X12_15 dX12_wish_9 wF_X12_79 (A_106 hw) q2 ?_
  refine mr_bipush (z := 7) dX12_wish_12 (by decide) ?_
  refine mr_icmp_gt (tgt := 44) dX12_wish_14 (by decide) (r32 h2602 rfl) (r32 (rR (x := 7)) rfl) (fun h2603 => ?_) (fun h2603 => ?_)
  · have h2604 : 8 ≤ z1 ∧ z1 ≤ 20 := (vc_X12_wish_38 h2603 h2600 h2602)
    refine mr_iconst (z := 0) dX12_wish_44 ?_
    exact J20 0 (rW (c := 0) (d := 1) (rR (x := 0)) rfl)
  have h2605 : 2 ≤ z1 ∧ z1 ≤ 7 := (vc_X12_wish_39 h2603 h2600 h2602)
  refine sv_aload_n dX12_wish_17 rfl rfl ?_
  refine gf_X12_16 dX12_wish_18 wF_X12_82 (A_106 hw) hT ?_
  refine mr_iconst (z := 0) dX12_wish_21 ?_
  refine la_118 dX12_wish_22 (A_118 hw) hT (rIx (n := 20) (rR (x := 0)) rfl) fun z2606 q2607 h2608 => ?_
  refine mr_if_eq (tgt := 44) dX12_wish_23 (by decide) (r32 h2608 rfl) (fun h2609 => ?_) (fun h2609 => ?_)
  · have h2610 : 0 ≤ z2606 ∧ z2606 ≤ 0 := (vc_X12_wish_40 h2609 h2608)
    refine mr_iconst (z := 0) dX12_wish_44 ?_
    exact J20 0 (rW (c := 0) (d := 1) (rR (x := 0)) rfl)
  have h2611 : 1 ≤ z2606 ∧ z2606 ≤ 9 := (vc_X12_wish_41 h2609 h2608)
  refine sv_aload_n dX12_wish_26 rfl rfl ?_
  refine gf_X12_16 dX12_wish_27 wF_X12_82 (A_106 hw) hT ?_
  refine sv_aload_n dX12_wish_30 rfl rfl ?_
  refine gk_X12_15 dX12_wish_31 wF_X12_79 (A_106 hw) q2 ?_
  refine mr_iconst (z := 1) dX12_wish_34 ?_
  refine mr_isub (x := z1) (y := 1) dX12_wish_35 ?_
  refine la_118 dX12_wish_36 (A_118 hw) hT (rIx (n := 20) (rSub (e := 1) (f := 6) h2605 (rR (x := 1)) rfl) rfl) fun z2612 q2613 h2614 => ?_
  refine mr_if_ne (tgt := 44) dX12_wish_37 (by decide) (r32 h2614 rfl) (fun h2615 => ?_) (fun h2615 => ?_)
  · have h2616 : 1 ≤ z2612 ∧ z2612 ≤ 9 := (vc_X12_wish_42 h2615 h2614)
    refine mr_iconst (z := 0) dX12_wish_44 ?_
    exact J20 0 (rW (c := 0) (d := 1) (rR (x := 0)) rfl)
  have h2617 : 0 ≤ z2612 ∧ z2612 ≤ 0 := (vc_X12_wish_43 h2615 h2614)
  refine mr_iconst (z := 1) dX12_wish_40 ?_
  refine sv_goto (tgt := 45) dX12_wish_41 (by decide) ?_
  exact J20 1 (rW (c := 0) (d := 1) (rR (x := 1)) rfl)
theorem vc_X12_states_1 {z77 : Int} (h0 : (z77 - (-1)) < ((0 : Nat) : Int)) (h1 : 0 ≤ z77 ∧ z77 ≤ 6) : False := by omega
theorem vc_X12_states_2 {z77 : Int} (h0 : z77 < 1) (h1 : 0 ≤ z77 ∧ z77 ≤ 6) : 0 ≤ z77 ∧ z77 ≤ 0 := by omega
theorem vc_X12_states_3 {z77 : Int} (h0 : 1 ≤ z77) (h1 : 0 ≤ z77 ∧ z77 ≤ 6) : 1 ≤ z77 ∧ z77 ≤ 6 := by omega
theorem vc_X12_states_4 {z78 : Int} (h0 : (-2147483648) ≤ z78 ∧ z78 ≤ 2147483647) : 0 ≤ z78 ∧ z78 ≤ 46656 := by omega
theorem vc_X12_states_5 {N z77 : Int} (h0 : (z77 - (-1)) < N + 1) (h1 : 1 ≤ z77) (h2 : 1 ≤ z77 ∧ z77 ≤ 6) : ((z77 + (-1)) - (-1)) < N := by omega
theorem vc_X12_states_6  : (6 - (-1)) < ((8 : Nat) : Int) := by omega
set_option maxRecDepth 4000 in
set_option maxHeartbeats 4000000 in
theorem c_X12_states {l : Launch} {D : va_G} {c : Nat → ClassId} {H0 : Heap} {sa : Nat × Nat × (Nat → Int32)} {w : mW} {μ : mM} (hw : mWF w) (hT : mT w μ) : sC (gG l D c H0 sa) mX12_states 1 0 0 [.ref 106] (mk w μ) (qI w [187999] μ (fun z μ1 => ((-2147483648) ≤ z ∧ z ≤ 2147483647) ∧ True)) := by
  refine sC.of rfl (by decide) (le_t rfl) ?_
  refine mr_lvE (lv' := [(0, .ref 106)]) rfl ?_
  refine mr_iconst (z := 1) dX12_states_0 ?_
  refine mr_istore_n (lv' := [(1, iv 1), (0, .ref 106)]) dX12_states_1 rfl (by decide) rfl ?_
  refine mr_bipush (z := 6) dX12_states_2 (by decide) ?_
  refine mr_istore_n (lv' := [(2, iv 6), (1, iv 1), (0, .ref 106)]) dX12_states_4 rfl (by decide) rfl ?_
  have L80 : ∀ (nL80 : Nat) (z78 z77 : Int) (μ79 : mM), mT w μ79 → mF [187999] w μ μ79 → ((-2147483648) ≤ z78 ∧ z78 ≤ 2147483647) → (0 ≤ z77 ∧ z77 ≤ 6) → (z77 - (-1)) < (nL80 : Int) → sV (gG l D c H0 sa) mX12_states (sRm 1 0 0) (sZ (gG l D c H0 sa) 0 0 (qI w [187999] μ (fun z μ1 => ((-2147483648) ≤ z ∧ z ≤ 2147483647) ∧ True))) 5 [(0, .ref 106), (1, iv z78), (2, iv z77)] [] (mk w μ79) 0 0 := by
    intro nL80
    induction nL80 with
    | zero => intro z78 z77 μ79 T83 F84 h81 h82 h86; exact ((vc_X12_states_1 h86 h82)).elim
    | succ nL80 ih87 =>
      intro z78 z77 μ79 T83 F84 h81 h82 h86
      refine mr_iload_n (z := z77) dX12_states_5 rfl rfl ?_
      refine mr_iconst (z := 1) dX12_states_6 ?_
      refine mr_icmp_lt (tgt := 34) dX12_states_7 (by decide) (r32 h82 rfl) (r32 (rR (x := 1)) rfl) (fun h99 => ?_) (fun h99 => ?_)
      · have h100 : 0 ≤ z77 ∧ z77 ≤ 0 := (vc_X12_states_2 h99 h82)
        refine mr_iload_n (z := z78) dX12_states_34 rfl rfl ?_
        exact mr_iret dX12_states_35 rfl (le_t rfl) (le_t rfl) T83 (mF.call mF.refl F84 rfl) ⟨h81, trivial⟩
      have h101 : 1 ≤ z77 ∧ z77 ≤ 6 := (vc_X12_states_3 h99 h82)
      refine sv_aload_n dX12_states_10 rfl rfl ?_
      refine gf_X12_121 dX12_states_11 wF_X12_523 (A_106 hw) T83 ?_
      refine mr_iload_n (z := z77) dX12_states_14 rfl rfl ?_
      refine mr_iload_n (z := z78) dX12_states_15 rfl rfl ?_
      refine ss_187 dX12_states_16 (A_187 hw) T83 (rIx (n := 8) h101 rfl) (vc_X12_states_4 h81) fun μ102 u103 T104 => ?_
      refine mr_iload_n (z := z78) dX12_states_17 rfl rfl ?_
      refine sv_aload_n dX12_states_18 rfl rfl ?_
      refine gf_X12_118 dX12_states_19 wF_X12_514 (A_106 hw) T104 ?_
      refine mr_iload_n (z := z77) dX12_states_22 rfl rfl ?_
      refine la_184 dX12_states_23 (A_184 hw) T104 (rIx (n := 7) h101 rfl) fun z105 q106 h107 => ?_
      refine mr_iconst (z := 1) dX12_states_24 ?_
      refine mr_iadd (x := z105) (y := 1) dX12_states_25 ?_
      refine mr_imul (x := z78) (y := (z105 + 1)) dX12_states_26 ?_
      refine mr_wrap fun z108 h109 => ?_
      refine mr_istore_n (lv' := [(1, iv z108), (0, .ref 106), (2, iv z77)]) dX12_states_27 rfl (by decide) rfl ?_
      refine mr_iinc (lv' := [(2, iv (z77 + (-1))), (1, iv z108), (0, .ref 106)]) dX12_states_28 rfl (by decide) rfl ?_
      refine sv_goto (tgt := 5) dX12_states_31 (by decide) ?_
      refine mr_lvS (lv' := [(0, .ref 106), (1, iv z108), (2, iv (z77 + (-1)))]) (List.forall_mem_cons.mpr ⟨rfl, List.forall_mem_cons.mpr ⟨rfl, List.forall_mem_cons.mpr ⟨rfl, fun _ h => absurd h List.not_mem_nil⟩⟩⟩) ?_
      exact ih87 z108 (z77 + (-1)) μ102 T104 (mF.up (mF.call mF.refl F84 rfl) (A_187 hw) u103 rfl) h109 (rW (c := 0) (d := 6) (rAdd (e := 0) (f := 5) h101 (rR (x := (-1))) rfl) rfl) (vc_X12_states_5 (nS h86) h99 h101)
  refine mr_lvS (lv' := [(0, .ref 106), (1, iv 1), (2, iv 6)]) (List.forall_mem_cons.mpr ⟨rfl, List.forall_mem_cons.mpr ⟨rfl, List.forall_mem_cons.mpr ⟨rfl, fun _ h => absurd h List.not_mem_nil⟩⟩⟩) ?_
  exact L80 8 1 6 μ hT mF.refl (rW (c := (-2147483648)) (d := 2147483647) (rR (x := 1)) rfl) (rW (c := 0) (d := 6) (rR (x := 6)) rfl) vc_X12_states_6
theorem vc_X12_open_1 {z107 : Int} (h0 : (8 - z107) < ((0 : Nat) : Int)) (h1 : 1 ≤ z107 ∧ z107 ≤ 7) : False := by omega
theorem vc_X12_open_2 {z107 : Int} (h0 : 6 < z107) (h1 : 1 ≤ z107 ∧ z107 ≤ 7) : 7 ≤ z107 ∧ z107 ≤ 7 := by omega
theorem vc_X12_open_3 {z107 : Int} (h0 : z107 ≤ 6) (h1 : 1 ≤ z107 ∧ z107 ≤ 7) : 1 ≤ z107 ∧ z107 ≤ 6 := by omega
theorem vc_X12_open_4 {p1 : Int} (h0 : (-2147483648) ≤ p1 ∧ p1 ≤ 2147483647) : 0 ≤ p1 ∧ p1 ≤ 2147483647 := by omega
theorem vc_X12_open_5 {z136 : Int} (h0 : 0 ≤ z136 ∧ z136 ≤ 46656) : 0 < z136 ∧ z136 ≤ 2147483647 := by omega
theorem vc_X12_open_6 {z142 : Int} (h0 : 0 ≤ z142 ∧ z142 ≤ 5) : 0 < (z142 + 1) ∧ (z142 + 1) ≤ 2147483647 := by omega
theorem vc_X12_open_7 {N z107 : Int} (h0 : (8 - z107) < N + 1) (h1 : z107 ≤ 6) (h2 : 1 ≤ z107 ∧ z107 ≤ 6) : (8 - (z107 + 1)) < N := by omega
theorem vc_X12_open_8  : (8 - 1) < ((8 : Nat) : Int) := by omega
set_option maxRecDepth 4000 in
set_option maxHeartbeats 4000000 in
theorem c_X12_open {l : Launch} {D : va_G} {c : Nat → ClassId} {H0 : Heap} {sa : Nat × Nat × (Nat → Int32)} {w : mW} {μ : mM} (hw : mWF w) (hT : mT w μ) {p1 : Int} (hp1 : (-2147483648) ≤ p1 ∧ p1 ≤ 2147483647) : sC (gG l D c H0 sa) mX12_open 1 0 0 [.ref 106, iv p1] (mk w μ) (qV w [188999] μ (fun μ1 => True)) := by
  refine sC.of rfl (by decide) (le_t rfl) ?_
  refine mr_lvE (lv' := [(0, .ref 106), (1, iv p1)]) rfl ?_
  refine mr_iconst (z := 1) dX12_open_0 ?_
  refine mr_istore_n (lv' := [(2, iv 1), (0, .ref 106), (1, iv p1)]) dX12_open_1 rfl (by decide) rfl ?_
  have L109 : ∀ (nL109 : Nat) (z107 : Int) (μ108 : mM), mT w μ108 → mF [188999] w μ μ108 → (1 ≤ z107 ∧ z107 ≤ 7) → (8 - z107) < (nL109 : Int) → sV (gG l D c H0 sa) mX12_open (sRm 1 0 0) (sZ (gG l D c H0 sa) 0 0 (qV w [188999] μ (fun μ1 => True))) 2 [(0, .ref 106), (1, iv p1), (2, iv z107)] [] (mk w μ108) 0 0 := by
    intro nL109
    induction nL109 with
    | zero => intro z107 μ108 T111 F112 h110 h114; exact ((vc_X12_open_1 h114 h110)).elim
    | succ nL109 ih115 =>
      intro z107 μ108 T111 F112 h110 h114
      refine mr_iload_n (z := z107) dX12_open_2 rfl rfl ?_
      refine mr_bipush (z := 6) dX12_open_3 (by decide) ?_
      refine mr_icmp_gt (tgt := 37) dX12_open_5 (by decide) (r32 h110 rfl) (r32 (rR (x := 6)) rfl) (fun h133 => ?_) (fun h133 => ?_)
      · have h134 : 7 ≤ z107 ∧ z107 ≤ 7 := (vc_X12_open_2 h133 h110)
        exact mr_vret dX12_open_37 rfl (le_t rfl) (le_t rfl) T111 (mF.call mF.refl F112 rfl) trivial
      have h135 : 1 ≤ z107 ∧ z107 ≤ 6 := (vc_X12_open_3 h133 h110)
      refine sv_aload_n dX12_open_8 rfl rfl ?_
      refine gf_X12_122 dX12_open_9 wF_X12_526 (A_106 hw) T111 ?_
      refine mr_iload_n (z := z107) dX12_open_12 rfl rfl ?_
      refine mr_iload_n (z := p1) dX12_open_13 rfl rfl ?_
      refine sv_aload_n dX12_open_14 rfl rfl ?_
      refine gf_X12_121 dX12_open_15 wF_X12_523 (A_106 hw) T111 ?_
      refine mr_iload_n (z := z107) dX12_open_18 rfl rfl ?_
      refine la_187 dX12_open_19 (A_187 hw) T111 (rIx (n := 8) h135 rfl) fun z136 q137 h138 => ?_
      refine mr_idiv (x := p1) (y := z136) dX12_open_20 (vc_X12_open_4 hp1) (vc_X12_open_5 h138) ?_
      refine mr_gen (P := fun z => 0 ≤ z ∧ z ≤ 2147483647) (rDivV hp1 (vc_X12_open_5 h138) rfl) fun z139 q140 h141 => ?_
      refine sv_aload_n dX12_open_21 rfl rfl ?_
      refine gf_X12_118 dX12_open_22 wF_X12_514 (A_106 hw) T111 ?_
      refine mr_iload_n (z := z107) dX12_open_25 rfl rfl ?_
      refine la_184 dX12_open_26 (A_184 hw) T111 (rIx (n := 7) h135 rfl) fun z142 q143 h144 => ?_
      refine mr_iconst (z := 1) dX12_open_27 ?_
      refine mr_iadd (x := z142) (y := 1) dX12_open_28 ?_
      refine mr_irem (x := z139) (y := (z142 + 1)) dX12_open_29 h141 (vc_X12_open_6 h144) ?_
      refine mr_gen (P := fun z => 0 ≤ z ∧ z ≤ 5) (rModV (rAdd (e := 1) (f := 6) h144 (rR (x := 1)) rfl) (vc_X12_open_6 h144) rfl) fun z145 q146 h147 => ?_
      refine ss_188 dX12_open_30 (A_188 hw) T111 (rIx (n := 7) h135 rfl) h147 fun μ148 u149 T150 => ?_
      refine mr_iinc (lv' := [(2, iv (z107 + 1)), (0, .ref 106), (1, iv p1)]) dX12_open_31 rfl (by decide) rfl ?_
      refine sv_goto (tgt := 2) dX12_open_34 (by decide) ?_
      refine mr_lvS (lv' := [(0, .ref 106), (1, iv p1), (2, iv (z107 + 1))]) (List.forall_mem_cons.mpr ⟨rfl, List.forall_mem_cons.mpr ⟨rfl, List.forall_mem_cons.mpr ⟨rfl, fun _ h => absurd h List.not_mem_nil⟩⟩⟩) ?_
      exact ih115 (z107 + 1) μ148 T150 (mF.up (mF.call mF.refl F112 rfl) (A_188 hw) u149 rfl) (rW (c := 1) (d := 7) (rAdd (e := 2) (f := 7) h135 (rR (x := 1)) rfl) rfl) (vc_X12_open_7 (nS h114) h133 h135)
  refine mr_lvS (lv' := [(0, .ref 106), (1, iv p1), (2, iv 1)]) (List.forall_mem_cons.mpr ⟨rfl, List.forall_mem_cons.mpr ⟨rfl, List.forall_mem_cons.mpr ⟨rfl, fun _ h => absurd h List.not_mem_nil⟩⟩⟩) ?_
  exact L109 8 1 μ hT mF.refl (rW (c := 1) (d := 7) (rR (x := 1)) rfl) vc_X12_open_8
theorem vc_X12_isOffered_1 {z1 : Int} (h0 : ¬ z1 = 0) (h1 : 0 ≤ z1 ∧ z1 ≤ 6) : 1 ≤ z1 ∧ z1 ≤ 6 := by omega
theorem vc_X12_isOffered_2 {z1 z6 z9 : Int} (h0 : ¬ z1 = 0) (h1 : ¬ z6 = z9) (h2 : 1 ≤ z1 ∧ z1 ≤ 6) (h3 : 0 ≤ z6 ∧ z6 ≤ 5) (h4 : 0 ≤ z9 ∧ z9 ≤ 5) : 0 ≤ ((5 * z1) + z6) ∧ ((5 * z1) + z6) < 35 := by omega
theorem vc_X12_isOffered_3 {z132 : Int} (h0 : (8 - z132) < ((0 : Nat) : Int)) (h1 : 0 ≤ z132 ∧ z132 ≤ 7) : False := by omega
theorem vc_X12_isOffered_4 {z13 z132 : Int} (h0 : z132 < z13) (h1 : 0 ≤ z13 ∧ z13 ≤ 7) (h2 : 0 ≤ z132 ∧ z132 ≤ 7) : 0 ≤ z132 ∧ z132 ≤ 6 := by omega
theorem vc_X12_isOffered_5 {z13 z132 : Int} (h0 : z132 < z13) (h1 : 0 ≤ z13 ∧ z13 ≤ 7) (h2 : 0 ≤ z132 ∧ z132 ≤ 6) : 1 ≤ z13 ∧ z13 ≤ 7 := by omega
theorem vc_X12_isOffered_6 {z133 : Int} (h0 : z133 = 0) (h1 : 0 ≤ z133 ∧ z133 ≤ 1) : 0 ≤ z133 ∧ z133 ≤ 0 := by omega
theorem vc_X12_isOffered_7 {z133 : Int} (h0 : ¬ z133 = 0) (h1 : 0 ≤ z133 ∧ z133 ≤ 1) : 1 ≤ z133 ∧ z133 ≤ 1 := by omega
theorem vc_X12_isOffered_8 {z1 z13 z132 z6 z9 : Int} (h0 : ¬ z1 = 0) (h1 : ¬ z6 = z9) (h2 : z132 < z13) (h3 : 1 ≤ z1 ∧ z1 ≤ 6) (h4 : 1 ≤ z13 ∧ z13 ≤ 7) (h5 : 0 ≤ z132 ∧ z132 ≤ 6) (h6 : 0 ≤ z6 ∧ z6 ≤ 5) (h7 : 0 ≤ z9 ∧ z9 ≤ 5) : 0 ≤ ((8 * ((5 * z1) + z6)) + z132) ∧ ((8 * ((5 * z1) + z6)) + z132) < 280 := by omega
theorem vc_X12_isOffered_9 {N z13 z132 : Int} (h0 : (8 - z132) < N + 1) (h1 : z132 < z13) (h2 : 1 ≤ z13 ∧ z13 ≤ 7) (h3 : 0 ≤ z132 ∧ z132 ≤ 6) : (8 - (z132 + 1)) < N := by omega
theorem vc_X12_isOffered_10  : (8 - 0) < ((9 : Nat) : Int) := by omega
theorem vc_X12_isOffered_11 {z13 z16 : Int} (h0 : z13 = (z16 - 1)) (h1 : 0 ≤ z13 ∧ z13 ≤ 7) (h2 : 0 ≤ z16 ∧ z16 ≤ 7) : 0 ≤ z13 ∧ z13 ≤ 6 := by omega
theorem vc_X12_isOffered_12 {z13 z16 : Int} (h0 : z13 = (z16 - 1)) (h1 : 0 ≤ z13 ∧ z13 ≤ 6) (h2 : 0 ≤ z16 ∧ z16 ≤ 7) : 1 ≤ z16 ∧ z16 ≤ 7 := by omega
theorem vc_X12_isOffered_13 {z1 : Int} (h0 : z1 = 0) (h1 : 0 ≤ z1 ∧ z1 ≤ 6) : 0 ≤ z1 ∧ z1 ≤ 0 := by omega
theorem vc_X12_isOffered_14 {z177 : Int} (h0 : z177 = 2) (h1 : 0 ≤ z177 ∧ z177 ≤ 7) : 2 ≤ z177 ∧ z177 ≤ 2 := by omega
set_option maxRecDepth 4000 in
set_option maxHeartbeats 4000000 in
theorem c_X12_isOffered {l : Launch} {D : va_G} {c : Nat → ClassId} {H0 : Heap} {sa : Nat × Nat × (Nat → Int32)} {w : mW} {μ : mM} (hw : mWF w) (hT : mT w μ) {p1 : Int} (hp1 : 5 ≤ p1 ∧ p1 ≤ 34) : sC (gG l D c H0 sa) mX12_isOffered 1 0 0 [.ref 106, iv p1] (mk w μ) (qP w μ (fun z => (0 ≤ z ∧ z ≤ 1) ∧ True)) := by
  refine sC.of rfl (by decide) (le_t rfl) ?_
  refine mr_lvE (lv' := [(0, .ref 106), (1, iv p1)]) rfl ?_
  refine sv_aload_n dX12_isOffered_0 rfl rfl ?_
  refine gf_X12_120 dX12_isOffered_1 wF_X12_520 (A_106 hw) hT ?_
  refine mr_bipush (z := 8) dX12_isOffered_4 (by decide) ?_
  refine mr_iload_n (z := p1) dX12_isOffered_6 rfl rfl ?_
  refine mr_imul (x := 8) (y := p1) dX12_isOffered_7 ?_
  refine mr_iconst (z := 1) dX12_isOffered_8 ?_
  refine mr_iadd (x := (8 * p1)) (y := 1) dX12_isOffered_9 ?_
  refine la_186 dX12_isOffered_10 (A_186 hw) hT (rIx (n := 280) (rAdd (e := 41) (f := 273) (rMulL (n := 8) (e := 40) (f := 272) hp1 rfl) (rR (x := 1)) rfl) rfl) fun z1 q2 h3 => ?_
  refine mr_istore_n (lv' := [(2, iv z1), (0, .ref 106), (1, iv p1)]) dX12_isOffered_11 rfl (by decide) rfl ?_
  refine mr_iload_n (z := z1) dX12_isOffered_12 rfl rfl ?_
  refine mr_if_ne (tgt := 32) dX12_isOffered_13 (by decide) (r32 h3 rfl) (fun h4 => ?_) (fun h4 => ?_)
  · have h5 : 1 ≤ z1 ∧ z1 ≤ 6 := (vc_X12_isOffered_1 h4 h3)
    refine sv_aload_n dX12_isOffered_32 rfl rfl ?_
    refine gf_X12_122 dX12_isOffered_33 wF_X12_526 (A_106 hw) hT ?_
    refine mr_iload_n (z := z1) dX12_isOffered_36 rfl rfl ?_
    refine la_188 dX12_isOffered_37 (A_188 hw) hT (rIx (n := 7) h5 rfl) fun z6 q7 h8 => ?_
    refine sv_aload_n dX12_isOffered_38 rfl rfl ?_
    refine gf_X12_118 dX12_isOffered_39 wF_X12_514 (A_106 hw) hT ?_
    refine mr_iload_n (z := z1) dX12_isOffered_42 rfl rfl ?_
    refine la_184 dX12_isOffered_43 (A_184 hw) hT (rIx (n := 7) h5 rfl) fun z9 q10 h11 => ?_
    refine mr_icmp_ne (tgt := 49) dX12_isOffered_44 (by decide) (r32 h8 rfl) (r32 h11 rfl) (fun h12 => ?_) (fun h12 => ?_)
    · refine mr_iconst (z := 5) dX12_isOffered_49 ?_
      refine mr_iload_n (z := z1) dX12_isOffered_50 rfl rfl ?_
      refine mr_imul (x := 5) (y := z1) dX12_isOffered_51 ?_
      refine sv_aload_n dX12_isOffered_52 rfl rfl ?_
      refine gf_X12_122 dX12_isOffered_53 wF_X12_526 (A_106 hw) hT ?_
      refine mr_iload_n (z := z1) dX12_isOffered_56 rfl rfl ?_
      refine lk_188 dX12_isOffered_57 (A_188 hw) (rIx (n := 7) h5 rfl) q7 ?_
      refine mr_iadd (x := (5 * z1)) (y := z6) dX12_isOffered_58 ?_
      refine mr_istore_n (lv' := [(3, iv ((5 * z1) + z6)), (2, iv z1), (0, .ref 106), (1, iv p1)]) dX12_isOffered_59 rfl (by decide) rfl ?_
      refine sv_aload_n dX12_isOffered_60 rfl rfl ?_
      refine gf_X12_119 dX12_isOffered_61 wF_X12_517 (A_106 hw) hT ?_
      refine mr_iload_n (z := ((5 * z1) + z6)) dX12_isOffered_64 rfl rfl ?_
      refine la_185 dX12_isOffered_65 (A_185 hw) hT (vc_X12_isOffered_2 h4 h12 h5 h8 h11) fun z13 q14 h15 => ?_
      refine sv_aload_n dX12_isOffered_66 rfl rfl ?_
      refine gf_X12_119 dX12_isOffered_67 wF_X12_517 (A_106 hw) hT ?_
      refine mr_iload_n (z := p1) dX12_isOffered_70 rfl rfl ?_
      refine la_185 dX12_isOffered_71 (A_185 hw) hT (rIx (n := 35) hp1 rfl) fun z16 q17 h18 => ?_
      refine mr_iconst (z := 1) dX12_isOffered_72 ?_
      refine mr_isub (x := z16) (y := 1) dX12_isOffered_73 ?_
      have J23 : ∀ (z21 : Int), (0 ≤ z21 ∧ z21 ≤ 1) → sV (gG l D c H0 sa) mX12_isOffered (sRm 1 0 0) (sZ (gG l D c H0 sa) 0 0 (qP w μ (fun z => (0 ≤ z ∧ z ≤ 1) ∧ True))) 82 [(0, .ref 106), (1, iv p1), (3, iv ((5 * z1) + z6))] [iv z21] (mk w μ) 0 0 := by
        intro z21 h22
        refine mr_istore (lv' := [(4, iv z21), (0, .ref 106), (1, iv p1), (3, iv ((5 * z1) + z6))]) dX12_isOffered_82 (by decide) rfl ?_
        refine mr_iconst (z := 0) dX12_isOffered_84 ?_
        refine mr_istore (lv' := [(5, iv 0), (4, iv z21), (0, .ref 106), (1, iv p1), (3, iv ((5 * z1) + z6))]) dX12_isOffered_85 (by decide) rfl ?_
        have L134 : ∀ (nL134 : Nat) (z133 z132 : Int), True → (0 ≤ z133 ∧ z133 ≤ 1) → (0 ≤ z132 ∧ z132 ≤ 7) → (8 - z132) < (nL134 : Int) → sV (gG l D c H0 sa) mX12_isOffered (sRm 1 0 0) (sZ (gG l D c H0 sa) 0 0 (qP w μ (fun z => (0 ≤ z ∧ z ≤ 1) ∧ True))) 87 [(0, .ref 106), (1, iv p1), (3, iv ((5 * z1) + z6)), (4, iv z133), (5, iv z132)] [] (mk w μ) 0 0 := by
          intro nL134
          induction nL134 with
          | zero => intro z133 z132 _ h135 h136 h140; exact ((vc_X12_isOffered_3 h140 h136)).elim
          | succ nL134 ih141 =>
            intro z133 z132 _ h135 h136 h140
            refine mr_iload (z := z132) dX12_isOffered_87 rfl ?_
            refine sv_aload_n dX12_isOffered_89 rfl rfl ?_
            refine gf_X12_119 dX12_isOffered_90 wF_X12_517 (A_106 hw) hT ?_
            refine mr_iload_n (z := ((5 * z1) + z6)) dX12_isOffered_93 rfl rfl ?_
            refine lk_185 dX12_isOffered_94 (A_185 hw) (vc_X12_isOffered_2 h4 h12 h5 h8 h11) q14 ?_
            refine mr_icmp_ge (tgt := 145) dX12_isOffered_95 (by decide) (r32 h136 rfl) (r32 h15 rfl) (fun h152 => ?_) (fun h152 => ?_)
            · refine mr_iload (z := z133) dX12_isOffered_145 rfl ?_
              exact mr_zretP dX12_isOffered_147 rfl h135 (le_t rfl) (le_t rfl) ⟨h135, trivial⟩
            have h153 : 0 ≤ z132 ∧ z132 ≤ 6 := (vc_X12_isOffered_4 h152 h15 h136)
            have h154 : 1 ≤ z13 ∧ z13 ≤ 7 := (vc_X12_isOffered_5 h152 h15 h153)
            refine mr_iload (z := z133) dX12_isOffered_98 rfl ?_
            refine mr_if_eq (tgt := 145) dX12_isOffered_100 (by decide) (r32 h135 rfl) (fun h163 => ?_) (fun h163 => ?_)
            · have h164 : 0 ≤ z133 ∧ z133 ≤ 0 := (vc_X12_isOffered_6 h163 h135)
              refine mr_iload (z := z133) dX12_isOffered_145 rfl ?_
              exact mr_zretP dX12_isOffered_147 rfl (rW (c := 0) (d := 1) h164 rfl) (le_t rfl) (le_t rfl) ⟨(rW (c := 0) (d := 1) h164 rfl), trivial⟩
            have h165 : 1 ≤ z133 ∧ z133 ≤ 1 := (vc_X12_isOffered_7 h163 h135)
            refine sv_aload_n dX12_isOffered_103 rfl rfl ?_
            refine gf_X12_120 dX12_isOffered_104 wF_X12_520 (A_106 hw) hT ?_
            refine mr_bipush (z := 8) dX12_isOffered_107 (by decide) ?_
            refine mr_iload_n (z := ((5 * z1) + z6)) dX12_isOffered_109 rfl rfl ?_
            refine mr_imul (x := 8) (y := ((5 * z1) + z6)) dX12_isOffered_110 ?_
            refine mr_iload (z := z132) dX12_isOffered_111 rfl ?_
            refine mr_iadd (x := (8 * ((5 * z1) + z6))) (y := z132) dX12_isOffered_113 ?_
            refine la_186 dX12_isOffered_114 (A_186 hw) hT (vc_X12_isOffered_8 h4 h12 h152 h5 h154 h153 h8 h11) fun z166 q167 h168 => ?_
            refine sv_aload_n dX12_isOffered_115 rfl rfl ?_
            refine gf_X12_120 dX12_isOffered_116 wF_X12_520 (A_106 hw) hT ?_
            refine mr_bipush (z := 8) dX12_isOffered_119 (by decide) ?_
            refine mr_iload_n (z := p1) dX12_isOffered_121 rfl rfl ?_
            refine mr_imul (x := 8) (y := p1) dX12_isOffered_122 ?_
            refine mr_iload (z := z132) dX12_isOffered_123 rfl ?_
            refine mr_iadd (x := (8 * p1)) (y := z132) dX12_isOffered_125 ?_
            refine mr_iconst (z := 1) dX12_isOffered_126 ?_
            refine mr_iadd (x := ((8 * p1) + z132)) (y := 1) dX12_isOffered_127 ?_
            refine la_186 dX12_isOffered_128 (A_186 hw) hT (rIx (n := 280) (rAdd (e := 41) (f := 279) (rAdd (e := 40) (f := 278) (rMulL (n := 8) (e := 40) (f := 272) hp1 rfl) h153 rfl) (rR (x := 1)) rfl) rfl) fun z169 q170 h171 => ?_
            refine mr_icmp_ne (tgt := 136) dX12_isOffered_129 (by decide) (r32 h168 rfl) (r32 h171 rfl) (fun h172 => ?_) (fun h172 => ?_)
            · refine mr_iconst (z := 0) dX12_isOffered_136 ?_
              refine mr_istore (lv' := [(4, iv 0), (0, .ref 106), (1, iv p1), (3, iv ((5 * z1) + z6)), (5, iv z132)]) dX12_isOffered_137 (by decide) rfl ?_
              refine mr_iinc (lv' := [(5, iv (z132 + 1)), (4, iv 0), (0, .ref 106), (1, iv p1), (3, iv ((5 * z1) + z6))]) dX12_isOffered_139 rfl (by decide) rfl ?_
              refine sv_goto (tgt := 87) dX12_isOffered_142 (by decide) ?_
              refine mr_lvS (lv' := [(0, .ref 106), (1, iv p1), (3, iv ((5 * z1) + z6)), (4, iv 0), (5, iv (z132 + 1))]) (List.forall_mem_cons.mpr ⟨rfl, List.forall_mem_cons.mpr ⟨rfl, List.forall_mem_cons.mpr ⟨rfl, List.forall_mem_cons.mpr ⟨rfl, List.forall_mem_cons.mpr ⟨rfl, fun _ h => absurd h List.not_mem_nil⟩⟩⟩⟩⟩) ?_
              exact ih141 0 (z132 + 1) trivial (rW (c := 0) (d := 1) (rR (x := 0)) rfl) (rW (c := 0) (d := 7) (rAdd (e := 1) (f := 7) h153 (rR (x := 1)) rfl) rfl) (vc_X12_isOffered_9 (nS h140) h152 h154 h153)
            refine mr_iconst (z := 1) dX12_isOffered_132 ?_
            refine sv_goto (tgt := 137) dX12_isOffered_133 (by decide) ?_
            refine mr_istore (lv' := [(4, iv 1), (0, .ref 106), (1, iv p1), (3, iv ((5 * z1) + z6)), (5, iv z132)]) dX12_isOffered_137 (by decide) rfl ?_
            refine mr_iinc (lv' := [(5, iv (z132 + 1)), (4, iv 1), (0, .ref 106), (1, iv p1), (3, iv ((5 * z1) + z6))]) dX12_isOffered_139 rfl (by decide) rfl ?_
            refine sv_goto (tgt := 87) dX12_isOffered_142 (by decide) ?_
            refine mr_lvS (lv' := [(0, .ref 106), (1, iv p1), (3, iv ((5 * z1) + z6)), (4, iv 1), (5, iv (z132 + 1))]) (List.forall_mem_cons.mpr ⟨rfl, List.forall_mem_cons.mpr ⟨rfl, List.forall_mem_cons.mpr ⟨rfl, List.forall_mem_cons.mpr ⟨rfl, List.forall_mem_cons.mpr ⟨rfl, fun _ h => absurd h List.not_mem_nil⟩⟩⟩⟩⟩) ?_
            exact ih141 1 (z132 + 1) trivial (rW (c := 0) (d := 1) (rR (x := 1)) rfl) (rW (c := 0) (d := 7) (rAdd (e := 1) (f := 7) h153 (rR (x := 1)) rfl) rfl) (vc_X12_isOffered_9 (nS h140) h152 h154 h153)
        refine mr_lvS (lv' := [(0, .ref 106), (1, iv p1), (3, iv ((5 * z1) + z6)), (4, iv z21), (5, iv 0)]) (List.forall_mem_cons.mpr ⟨rfl, List.forall_mem_cons.mpr ⟨rfl, List.forall_mem_cons.mpr ⟨rfl, List.forall_mem_cons.mpr ⟨rfl, List.forall_mem_cons.mpr ⟨rfl, fun _ h => absurd h List.not_mem_nil⟩⟩⟩⟩⟩) ?_
        exact L134 9 z21 0 trivial h22 (rW (c := 0) (d := 7) (rR (x := 0)) rfl) vc_X12_isOffered_10
      refine mr_icmp_ne (tgt := 81) dX12_isOffered_74 (by decide) (r32 h15 rfl) (r32 (rSub (e := (-1)) (f := 6) h18 (rR (x := 1)) rfl) rfl) (fun h173 => ?_) (fun h173 => ?_)
      · refine mr_iconst (z := 0) dX12_isOffered_81 ?_
        refine mr_lvS (lv' := [(0, .ref 106), (1, iv p1), (3, iv ((5 * z1) + z6))]) (List.forall_mem_cons.mpr ⟨rfl, List.forall_mem_cons.mpr ⟨rfl, List.forall_mem_cons.mpr ⟨rfl, fun _ h => absurd h List.not_mem_nil⟩⟩⟩) ?_
        exact J23 0 (rW (c := 0) (d := 1) (rR (x := 0)) rfl)
      have h174 : 0 ≤ z13 ∧ z13 ≤ 6 := (vc_X12_isOffered_11 h173 h15 h18)
      have h175 : 1 ≤ z16 ∧ z16 ≤ 7 := (vc_X12_isOffered_12 h173 h174 h18)
      refine mr_iconst (z := 1) dX12_isOffered_77 ?_
      refine sv_goto (tgt := 82) dX12_isOffered_78 (by decide) ?_
      refine mr_lvS (lv' := [(0, .ref 106), (1, iv p1), (3, iv ((5 * z1) + z6))]) (List.forall_mem_cons.mpr ⟨rfl, List.forall_mem_cons.mpr ⟨rfl, List.forall_mem_cons.mpr ⟨rfl, fun _ h => absurd h List.not_mem_nil⟩⟩⟩) ?_
      exact J23 1 (rW (c := 0) (d := 1) (rR (x := 1)) rfl)
    refine mr_iconst (z := 0) dX12_isOffered_47 ?_
    exact mr_zretP dX12_isOffered_48 rfl (rW (c := 0) (d := 1) (rR (x := 0)) rfl) (le_t rfl) (le_t rfl) ⟨(rW (c := 0) (d := 1) (rR (x := 0)) rfl), trivial⟩
  have h176 : 0 ≤ z1 ∧ z1 ≤ 0 := (vc_X12_isOffered_13 h4 h3)
  refine sv_aload_n dX12_isOffered_16 rfl rfl ?_
  refine gf_X12_119 dX12_isOffered_17 wF_X12_517 (A_106 hw) hT ?_
  refine mr_iload_n (z := p1) dX12_isOffered_20 rfl rfl ?_
  refine la_185 dX12_isOffered_21 (A_185 hw) hT (rIx (n := 35) hp1 rfl) fun z177 q178 h179 => ?_
  refine mr_iconst (z := 2) dX12_isOffered_22 ?_
  refine mr_icmp_ne (tgt := 30) dX12_isOffered_23 (by decide) (r32 h179 rfl) (r32 (rR (x := 2)) rfl) (fun h181 => ?_) (fun h181 => ?_)
  · refine mr_iconst (z := 0) dX12_isOffered_30 ?_
    exact mr_zretP dX12_isOffered_31 rfl (rW (c := 0) (d := 1) (rR (x := 0)) rfl) (le_t rfl) (le_t rfl) ⟨(rW (c := 0) (d := 1) (rR (x := 0)) rfl), trivial⟩
  have h182 : 2 ≤ z177 ∧ z177 ≤ 2 := (vc_X12_isOffered_14 h181 h179)
  refine mr_iconst (z := 1) dX12_isOffered_26 ?_
  refine sv_goto (tgt := 31) dX12_isOffered_27 (by decide) ?_
  exact mr_zretP dX12_isOffered_31 rfl (rW (c := 0) (d := 1) (rR (x := 1)) rfl) (le_t rfl) (le_t rfl) ⟨(rW (c := 0) (d := 1) (rR (x := 1)) rfl), trivial⟩
theorem vc_X12_acted_1 {z66 : Int} (h0 : (6 - z66) < ((0 : Nat) : Int)) (h1 : 0 ≤ z66 ∧ z66 ≤ 5) : False := by omega
theorem vc_X12_acted_2 {z66 z74 : Int} (h0 : z66 < z74) (h1 : 0 ≤ z66 ∧ z66 ≤ 5) (h2 : 0 ≤ z74 ∧ z74 ≤ 5) : 0 ≤ z66 ∧ z66 ≤ 4 := by omega
theorem vc_X12_acted_3 {z66 z74 : Int} (h0 : z66 < z74) (h1 : 0 ≤ z66 ∧ z66 ≤ 4) (h2 : 0 ≤ z74 ∧ z74 ≤ 5) : 1 ≤ z74 ∧ z74 ≤ 5 := by omega
theorem vc_X12_acted_4 {z84 : Int} (h0 : z84 = 0) (h1 : 0 ≤ z84 ∧ z84 ≤ 1) : 0 ≤ z84 ∧ z84 ≤ 0 := by omega
theorem vc_X12_acted_5 {N z66 z74 : Int} (h0 : (6 - z66) < N + 1) (h1 : z66 < z74) (h2 : 0 ≤ z66 ∧ z66 ≤ 4) (h3 : 1 ≤ z74 ∧ z74 ≤ 5) : (6 - (z66 + 1)) < N := by omega
theorem vc_X12_acted_6 {z84 : Int} (h0 : ¬ z84 = 0) (h1 : 0 ≤ z84 ∧ z84 ≤ 1) : 1 ≤ z84 ∧ z84 ≤ 1 := by omega
theorem vc_X12_acted_7  : (6 - 0) < ((7 : Nat) : Int) := by omega
set_option maxRecDepth 4000 in
set_option maxHeartbeats 4000000 in
theorem c_X12_acted {l : Launch} {D : va_G} {c : Nat → ClassId} {H0 : Heap} {sa : Nat × Nat × (Nat → Int32)} {w : mW} {μ : mM} (hw : mWF w) (hT : mT w μ) {p1 : Int} (hp1 : 1 ≤ p1 ∧ p1 ≤ 6) : sC (gG l D c H0 sa) mX12_acted 2 0 0 [.ref 106, iv p1] (mk w μ) (qP w μ (fun z => (0 ≤ z ∧ z ≤ 5) ∧ True)) := by
  refine sC.of rfl (by decide) (le_t rfl) ?_
  refine mr_lvE (lv' := [(0, .ref 106), (1, iv p1)]) rfl ?_
  refine mr_iconst (z := 0) dX12_acted_0 ?_
  refine mr_istore_n (lv' := [(2, iv 0), (0, .ref 106), (1, iv p1)]) dX12_acted_1 rfl (by decide) rfl ?_
  have L67 : ∀ (nL67 : Nat) (z66 : Int), True → (0 ≤ z66 ∧ z66 ≤ 5) → (6 - z66) < (nL67 : Int) → sV (gG l D c H0 sa) mX12_acted (sRm 2 0 0) (sZ (gG l D c H0 sa) 0 0 (qP w μ (fun z => (0 ≤ z ∧ z ≤ 5) ∧ True))) 2 [(0, .ref 106), (1, iv p1), (2, iv z66)] [] (mk w μ) 0 0 := by
    intro nL67
    induction nL67 with
    | zero => intro z66 _ h68 h72; exact ((vc_X12_acted_1 h72 h68)).elim
    | succ nL67 ih73 =>
      intro z66 _ h68 h72
      refine mr_iload_n (z := z66) dX12_acted_2 rfl rfl ?_
      refine sv_aload_n dX12_acted_3 rfl rfl ?_
      refine gf_X12_118 dX12_acted_4 wF_X12_514 (A_106 hw) hT ?_
      refine mr_iload_n (z := p1) dX12_acted_7 rfl rfl ?_
      refine la_184 dX12_acted_8 (A_184 hw) hT (rIx (n := 7) hp1 rfl) fun z74 q75 h76 => ?_
      refine mr_icmp_ge (tgt := 32) dX12_acted_9 (by decide) (r32 h68 rfl) (r32 h76 rfl) (fun h77 => ?_) (fun h77 => ?_)
      · refine sv_aload_n dX12_acted_32 rfl rfl ?_
        refine gf_X12_118 dX12_acted_33 wF_X12_514 (A_106 hw) hT ?_
        refine mr_iload_n (z := p1) dX12_acted_36 rfl rfl ?_
        refine lk_184 dX12_acted_37 (A_184 hw) (rIx (n := 7) hp1 rfl) q75 ?_
        exact mr_iretP dX12_acted_38 rfl (le_t rfl) (le_t rfl) ⟨h76, trivial⟩
      have h78 : 0 ≤ z66 ∧ z66 ≤ 4 := (vc_X12_acted_2 h77 h68 h76)
      have h79 : 1 ≤ z74 ∧ z74 ≤ 5 := (vc_X12_acted_3 h77 h78 h76)
      refine sv_aload_n dX12_acted_12 rfl rfl ?_
      refine mr_iconst (z := 5) dX12_acted_13 ?_
      refine mr_iload_n (z := p1) dX12_acted_14 rfl rfl ?_
      refine mr_imul (x := 5) (y := p1) dX12_acted_15 ?_
      refine mr_iload_n (z := z66) dX12_acted_16 rfl rfl ?_
      refine mr_iadd (x := (5 * p1)) (y := z66) dX12_acted_17 ?_
      refine mr_cVP (c_X12_isOffered hw hT (rAdd (e := 5) (f := 34) (rMulL (n := 5) (e := 5) (f := 30) hp1 rfl) h78 rfl)) (gOk _ _ _ _ _) dX12_acted_18 (tX12_isOffered _ _ _ _ _) ⟨wV_X12_isOffered, wL_X12_isOffered⟩ wM_X12_719 (gCX12 _ _ _ _ _) rfl (A_106 hw) rfl ⟨le_t rfl, le_t rfl⟩ ⟨le_t rfl, le_t rfl⟩ rfl (le_t rfl) fun z84 h83 => ?_
      refine mr_if_eq (tgt := 26) dX12_acted_21 (by decide) (r32 h83.1 rfl) (fun h85 => ?_) (fun h85 => ?_)
      · have h86 : 0 ≤ z84 ∧ z84 ≤ 0 := (vc_X12_acted_4 h85 h83.1)
        refine mr_iinc (lv' := [(2, iv (z66 + 1)), (0, .ref 106), (1, iv p1)]) dX12_acted_26 rfl (by decide) rfl ?_
        refine sv_goto (tgt := 2) dX12_acted_29 (by decide) ?_
        refine mr_lvS (lv' := [(0, .ref 106), (1, iv p1), (2, iv (z66 + 1))]) (List.forall_mem_cons.mpr ⟨rfl, List.forall_mem_cons.mpr ⟨rfl, List.forall_mem_cons.mpr ⟨rfl, fun _ h => absurd h List.not_mem_nil⟩⟩⟩) ?_
        exact ih73 (z66 + 1) trivial (rW (c := 0) (d := 5) (rAdd (e := 1) (f := 5) h78 (rR (x := 1)) rfl) rfl) (vc_X12_acted_5 (nS h72) h77 h78 h79)
      have h87 : 1 ≤ z84 ∧ z84 ≤ 1 := (vc_X12_acted_6 h85 h83.1)
      refine mr_iload_n (z := z66) dX12_acted_24 rfl rfl ?_
      exact mr_iretP dX12_acted_25 rfl (le_t rfl) (le_t rfl) ⟨(rW (c := 0) (d := 5) h78 rfl), trivial⟩
  refine mr_lvS (lv' := [(0, .ref 106), (1, iv p1), (2, iv 0)]) (List.forall_mem_cons.mpr ⟨rfl, List.forall_mem_cons.mpr ⟨rfl, List.forall_mem_cons.mpr ⟨rfl, fun _ h => absurd h List.not_mem_nil⟩⟩⟩) ?_
  exact L67 7 0 trivial (rW (c := 0) (d := 5) (rR (x := 0)) rfl) vc_X12_acted_7
theorem vc_X12_isRest_1 {z79 : Int} (h0 : (8 - z79) < ((0 : Nat) : Int)) (h1 : 1 ≤ z79 ∧ z79 ≤ 7) : False := by omega
theorem vc_X12_isRest_2 {z79 : Int} (h0 : 6 < z79) (h1 : 1 ≤ z79 ∧ z79 ≤ 7) : 7 ≤ z79 ∧ z79 ≤ 7 := by omega
theorem vc_X12_isRest_3 {z79 : Int} (h0 : z79 ≤ 6) (h1 : 1 ≤ z79 ∧ z79 ≤ 7) : 1 ≤ z79 ∧ z79 ≤ 6 := by omega
theorem vc_X12_isRest_4 {z80 : Int} (h0 : z80 = 0) (h1 : 0 ≤ z80 ∧ z80 ≤ 1) : 0 ≤ z80 ∧ z80 ≤ 0 := by omega
theorem vc_X12_isRest_5 {z80 : Int} (h0 : ¬ z80 = 0) (h1 : 0 ≤ z80 ∧ z80 ≤ 1) : 1 ≤ z80 ∧ z80 ≤ 1 := by omega
theorem vc_X12_isRest_6 {N z79 : Int} (h0 : (8 - z79) < N + 1) (h1 : z79 ≤ 6) (h2 : 1 ≤ z79 ∧ z79 ≤ 6) : (8 - (z79 + 1)) < N := by omega
theorem vc_X12_isRest_7  : (8 - 1) < ((8 : Nat) : Int) := by omega
set_option maxRecDepth 4000 in
set_option maxHeartbeats 4000000 in
theorem c_X12_isRest {l : Launch} {D : va_G} {c : Nat → ClassId} {H0 : Heap} {sa : Nat × Nat × (Nat → Int32)} {w : mW} {μ : mM} (hw : mWF w) (hT : mT w μ) {p1 : Int} (hp1 : (-2147483648) ≤ p1 ∧ p1 ≤ 2147483647) : sC (gG l D c H0 sa) mX12_isRest 3 0 0 [.ref 106, iv p1] (mk w μ) (qI w [188999] μ (fun z μ1 => (0 ≤ z ∧ z ≤ 1) ∧ True)) := by
  refine sC.of rfl (by decide) (le_t rfl) ?_
  refine mr_lvE (lv' := [(0, .ref 106), (1, iv p1)]) rfl ?_
  refine sv_aload_n dX12_isRest_0 rfl rfl ?_
  refine mr_iload_n (z := p1) dX12_isRest_1 rfl rfl ?_
  refine mr_cVV (c_X12_open hw hT hp1) (gOk _ _ _ _ _) dX12_isRest_2 (tX12_open _ _ _ _ _) ⟨wV_X12_open, wL_X12_open⟩ wM_X12_722 (gCX12 _ _ _ _ _) rfl (A_106 hw) rfl ⟨le_t rfl, le_t rfl⟩ ⟨le_t rfl, le_t rfl⟩ rfl (le_t rfl) fun μ1 T2 F3 h4 => ?_
  refine mr_iconst (z := 1) dX12_isRest_5 ?_
  refine mr_istore_n (lv' := [(2, iv 1), (0, .ref 106), (1, iv p1)]) dX12_isRest_6 rfl (by decide) rfl ?_
  refine mr_iconst (z := 1) dX12_isRest_7 ?_
  refine mr_istore_n (lv' := [(3, iv 1), (2, iv 1), (0, .ref 106), (1, iv p1)]) dX12_isRest_8 rfl (by decide) rfl ?_
  have L81 : ∀ (nL81 : Nat) (z80 z79 : Int), True → (0 ≤ z80 ∧ z80 ≤ 1) → (1 ≤ z79 ∧ z79 ≤ 7) → (8 - z79) < (nL81 : Int) → sV (gG l D c H0 sa) mX12_isRest (sRm 3 0 0) (sZ (gG l D c H0 sa) 0 0 (qI w [188999] μ (fun z μ1 => (0 ≤ z ∧ z ≤ 1) ∧ True))) 9 [(0, .ref 106), (2, iv z80), (3, iv z79)] [] (mk w μ1) 0 0 := by
    intro nL81
    induction nL81 with
    | zero => intro z80 z79 _ h82 h83 h87; exact ((vc_X12_isRest_1 h87 h83)).elim
    | succ nL81 ih88 =>
      intro z80 z79 _ h82 h83 h87
      refine mr_iload_n (z := z79) dX12_isRest_9 rfl rfl ?_
      refine mr_bipush (z := 6) dX12_isRest_10 (by decide) ?_
      refine mr_icmp_gt (tgt := 45) dX12_isRest_12 (by decide) (r32 h83 rfl) (r32 (rR (x := 6)) rfl) (fun h101 => ?_) (fun h101 => ?_)
      · have h102 : 7 ≤ z79 ∧ z79 ≤ 7 := (vc_X12_isRest_2 h101 h83)
        refine mr_iload_n (z := z80) dX12_isRest_45 rfl rfl ?_
        exact mr_zret dX12_isRest_46 rfl h82 (le_t rfl) (le_t rfl) T2 (mF.call mF.refl F3 rfl) ⟨h82, trivial⟩
      have h103 : 1 ≤ z79 ∧ z79 ≤ 6 := (vc_X12_isRest_3 h101 h83)
      refine mr_iload_n (z := z80) dX12_isRest_15 rfl rfl ?_
      refine mr_if_eq (tgt := 45) dX12_isRest_16 (by decide) (r32 h82 rfl) (fun h114 => ?_) (fun h114 => ?_)
      · have h115 : 0 ≤ z80 ∧ z80 ≤ 0 := (vc_X12_isRest_4 h114 h82)
        refine mr_iload_n (z := z80) dX12_isRest_45 rfl rfl ?_
        exact mr_zret dX12_isRest_46 rfl (rW (c := 0) (d := 1) h115 rfl) (le_t rfl) (le_t rfl) T2 (mF.call mF.refl F3 rfl) ⟨(rW (c := 0) (d := 1) h115 rfl), trivial⟩
      have h116 : 1 ≤ z80 ∧ z80 ≤ 1 := (vc_X12_isRest_5 h114 h82)
      refine sv_aload_n dX12_isRest_19 rfl rfl ?_
      refine mr_iload_n (z := z79) dX12_isRest_20 rfl rfl ?_
      refine mr_cVP (c_X12_acted hw T2 h103) (gOk _ _ _ _ _) dX12_isRest_21 (tX12_acted _ _ _ _ _) ⟨wV_X12_acted, wL_X12_acted⟩ wM_X12_725 (gCX12 _ _ _ _ _) rfl (A_106 hw) rfl ⟨le_t rfl, le_t rfl⟩ ⟨le_t rfl, le_t rfl⟩ rfl (le_t rfl) fun z121 h120 => ?_
      refine sv_aload_n dX12_isRest_24 rfl rfl ?_
      refine gf_X12_122 dX12_isRest_25 wF_X12_526 (A_106 hw) T2 ?_
      refine mr_iload_n (z := z79) dX12_isRest_28 rfl rfl ?_
      refine la_188 dX12_isRest_29 (A_188 hw) T2 (rIx (n := 7) h103 rfl) fun z122 q123 h124 => ?_
      refine mr_icmp_ne (tgt := 37) dX12_isRest_30 (by decide) (r32 h120.1 rfl) (r32 h124 rfl) (fun h125 => ?_) (fun h125 => ?_)
      · refine mr_iconst (z := 0) dX12_isRest_37 ?_
        refine mr_istore_n (lv' := [(2, iv 0), (0, .ref 106), (3, iv z79)]) dX12_isRest_38 rfl (by decide) rfl ?_
        refine mr_iinc (lv' := [(3, iv (z79 + 1)), (2, iv 0), (0, .ref 106)]) dX12_isRest_39 rfl (by decide) rfl ?_
        refine sv_goto (tgt := 9) dX12_isRest_42 (by decide) ?_
        refine mr_lvS (lv' := [(0, .ref 106), (2, iv 0), (3, iv (z79 + 1))]) (List.forall_mem_cons.mpr ⟨rfl, List.forall_mem_cons.mpr ⟨rfl, List.forall_mem_cons.mpr ⟨rfl, fun _ h => absurd h List.not_mem_nil⟩⟩⟩) ?_
        exact ih88 0 (z79 + 1) trivial (rW (c := 0) (d := 1) (rR (x := 0)) rfl) (rW (c := 1) (d := 7) (rAdd (e := 2) (f := 7) h103 (rR (x := 1)) rfl) rfl) (vc_X12_isRest_6 (nS h87) h101 h103)
      refine mr_iconst (z := 1) dX12_isRest_33 ?_
      refine sv_goto (tgt := 38) dX12_isRest_34 (by decide) ?_
      refine mr_istore_n (lv' := [(2, iv 1), (0, .ref 106), (3, iv z79)]) dX12_isRest_38 rfl (by decide) rfl ?_
      refine mr_iinc (lv' := [(3, iv (z79 + 1)), (2, iv 1), (0, .ref 106)]) dX12_isRest_39 rfl (by decide) rfl ?_
      refine sv_goto (tgt := 9) dX12_isRest_42 (by decide) ?_
      refine mr_lvS (lv' := [(0, .ref 106), (2, iv 1), (3, iv (z79 + 1))]) (List.forall_mem_cons.mpr ⟨rfl, List.forall_mem_cons.mpr ⟨rfl, List.forall_mem_cons.mpr ⟨rfl, fun _ h => absurd h List.not_mem_nil⟩⟩⟩) ?_
      exact ih88 1 (z79 + 1) trivial (rW (c := 0) (d := 1) (rR (x := 1)) rfl) (rW (c := 1) (d := 7) (rAdd (e := 2) (f := 7) h103 (rR (x := 1)) rfl) rfl) (vc_X12_isRest_6 (nS h87) h101 h103)
  refine mr_lvS (lv' := [(0, .ref 106), (2, iv 1), (3, iv 1)]) (List.forall_mem_cons.mpr ⟨rfl, List.forall_mem_cons.mpr ⟨rfl, List.forall_mem_cons.mpr ⟨rfl, fun _ h => absurd h List.not_mem_nil⟩⟩⟩) ?_
  exact L81 8 1 1 trivial (rW (c := 0) (d := 1) (rR (x := 1)) rfl) (rW (c := 1) (d := 7) (rR (x := 1)) rfl) vc_X12_isRest_7
theorem vc_X12_count_1 {z414 : Int} (h0 : (401 - z414) < ((0 : Nat) : Int)) (h1 : 0 ≤ z414 ∧ z414 ≤ 400) : False := by omega
theorem vc_X12_count_2 {z414 : Int} (h0 : 400 ≤ z414) (h1 : 0 ≤ z414 ∧ z414 ≤ 400) : 400 ≤ z414 ∧ z414 ≤ 400 := by omega
theorem vc_X12_count_3 {p1 : Int} (h0 : p1 = 0) (h1 : (-2147483648) ≤ p1 ∧ p1 ≤ 2147483647) : 0 ≤ p1 ∧ p1 ≤ 0 := by omega
theorem vc_X12_count_4 {p1 : Int} (h0 : p1 = 1) (h1 : ¬ p1 = 0) (h2 : (-2147483648) ≤ p1 ∧ p1 ≤ 2147483647) : 1 ≤ p1 ∧ p1 ≤ 1 := by omega
theorem vc_X12_count_5 {p1 : Int} (h0 : p1 = 2) (h1 : ¬ p1 = 0) (h2 : ¬ p1 = 1) (h3 : (-2147483648) ≤ p1 ∧ p1 ≤ 2147483647) : 2 ≤ p1 ∧ p1 ≤ 2 := by omega
theorem vc_X12_count_6 {p1 : Int} (h0 : p1 = 3) (h1 : ¬ p1 = 0) (h2 : ¬ p1 = 1) (h3 : ¬ p1 = 2) (h4 : (-2147483648) ≤ p1 ∧ p1 ≤ 2147483647) : 3 ≤ p1 ∧ p1 ≤ 3 := by omega
theorem vc_X12_count_7 {p1 : Int} (h0 : p1 = 4) (h1 : ¬ p1 = 0) (h2 : ¬ p1 = 1) (h3 : ¬ p1 = 2) (h4 : ¬ p1 = 3) (h5 : (-2147483648) ≤ p1 ∧ p1 ≤ 2147483647) : 4 ≤ p1 ∧ p1 ≤ 4 := by omega
theorem vc_X12_count_8 {p1 : Int} (h0 : p1 = 5) (h1 : ¬ p1 = 0) (h2 : ¬ p1 = 1) (h3 : ¬ p1 = 2) (h4 : ¬ p1 = 3) (h5 : ¬ p1 = 4) (h6 : (-2147483648) ≤ p1 ∧ p1 ≤ 2147483647) : 5 ≤ p1 ∧ p1 ≤ 5 := by omega
theorem vc_X12_count_9 {p1 : Int} (h0 : p1 = 6) (h1 : ¬ p1 = 0) (h2 : ¬ p1 = 1) (h3 : ¬ p1 = 2) (h4 : ¬ p1 = 3) (h5 : ¬ p1 = 4) (h6 : ¬ p1 = 5) (h7 : (-2147483648) ≤ p1 ∧ p1 ≤ 2147483647) : 6 ≤ p1 ∧ p1 ≤ 6 := by omega
theorem vc_X12_count_10 {p1 : Int} (h0 : p1 = 7) (h1 : ¬ p1 = 0) (h2 : ¬ p1 = 1) (h3 : ¬ p1 = 2) (h4 : ¬ p1 = 3) (h5 : ¬ p1 = 4) (h6 : ¬ p1 = 5) (h7 : ¬ p1 = 6) (h8 : (-2147483648) ≤ p1 ∧ p1 ≤ 2147483647) : 7 ≤ p1 ∧ p1 ≤ 7 := by omega
theorem vc_X12_count_11 {p1 : Int} (h0 : p1 = 8) (h1 : ¬ p1 = 1) (h2 : ¬ p1 = 2) (h3 : ¬ p1 = 3) (h4 : ¬ p1 = 4) (h5 : ¬ p1 = 5) (h6 : ¬ p1 = 6) (h7 : ¬ p1 = 7) (h8 : (-2147483648) ≤ p1 ∧ p1 ≤ 2147483647) : 8 ≤ p1 ∧ p1 ≤ 8 := by omega
theorem vc_X12_count_12 {p1 : Int} (h0 : p1 = 9) (h1 : ¬ p1 = 2) (h2 : ¬ p1 = 3) (h3 : ¬ p1 = 4) (h4 : ¬ p1 = 5) (h5 : ¬ p1 = 6) (h6 : ¬ p1 = 7) (h7 : ¬ p1 = 8) (h8 : (-2147483648) ≤ p1 ∧ p1 ≤ 2147483647) : 9 ≤ p1 ∧ p1 ≤ 9 := by omega
theorem vc_X12_count_13 {p1 : Int} (h0 : p1 = 10) (h1 : ¬ p1 = 3) (h2 : ¬ p1 = 4) (h3 : ¬ p1 = 5) (h4 : ¬ p1 = 6) (h5 : ¬ p1 = 7) (h6 : ¬ p1 = 8) (h7 : ¬ p1 = 9) (h8 : (-2147483648) ≤ p1 ∧ p1 ≤ 2147483647) : 10 ≤ p1 ∧ p1 ≤ 10 := by omega
theorem vc_X12_count_14 {p1 : Int} (h0 : p1 = 11) (h1 : ¬ p1 = 4) (h2 : ¬ p1 = 5) (h3 : ¬ p1 = 6) (h4 : ¬ p1 = 7) (h5 : ¬ p1 = 8) (h6 : ¬ p1 = 9) (h7 : ¬ p1 = 10) (h8 : (-2147483648) ≤ p1 ∧ p1 ≤ 2147483647) : 11 ≤ p1 ∧ p1 ≤ 11 := by omega
theorem vc_X12_count_15 {p1 : Int} (h0 : ¬ p1 = 0) (h1 : ¬ p1 = 1) (h2 : ¬ p1 = 2) (h3 : ¬ p1 = 3) (h4 : ¬ p1 = 4) (h5 : ¬ p1 = 5) (h6 : ¬ p1 = 6) (h7 : ¬ p1 = 7) (h8 : ¬ p1 = 8) (h9 : ¬ p1 = 9) (h10 : ¬ p1 = 10) (h11 : ¬ p1 = 11) (h12 : (-2147483648) ≤ p1 ∧ p1 ≤ 2147483647) : p1 < 0 ∨ 11 < p1 := by omega
theorem vc_X12_count_16 {z414 : Int} (h0 : z414 < 400) (h1 : 0 ≤ z414 ∧ z414 ≤ 400) : 0 ≤ z414 ∧ z414 ≤ 399 := by omega
theorem vc_X12_count_17 {z510 : Int} (h0 : z510 < 0) (h1 : (-1) ≤ z510 ∧ z510 ≤ 2000001000) : (-1) ≤ z510 ∧ z510 ≤ (-1) := by omega
theorem vc_X12_count_18 {N z414 : Int} (h0 : (401 - z414) < N + 1) (h1 : z414 < 400) (h2 : 0 ≤ z414 ∧ z414 ≤ 399) : (401 - (z414 + 1)) < N := by omega
theorem vc_X12_count_19 {z510 : Int} (h0 : 0 ≤ z510) (h1 : (-1) ≤ z510 ∧ z510 ≤ 2000001000) : 0 ≤ z510 ∧ z510 ≤ 2000001000 := by omega
theorem vc_X12_count_20 {z502 : Int} (h0 : z502 < 0) (h1 : (-1) ≤ z502 ∧ z502 ≤ 2000001000) : (-1) ≤ z502 ∧ z502 ≤ (-1) := by omega
theorem vc_X12_count_21 {z502 : Int} (h0 : 0 ≤ z502) (h1 : (-1) ≤ z502 ∧ z502 ≤ 2000001000) : 0 ≤ z502 ∧ z502 ≤ 2000001000 := by omega
theorem vc_X12_count_22  : (401 - 0) < ((402 : Nat) : Int) := by omega
set_option maxRecDepth 4000 in
set_option maxHeartbeats 4000000 in
theorem c_X12_count {l : Launch} {D : va_G} {c : Nat → ClassId} {H0 : Heap} {sa : Nat × Nat × (Nat → Int32)} {w : mW} {μ : mM} (hw : mWF w) (hT : mT w μ) {p1 : Int} (hp1 : (-2147483648) ≤ p1 ∧ p1 ≤ 2147483647) : sC (gG l D c H0 sa) mX12_count 1 0 0 [.ref 106, iv p1] (mk w μ) (qP w μ (fun z => ((-2147483648) ≤ z ∧ z ≤ 2147483647) ∧ True)) := by
  refine sC.of rfl (by decide) (le_t rfl) ?_
  refine mr_lvE (lv' := [(0, .ref 106), (1, iv p1)]) rfl ?_
  refine mr_iconst (z := 0) dX12_count_0 ?_
  refine mr_istore_n (lv' := [(2, iv 0), (0, .ref 106), (1, iv p1)]) dX12_count_1 rfl (by decide) rfl ?_
  refine mr_iconst (z := 0) dX12_count_2 ?_
  refine mr_istore_n (lv' := [(3, iv 0), (2, iv 0), (0, .ref 106), (1, iv p1)]) dX12_count_3 rfl (by decide) rfl ?_
  have L416 : ∀ (nL416 : Nat) (z415 z414 : Int), True → ((-2147483648) ≤ z415 ∧ z415 ≤ 2147483647) → (0 ≤ z414 ∧ z414 ≤ 400) → (401 - z414) < (nL416 : Int) → sV (gG l D c H0 sa) mX12_count (sRm 1 0 0) (sZ (gG l D c H0 sa) 0 0 (qP w μ (fun z => ((-2147483648) ≤ z ∧ z ≤ 2147483647) ∧ True))) 4 [(0, .ref 106), (1, iv p1), (2, iv z415), (3, iv z414)] [] (mk w μ) 0 0 := by
    intro nL416
    induction nL416 with
    | zero => intro z415 z414 _ h417 h418 h422; exact ((vc_X12_count_1 h422 h418)).elim
    | succ nL416 ih423 =>
      intro z415 z414 _ h417 h418 h422
      refine mr_iload_n (z := z414) dX12_count_4 rfl rfl ?_
      refine mr_sipush (z := 400) dX12_count_5 (by decide) ?_
      refine mr_icmp_ge (tgt := 49) dX12_count_8 (by decide) (r32 h418 rfl) (r32 (rR (x := 400)) rfl) (fun h442 => ?_) (fun h442 => ?_)
      · have h443 : 400 ≤ z414 ∧ z414 ≤ 400 := (vc_X12_count_2 h442 h418)
        refine mr_iload_n (z := p1) dX12_count_49 rfl rfl ?_
        by_cases h444 : p1 = 0
        · refine mr_tableIn (v := 0) (tgt := 112) dX12_count_50 h444 rfl rfl (by decide) ?_
          have h445 : 0 ≤ p1 ∧ p1 ≤ 0 := (vc_X12_count_3 h444 hp1)
          refine sv_aload_n dX12_count_112 rfl rfl ?_
          refine gf_X12_2 dX12_count_113 wF_X12_15 (A_106 hw) hT fun z446 q447 h448 => ?_
          exact mr_iretP dX12_count_116 rfl (le_t rfl) (le_t rfl) ⟨(rW (c := (-2147483648)) (d := 2147483647) h448 rfl), trivial⟩
        by_cases h449 : p1 = 1
        · refine mr_tableIn (v := 1) (tgt := 117) dX12_count_50 h449 rfl rfl (by decide) ?_
          have h450 : 1 ≤ p1 ∧ p1 ≤ 1 := (vc_X12_count_4 h449 h444 hp1)
          refine sv_aload_n dX12_count_117 rfl rfl ?_
          refine gf_X12_5 dX12_count_118 wF_X12_34 (A_106 hw) hT fun z451 q452 h453 => ?_
          exact mr_iretP dX12_count_121 rfl (le_t rfl) (le_t rfl) ⟨(rW (c := (-2147483648)) (d := 2147483647) h453 rfl), trivial⟩
        by_cases h454 : p1 = 2
        · refine mr_tableIn (v := 2) (tgt := 122) dX12_count_50 h454 rfl rfl (by decide) ?_
          have h455 : 2 ≤ p1 ∧ p1 ≤ 2 := (vc_X12_count_5 h454 h444 h449 hp1)
          refine sv_aload_n dX12_count_122 rfl rfl ?_
          refine gf_X12_6 dX12_count_123 wF_X12_37 (A_106 hw) hT fun z456 q457 h458 => ?_
          exact mr_iretP dX12_count_126 rfl (le_t rfl) (le_t rfl) ⟨(rW (c := (-2147483648)) (d := 2147483647) h458 rfl), trivial⟩
        by_cases h459 : p1 = 3
        · refine mr_tableIn (v := 3) (tgt := 127) dX12_count_50 h459 rfl rfl (by decide) ?_
          have h460 : 3 ≤ p1 ∧ p1 ≤ 3 := (vc_X12_count_6 h459 h444 h449 h454 hp1)
          refine sv_aload_n dX12_count_127 rfl rfl ?_
          refine gf_X12_18 dX12_count_128 wF_X12_95 (A_106 hw) hT fun z461 q462 h463 => ?_
          exact mr_iretP dX12_count_131 rfl (le_t rfl) (le_t rfl) ⟨(rW (c := (-2147483648)) (d := 2147483647) h463 rfl), trivial⟩
        by_cases h464 : p1 = 4
        · refine mr_tableIn (v := 4) (tgt := 132) dX12_count_50 h464 rfl rfl (by decide) ?_
          have h465 : 4 ≤ p1 ∧ p1 ≤ 4 := (vc_X12_count_7 h464 h444 h449 h454 h459 hp1)
          refine sv_aload_n dX12_count_132 rfl rfl ?_
          refine gf_X12_39 dX12_count_133 wF_X12_355 (A_106 hw) hT fun z466 q467 h468 => ?_
          exact mr_iretP dX12_count_136 rfl (le_t rfl) (le_t rfl) ⟨(rW (c := (-2147483648)) (d := 2147483647) h468 rfl), trivial⟩
        by_cases h469 : p1 = 5
        · refine mr_tableIn (v := 5) (tgt := 137) dX12_count_50 h469 rfl rfl (by decide) ?_
          have h470 : 5 ≤ p1 ∧ p1 ≤ 5 := (vc_X12_count_8 h469 h444 h449 h454 h459 h464 hp1)
          refine sv_aload_n dX12_count_137 rfl rfl ?_
          refine gf_X12_109 dX12_count_138 wF_X12_695 (A_106 hw) hT fun z471 q472 h473 => ?_
          exact mr_iretP dX12_count_141 rfl (le_t rfl) (le_t rfl) ⟨(rW (c := (-2147483648)) (d := 2147483647) h473 rfl), trivial⟩
        by_cases h474 : p1 = 6
        · refine mr_tableIn (v := 6) (tgt := 142) dX12_count_50 h474 rfl rfl (by decide) ?_
          have h475 : 6 ≤ p1 ∧ p1 ≤ 6 := (vc_X12_count_9 h474 h444 h449 h454 h459 h464 h469 hp1)
          refine sv_aload_n dX12_count_142 rfl rfl ?_
          refine gf_X12_1 dX12_count_143 wF_X12_1 (A_106 hw) hT fun z476 q477 h478 => ?_
          exact mr_iretP dX12_count_146 rfl (le_t rfl) (le_t rfl) ⟨(rW (c := (-2147483648)) (d := 2147483647) h478 rfl), trivial⟩
        by_cases h479 : p1 = 7
        · refine mr_tableIn (v := 7) (tgt := 147) dX12_count_50 h479 rfl rfl (by decide) ?_
          have h480 : 7 ≤ p1 ∧ p1 ≤ 7 := (vc_X12_count_10 h479 h444 h449 h454 h459 h464 h469 h474 hp1)
          refine sv_aload_n dX12_count_147 rfl rfl ?_
          refine gf_X12_71 dX12_count_148 wF_X12_591 (A_106 hw) hT fun z481 q482 h483 => ?_
          exact mr_iretP dX12_count_151 rfl (le_t rfl) (le_t rfl) ⟨(rW (c := (-2147483648)) (d := 2147483647) h483 rfl), trivial⟩
        by_cases h484 : p1 = 8
        · refine mr_tableIn (v := 8) (tgt := 152) dX12_count_50 h484 rfl rfl (by decide) ?_
          have h485 : 8 ≤ p1 ∧ p1 ≤ 8 := (vc_X12_count_11 h484 h449 h454 h459 h464 h469 h474 h479 hp1)
          refine mr_iload_n (z := z415) dX12_count_152 rfl rfl ?_
          exact mr_iretP dX12_count_153 rfl (le_t rfl) (le_t rfl) ⟨h417, trivial⟩
        by_cases h486 : p1 = 9
        · refine mr_tableIn (v := 9) (tgt := 154) dX12_count_50 h486 rfl rfl (by decide) ?_
          have h487 : 9 ≤ p1 ∧ p1 ≤ 9 := (vc_X12_count_12 h486 h454 h459 h464 h469 h474 h479 h484 hp1)
          refine sv_aload_n dX12_count_154 rfl rfl ?_
          refine gf_X12_73 dX12_count_155 wF_X12_610 (A_106 hw) hT fun z488 q489 h490 => ?_
          exact mr_iretP dX12_count_158 rfl (le_t rfl) (le_t rfl) ⟨h490, trivial⟩
        by_cases h491 : p1 = 10
        · refine mr_tableIn (v := 10) (tgt := 159) dX12_count_50 h491 rfl rfl (by decide) ?_
          have h492 : 10 ≤ p1 ∧ p1 ≤ 10 := (vc_X12_count_13 h491 h459 h464 h469 h474 h479 h484 h486 hp1)
          refine sv_aload_n dX12_count_159 rfl rfl ?_
          refine gf_X12_15 dX12_count_160 wF_X12_79 (A_106 hw) hT fun z493 q494 h495 => ?_
          exact mr_iretP dX12_count_163 rfl (le_t rfl) (le_t rfl) ⟨(rW (c := (-2147483648)) (d := 2147483647) h495 rfl), trivial⟩
        by_cases h496 : p1 = 11
        · refine mr_tableIn (v := 11) (tgt := 164) dX12_count_50 h496 rfl rfl (by decide) ?_
          have h497 : 11 ≤ p1 ∧ p1 ≤ 11 := (vc_X12_count_14 h496 h464 h469 h474 h479 h484 h486 h491 hp1)
          refine sv_aload_n dX12_count_164 rfl rfl ?_
          refine gf_X12_17 dX12_count_165 wF_X12_85 (A_106 hw) hT fun z498 q499 h500 => ?_
          exact mr_iretP dX12_count_168 rfl (le_t rfl) (le_t rfl) ⟨(rW (c := (-2147483648)) (d := 2147483647) h500 rfl), trivial⟩
        refine mr_tableOut (tgt := 169) dX12_count_50 hp1 (vc_X12_count_15 h444 h449 h454 h459 h464 h469 h474 h479 h484 h486 h491 h496 hp1) (by decide) ?_
        refine mr_iconst (z := (-1)) dX12_count_169 ?_
        exact mr_iretP dX12_count_170 rfl (le_t rfl) (le_t rfl) ⟨(rW (c := (-2147483648)) (d := 2147483647) (rR (x := (-1))) rfl), trivial⟩
      have h501 : 0 ≤ z414 ∧ z414 ≤ 399 := (vc_X12_count_16 h442 h418)
      refine mr_iload_n (z := z415) dX12_count_11 rfl rfl ?_
      refine sv_aload_n dX12_count_12 rfl rfl ?_
      refine gf_X12_77 dX12_count_13 wF_X12_433 (A_106 hw) hT ?_
      refine mr_iload_n (z := z414) dX12_count_16 rfl rfl ?_
      refine la_157 dX12_count_17 (A_157 hw) hT (rIx (n := 400) h501 rfl) fun z502 q503 h504 => ?_
      have J509 : ∀ (z507 : Int), (0 ≤ z507 ∧ z507 ≤ 1) → sV (gG l D c H0 sa) mX12_count (sRm 1 0 0) (sZ (gG l D c H0 sa) 0 0 (qP w μ (fun z => ((-2147483648) ≤ z ∧ z ≤ 2147483647) ∧ True))) 26 [(0, .ref 106), (1, iv p1), (3, iv z414)] [iv z507, iv z415] (mk w μ) 0 0 := by
        intro z507 h508
        refine sv_aload_n dX12_count_26 rfl rfl ?_
        refine gf_X12_79 dX12_count_27 wF_X12_439 (A_106 hw) hT ?_
        refine mr_iload_n (z := z414) dX12_count_30 rfl rfl ?_
        refine la_159 dX12_count_31 (A_159 hw) hT (rIx (n := 400) h501 rfl) fun z510 q511 h512 => ?_
        refine mr_if_lt (tgt := 39) dX12_count_32 (by decide) (r32 h512 rfl) (fun h515 => ?_) (fun h515 => ?_)
        · have h516 : (-1) ≤ z510 ∧ z510 ≤ (-1) := (vc_X12_count_17 h515 h512)
          refine mr_iconst (z := 0) dX12_count_39 ?_
          refine mr_iadd (x := z507) (y := 0) dX12_count_40 ?_
          refine mr_iadd (x := z415) (y := (z507 + 0)) dX12_count_41 ?_
          refine mr_wrap fun z517 h518 => ?_
          refine mr_istore_n (lv' := [(2, iv z517), (0, .ref 106), (1, iv p1), (3, iv z414)]) dX12_count_42 rfl (by decide) rfl ?_
          refine mr_iinc (lv' := [(3, iv (z414 + 1)), (2, iv z517), (0, .ref 106), (1, iv p1)]) dX12_count_43 rfl (by decide) rfl ?_
          refine sv_goto (tgt := 4) dX12_count_46 (by decide) ?_
          refine mr_lvS (lv' := [(0, .ref 106), (1, iv p1), (2, iv z517), (3, iv (z414 + 1))]) (List.forall_mem_cons.mpr ⟨rfl, List.forall_mem_cons.mpr ⟨rfl, List.forall_mem_cons.mpr ⟨rfl, List.forall_mem_cons.mpr ⟨rfl, fun _ h => absurd h List.not_mem_nil⟩⟩⟩⟩) ?_
          exact ih423 z517 (z414 + 1) trivial h518 (rW (c := 0) (d := 400) (rAdd (e := 1) (f := 400) h501 (rR (x := 1)) rfl) rfl) (vc_X12_count_18 (nS h422) h442 h501)
        have h519 : 0 ≤ z510 ∧ z510 ≤ 2000001000 := (vc_X12_count_19 h515 h512)
        refine mr_iconst (z := 1) dX12_count_35 ?_
        refine sv_goto (tgt := 40) dX12_count_36 (by decide) ?_
        refine mr_iadd (x := z507) (y := 1) dX12_count_40 ?_
        refine mr_iadd (x := z415) (y := (z507 + 1)) dX12_count_41 ?_
        refine mr_wrap fun z520 h521 => ?_
        refine mr_istore_n (lv' := [(2, iv z520), (0, .ref 106), (1, iv p1), (3, iv z414)]) dX12_count_42 rfl (by decide) rfl ?_
        refine mr_iinc (lv' := [(3, iv (z414 + 1)), (2, iv z520), (0, .ref 106), (1, iv p1)]) dX12_count_43 rfl (by decide) rfl ?_
        refine sv_goto (tgt := 4) dX12_count_46 (by decide) ?_
        refine mr_lvS (lv' := [(0, .ref 106), (1, iv p1), (2, iv z520), (3, iv (z414 + 1))]) (List.forall_mem_cons.mpr ⟨rfl, List.forall_mem_cons.mpr ⟨rfl, List.forall_mem_cons.mpr ⟨rfl, List.forall_mem_cons.mpr ⟨rfl, fun _ h => absurd h List.not_mem_nil⟩⟩⟩⟩) ?_
        exact ih423 z520 (z414 + 1) trivial h521 (rW (c := 0) (d := 400) (rAdd (e := 1) (f := 400) h501 (rR (x := 1)) rfl) rfl) (vc_X12_count_18 (nS h422) h442 h501)
      refine mr_if_lt (tgt := 25) dX12_count_18 (by decide) (r32 h504 rfl) (fun h522 => ?_) (fun h522 => ?_)
      · have h523 : (-1) ≤ z502 ∧ z502 ≤ (-1) := (vc_X12_count_20 h522 h504)
        refine mr_iconst (z := 0) dX12_count_25 ?_
        refine mr_lvS (lv' := [(0, .ref 106), (1, iv p1), (3, iv z414)]) (List.forall_mem_cons.mpr ⟨rfl, List.forall_mem_cons.mpr ⟨rfl, List.forall_mem_cons.mpr ⟨rfl, fun _ h => absurd h List.not_mem_nil⟩⟩⟩) ?_
        exact J509 0 (rW (c := 0) (d := 1) (rR (x := 0)) rfl)
      have h524 : 0 ≤ z502 ∧ z502 ≤ 2000001000 := (vc_X12_count_21 h522 h504)
      refine mr_iconst (z := 1) dX12_count_21 ?_
      refine sv_goto (tgt := 26) dX12_count_22 (by decide) ?_
      refine mr_lvS (lv' := [(0, .ref 106), (1, iv p1), (3, iv z414)]) (List.forall_mem_cons.mpr ⟨rfl, List.forall_mem_cons.mpr ⟨rfl, List.forall_mem_cons.mpr ⟨rfl, fun _ h => absurd h List.not_mem_nil⟩⟩⟩) ?_
      exact J509 1 (rW (c := 0) (d := 1) (rR (x := 1)) rfl)
  refine mr_lvS (lv' := [(0, .ref 106), (1, iv p1), (2, iv 0), (3, iv 0)]) (List.forall_mem_cons.mpr ⟨rfl, List.forall_mem_cons.mpr ⟨rfl, List.forall_mem_cons.mpr ⟨rfl, List.forall_mem_cons.mpr ⟨rfl, fun _ h => absurd h List.not_mem_nil⟩⟩⟩⟩) ?_
  exact L416 402 0 0 trivial (rW (c := (-2147483648)) (d := 2147483647) (rR (x := 0)) rfl) (rW (c := 0) (d := 400) (rR (x := 0)) rfl) vc_X12_count_22
theorem vc_X12_fails_1 {z1 : Int} (h0 : z1 = (-99999999)) (h1 : (-2147483648) ≤ z1 ∧ z1 ≤ 2147483647) : (-99999999) ≤ z1 ∧ z1 ≤ (-99999999) := by omega
set_option maxRecDepth 4000 in
set_option maxHeartbeats 4000000 in
theorem c_X12_fails {l : Launch} {D : va_G} {c : Nat → ClassId} {H0 : Heap} {sa : Nat × Nat × (Nat → Int32)} {w : mW} {μ : mM} (hw : mWF w) (hT : mT w μ) {p1 : Int} (hp1 : 0 ≤ p1 ∧ p1 ≤ 3) {p2 : Int} (hp2 : (-2147483648) ≤ p2 ∧ p2 ≤ 2147483647) : sC (gG l D c H0 sa) mX12_fails 1 0 0 [.ref 106, iv p1, iv p2] (mk w μ) (qV w [172999] μ (fun μ1 => True)) := by
  refine sC.of rfl (by decide) (le_t rfl) ?_
  refine mr_lvE (lv' := [(0, .ref 106), (1, iv p1), (2, iv p2)]) rfl ?_
  refine sv_aload_n dX12_fails_0 rfl rfl ?_
  refine gf_X12_95 dX12_fails_1 wF_X12_478 (A_106 hw) hT ?_
  refine mr_iload_n (z := p1) dX12_fails_4 rfl rfl ?_
  refine la_172 dX12_fails_5 (A_172 hw) hT (rIx (n := 4) hp1 rfl) fun z1 q2 h3 => ?_
  refine mr_ldc (z := (-99999999)) dX12_fails_6 wG_X12_29 (by decide) ?_
  refine mr_icmp_ne (tgt := 18) dX12_fails_8 (by decide) h3 (r32 (rR (x := (-99999999))) rfl) (fun h8 => ?_) (fun h8 => ?_)
  · exact mr_vret dX12_fails_18 rfl (le_t rfl) (le_t rfl) hT mF.refl trivial
  have h9 : (-99999999) ≤ z1 ∧ z1 ≤ (-99999999) := (vc_X12_fails_1 h8 h3)
  refine sv_aload_n dX12_fails_11 rfl rfl ?_
  refine gf_X12_95 dX12_fails_12 wF_X12_478 (A_106 hw) hT ?_
  refine mr_iload_n (z := p1) dX12_fails_15 rfl rfl ?_
  refine mr_iload_n (z := p2) dX12_fails_16 rfl rfl ?_
  refine ss_172 dX12_fails_17 (A_172 hw) hT (rIx (n := 4) hp1 rfl) hp2 fun μ10 u11 T12 => ?_
  exact mr_vret dX12_fails_18 rfl (le_t rfl) (le_t rfl) T12 (mF.up mF.refl (A_172 hw) u11 rfl) trivial
theorem vc_X12_originRight_1 {p2 : Int} (h0 : p2 = 1) (h1 : (-2147483648) ≤ p2 ∧ p2 ≤ 2147483647) : 1 ≤ p2 ∧ p2 ≤ 1 := by omega
theorem vc_X12_originRight_2 {p1 : Int} (h0 : (-2147483648) ≤ p1 ∧ p1 ≤ 2147483647) : 0 ≤ p1 ∧ p1 ≤ 2147483647 := by omega
theorem vc_X12_originRight_3 {p1 z10 z3 : Int} (h0 : z10 ≤ 2) (h1 : 0 ≤ z10 → p1 < z3) (h2 : p1 < z3 → 0 ≤ z10) (h3 : (-2147483648) ≤ p1 ∧ p1 ≤ 2147483647) (h4 : (-1) ≤ z10 ∧ z10 ≤ 255) (h5 : 0 ≤ z3 ∧ z3 ≤ 1000) : (-1) ≤ z10 ∧ z10 ≤ 2 := by omega
theorem vc_X12_originRight_4 {p1 z10 z3 : Int} (h0 : 0 ≤ z10 → p1 < z3) (h1 : p1 < z3 → 0 ≤ z10) (h2 : z10 ≤ 2) (h3 : (-2147483648) ≤ p1 ∧ p1 ≤ 2147483647) (h4 : (-1) ≤ z10 ∧ z10 ≤ 2) (h5 : 0 ≤ z3 ∧ z3 ≤ 1000) : 0 ≤ p1 ∧ p1 ≤ 2147483647 := by omega
theorem vc_X12_originRight_5 {p1 z10 z17 z3 : Int} (h0 : 0 ≤ z17 → p1 < z3) (h1 : p1 < z3 → 0 ≤ z17) (h2 : 0 ≤ z10 → p1 < z3) (h3 : p1 < z3 → 0 ≤ z10) (h4 : (-2147483648) ≤ p1 ∧ p1 ≤ 2147483647) (h5 : (-1) ≤ z10 ∧ z10 ≤ 2) (h6 : (-1) ≤ z17 ∧ z17 ≤ 255) (h7 : 0 ≤ z3 ∧ z3 ≤ 1000) : (-2147483648 ≤ z17 ∧ z17 ≤ 2147483647) ∧ (962 % 40 = 0 → -1 ≤ z17 ∧ z17 ≤ 9) ∧ (962 % 40 = 4 → 0 ≤ z17 ∧ z17 ≤ 20) ∧ (962 % 40 = 5 → 0 ≤ z17 ∧ z17 ≤ 8) := by omega
theorem vc_X12_originRight_6 {p1 z10 z3 : Int} (h0 : 2 < z10) (h1 : 0 ≤ z10 → p1 < z3) (h2 : p1 < z3 → 0 ≤ z10) (h3 : (-2147483648) ≤ p1 ∧ p1 ≤ 2147483647) (h4 : (-1) ≤ z10 ∧ z10 ≤ 255) (h5 : 0 ≤ z3 ∧ z3 ≤ 1000) : 3 ≤ z10 ∧ z10 ≤ 255 := by omega
set_option maxRecDepth 4000 in
set_option maxHeartbeats 4000000 in
theorem c_X12_originRight {l : Launch} {D : va_G} {c : Nat → ClassId} {H0 : Heap} {sa : Nat × Nat × (Nat → Int32)} {w : mW} {μ : mM} (hw : mWF w) (hT : mT w μ) {p1 : Int} (hp1 : (-2147483648) ≤ p1 ∧ p1 ≤ 2147483647) {p2 : Int} (hp2 : (-2147483648) ≤ p2 ∧ p2 ≤ 2147483647) : sC (gG l D c H0 sa) mX12_originRight 2 0 0 [.ref 106, iv p1, iv p2] (mk w μ) (qI w [106098, 126999] μ (fun z μ1 => (0 ≤ z ∧ z ≤ 1) ∧ True)) := by
  refine sC.of rfl (by decide) (le_t rfl) ?_
  refine mr_lvE (lv' := [(0, .ref 106), (1, iv p1), (2, iv p2)]) rfl ?_
  refine mr_iload_n (z := p2) dX12_originRight_0 rfl rfl ?_
  refine mr_iconst (z := 1) dX12_originRight_1 ?_
  refine mr_icmp_ne (tgt := 14) dX12_originRight_2 (by decide) hp2 (r32 (rR (x := 1)) rfl) (fun h1 => ?_) (fun h1 => ?_)
  · refine mr_iconst (z := 0) dX12_originRight_14 ?_
    exact mr_zret dX12_originRight_15 rfl (rW (c := 0) (d := 1) (rR (x := 0)) rfl) (le_t rfl) (le_t rfl) hT mF.refl ⟨(rW (c := 0) (d := 1) (rR (x := 0)) rfl), trivial⟩
  have h2 : 1 ≤ p2 ∧ p2 ≤ 1 := (vc_X12_originRight_1 h1 hp2)
  refine sv_aload_n dX12_originRight_5 rfl rfl ?_
  refine mr_iload_n (z := p1) dX12_originRight_6 rfl rfl ?_
  obtain ⟨z3, q4⟩ : ∃ z, μ 106 1 = z := ⟨_, rfl⟩
  have h5 : (0 ≤ z3 ∧ z3 ≤ 1000) := by rw [← q4]; exact hT 106 106 (A_106 hw) 1
  refine mr_cVP (c_X12_byteAt hw hT (vc_X12_originRight_2 hp1) q4) (gOk _ _ _ _ _) dX12_originRight_7 (tX12_byteAt _ _ _ _ _) ⟨wV_X12_byteAt, wL_X12_byteAt⟩ wM_X12_227 (gCX12 _ _ _ _ _) rfl (A_106 hw) rfl ⟨le_t rfl, le_t rfl⟩ ⟨le_t rfl, le_t rfl⟩ rfl (le_t rfl) fun z10 h9 => ?_
  refine mr_iconst (z := 2) dX12_originRight_10 ?_
  refine mr_icmp_le (tgt := 16) dX12_originRight_11 (by decide) (r32 h9.1 rfl) (r32 (rR (x := 2)) rfl) (fun h11 => ?_) (fun h11 => ?_)
  · have h12 : (-1) ≤ z10 ∧ z10 ≤ 2 := (vc_X12_originRight_3 h11 h9.2.1 h9.2.2.1 hp1 h9.1 h5)
    refine sv_aload_n dX12_originRight_16 rfl rfl ?_
    refine gf_X12_32 dX12_originRight_17 wF_X12_148 (A_106 hw) hT ?_
    refine mr_sipush (z := 962) dX12_originRight_20 (by decide) ?_
    refine sv_aload_n dX12_originRight_23 rfl rfl ?_
    refine mr_iload_n (z := p1) dX12_originRight_24 rfl rfl ?_
    refine mr_cVP (c_X12_byteAt hw hT (vc_X12_originRight_4 h9.2.1 h9.2.2.1 h11 hp1 h12 h5) q4) (gOk _ _ _ _ _) dX12_originRight_25 (tX12_byteAt _ _ _ _ _) ⟨wV_X12_byteAt, wL_X12_byteAt⟩ wM_X12_227 (gCX12 _ _ _ _ _) rfl (A_106 hw) rfl ⟨le_t rfl, le_t rfl⟩ ⟨le_t rfl, le_t rfl⟩ rfl (le_t rfl) fun z17 h16 => ?_
    refine ss_126 dX12_originRight_28 (A_126 hw) hT (rIx (n := 84000) (rR (x := 962)) rfl) (vc_X12_originRight_5 h16.2.1 h16.2.2.1 h9.2.1 h9.2.2.1 hp1 h12 h16.1 h5) fun μ18 u19 T20 => ?_
    refine sv_aload_n dX12_originRight_29 rfl rfl ?_
    refine mr_iconst (z := 1) dX12_originRight_30 ?_
    refine pf_X12_98 dX12_originRight_31 wF_X12_631 (A_106 hw) T20 (rW (c := 0) (d := 1) (rR (x := 1)) rfl) fun μ21 u22 T23 => ?_
    refine mr_iconst (z := 1) dX12_originRight_34 ?_
    exact mr_zret dX12_originRight_35 rfl (rW (c := 0) (d := 1) (rR (x := 1)) rfl) (le_t rfl) (le_t rfl) T23 (mF.up (mF.up mF.refl (A_126 hw) u19 rfl) (A_106 hw) u22 rfl) ⟨(rW (c := 0) (d := 1) (rR (x := 1)) rfl), trivial⟩
  have h24 : 3 ≤ z10 ∧ z10 ≤ 255 := (vc_X12_originRight_6 h11 h9.2.1 h9.2.2.1 hp1 h9.1 h5)
  refine mr_iconst (z := 0) dX12_originRight_14 ?_
  exact mr_zret dX12_originRight_15 rfl (rW (c := 0) (d := 1) (rR (x := 0)) rfl) (le_t rfl) (le_t rfl) hT mF.refl ⟨(rW (c := 0) (d := 1) (rR (x := 0)) rfl), trivial⟩
theorem vc_X12_part_1 {z1 : Int} (h0 : ¬ z1 = 0) (h1 : 0 ≤ z1 ∧ z1 ≤ 1) : 1 ≤ z1 ∧ z1 ≤ 1 := by omega
theorem vc_X12_part_2 {z7 : Int} (h0 : ¬ z7 = 0) (h1 : 0 ≤ z7 ∧ z7 ≤ 1) : 1 ≤ z7 ∧ z7 ≤ 1 := by omega
theorem vc_X12_part_3 {z7 : Int} (h0 : z7 = 0) (h1 : 0 ≤ z7 ∧ z7 ≤ 1) : 0 ≤ z7 ∧ z7 ≤ 0 := by omega
theorem vc_X12_part_4 {p1 : Int} (h0 : 0 ≤ p1) (h1 : ¬ p1 = 0) (h2 : (-2147483648) ≤ p1 ∧ p1 ≤ 2147483647) : 0 ≤ p1 ∧ p1 ≤ 2147483647 := by omega
theorem vc_X12_part_5  : (0 : Int) < (100 : Int) ∧ (100 : Int) ≤ (2147483647 : Int) := by omega
theorem vc_X12_part_6 {p1 z25 : Int} (h0 : z25 = 1) (h1 : p1 / 100 = z25) (h2 : 0 ≤ p1 ∧ p1 ≤ 2147483647) (h3 : 0 ≤ z25 ∧ z25 ≤ 21474836) : 1 ≤ z25 ∧ z25 ≤ 1 := by omega
theorem vc_X12_part_7 {p1 z22 z30 : Int} (h0 : z30 ≤ z22) (h1 : p1 % 100 = z22) (h2 : 0 ≤ p1 ∧ p1 ≤ 2147483647) (h3 : 0 ≤ z22 ∧ z22 ≤ 99) (h4 : 0 ≤ z30 ∧ z30 ≤ 1000) : 0 ≤ z30 ∧ z30 ≤ 99 := by omega
theorem vc_X12_part_8 {p1 z22 z30 : Int} (h0 : z22 < z30) (h1 : p1 % 100 = z22) (h2 : 0 ≤ p1 ∧ p1 ≤ 2147483647) (h3 : 0 ≤ z22 ∧ z22 ≤ 99) (h4 : 0 ≤ z30 ∧ z30 ≤ 1000) : 1 ≤ z30 ∧ z30 ≤ 1000 := by omega
theorem vc_X12_part_9 {z25 : Int} (h0 : ¬ z25 = 1) (h1 : 1 ≤ z25 ∧ z25 ≤ 1) : False := by omega
theorem vc_X12_part_10 {p1 z25 : Int} (h0 : z25 = 3) (h1 : p1 / 100 = z25) (h2 : ¬ z25 = 1) (h3 : ¬ z25 = 2) (h4 : 0 ≤ p1 ∧ p1 ≤ 2147483647) (h5 : 0 ≤ z25 ∧ z25 ≤ 21474836) : 3 ≤ z25 ∧ z25 ≤ 3 := by omega
theorem vc_X12_part_11 {p1 z22 z47 : Int} (h0 : z47 ≤ z22) (h1 : p1 % 100 = z22) (h2 : 0 ≤ p1 ∧ p1 ≤ 2147483647) (h3 : 0 ≤ z22 ∧ z22 ≤ 99) (h4 : 0 ≤ z47 ∧ z47 ≤ 1000) : 0 ≤ z47 ∧ z47 ≤ 99 := by omega
theorem vc_X12_part_12 {p1 z22 z47 : Int} (h0 : z22 < z47) (h1 : p1 % 100 = z22) (h2 : 0 ≤ p1 ∧ p1 ≤ 2147483647) (h3 : 0 ≤ z22 ∧ z22 ≤ 99) (h4 : 0 ≤ z47 ∧ z47 ≤ 1000) : 1 ≤ z47 ∧ z47 ≤ 1000 := by omega
theorem vc_X12_part_13 {z25 : Int} (h0 : ¬ z25 = 3) (h1 : 3 ≤ z25 ∧ z25 ≤ 3) : False := by omega
theorem vc_X12_part_14 {p1 z25 : Int} (h0 : z25 = 7) (h1 : p1 / 100 = z25) (h2 : ¬ z25 = 1) (h3 : ¬ z25 = 2) (h4 : ¬ z25 = 3) (h5 : ¬ z25 = 4) (h6 : ¬ z25 = 5) (h7 : ¬ z25 = 6) (h8 : 0 ≤ p1 ∧ p1 ≤ 2147483647) (h9 : 0 ≤ z25 ∧ z25 ≤ 21474836) : 7 ≤ z25 ∧ z25 ≤ 7 := by omega
theorem vc_X12_part_15 {p1 z22 z75 : Int} (h0 : z75 ≤ z22) (h1 : p1 % 100 = z22) (h2 : 0 ≤ p1 ∧ p1 ≤ 2147483647) (h3 : 0 ≤ z22 ∧ z22 ≤ 99) (h4 : 0 ≤ z75 ∧ z75 ≤ 400) : 0 ≤ z75 ∧ z75 ≤ 99 := by omega
theorem vc_X12_part_16 {p1 z22 z75 : Int} (h0 : z22 < z75) (h1 : p1 % 100 = z22) (h2 : 0 ≤ p1 ∧ p1 ≤ 2147483647) (h3 : 0 ≤ z22 ∧ z22 ≤ 99) (h4 : 0 ≤ z75 ∧ z75 ≤ 400) : 1 ≤ z75 ∧ z75 ≤ 400 := by omega
theorem vc_X12_part_17 {p1 z25 : Int} (h0 : z25 = 6) (h1 : p1 / 100 = z25) (h2 : ¬ z25 = 1) (h3 : ¬ z25 = 2) (h4 : ¬ z25 = 3) (h5 : ¬ z25 = 4) (h6 : ¬ z25 = 5) (h7 : 0 ≤ p1 ∧ p1 ≤ 2147483647) (h8 : 0 ≤ z25 ∧ z25 ≤ 21474836) : 6 ≤ z25 ∧ z25 ≤ 6 := by omega
theorem vc_X12_part_18 {p1 z22 z90 : Int} (h0 : z22 < z90) (h1 : p1 % 100 = z22) (h2 : 0 ≤ p1 ∧ p1 ≤ 2147483647) (h3 : 0 ≤ z22 ∧ z22 ≤ 99) (h4 : 0 ≤ z90 ∧ z90 ≤ 8) : 0 ≤ z22 ∧ z22 ≤ 7 := by omega
theorem vc_X12_part_19 {p1 z22 z90 : Int} (h0 : z22 < z90) (h1 : p1 % 100 = z22) (h2 : 0 ≤ p1 ∧ p1 ≤ 2147483647) (h3 : 0 ≤ z22 ∧ z22 ≤ 7) (h4 : 0 ≤ z90 ∧ z90 ≤ 8) : 1 ≤ z90 ∧ z90 ≤ 8 := by omega
theorem vc_X12_part_20 {p1 z25 : Int} (h0 : z25 = 5) (h1 : p1 / 100 = z25) (h2 : ¬ z25 = 1) (h3 : ¬ z25 = 2) (h4 : ¬ z25 = 3) (h5 : ¬ z25 = 4) (h6 : 0 ≤ p1 ∧ p1 ≤ 2147483647) (h7 : 0 ≤ z25 ∧ z25 ≤ 21474836) : 5 ≤ z25 ∧ z25 ≤ 5 := by omega
theorem vc_X12_part_21  : ((960 : Int) + (4 : Int)) % (40 : Int) = (4 : Int) := by omega
theorem vc_X12_part_22 {p1 z105 z22 : Int} (h0 : z22 < z105) (h1 : p1 % 100 = z22) (h2 : 0 ≤ p1 ∧ p1 ≤ 2147483647) (h3 : 0 ≤ z105 ∧ z105 ≤ 20) (h4 : 0 ≤ z22 ∧ z22 ≤ 99) : 0 ≤ z22 ∧ z22 ≤ 19 := by omega
theorem vc_X12_part_23 {p1 z105 z22 : Int} (h0 : z22 < z105) (h1 : p1 % 100 = z22) (h2 : 0 ≤ p1 ∧ p1 ≤ 2147483647) (h3 : 0 ≤ z105 ∧ z105 ≤ 20) (h4 : 0 ≤ z22 ∧ z22 ≤ 19) : 1 ≤ z105 ∧ z105 ≤ 20 := by omega
theorem vc_X12_part_24 {p1 z25 : Int} (h0 : z25 = 4) (h1 : p1 / 100 = z25) (h2 : ¬ z25 = 1) (h3 : ¬ z25 = 2) (h4 : ¬ z25 = 3) (h5 : 0 ≤ p1 ∧ p1 ≤ 2147483647) (h6 : 0 ≤ z25 ∧ z25 ≤ 21474836) : 4 ≤ z25 ∧ z25 ≤ 4 := by omega
theorem vc_X12_part_25 {p1 z121 z22 : Int} (h0 : z121 ≤ z22) (h1 : p1 % 100 = z22) (h2 : 0 ≤ p1 ∧ p1 ≤ 2147483647) (h3 : 0 ≤ z121 ∧ z121 ≤ 1000) (h4 : 0 ≤ z22 ∧ z22 ≤ 99) : 0 ≤ z121 ∧ z121 ≤ 99 := by omega
theorem vc_X12_part_26 {p1 z121 z22 : Int} (h0 : z22 < z121) (h1 : p1 % 100 = z22) (h2 : 0 ≤ p1 ∧ p1 ≤ 2147483647) (h3 : 0 ≤ z121 ∧ z121 ≤ 1000) (h4 : 0 ≤ z22 ∧ z22 ≤ 99) : 1 ≤ z121 ∧ z121 ≤ 1000 := by omega
theorem vc_X12_part_27 {z25 : Int} (h0 : z25 = 3) (h1 : 4 ≤ z25 ∧ z25 ≤ 4) : False := by omega
theorem vc_X12_part_28 {p1 z25 : Int} (h0 : z25 = 2) (h1 : p1 / 100 = z25) (h2 : ¬ z25 = 1) (h3 : 0 ≤ p1 ∧ p1 ≤ 2147483647) (h4 : 0 ≤ z25 ∧ z25 ≤ 21474836) : 2 ≤ z25 ∧ z25 ≤ 2 := by omega
theorem vc_X12_part_29 {p1 z136 z22 : Int} (h0 : z136 ≤ z22) (h1 : p1 % 100 = z22) (h2 : 0 ≤ p1 ∧ p1 ≤ 2147483647) (h3 : 0 ≤ z136 ∧ z136 ≤ 1000) (h4 : 0 ≤ z22 ∧ z22 ≤ 99) : 0 ≤ z136 ∧ z136 ≤ 99 := by omega
theorem vc_X12_part_30 {p1 z136 z22 : Int} (h0 : z22 < z136) (h1 : p1 % 100 = z22) (h2 : 0 ≤ p1 ∧ p1 ≤ 2147483647) (h3 : 0 ≤ z136 ∧ z136 ≤ 1000) (h4 : 0 ≤ z22 ∧ z22 ≤ 99) : 1 ≤ z136 ∧ z136 ≤ 1000 := by omega
theorem vc_X12_part_31 {z25 : Int} (h0 : z25 = 1) (h1 : 2 ≤ z25 ∧ z25 ≤ 2) : False := by omega
theorem vc_X12_part_32 {p1 : Int} (h0 : p1 = 7) (h1 : 0 ≤ p1) (h2 : ¬ p1 = 1) (h3 : ¬ p1 = 2) (h4 : ¬ p1 = 3) (h5 : ¬ p1 = 4) (h6 : ¬ p1 = 5) (h7 : ¬ p1 = 6) (h8 : 0 ≤ p1 ∧ p1 ≤ 2147483647) : 7 ≤ p1 ∧ p1 ≤ 7 := by omega
theorem vc_X12_part_33 {p1 : Int} (h0 : p1 = 6) (h1 : ¬ p1 = 0) (h2 : 0 ≤ p1) (h3 : ¬ p1 = 1) (h4 : ¬ p1 = 2) (h5 : ¬ p1 = 3) (h6 : ¬ p1 = 4) (h7 : ¬ p1 = 5) (h8 : 0 ≤ p1 ∧ p1 ≤ 2147483647) : 6 ≤ p1 ∧ p1 ≤ 6 := by omega
theorem vc_X12_part_34 {p1 : Int} (h0 : p1 = 5) (h1 : ¬ p1 = 0) (h2 : 0 ≤ p1) (h3 : ¬ p1 = 1) (h4 : ¬ p1 = 2) (h5 : ¬ p1 = 3) (h6 : ¬ p1 = 4) (h7 : 0 ≤ p1 ∧ p1 ≤ 2147483647) : 5 ≤ p1 ∧ p1 ≤ 5 := by omega
theorem vc_X12_part_35 {p1 : Int} (h0 : p1 = 4) (h1 : ¬ p1 = 0) (h2 : 0 ≤ p1) (h3 : ¬ p1 = 1) (h4 : ¬ p1 = 2) (h5 : ¬ p1 = 3) (h6 : 0 ≤ p1 ∧ p1 ≤ 2147483647) : 4 ≤ p1 ∧ p1 ≤ 4 := by omega
theorem vc_X12_part_36 {p1 : Int} (h0 : p1 = 3) (h1 : ¬ p1 = 0) (h2 : 0 ≤ p1) (h3 : ¬ p1 = 1) (h4 : ¬ p1 = 2) (h5 : 0 ≤ p1 ∧ p1 ≤ 2147483647) : 3 ≤ p1 ∧ p1 ≤ 3 := by omega
theorem vc_X12_part_37 {p1 : Int} (h0 : p1 = 2) (h1 : ¬ p1 = 0) (h2 : 0 ≤ p1) (h3 : ¬ p1 = 1) (h4 : 0 ≤ p1 ∧ p1 ≤ 2147483647) : 2 ≤ p1 ∧ p1 ≤ 2 := by omega
theorem vc_X12_part_38 {p1 : Int} (h0 : p1 = 1) (h1 : ¬ p1 = 0) (h2 : 0 ≤ p1) (h3 : 0 ≤ p1 ∧ p1 ≤ 2147483647) : 1 ≤ p1 ∧ p1 ≤ 1 := by omega
theorem vc_X12_part_39 {p1 : Int} (h0 : p1 < 0) (h1 : ¬ p1 = 0) (h2 : (-2147483648) ≤ p1 ∧ p1 ≤ 2147483647) : (-2147483648) ≤ p1 ∧ p1 ≤ (-1) := by omega
theorem vc_X12_part_40 {p1 : Int} (h0 : p1 = 0) (h1 : (-2147483648) ≤ p1 ∧ p1 ≤ 2147483647) : 0 ≤ p1 ∧ p1 ≤ 0 := by omega
theorem vc_X12_part_41 {z181 : Int} (h0 : ¬ z181 = 0) (h1 : 0 ≤ z181 ∧ z181 ≤ 3) : 1 ≤ z181 ∧ z181 ≤ 3 := by omega
theorem vc_X12_part_42 {z181 : Int} (h0 : z181 = 0) (h1 : 0 ≤ z181 ∧ z181 ≤ 3) : 0 ≤ z181 ∧ z181 ≤ 0 := by omega
theorem vc_X12_part_43 {z1 : Int} (h0 : z1 = 0) (h1 : 0 ≤ z1 ∧ z1 ≤ 1) : 0 ≤ z1 ∧ z1 ≤ 0 := by omega
set_option maxRecDepth 4000 in
set_option maxHeartbeats 4000000 in
theorem c_X12_part {l : Launch} {D : va_G} {c : Nat → ClassId} {H0 : Heap} {sa : Nat × Nat × (Nat → Int32)} {w : mW} {μ : mM} (hw : mWF w) (hT : mT w μ) {p1 : Int} (hp1 : (-2147483648) ≤ p1 ∧ p1 ≤ 2147483647) : sC (gG l D c H0 sa) mX12_part 1 0 0 [.ref 106, iv p1] (mk w μ) (qP w μ (fun z => ((-2147483648) ≤ z ∧ z ≤ 2147483647) ∧ True)) := by
  refine sC.of rfl (by decide) (le_t rfl) ?_
  refine mr_lvE (lv' := [(0, .ref 106), (1, iv p1)]) rfl ?_
  refine sv_aload_n dX12_part_0 rfl rfl ?_
  refine gf_X12_96 dX12_part_1 wF_X12_655 (A_106 hw) hT fun z1 q2 h3 => ?_
  refine mr_if_ne (tgt := 10) dX12_part_4 (by decide) (r32 h3 rfl) (fun h4 => ?_) (fun h4 => ?_)
  · have h5 : 1 ≤ z1 ∧ z1 ≤ 1 := (vc_X12_part_1 h4 h3)
    refine mr_iload_n (z := p1) dX12_part_10 rfl rfl ?_
    refine mr_if_ne (tgt := 36) dX12_part_11 (by decide) hp1 (fun h6 => ?_) (fun h6 => ?_)
    · refine sv_aload_n dX12_part_36 rfl rfl ?_
      refine gf_X12_97 dX12_part_37 wF_X12_665 (A_106 hw) hT fun z7 q8 h9 => ?_
      refine mr_if_ne (tgt := 47) dX12_part_40 (by decide) (r32 h9 rfl) (fun h10 => ?_) (fun h10 => ?_)
      · have h11 : 1 ≤ z7 ∧ z7 ≤ 1 := (vc_X12_part_2 h10 h9)
        refine mr_ldc (z := (-99999999)) dX12_part_47 wG_X12_29 (by decide) ?_
        exact mr_iretP dX12_part_49 rfl (le_t rfl) (le_t rfl) ⟨(rW (c := (-2147483648)) (d := 2147483647) (rR (x := (-99999999))) rfl), trivial⟩
      have h12 : 0 ≤ z7 ∧ z7 ≤ 0 := (vc_X12_part_3 h10 h9)
      refine mr_iload_n (z := p1) dX12_part_43 rfl rfl ?_
      refine mr_if_ge (tgt := 50) dX12_part_44 (by decide) hp1 (fun h13 => ?_) (fun h13 => ?_)
      · have h14 : 0 ≤ p1 ∧ p1 ≤ 2147483647 := (vc_X12_part_4 h13 h6 hp1)
        refine mr_sipush (z := 960) dX12_part_50 (by decide) ?_
        refine mr_istore_n (lv' := [(2, iv 960), (0, .ref 106), (1, iv p1)]) dX12_part_53 rfl (by decide) rfl ?_
        refine mr_iload_n (z := p1) dX12_part_54 rfl rfl ?_
        refine mr_iconst (z := 1) dX12_part_55 ?_
        refine mr_icmp_ne (tgt := 64) dX12_part_56 (by decide) (r32 h14 rfl) (r32 (rR (x := 1)) rfl) (fun h15 => ?_) (fun h15 => ?_)
        · refine mr_iload_n (z := p1) dX12_part_64 rfl rfl ?_
          refine mr_iconst (z := 2) dX12_part_65 ?_
          refine mr_icmp_ne (tgt := 74) dX12_part_66 (by decide) (r32 h14 rfl) (r32 (rR (x := 2)) rfl) (fun h16 => ?_) (fun h16 => ?_)
          · refine mr_iload_n (z := p1) dX12_part_74 rfl rfl ?_
            refine mr_iconst (z := 3) dX12_part_75 ?_
            refine mr_icmp_ne (tgt := 84) dX12_part_76 (by decide) (r32 h14 rfl) (r32 (rR (x := 3)) rfl) (fun h17 => ?_) (fun h17 => ?_)
            · refine mr_iload_n (z := p1) dX12_part_84 rfl rfl ?_
              refine mr_iconst (z := 4) dX12_part_85 ?_
              refine mr_icmp_ne (tgt := 98) dX12_part_86 (by decide) (r32 h14 rfl) (r32 (rR (x := 4)) rfl) (fun h18 => ?_) (fun h18 => ?_)
              · refine mr_iload_n (z := p1) dX12_part_98 rfl rfl ?_
                refine mr_iconst (z := 5) dX12_part_99 ?_
                refine mr_icmp_ne (tgt := 112) dX12_part_100 (by decide) (r32 h14 rfl) (r32 (rR (x := 5)) rfl) (fun h19 => ?_) (fun h19 => ?_)
                · refine mr_iload_n (z := p1) dX12_part_112 rfl rfl ?_
                  refine mr_bipush (z := 6) dX12_part_113 (by decide) ?_
                  refine mr_icmp_ne (tgt := 127) dX12_part_115 (by decide) (r32 h14 rfl) (r32 (rR (x := 6)) rfl) (fun h20 => ?_) (fun h20 => ?_)
                  · refine mr_iload_n (z := p1) dX12_part_127 rfl rfl ?_
                    refine mr_bipush (z := 7) dX12_part_128 (by decide) ?_
                    refine mr_icmp_ne (tgt := 138) dX12_part_130 (by decide) (r32 h14 rfl) (r32 (rR (x := 7)) rfl) (fun h21 => ?_) (fun h21 => ?_)
                    · refine mr_iload_n (z := p1) dX12_part_138 rfl rfl ?_
                      refine mr_bipush (z := 100) dX12_part_139 (by decide) ?_
                      refine mr_irem (x := p1) (y := 100) dX12_part_141 h14 vc_X12_part_5 ?_
                      refine mr_gen (P := fun z => 0 ≤ z ∧ z ≤ 99) (rMod h14 rfl) fun z22 q23 h24 => ?_
                      refine mr_istore_n (lv' := [(3, iv z22), (2, iv 960), (0, .ref 106), (1, iv p1)]) dX12_part_142 rfl (by decide) rfl ?_
                      refine mr_iload_n (z := p1) dX12_part_143 rfl rfl ?_
                      refine mr_bipush (z := 100) dX12_part_144 (by decide) ?_
                      refine mr_idiv (x := p1) (y := 100) dX12_part_146 h14 vc_X12_part_5 ?_
                      refine mr_gen (P := fun z => 0 ≤ z ∧ z ≤ 21474836) (rDiv h14 rfl) fun z25 q26 h27 => ?_
                      refine mr_istore (lv' := [(4, iv z25), (3, iv z22), (2, iv 960), (0, .ref 106), (1, iv p1)]) dX12_part_147 (by decide) rfl ?_
                      refine mr_iload (z := z25) dX12_part_149 rfl ?_
                      refine mr_iconst (z := 1) dX12_part_151 ?_
                      refine mr_icmp_eq (tgt := 161) dX12_part_152 (by decide) (r32 h27 rfl) (r32 (rR (x := 1)) rfl) (fun h28 => ?_) (fun h28 => ?_)
                      · have h29 : 1 ≤ z25 ∧ z25 ≤ 1 := (vc_X12_part_6 h28 q26 h14 h27)
                        refine mr_iload_n (z := z22) dX12_part_161 rfl rfl ?_
                        refine sv_aload_n dX12_part_162 rfl rfl ?_
                        refine gf_X12_88 dX12_part_163 wF_X12_625 (A_106 hw) hT fun z30 q31 h32 => ?_
                        refine mr_icmp_ge (tgt := 193) dX12_part_166 (by decide) (r32 h24 rfl) (r32 h32 rfl) (fun h38 => ?_) (fun h38 => ?_)
                        · have h39 : 0 ≤ z30 ∧ z30 ≤ 99 := (vc_X12_part_7 h38 q23 h14 h24 h32)
                          refine mr_ldc (z := (-99999999)) dX12_part_193 wG_X12_29 (by decide) ?_
                          exact mr_iretP dX12_part_195 rfl (le_t rfl) (le_t rfl) ⟨(rW (c := (-2147483648)) (d := 2147483647) (rR (x := (-99999999))) rfl), trivial⟩
                        have h40 : 1 ≤ z30 ∧ z30 ≤ 1000 := (vc_X12_part_8 h38 q23 h14 h24 h32)
                        refine mr_iload (z := z25) dX12_part_169 rfl ?_
                        refine mr_iconst (z := 1) dX12_part_171 ?_
                        refine mr_icmp_ne (tgt := 184) dX12_part_172 (by decide) (r32 h29 rfl) (r32 (rR (x := 1)) rfl) (fun h => ((vc_X12_part_9 h h29)).elim) (fun _ => ?_)
                        refine sv_aload_n dX12_part_175 rfl rfl ?_
                        refine gf_X12_86 dX12_part_176 wF_X12_460 (A_106 hw) hT ?_
                        refine mr_iload_n (z := z22) dX12_part_179 rfl rfl ?_
                        refine la_166 dX12_part_180 (A_166 hw) hT (rIx (n := 1000) h24 rfl) fun z41 q42 h43 => ?_
                        refine sv_goto (tgt := 195) dX12_part_181 (by decide) ?_
                        exact mr_iretP dX12_part_195 rfl (le_t rfl) (le_t rfl) ⟨h43, trivial⟩
                      refine mr_iload (z := z25) dX12_part_155 rfl ?_
                      refine mr_iconst (z := 2) dX12_part_157 ?_
                      refine mr_icmp_ne (tgt := 196) dX12_part_158 (by decide) (r32 h27 rfl) (r32 (rR (x := 2)) rfl) (fun h44 => ?_) (fun h44 => ?_)
                      · refine mr_iload (z := z25) dX12_part_196 rfl ?_
                        refine mr_iconst (z := 3) dX12_part_198 ?_
                        refine mr_icmp_eq (tgt := 208) dX12_part_199 (by decide) (r32 h27 rfl) (r32 (rR (x := 3)) rfl) (fun h45 => ?_) (fun h45 => ?_)
                        · have h46 : 3 ≤ z25 ∧ z25 ≤ 3 := (vc_X12_part_10 h45 q26 h28 h44 h14 h27)
                          refine mr_iload_n (z := z22) dX12_part_208 rfl rfl ?_
                          refine sv_aload_n dX12_part_209 rfl rfl ?_
                          refine gf_X12_91 dX12_part_210 wF_X12_628 (A_106 hw) hT fun z47 q48 h49 => ?_
                          refine mr_icmp_ge (tgt := 240) dX12_part_213 (by decide) (r32 h24 rfl) (r32 h49 rfl) (fun h55 => ?_) (fun h55 => ?_)
                          · have h56 : 0 ≤ z47 ∧ z47 ≤ 99 := (vc_X12_part_11 h55 q23 h14 h24 h49)
                            refine mr_ldc (z := (-99999999)) dX12_part_240 wG_X12_29 (by decide) ?_
                            exact mr_iretP dX12_part_242 rfl (le_t rfl) (le_t rfl) ⟨(rW (c := (-2147483648)) (d := 2147483647) (rR (x := (-99999999))) rfl), trivial⟩
                          have h57 : 1 ≤ z47 ∧ z47 ≤ 1000 := (vc_X12_part_12 h55 q23 h14 h24 h49)
                          refine mr_iload (z := z25) dX12_part_216 rfl ?_
                          refine mr_iconst (z := 3) dX12_part_218 ?_
                          refine mr_icmp_ne (tgt := 231) dX12_part_219 (by decide) (r32 h46 rfl) (r32 (rR (x := 3)) rfl) (fun h => ((vc_X12_part_13 h h46)).elim) (fun _ => ?_)
                          refine sv_aload_n dX12_part_222 rfl rfl ?_
                          refine gf_X12_89 dX12_part_223 wF_X12_466 (A_106 hw) hT ?_
                          refine mr_iload_n (z := z22) dX12_part_226 rfl rfl ?_
                          refine la_168 dX12_part_227 (A_168 hw) hT (rIx (n := 1000) h24 rfl) fun z58 q59 h60 => ?_
                          refine sv_goto (tgt := 242) dX12_part_228 (by decide) ?_
                          exact mr_iretP dX12_part_242 rfl (le_t rfl) (le_t rfl) ⟨h60, trivial⟩
                        refine mr_iload (z := z25) dX12_part_202 rfl ?_
                        refine mr_iconst (z := 4) dX12_part_204 ?_
                        refine mr_icmp_ne (tgt := 243) dX12_part_205 (by decide) (r32 h27 rfl) (r32 (rR (x := 4)) rfl) (fun h61 => ?_) (fun h61 => ?_)
                        · refine mr_iload (z := z25) dX12_part_243 rfl ?_
                          refine mr_iconst (z := 5) dX12_part_245 ?_
                          refine mr_icmp_ne (tgt := 278) dX12_part_246 (by decide) (r32 h27 rfl) (r32 (rR (x := 5)) rfl) (fun h62 => ?_) (fun h62 => ?_)
                          · refine mr_iload (z := z25) dX12_part_278 rfl ?_
                            refine mr_bipush (z := 6) dX12_part_280 (by decide) ?_
                            refine mr_icmp_ne (tgt := 305) dX12_part_282 (by decide) (r32 h27 rfl) (r32 (rR (x := 6)) rfl) (fun h63 => ?_) (fun h63 => ?_)
                            · refine mr_iload (z := z25) dX12_part_305 rfl ?_
                              refine mr_bipush (z := 7) dX12_part_307 (by decide) ?_
                              refine mr_icmp_ne (tgt := 329) dX12_part_309 (by decide) (r32 h27 rfl) (r32 (rR (x := 7)) rfl) (fun h73 => ?_) (fun h73 => ?_)
                              · refine mr_ldc (z := (-99999999)) dX12_part_329 wG_X12_29 (by decide) ?_
                                exact mr_iretP dX12_part_331 rfl (le_t rfl) (le_t rfl) ⟨(rW (c := (-2147483648)) (d := 2147483647) (rR (x := (-99999999))) rfl), trivial⟩
                              have h74 : 7 ≤ z25 ∧ z25 ≤ 7 := (vc_X12_part_14 h73 q26 h28 h44 h45 h61 h62 h63 h14 h27)
                              refine mr_iload_n (z := z22) dX12_part_312 rfl rfl ?_
                              refine sv_aload_n dX12_part_313 rfl rfl ?_
                              refine gf_X12_93 dX12_part_314 wF_X12_652 (A_106 hw) hT fun z75 q76 h77 => ?_
                              refine mr_icmp_ge (tgt := 329) dX12_part_317 (by decide) (r32 h24 rfl) (r32 h77 rfl) (fun h83 => ?_) (fun h83 => ?_)
                              · have h84 : 0 ≤ z75 ∧ z75 ≤ 99 := (vc_X12_part_15 h83 q23 h14 h24 h77)
                                refine mr_ldc (z := (-99999999)) dX12_part_329 wG_X12_29 (by decide) ?_
                                exact mr_iretP dX12_part_331 rfl (le_t rfl) (le_t rfl) ⟨(rW (c := (-2147483648)) (d := 2147483647) (rR (x := (-99999999))) rfl), trivial⟩
                              have h85 : 1 ≤ z75 ∧ z75 ≤ 400 := (vc_X12_part_16 h83 q23 h14 h24 h77)
                              refine sv_aload_n dX12_part_320 rfl rfl ?_
                              refine gf_X12_92 dX12_part_321 wF_X12_472 (A_106 hw) hT ?_
                              refine mr_iload_n (z := z22) dX12_part_324 rfl rfl ?_
                              refine la_170 dX12_part_325 (A_170 hw) hT (rIx (n := 400) h24 rfl) fun z86 q87 h88 => ?_
                              refine sv_goto (tgt := 331) dX12_part_326 (by decide) ?_
                              exact mr_iretP dX12_part_331 rfl (le_t rfl) (le_t rfl) ⟨h88, trivial⟩
                            have h89 : 6 ≤ z25 ∧ z25 ≤ 6 := (vc_X12_part_17 h63 q26 h28 h44 h45 h61 h62 h14 h27)
                            refine mr_iload_n (z := z22) dX12_part_285 rfl rfl ?_
                            refine sv_aload_n dX12_part_286 rfl rfl ?_
                            refine gf_X12_101 dX12_part_287 wF_X12_637 (A_106 hw) hT fun z90 q91 h92 => ?_
                            refine mr_icmp_ge (tgt := 302) dX12_part_290 (by decide) (r32 h24 rfl) (r32 h92 rfl) (fun h98 => ?_) (fun h98 => ?_)
                            · refine mr_ldc (z := (-99999999)) dX12_part_302 wG_X12_29 (by decide) ?_
                              exact mr_iretP dX12_part_304 rfl (le_t rfl) (le_t rfl) ⟨(rW (c := (-2147483648)) (d := 2147483647) (rR (x := (-99999999))) rfl), trivial⟩
                            have h99 : 0 ≤ z22 ∧ z22 ≤ 7 := (vc_X12_part_18 h98 q23 h14 h24 h92)
                            have h100 : 1 ≤ z90 ∧ z90 ≤ 8 := (vc_X12_part_19 h98 q23 h14 h99 h92)
                            refine sv_aload_n dX12_part_293 rfl rfl ?_
                            refine gf_X12_100 dX12_part_294 wF_X12_481 (A_106 hw) hT ?_
                            refine mr_iload_n (z := z22) dX12_part_297 rfl rfl ?_
                            refine la_173 dX12_part_298 (A_173 hw) hT (rIx (n := 8) h99 rfl) fun z101 q102 h103 => ?_
                            refine sv_goto (tgt := 304) dX12_part_299 (by decide) ?_
                            exact mr_iretP dX12_part_304 rfl (le_t rfl) (le_t rfl) ⟨h103, trivial⟩
                          have h104 : 5 ≤ z25 ∧ z25 ≤ 5 := (vc_X12_part_20 h62 q26 h28 h44 h45 h61 h14 h27)
                          refine mr_iload_n (z := z22) dX12_part_249 rfl rfl ?_
                          refine sv_aload_n dX12_part_250 rfl rfl ?_
                          refine gf_X12_32 dX12_part_251 wF_X12_148 (A_106 hw) hT ?_
                          refine mr_iload_n (z := 960) dX12_part_254 rfl rfl ?_
                          refine mr_iconst (z := 4) dX12_part_255 ?_
                          refine mr_iadd (x := 960) (y := 4) dX12_part_256 ?_
                          refine la_126 dX12_part_257 (A_126 hw) hT (rIx (n := 84000) (rAdd (e := 964) (f := 964) (rR (x := 960)) (rR (x := 4)) rfl) rfl) fun z105 q106 h107 => ?_
                          have h108 : 0 ≤ z105 ∧ z105 ≤ 20 := h107.2.2.1 vc_X12_part_21
                          refine mr_icmp_ge (tgt := 275) dX12_part_258 (by decide) (r32 h24 rfl) (r32 h108 rfl) (fun h114 => ?_) (fun h114 => ?_)
                          · refine mr_ldc (z := (-99999999)) dX12_part_275 wG_X12_29 (by decide) ?_
                            exact mr_iretP dX12_part_277 rfl (le_t rfl) (le_t rfl) ⟨(rW (c := (-2147483648)) (d := 2147483647) (rR (x := (-99999999))) rfl), trivial⟩
                          have h115 : 0 ≤ z22 ∧ z22 ≤ 19 := (vc_X12_part_22 h114 q23 h14 h108 h24)
                          have h116 : 1 ≤ z105 ∧ z105 ≤ 20 := (vc_X12_part_23 h114 q23 h14 h108 h115)
                          refine sv_aload_n dX12_part_261 rfl rfl ?_
                          refine gf_X12_32 dX12_part_262 wF_X12_148 (A_106 hw) hT ?_
                          refine mr_iload_n (z := 960) dX12_part_265 rfl rfl ?_
                          refine mr_bipush (z := 6) dX12_part_266 (by decide) ?_
                          refine mr_iadd (x := 960) (y := 6) dX12_part_268 ?_
                          refine mr_iload_n (z := z22) dX12_part_269 rfl rfl ?_
                          refine mr_iadd (x := (960 + 6)) (y := z22) dX12_part_270 ?_
                          refine la_126 dX12_part_271 (A_126 hw) hT (rIx (n := 84000) (rAdd (e := 966) (f := 985) (rAdd (e := 966) (f := 966) (rR (x := 960)) (rR (x := 6)) rfl) h115 rfl) rfl) fun z117 q118 h119 => ?_
                          refine sv_goto (tgt := 277) dX12_part_272 (by decide) ?_
                          exact mr_iretP dX12_part_277 rfl (le_t rfl) (le_t rfl) ⟨h119.1, trivial⟩
                        have h120 : 4 ≤ z25 ∧ z25 ≤ 4 := (vc_X12_part_24 h61 q26 h28 h44 h45 h14 h27)
                        refine mr_iload_n (z := z22) dX12_part_208 rfl rfl ?_
                        refine sv_aload_n dX12_part_209 rfl rfl ?_
                        refine gf_X12_91 dX12_part_210 wF_X12_628 (A_106 hw) hT fun z121 q122 h123 => ?_
                        refine mr_icmp_ge (tgt := 240) dX12_part_213 (by decide) (r32 h24 rfl) (r32 h123 rfl) (fun h129 => ?_) (fun h129 => ?_)
                        · have h130 : 0 ≤ z121 ∧ z121 ≤ 99 := (vc_X12_part_25 h129 q23 h14 h123 h24)
                          refine mr_ldc (z := (-99999999)) dX12_part_240 wG_X12_29 (by decide) ?_
                          exact mr_iretP dX12_part_242 rfl (le_t rfl) (le_t rfl) ⟨(rW (c := (-2147483648)) (d := 2147483647) (rR (x := (-99999999))) rfl), trivial⟩
                        have h131 : 1 ≤ z121 ∧ z121 ≤ 1000 := (vc_X12_part_26 h129 q23 h14 h123 h24)
                        refine mr_iload (z := z25) dX12_part_216 rfl ?_
                        refine mr_iconst (z := 3) dX12_part_218 ?_
                        refine mr_icmp_ne (tgt := 231) dX12_part_219 (by decide) (r32 h120 rfl) (r32 (rR (x := 3)) rfl) (fun _ => ?_) (fun h => ((vc_X12_part_27 h h120)).elim)
                        refine sv_aload_n dX12_part_231 rfl rfl ?_
                        refine gf_X12_90 dX12_part_232 wF_X12_469 (A_106 hw) hT ?_
                        refine mr_iload_n (z := z22) dX12_part_235 rfl rfl ?_
                        refine la_169 dX12_part_236 (A_169 hw) hT (rIx (n := 1000) h24 rfl) fun z132 q133 h134 => ?_
                        refine sv_goto (tgt := 242) dX12_part_237 (by decide) ?_
                        exact mr_iretP dX12_part_242 rfl (le_t rfl) (le_t rfl) ⟨h134, trivial⟩
                      have h135 : 2 ≤ z25 ∧ z25 ≤ 2 := (vc_X12_part_28 h44 q26 h28 h14 h27)
                      refine mr_iload_n (z := z22) dX12_part_161 rfl rfl ?_
                      refine sv_aload_n dX12_part_162 rfl rfl ?_
                      refine gf_X12_88 dX12_part_163 wF_X12_625 (A_106 hw) hT fun z136 q137 h138 => ?_
                      refine mr_icmp_ge (tgt := 193) dX12_part_166 (by decide) (r32 h24 rfl) (r32 h138 rfl) (fun h144 => ?_) (fun h144 => ?_)
                      · have h145 : 0 ≤ z136 ∧ z136 ≤ 99 := (vc_X12_part_29 h144 q23 h14 h138 h24)
                        refine mr_ldc (z := (-99999999)) dX12_part_193 wG_X12_29 (by decide) ?_
                        exact mr_iretP dX12_part_195 rfl (le_t rfl) (le_t rfl) ⟨(rW (c := (-2147483648)) (d := 2147483647) (rR (x := (-99999999))) rfl), trivial⟩
                      have h146 : 1 ≤ z136 ∧ z136 ≤ 1000 := (vc_X12_part_30 h144 q23 h14 h138 h24)
                      refine mr_iload (z := z25) dX12_part_169 rfl ?_
                      refine mr_iconst (z := 1) dX12_part_171 ?_
                      refine mr_icmp_ne (tgt := 184) dX12_part_172 (by decide) (r32 h135 rfl) (r32 (rR (x := 1)) rfl) (fun _ => ?_) (fun h => ((vc_X12_part_31 h h135)).elim)
                      refine sv_aload_n dX12_part_184 rfl rfl ?_
                      refine gf_X12_87 dX12_part_185 wF_X12_463 (A_106 hw) hT ?_
                      refine mr_iload_n (z := z22) dX12_part_188 rfl rfl ?_
                      refine la_167 dX12_part_189 (A_167 hw) hT (rIx (n := 1000) h24 rfl) fun z147 q148 h149 => ?_
                      refine sv_goto (tgt := 195) dX12_part_190 (by decide) ?_
                      exact mr_iretP dX12_part_195 rfl (le_t rfl) (le_t rfl) ⟨h149, trivial⟩
                    have h150 : 7 ≤ p1 ∧ p1 ≤ 7 := (vc_X12_part_32 h21 h13 h15 h16 h17 h18 h19 h20 h14)
                    refine sv_aload_n dX12_part_133 rfl rfl ?_
                    refine gf_X12_101 dX12_part_134 wF_X12_637 (A_106 hw) hT fun z151 q152 h153 => ?_
                    exact mr_iretP dX12_part_137 rfl (le_t rfl) (le_t rfl) ⟨(rW (c := (-2147483648)) (d := 2147483647) h153 rfl), trivial⟩
                  have h154 : 6 ≤ p1 ∧ p1 ≤ 6 := (vc_X12_part_33 h20 h6 h13 h15 h16 h17 h18 h19 h14)
                  refine sv_aload_n dX12_part_118 rfl rfl ?_
                  refine gf_X12_32 dX12_part_119 wF_X12_148 (A_106 hw) hT ?_
                  refine mr_iload_n (z := 960) dX12_part_122 rfl rfl ?_
                  refine mr_iconst (z := 4) dX12_part_123 ?_
                  refine mr_iadd (x := 960) (y := 4) dX12_part_124 ?_
                  refine la_126 dX12_part_125 (A_126 hw) hT (rIx (n := 84000) (rAdd (e := 964) (f := 964) (rR (x := 960)) (rR (x := 4)) rfl) rfl) fun z155 q156 h157 => ?_
                  have h158 : 0 ≤ z155 ∧ z155 ≤ 20 := h157.2.2.1 vc_X12_part_21
                  exact mr_iretP dX12_part_126 rfl (le_t rfl) (le_t rfl) ⟨(rW (c := (-2147483648)) (d := 2147483647) h158 rfl), trivial⟩
                have h159 : 5 ≤ p1 ∧ p1 ≤ 5 := (vc_X12_part_34 h19 h6 h13 h15 h16 h17 h18 h14)
                refine sv_aload_n dX12_part_103 rfl rfl ?_
                refine gf_X12_32 dX12_part_104 wF_X12_148 (A_106 hw) hT ?_
                refine mr_iload_n (z := 960) dX12_part_107 rfl rfl ?_
                refine mr_iconst (z := 3) dX12_part_108 ?_
                refine mr_iadd (x := 960) (y := 3) dX12_part_109 ?_
                refine la_126 dX12_part_110 (A_126 hw) hT (rIx (n := 84000) (rAdd (e := 963) (f := 963) (rR (x := 960)) (rR (x := 3)) rfl) rfl) fun z160 q161 h162 => ?_
                exact mr_iretP dX12_part_111 rfl (le_t rfl) (le_t rfl) ⟨h162.1, trivial⟩
              have h163 : 4 ≤ p1 ∧ p1 ≤ 4 := (vc_X12_part_35 h18 h6 h13 h15 h16 h17 h14)
              refine sv_aload_n dX12_part_89 rfl rfl ?_
              refine gf_X12_32 dX12_part_90 wF_X12_148 (A_106 hw) hT ?_
              refine mr_iload_n (z := 960) dX12_part_93 rfl rfl ?_
              refine mr_iconst (z := 2) dX12_part_94 ?_
              refine mr_iadd (x := 960) (y := 2) dX12_part_95 ?_
              refine la_126 dX12_part_96 (A_126 hw) hT (rIx (n := 84000) (rAdd (e := 962) (f := 962) (rR (x := 960)) (rR (x := 2)) rfl) rfl) fun z164 q165 h166 => ?_
              exact mr_iretP dX12_part_97 rfl (le_t rfl) (le_t rfl) ⟨h166.1, trivial⟩
            have h167 : 3 ≤ p1 ∧ p1 ≤ 3 := (vc_X12_part_36 h17 h6 h13 h15 h16 h14)
            refine sv_aload_n dX12_part_79 rfl rfl ?_
            refine gf_X12_93 dX12_part_80 wF_X12_652 (A_106 hw) hT fun z168 q169 h170 => ?_
            exact mr_iretP dX12_part_83 rfl (le_t rfl) (le_t rfl) ⟨(rW (c := (-2147483648)) (d := 2147483647) h170 rfl), trivial⟩
          have h171 : 2 ≤ p1 ∧ p1 ≤ 2 := (vc_X12_part_37 h16 h6 h13 h15 h14)
          refine sv_aload_n dX12_part_69 rfl rfl ?_
          refine gf_X12_91 dX12_part_70 wF_X12_628 (A_106 hw) hT fun z172 q173 h174 => ?_
          exact mr_iretP dX12_part_73 rfl (le_t rfl) (le_t rfl) ⟨(rW (c := (-2147483648)) (d := 2147483647) h174 rfl), trivial⟩
        have h175 : 1 ≤ p1 ∧ p1 ≤ 1 := (vc_X12_part_38 h15 h6 h13 h14)
        refine sv_aload_n dX12_part_59 rfl rfl ?_
        refine gf_X12_88 dX12_part_60 wF_X12_625 (A_106 hw) hT fun z176 q177 h178 => ?_
        exact mr_iretP dX12_part_63 rfl (le_t rfl) (le_t rfl) ⟨(rW (c := (-2147483648)) (d := 2147483647) h178 rfl), trivial⟩
      have h179 : (-2147483648) ≤ p1 ∧ p1 ≤ (-1) := (vc_X12_part_39 h13 h6 hp1)
      refine mr_ldc (z := (-99999999)) dX12_part_47 wG_X12_29 (by decide) ?_
      exact mr_iretP dX12_part_49 rfl (le_t rfl) (le_t rfl) ⟨(rW (c := (-2147483648)) (d := 2147483647) (rR (x := (-99999999))) rfl), trivial⟩
    have h180 : 0 ≤ p1 ∧ p1 ≤ 0 := (vc_X12_part_40 h6 hp1)
    refine sv_aload_n dX12_part_14 rfl rfl ?_
    refine gf_X12_102 dX12_part_15 wF_X12_668 (A_106 hw) hT fun z181 q182 h183 => ?_
    refine mr_if_ne (tgt := 26) dX12_part_18 (by decide) (r32 h183 rfl) (fun h189 => ?_) (fun h189 => ?_)
    · have h190 : 1 ≤ z181 ∧ z181 ≤ 3 := (vc_X12_part_41 h189 h183)
      refine sv_aload_n dX12_part_26 rfl rfl ?_
      refine gf_X12_95 dX12_part_27 wF_X12_478 (A_106 hw) hT ?_
      refine sv_aload_n dX12_part_30 rfl rfl ?_
      refine gk_X12_102 dX12_part_31 wF_X12_668 (A_106 hw) q182 ?_
      refine la_172 dX12_part_34 (A_172 hw) hT (rIx (n := 4) h190 rfl) fun z191 q192 h193 => ?_
      exact mr_iretP dX12_part_35 rfl (le_t rfl) (le_t rfl) ⟨h193, trivial⟩
    have h194 : 0 ≤ z181 ∧ z181 ≤ 0 := (vc_X12_part_42 h189 h183)
    refine mr_ldc (z := (-99999999)) dX12_part_21 wG_X12_29 (by decide) ?_
    refine sv_goto (tgt := 35) dX12_part_23 (by decide) ?_
    exact mr_iretP dX12_part_35 rfl (le_t rfl) (le_t rfl) ⟨(rW (c := (-2147483648)) (d := 2147483647) (rR (x := (-99999999))) rfl), trivial⟩
  have h195 : 0 ≤ z1 ∧ z1 ≤ 0 := (vc_X12_part_43 h4 h3)
  refine mr_ldc (z := (-99999999)) dX12_part_7 wG_X12_29 (by decide) ?_
  exact mr_iretP dX12_part_9 rfl (le_t rfl) (le_t rfl) ⟨(rW (c := (-2147483648)) (d := 2147483647) (rR (x := (-99999999))) rfl), trivial⟩
