theorem vc_X12_in_1 {p1 p2 : Int} (h0 : p1 < p2) (h1 : (-2147483648) ≤ p1 ∧ p1 ≤ 2147483647) (h2 : (-2147483648) ≤ p2 ∧ p2 ≤ 2147483647) : (-2147483648) ≤ p1 ∧ p1 ≤ 2147483646 := by omega
theorem vc_X12_in_2 {p1 p2 : Int} (h0 : p1 < p2) (h1 : (-2147483648) ≤ p1 ∧ p1 ≤ 2147483646) (h2 : (-2147483648) ≤ p2 ∧ p2 ≤ 2147483647) : (-2147483647) ≤ p2 ∧ p2 ≤ 2147483647 := by omega
theorem vc_X12_in_3 {p1 p2 p3 : Int} (h0 : p1 < p2) (h1 : (-2147483648) ≤ p1 ∧ p1 ≤ 2147483646) (h2 : (-2147483647) ≤ p2 ∧ p2 ≤ 2147483647) (h3 : (-2147483648) ≤ p3 ∧ p3 ≤ 2147483647) : (0 : Int) = 1 → p2 ≤ p1 ∧ p1 ≤ p3 := by omega
theorem vc_X12_in_4 {p1 p2 p3 : Int} (h0 : p1 < p2) (h1 : (-2147483648) ≤ p1 ∧ p1 ≤ 2147483646) (h2 : (-2147483647) ≤ p2 ∧ p2 ≤ 2147483647) (h3 : (-2147483648) ≤ p3 ∧ p3 ≤ 2147483647) : (0 : Int) = 0 → p1 < p2 ∨ p3 < p1 := by omega
theorem vc_X12_in_5 {p1 p2 p3 : Int} (h0 : p3 < p1) (h1 : p2 ≤ p1) (h2 : (-2147483648) ≤ p1 ∧ p1 ≤ 2147483647) (h3 : (-2147483648) ≤ p2 ∧ p2 ≤ 2147483647) (h4 : (-2147483648) ≤ p3 ∧ p3 ≤ 2147483647) : (-2147483647) ≤ p1 ∧ p1 ≤ 2147483647 := by omega
theorem vc_X12_in_6 {p1 p2 p3 : Int} (h0 : p3 < p1) (h1 : p2 ≤ p1) (h2 : (-2147483647) ≤ p1 ∧ p1 ≤ 2147483647) (h3 : (-2147483648) ≤ p2 ∧ p2 ≤ 2147483647) (h4 : (-2147483648) ≤ p3 ∧ p3 ≤ 2147483647) : (-2147483648) ≤ p3 ∧ p3 ≤ 2147483646 := by omega
theorem vc_X12_in_7 {p1 p2 p3 : Int} (h0 : p2 ≤ p1) (h1 : p3 < p1) (h2 : (-2147483647) ≤ p1 ∧ p1 ≤ 2147483647) (h3 : (-2147483648) ≤ p2 ∧ p2 ≤ 2147483647) (h4 : (-2147483648) ≤ p3 ∧ p3 ≤ 2147483646) : (0 : Int) = 1 → p2 ≤ p1 ∧ p1 ≤ p3 := by omega
theorem vc_X12_in_8 {p1 p2 p3 : Int} (h0 : p2 ≤ p1) (h1 : p3 < p1) (h2 : (-2147483647) ≤ p1 ∧ p1 ≤ 2147483647) (h3 : (-2147483648) ≤ p2 ∧ p2 ≤ 2147483647) (h4 : (-2147483648) ≤ p3 ∧ p3 ≤ 2147483646) : (0 : Int) = 0 → p1 < p2 ∨ p3 < p1 := by omega
theorem vc_X12_in_9 {p1 p2 p3 : Int} (h0 : p2 ≤ p1) (h1 : p1 ≤ p3) (h2 : (-2147483648) ≤ p1 ∧ p1 ≤ 2147483647) (h3 : (-2147483648) ≤ p2 ∧ p2 ≤ 2147483647) (h4 : (-2147483648) ≤ p3 ∧ p3 ≤ 2147483647) : (1 : Int) = 1 → p2 ≤ p1 ∧ p1 ≤ p3 := by omega
theorem vc_X12_in_10 {p1 p2 p3 : Int} (h0 : p2 ≤ p1) (h1 : p1 ≤ p3) (h2 : (-2147483648) ≤ p1 ∧ p1 ≤ 2147483647) (h3 : (-2147483648) ≤ p2 ∧ p2 ≤ 2147483647) (h4 : (-2147483648) ≤ p3 ∧ p3 ≤ 2147483647) : (1 : Int) = 0 → p1 < p2 ∨ p3 < p1 := by omega
set_option maxRecDepth 4000 in
set_option maxHeartbeats 4000000 in
theorem c_X12_in {l : Launch} {D : va_G} {c : Nat → ClassId} {H0 : Heap} {sa : Nat × Nat × (Nat → Int32)} {w : mW} {μ : mM} (hw : mWF w) (hT : mT w μ) {p1 : Int} (hp1 : (-2147483648) ≤ p1 ∧ p1 ≤ 2147483647) {p2 : Int} (hp2 : (-2147483648) ≤ p2 ∧ p2 ≤ 2147483647) {p3 : Int} (hp3 : (-2147483648) ≤ p3 ∧ p3 ≤ 2147483647) : sC (gG l D c H0 sa) mX12_in 1 0 0 [iv p1, iv p2, iv p3] (mk w μ) (qP w μ (fun z => (0 ≤ z ∧ z ≤ 1) ∧ (z = 1 → p2 ≤ p1 ∧ p1 ≤ p3) ∧ (z = 0 → p1 < p2 ∨ p3 < p1) ∧ True)) := by
  refine sC.of rfl (by decide) (le_t rfl) ?_
  refine mr_lvE (lv' := [(0, iv p1), (1, iv p2), (2, iv p3)]) rfl ?_
  refine mr_iload_n (z := p1) dX12_in_0 rfl rfl ?_
  refine mr_iload_n (z := p2) dX12_in_1 rfl rfl ?_
  refine mr_icmp_lt (tgt := 14) dX12_in_2 (by decide) hp1 hp2 (fun h5 => ?_) (fun h5 => ?_)
  · have h6 : (-2147483648) ≤ p1 ∧ p1 ≤ 2147483646 := (vc_X12_in_1 h5 hp1 hp2)
    have h7 : (-2147483647) ≤ p2 ∧ p2 ≤ 2147483647 := (vc_X12_in_2 h5 h6 hp2)
    refine mr_iconst (z := 0) dX12_in_14 ?_
    exact mr_zretP dX12_in_15 rfl (rW (c := 0) (d := 1) (rR (x := 0)) rfl) (le_t rfl) (le_t rfl) ⟨(rW (c := 0) (d := 1) (rR (x := 0)) rfl), (vc_X12_in_3 h5 h6 h7 hp3), (vc_X12_in_4 h5 h6 h7 hp3), trivial⟩
  refine mr_iload_n (z := p1) dX12_in_5 rfl rfl ?_
  refine mr_iload_n (z := p3) dX12_in_6 rfl rfl ?_
  refine mr_icmp_gt (tgt := 14) dX12_in_7 (by decide) hp1 hp3 (fun h10 => ?_) (fun h10 => ?_)
  · have h11 : (-2147483647) ≤ p1 ∧ p1 ≤ 2147483647 := (vc_X12_in_5 h10 h5 hp1 hp2 hp3)
    have h12 : (-2147483648) ≤ p3 ∧ p3 ≤ 2147483646 := (vc_X12_in_6 h10 h5 h11 hp2 hp3)
    refine mr_iconst (z := 0) dX12_in_14 ?_
    exact mr_zretP dX12_in_15 rfl (rW (c := 0) (d := 1) (rR (x := 0)) rfl) (le_t rfl) (le_t rfl) ⟨(rW (c := 0) (d := 1) (rR (x := 0)) rfl), (vc_X12_in_7 h5 h10 h11 hp2 h12), (vc_X12_in_8 h5 h10 h11 hp2 h12), trivial⟩
  refine mr_iconst (z := 1) dX12_in_10 ?_
  refine sv_goto (tgt := 15) dX12_in_11 (by decide) ?_
  exact mr_zretP dX12_in_15 rfl (rW (c := 0) (d := 1) (rR (x := 1)) rfl) (le_t rfl) (le_t rfl) ⟨(rW (c := 0) (d := 1) (rR (x := 1)) rfl), (vc_X12_in_9 h5 h10 hp1 hp2 hp3), (vc_X12_in_10 h5 h10 hp1 hp2 hp3), trivial⟩
theorem vc_X12_mask_1 {p1 : Int} (h0 : ¬ p1 = 0) (h1 : 0 ≤ p1 ∧ p1 ≤ 32) : 1 ≤ p1 ∧ p1 ≤ 32 := by omega
theorem vc_X12_mask_2 {p1 : Int} (h0 : p1 = 0) (h1 : 0 ≤ p1 ∧ p1 ≤ 32) : 0 ≤ p1 ∧ p1 ≤ 0 := by omega
set_option maxRecDepth 4000 in
set_option maxHeartbeats 4000000 in
theorem c_X12_mask {l : Launch} {D : va_G} {c : Nat → ClassId} {H0 : Heap} {sa : Nat × Nat × (Nat → Int32)} {w : mW} {μ : mM} (hw : mWF w) (hT : mT w μ) {p1 : Int} (hp1 : 0 ≤ p1 ∧ p1 ≤ 32) : sC (gG l D c H0 sa) mX12_mask 1 0 0 [iv p1] (mk w μ) (qP w μ (fun z => ((-2147483648) ≤ z ∧ z ≤ 2147483647) ∧ True)) := by
  refine sC.of rfl (by decide) (le_t rfl) ?_
  refine mr_lvE (lv' := [(0, iv p1)]) rfl ?_
  refine mr_iload_n (z := p1) dX12_mask_0 rfl rfl ?_
  refine mr_if_ne (tgt := 8) dX12_mask_1 (by decide) (r32 hp1 rfl) (fun h6 => ?_) (fun h6 => ?_)
  · have h7 : 1 ≤ p1 ∧ p1 ≤ 32 := (vc_X12_mask_1 h6 hp1)
    refine mr_iconst (z := (-1)) dX12_mask_8 ?_
    refine mr_bipush (z := 32) dX12_mask_9 (by decide) ?_
    refine mr_iload_n (z := p1) dX12_mask_11 rfl rfl ?_
    refine mr_isub (x := 32) (y := p1) dX12_mask_12 ?_
    refine mr_ishl (x := (-1)) (y := (32 - p1)) dX12_mask_13 ?_
    refine mr_gen (P := fun z => (-2147483648) ≤ z ∧ z ≤ 2147483647) (r32i _) fun z8 q9 h10 => ?_
    exact mr_iretP dX12_mask_14 rfl (le_t rfl) (le_t rfl) ⟨h10, trivial⟩
  have h11 : 0 ≤ p1 ∧ p1 ≤ 0 := (vc_X12_mask_2 h6 hp1)
  refine mr_iconst (z := 0) dX12_mask_4 ?_
  refine sv_goto (tgt := 14) dX12_mask_5 (by decide) ?_
  exact mr_iretP dX12_mask_14 rfl (le_t rfl) (le_t rfl) ⟨(rW (c := (-2147483648)) (d := 2147483647) (rR (x := 0)) rfl), trivial⟩
theorem vc_X12_holds_1 {z9 : Int} (h0 : z9 = 0) (h1 : (-2147483648) ≤ z9 ∧ z9 ≤ 2147483647) : 0 ≤ z9 ∧ z9 ≤ 0 := by omega
set_option maxRecDepth 4000 in
set_option maxHeartbeats 4000000 in
theorem c_X12_holds {l : Launch} {D : va_G} {c : Nat → ClassId} {H0 : Heap} {sa : Nat × Nat × (Nat → Int32)} {w : mW} {μ : mM} (hw : mWF w) (hT : mT w μ) {p1 : Int} (hp1 : (-2147483648) ≤ p1 ∧ p1 ≤ 2147483647) {p2 : Int} (hp2 : 0 ≤ p2 ∧ p2 ≤ 32) {p3 : Int} (hp3 : (-2147483648) ≤ p3 ∧ p3 ≤ 2147483647) : sC (gG l D c H0 sa) mX12_holds 2 0 0 [iv p1, iv p2, iv p3] (mk w μ) (qP w μ (fun z => (0 ≤ z ∧ z ≤ 1) ∧ True)) := by
  refine sC.of rfl (by decide) (le_t rfl) ?_
  refine mr_lvE (lv' := [(0, iv p1), (1, iv p2), (2, iv p3)]) rfl ?_
  refine mr_iload_n (z := p1) dX12_holds_0 rfl rfl ?_
  refine mr_iload_n (z := p3) dX12_holds_1 rfl rfl ?_
  refine mr_ixor (x := p1) (y := p3) dX12_holds_2 ?_
  refine mr_gen (P := fun z => (-2147483648) ≤ z ∧ z ≤ 2147483647) (r32i _) fun z1 q2 h3 => ?_
  refine mr_iload_n (z := p2) dX12_holds_3 rfl rfl ?_
  refine mr_cSP (c_X12_mask hw hT hp2) (gOk _ _ _ _ _) dX12_holds_4 (tX12_mask _ _ _ _ _) wS_X12_mask wM_X12_11 ⟨le_t rfl, le_t rfl⟩ ⟨le_t rfl, le_t rfl⟩ rfl (le_t rfl) fun z8 h7 => ?_
  refine mr_iand (x := z1) (y := z8) dX12_holds_7 ?_
  refine mr_gen (P := fun z => (-2147483648) ≤ z ∧ z ≤ 2147483647) (r32i _) fun z9 q10 h11 => ?_
  refine mr_if_ne (tgt := 15) dX12_holds_8 (by decide) h11 (fun h13 => ?_) (fun h13 => ?_)
  · refine mr_iconst (z := 0) dX12_holds_15 ?_
    exact mr_zretP dX12_holds_16 rfl (rW (c := 0) (d := 1) (rR (x := 0)) rfl) (le_t rfl) (le_t rfl) ⟨(rW (c := 0) (d := 1) (rR (x := 0)) rfl), trivial⟩
  have h14 : 0 ≤ z9 ∧ z9 ≤ 0 := (vc_X12_holds_1 h13 h11)
  refine mr_iconst (z := 1) dX12_holds_11 ?_
  refine sv_goto (tgt := 16) dX12_holds_12 (by decide) ?_
  exact mr_zretP dX12_holds_16 rfl (rW (c := 0) (d := 1) (rR (x := 1)) rfl) (le_t rfl) (le_t rfl) ⟨(rW (c := 0) (d := 1) (rR (x := 1)) rfl), trivial⟩
theorem vc_X12_isPrefix_1 {f_prefixes p1 z20 : Int} (h0 : (z20 = 1 → 0 ≤ p1 ∧ p1 ≤ (f_prefixes - 1))) (h1 : (z20 = 0 → p1 < 0 ∨ (f_prefixes - 1) < p1)) (h2 : 0 ≤ f_prefixes ∧ f_prefixes ≤ 10) (h3 : (-2147483648) ≤ p1 ∧ p1 ≤ 2147483647) (h4 : 0 ≤ z20 ∧ z20 ≤ 1) : z20 = 1 → 0 ≤ p1 ∧ p1 < f_prefixes := by omega
theorem vc_X12_isPrefix_2 {f_prefixes p1 z20 : Int} (h0 : (z20 = 1 → 0 ≤ p1 ∧ p1 ≤ (f_prefixes - 1))) (h1 : (z20 = 0 → p1 < 0 ∨ (f_prefixes - 1) < p1)) (h2 : 0 ≤ f_prefixes ∧ f_prefixes ≤ 10) (h3 : (-2147483648) ≤ p1 ∧ p1 ≤ 2147483647) (h4 : 0 ≤ z20 ∧ z20 ≤ 1) : z20 = 0 → p1 < 0 ∨ f_prefixes ≤ p1 := by omega
set_option maxRecDepth 4000 in
set_option maxHeartbeats 4000000 in
theorem c_X12_isPrefix {l : Launch} {D : va_G} {c : Nat → ClassId} {H0 : Heap} {sa : Nat × Nat × (Nat → Int32)} {w : mW} {μ : mM} (hw : mWF w) (hT : mT w μ) {p1 : Int} (hp1 : (-2147483648) ≤ p1 ∧ p1 ≤ 2147483647) {f_prefixes : Int} (q_f_prefixes : μ 106 2 = f_prefixes) : sC (gG l D c H0 sa) mX12_isPrefix 2 0 0 [.ref 106, iv p1] (mk w μ) (qP w μ (fun z => (0 ≤ z ∧ z ≤ 1) ∧ (z = 1 → 0 ≤ p1 ∧ p1 < f_prefixes) ∧ (z = 0 → p1 < 0 ∨ f_prefixes ≤ p1) ∧ True)) := by
  refine sC.of rfl (by decide) (le_t rfl) ?_
  have ht_f_prefixes : (0 ≤ f_prefixes ∧ f_prefixes ≤ 10) := by rw [← q_f_prefixes]; exact hT 106 106 (A_106 hw) 2
  refine mr_lvE (lv' := [(0, .ref 106), (1, iv p1)]) rfl ?_
  refine mr_iload_n (z := p1) dX12_isPrefix_0 rfl rfl ?_
  refine mr_iconst (z := 0) dX12_isPrefix_1 ?_
  refine sv_aload_n dX12_isPrefix_2 rfl rfl ?_
  refine gk_X12_2 dX12_isPrefix_3 wF_X12_15 (A_106 hw) q_f_prefixes ?_
  refine mr_iconst (z := 1) dX12_isPrefix_6 ?_
  refine mr_isub (x := f_prefixes) (y := 1) dX12_isPrefix_7 ?_
  refine mr_cSP (c_X12_in hw hT hp1 (rW (c := (-2147483648)) (d := 2147483647) (rR (x := 0)) rfl) (rW (c := (-2147483648)) (d := 2147483647) (rSub (e := (-1)) (f := 9) ht_f_prefixes (rR (x := 1)) rfl) rfl)) (gOk _ _ _ _ _) dX12_isPrefix_8 (tX12_in _ _ _ _ _) wS_X12_in wM_X12_18 ⟨le_t rfl, le_t rfl⟩ ⟨le_t rfl, le_t rfl⟩ rfl (le_t rfl) fun z20 h19 => ?_
  exact mr_zretP dX12_isPrefix_11 rfl h19.1 (le_t rfl) (le_t rfl) ⟨h19.1, (vc_X12_isPrefix_1 h19.2.1 h19.2.2.1 ht_f_prefixes hp1 h19.1), (vc_X12_isPrefix_2 h19.2.1 h19.2.2.1 ht_f_prefixes hp1 h19.1), trivial⟩
theorem vc_X12_isDomain_1 {f_domains p1 z20 : Int} (h0 : (z20 = 1 → 0 ≤ p1 ∧ p1 ≤ (f_domains - 1))) (h1 : (z20 = 0 → p1 < 0 ∨ (f_domains - 1) < p1)) (h2 : 0 ≤ f_domains ∧ f_domains ≤ 10) (h3 : (-2147483648) ≤ p1 ∧ p1 ≤ 2147483647) (h4 : 0 ≤ z20 ∧ z20 ≤ 1) : z20 = 1 → 0 ≤ p1 ∧ p1 < f_domains := by omega
theorem vc_X12_isDomain_2 {f_domains p1 z20 : Int} (h0 : (z20 = 1 → 0 ≤ p1 ∧ p1 ≤ (f_domains - 1))) (h1 : (z20 = 0 → p1 < 0 ∨ (f_domains - 1) < p1)) (h2 : 0 ≤ f_domains ∧ f_domains ≤ 10) (h3 : (-2147483648) ≤ p1 ∧ p1 ≤ 2147483647) (h4 : 0 ≤ z20 ∧ z20 ≤ 1) : z20 = 0 → p1 < 0 ∨ f_domains ≤ p1 := by omega
set_option maxRecDepth 4000 in
set_option maxHeartbeats 4000000 in
theorem c_X12_isDomain {l : Launch} {D : va_G} {c : Nat → ClassId} {H0 : Heap} {sa : Nat × Nat × (Nat → Int32)} {w : mW} {μ : mM} (hw : mWF w) (hT : mT w μ) {p1 : Int} (hp1 : (-2147483648) ≤ p1 ∧ p1 ≤ 2147483647) {f_domains : Int} (q_f_domains : μ 106 5 = f_domains) : sC (gG l D c H0 sa) mX12_isDomain 2 0 0 [.ref 106, iv p1] (mk w μ) (qP w μ (fun z => (0 ≤ z ∧ z ≤ 1) ∧ (z = 1 → 0 ≤ p1 ∧ p1 < f_domains) ∧ (z = 0 → p1 < 0 ∨ f_domains ≤ p1) ∧ True)) := by
  refine sC.of rfl (by decide) (le_t rfl) ?_
  have ht_f_domains : (0 ≤ f_domains ∧ f_domains ≤ 10) := by rw [← q_f_domains]; exact hT 106 106 (A_106 hw) 5
  refine mr_lvE (lv' := [(0, .ref 106), (1, iv p1)]) rfl ?_
  refine mr_iload_n (z := p1) dX12_isDomain_0 rfl rfl ?_
  refine mr_iconst (z := 0) dX12_isDomain_1 ?_
  refine sv_aload_n dX12_isDomain_2 rfl rfl ?_
  refine gk_X12_5 dX12_isDomain_3 wF_X12_34 (A_106 hw) q_f_domains ?_
  refine mr_iconst (z := 1) dX12_isDomain_6 ?_
  refine mr_isub (x := f_domains) (y := 1) dX12_isDomain_7 ?_
  refine mr_cSP (c_X12_in hw hT hp1 (rW (c := (-2147483648)) (d := 2147483647) (rR (x := 0)) rfl) (rW (c := (-2147483648)) (d := 2147483647) (rSub (e := (-1)) (f := 9) ht_f_domains (rR (x := 1)) rfl) rfl)) (gOk _ _ _ _ _) dX12_isDomain_8 (tX12_in _ _ _ _ _) wS_X12_in wM_X12_18 ⟨le_t rfl, le_t rfl⟩ ⟨le_t rfl, le_t rfl⟩ rfl (le_t rfl) fun z20 h19 => ?_
  exact mr_zretP dX12_isDomain_11 rfl h19.1 (le_t rfl) (le_t rfl) ⟨h19.1, (vc_X12_isDomain_1 h19.2.1 h19.2.2.1 ht_f_domains hp1 h19.1), (vc_X12_isDomain_2 h19.2.1 h19.2.2.1 ht_f_domains hp1 h19.1), trivial⟩
theorem vc_X12_isTie_1 {f_ties p1 z20 : Int} (h0 : (z20 = 1 → 0 ≤ p1 ∧ p1 ≤ (f_ties - 1))) (h1 : (z20 = 0 → p1 < 0 ∨ (f_ties - 1) < p1)) (h2 : 0 ≤ f_ties ∧ f_ties ≤ 20) (h3 : (-2147483648) ≤ p1 ∧ p1 ≤ 2147483647) (h4 : 0 ≤ z20 ∧ z20 ≤ 1) : z20 = 1 → 0 ≤ p1 ∧ p1 < f_ties := by omega
theorem vc_X12_isTie_2 {f_ties p1 z20 : Int} (h0 : (z20 = 1 → 0 ≤ p1 ∧ p1 ≤ (f_ties - 1))) (h1 : (z20 = 0 → p1 < 0 ∨ (f_ties - 1) < p1)) (h2 : 0 ≤ f_ties ∧ f_ties ≤ 20) (h3 : (-2147483648) ≤ p1 ∧ p1 ≤ 2147483647) (h4 : 0 ≤ z20 ∧ z20 ≤ 1) : z20 = 0 → p1 < 0 ∨ f_ties ≤ p1 := by omega
set_option maxRecDepth 4000 in
set_option maxHeartbeats 4000000 in
theorem c_X12_isTie {l : Launch} {D : va_G} {c : Nat → ClassId} {H0 : Heap} {sa : Nat × Nat × (Nat → Int32)} {w : mW} {μ : mM} (hw : mWF w) (hT : mT w μ) {p1 : Int} (hp1 : (-2147483648) ≤ p1 ∧ p1 ≤ 2147483647) {f_ties : Int} (q_f_ties : μ 106 6 = f_ties) : sC (gG l D c H0 sa) mX12_isTie 2 0 0 [.ref 106, iv p1] (mk w μ) (qP w μ (fun z => (0 ≤ z ∧ z ≤ 1) ∧ (z = 1 → 0 ≤ p1 ∧ p1 < f_ties) ∧ (z = 0 → p1 < 0 ∨ f_ties ≤ p1) ∧ True)) := by
  refine sC.of rfl (by decide) (le_t rfl) ?_
  have ht_f_ties : (0 ≤ f_ties ∧ f_ties ≤ 20) := by rw [← q_f_ties]; exact hT 106 106 (A_106 hw) 6
  refine mr_lvE (lv' := [(0, .ref 106), (1, iv p1)]) rfl ?_
  refine mr_iload_n (z := p1) dX12_isTie_0 rfl rfl ?_
  refine mr_iconst (z := 0) dX12_isTie_1 ?_
  refine sv_aload_n dX12_isTie_2 rfl rfl ?_
  refine gk_X12_6 dX12_isTie_3 wF_X12_37 (A_106 hw) q_f_ties ?_
  refine mr_iconst (z := 1) dX12_isTie_6 ?_
  refine mr_isub (x := f_ties) (y := 1) dX12_isTie_7 ?_
  refine mr_cSP (c_X12_in hw hT hp1 (rW (c := (-2147483648)) (d := 2147483647) (rR (x := 0)) rfl) (rW (c := (-2147483648)) (d := 2147483647) (rSub (e := (-1)) (f := 19) ht_f_ties (rR (x := 1)) rfl) rfl)) (gOk _ _ _ _ _) dX12_isTie_8 (tX12_in _ _ _ _ _) wS_X12_in wM_X12_18 ⟨le_t rfl, le_t rfl⟩ ⟨le_t rfl, le_t rfl⟩ rfl (le_t rfl) fun z20 h19 => ?_
  exact mr_zretP dX12_isTie_11 rfl h19.1 (le_t rfl) (le_t rfl) ⟨h19.1, (vc_X12_isTie_1 h19.2.1 h19.2.2.1 ht_f_ties hp1 h19.1), (vc_X12_isTie_2 h19.2.1 h19.2.2.1 ht_f_ties hp1 h19.1), trivial⟩
theorem vc_X12_feed_1 {z1 : Int} (h0 : (z1 + 20) ≤ 1000) (h1 : 0 ≤ z1 ∧ z1 ≤ 1000) : 0 ≤ z1 ∧ z1 ≤ 980 := by omega
theorem vc_X12_feed_2 {z378 : Int} (h0 : (21 - z378) < ((0 : Nat) : Int)) (h1 : 0 ≤ z378 ∧ z378 ≤ 20) : False := by omega
theorem vc_X12_feed_3 {z378 : Int} (h0 : 20 ≤ z378) (h1 : 0 ≤ z378 ∧ z378 ≤ 20) : 20 ≤ z378 ∧ z378 ≤ 20 := by omega
theorem vc_X12_feed_4 {z378 : Int} (h0 : z378 < 20) (h1 : 0 ≤ z378 ∧ z378 ≤ 20) : 0 ≤ z378 ∧ z378 ≤ 19 := by omega
theorem vc_X12_feed_5  : (0 : Int) < (4 : Int) ∧ (4 : Int) ≤ (2147483647 : Int) := by omega
theorem vc_X12_feed_6 {N z378 z428 : Int} (h0 : (21 - z378) < N + 1) (h1 : z378 < 20) (h2 : z378 % 4 = z428) (h3 : 0 ≤ z378 ∧ z378 ≤ 19) (h4 : 0 ≤ z428 ∧ z428 ≤ 3) : (21 - (z378 + 1)) < N := by omega
theorem vc_X12_feed_7 {z378 : Int} (h0 : 4 ≤ z378) (h1 : z378 < 20) (h2 : 0 ≤ z378 ∧ z378 ≤ 19) : 4 ≤ z378 ∧ z378 ≤ 19 := by omega
theorem vc_X12_feed_8 {z378 : Int} (h0 : 8 ≤ z378) (h1 : z378 < 20) (h2 : 4 ≤ z378) (h3 : 4 ≤ z378 ∧ z378 ≤ 19) : 8 ≤ z378 ∧ z378 ≤ 19 := by omega
theorem vc_X12_feed_9 {z378 : Int} (h0 : 12 ≤ z378) (h1 : z378 < 20) (h2 : 4 ≤ z378) (h3 : 8 ≤ z378) (h4 : 8 ≤ z378 ∧ z378 ≤ 19) : 12 ≤ z378 ∧ z378 ≤ 19 := by omega
theorem vc_X12_feed_10 {z378 : Int} (h0 : 16 ≤ z378) (h1 : z378 < 20) (h2 : 4 ≤ z378) (h3 : 8 ≤ z378) (h4 : 12 ≤ z378) (h5 : 12 ≤ z378 ∧ z378 ≤ 19) : 16 ≤ z378 ∧ z378 ≤ 19 := by omega
theorem vc_X12_feed_11 {z378 : Int} (h0 : z378 < 16) (h1 : z378 < 20) (h2 : 4 ≤ z378) (h3 : 8 ≤ z378) (h4 : 12 ≤ z378) (h5 : 12 ≤ z378 ∧ z378 ≤ 19) : 12 ≤ z378 ∧ z378 ≤ 15 := by omega
theorem vc_X12_feed_12 {z378 : Int} (h0 : z378 < 12) (h1 : z378 < 20) (h2 : 4 ≤ z378) (h3 : 8 ≤ z378) (h4 : 8 ≤ z378 ∧ z378 ≤ 19) : 8 ≤ z378 ∧ z378 ≤ 11 := by omega
theorem vc_X12_feed_13 {z378 : Int} (h0 : z378 < 8) (h1 : z378 < 20) (h2 : 4 ≤ z378) (h3 : 4 ≤ z378 ∧ z378 ≤ 19) : 4 ≤ z378 ∧ z378 ≤ 7 := by omega
theorem vc_X12_feed_14 {z378 : Int} (h0 : z378 < 4) (h1 : z378 < 20) (h2 : 0 ≤ z378 ∧ z378 ≤ 19) : 0 ≤ z378 ∧ z378 ≤ 3 := by omega
theorem vc_X12_feed_15  : (21 - 0) < ((22 : Nat) : Int) := by omega
theorem vc_X12_feed_16 {z1 : Int} (h0 : 1000 < (z1 + 20)) (h1 : 0 ≤ z1 ∧ z1 ≤ 1000) : 981 ≤ z1 ∧ z1 ≤ 1000 := by omega
set_option maxRecDepth 4000 in
set_option maxHeartbeats 4000000 in
theorem c_X12_feed {l : Launch} {D : va_G} {c : Nat → ClassId} {H0 : Heap} {sa : Nat × Nat × (Nat → Int32)} {w : mW} {μ : mM} (hw : mWF w) (hT : mT w μ) {p1 : Int} (hp1 : (-2147483648) ≤ p1 ∧ p1 ≤ 2147483647) {p2 : Int} (hp2 : (-2147483648) ≤ p2 ∧ p2 ≤ 2147483647) {p3 : Int} (hp3 : (-2147483648) ≤ p3 ∧ p3 ≤ 2147483647) {p4 : Int} (hp4 : (-2147483648) ≤ p4 ∧ p4 ≤ 2147483647) {p5 : Int} (hp5 : (-2147483648) ≤ p5 ∧ p5 ≤ 2147483647) : sC (gG l D c H0 sa) mX12_feed 1 0 0 [.ref 106, iv p1, iv p2, iv p3, iv p4, iv p5] (mk w μ) (qI w [106001, 107999] μ (fun z μ1 => ((-2147483648) ≤ z ∧ z ≤ 2147483647) ∧ True)) := by
  refine sC.of rfl (by decide) (le_t rfl) ?_
  refine mr_lvE (lv' := [(0, .ref 106), (1, iv p1), (2, iv p2), (3, iv p3), (4, iv p4), (5, iv p5)]) rfl ?_
  refine sv_aload_n dX12_feed_0 rfl rfl ?_
  refine gf_X12_1 dX12_feed_1 wF_X12_1 (A_106 hw) hT fun z1 q2 h3 => ?_
  refine mr_bipush (z := 20) dX12_feed_4 (by decide) ?_
  refine mr_iadd (x := z1) (y := 20) dX12_feed_6 ?_
  refine mr_sipush (z := 1000) dX12_feed_7 (by decide) ?_
  refine mr_icmp_le (tgt := 16) dX12_feed_10 (by decide) (r32 (rAdd (e := 20) (f := 1020) h3 (rR (x := 20)) rfl) rfl) (r32 (rR (x := 1000)) rfl) (fun h4 => ?_) (fun h4 => ?_)
  · have h5 : 0 ≤ z1 ∧ z1 ≤ 980 := (vc_X12_feed_1 h4 h3)
    refine mr_iconst (z := 0) dX12_feed_16 ?_
    refine mr_istore (lv' := [(6, iv 0), (0, .ref 106), (1, iv p1), (2, iv p2), (3, iv p3), (4, iv p4), (5, iv p5)]) dX12_feed_17 (by decide) rfl ?_
    have L380 : ∀ (nL380 : Nat) (z378 : Int) (μ379 : mM), mT w μ379 → mF [107999] w μ μ379 → (0 ≤ z378 ∧ z378 ≤ 20) → (21 - z378) < (nL380 : Int) → sV (gG l D c H0 sa) mX12_feed (sRm 1 0 0) (sZ (gG l D c H0 sa) 0 0 (qI w [106001, 107999] μ (fun z μ1 => ((-2147483648) ≤ z ∧ z ≤ 2147483647) ∧ True))) 19 [(0, .ref 106), (1, iv p1), (2, iv p2), (3, iv p3), (4, iv p4), (5, iv p5), (6, iv z378)] [] (mk w μ379) 0 0 := by
      intro nL380
      induction nL380 with
      | zero => intro z378 μ379 T382 F383 h381 h385; exact ((vc_X12_feed_2 h385 h381)).elim
      | succ nL380 ih386 =>
        intro z378 μ379 T382 F383 h381 h385
        refine mr_iload (z := z378) dX12_feed_19 rfl ?_
        refine mr_bipush (z := 20) dX12_feed_21 (by decide) ?_
        refine mr_icmp_ge (tgt := 106) dX12_feed_23 (by decide) (r32 h381 rfl) (r32 (rR (x := 20)) rfl) (fun h411 => ?_) (fun h411 => ?_)
        · have h412 : 20 ≤ z378 ∧ z378 ≤ 20 := (vc_X12_feed_3 h411 h381)
          refine sv_aload_n dX12_feed_106 rfl rfl ?_
          refine sv_dup dX12_feed_107 rfl ?_
          refine gk_X12_1 dX12_feed_108 wF_X12_1 (A_106 hw) (F383.f (A_106 hw) rfl q2) ?_
          refine mr_bipush (z := 20) dX12_feed_111 (by decide) ?_
          refine mr_iadd (x := z1) (y := 20) dX12_feed_113 ?_
          refine pf_X12_1 dX12_feed_114 wF_X12_1 (A_106 hw) T382 (rW (c := 0) (d := 1000) (rAdd (e := 20) (f := 1000) h5 (rR (x := 20)) rfl) rfl) fun μ413 u414 T415 => ?_
          refine sv_aload_n dX12_feed_117 rfl rfl ?_
          refine gk_X12_1 dX12_feed_118 wF_X12_1 (A_106 hw) u414.1 ?_
          exact mr_iret dX12_feed_121 rfl (le_t rfl) (le_t rfl) T415 (mF.up (mF.call mF.refl F383 rfl) (A_106 hw) u414 rfl) ⟨(rW (c := (-2147483648)) (d := 2147483647) (rAdd (e := 20) (f := 1000) h5 (rR (x := 20)) rfl) rfl), trivial⟩
        have h416 : 0 ≤ z378 ∧ z378 ≤ 19 := (vc_X12_feed_4 h411 h381)
        refine mr_iload (z := z378) dX12_feed_26 rfl ?_
        refine mr_iconst (z := 4) dX12_feed_28 ?_
        have J427 : ∀ (z425 : Int), ((-2147483648) ≤ z425 ∧ z425 ≤ 2147483647) → sV (gG l D c H0 sa) mX12_feed (sRm 1 0 0) (sZ (gG l D c H0 sa) 0 0 (qI w [106001, 107999] μ (fun z μ1 => ((-2147483648) ≤ z ∧ z ≤ 2147483647) ∧ True))) 72 [(0, .ref 106), (1, iv p1), (2, iv p2), (3, iv p3), (4, iv p4), (5, iv p5), (6, iv z378)] [iv z425] (mk w μ379) 0 0 := by
          intro z425 h426
          refine mr_istore (lv' := [(7, iv z425), (0, .ref 106), (1, iv p1), (2, iv p2), (3, iv p3), (4, iv p4), (5, iv p5), (6, iv z378)]) dX12_feed_72 (by decide) rfl ?_
          refine sv_aload_n dX12_feed_74 rfl rfl ?_
          refine gf_X12_0 dX12_feed_75 wF_X12_7 (A_106 hw) T382 ?_
          refine sv_aload_n dX12_feed_78 rfl rfl ?_
          refine gk_X12_1 dX12_feed_79 wF_X12_1 (A_106 hw) (F383.f (A_106 hw) rfl q2) ?_
          refine mr_iload (z := z378) dX12_feed_82 rfl ?_
          refine mr_iadd (x := z1) (y := z378) dX12_feed_84 ?_
          refine mr_iload (z := z425) dX12_feed_85 rfl ?_
          refine mr_bipush (z := 24) dX12_feed_87 (by decide) ?_
          refine mr_bipush (z := 8) dX12_feed_89 (by decide) ?_
          refine mr_iload (z := z378) dX12_feed_91 rfl ?_
          refine mr_iconst (z := 4) dX12_feed_93 ?_
          refine mr_irem (x := z378) (y := 4) dX12_feed_94 (rW (c := 0) (d := 2147483647) h416 rfl) vc_X12_feed_5 ?_
          refine mr_gen (P := fun z => 0 ≤ z ∧ z ≤ 3) (rMod h416 rfl) fun z428 q429 h430 => ?_
          refine mr_imul (x := 8) (y := z428) dX12_feed_95 ?_
          refine mr_isub (x := 24) (y := (8 * z428)) dX12_feed_96 ?_
          refine mr_ishr (x := z425) (y := (24 - (8 * z428))) dX12_feed_97 ?_
          refine mr_gen (P := fun z => (-2147483648) ≤ z ∧ z ≤ 2147483647) (r32i _) fun z431 q432 h433 => ?_
          refine mr_i2b dX12_feed_98 ?_
          refine mr_gen (P := fun z => (-128) ≤ z ∧ z ≤ 127) (rByte _) fun z434 q435 h436 => ?_
          refine ss_107 dX12_feed_99 (A_107 hw) T382 (rIx (n := 1000) (rAdd (e := 0) (f := 999) h5 h416 rfl) rfl) h436 fun μ437 u438 T439 => ?_
          refine mr_iinc (lv' := [(6, iv (z378 + 1)), (7, iv z425), (0, .ref 106), (1, iv p1), (2, iv p2), (3, iv p3), (4, iv p4), (5, iv p5)]) dX12_feed_100 rfl (by decide) rfl ?_
          refine sv_goto (tgt := 19) dX12_feed_103 (by decide) ?_
          refine mr_lvS (lv' := [(0, .ref 106), (1, iv p1), (2, iv p2), (3, iv p3), (4, iv p4), (5, iv p5), (6, iv (z378 + 1))]) (List.forall_mem_cons.mpr ⟨rfl, List.forall_mem_cons.mpr ⟨rfl, List.forall_mem_cons.mpr ⟨rfl, List.forall_mem_cons.mpr ⟨rfl, List.forall_mem_cons.mpr ⟨rfl, List.forall_mem_cons.mpr ⟨rfl, List.forall_mem_cons.mpr ⟨rfl, fun _ h => absurd h List.not_mem_nil⟩⟩⟩⟩⟩⟩⟩) ?_
          exact ih386 (z378 + 1) μ437 T439 (mF.up (mF.call mF.refl F383 rfl) (A_107 hw) u438 rfl) (rW (c := 0) (d := 20) (rAdd (e := 1) (f := 20) h416 (rR (x := 1)) rfl) rfl) (vc_X12_feed_6 (nS h385) h411 q429 h416 h430)
        refine mr_icmp_ge (tgt := 36) dX12_feed_29 (by decide) (r32 h416 rfl) (r32 (rR (x := 4)) rfl) (fun h440 => ?_) (fun h440 => ?_)
        · have h441 : 4 ≤ z378 ∧ z378 ≤ 19 := (vc_X12_feed_7 h440 h411 h416)
          refine mr_iload (z := z378) dX12_feed_36 rfl ?_
          refine mr_bipush (z := 8) dX12_feed_38 (by decide) ?_
          refine mr_icmp_ge (tgt := 47) dX12_feed_40 (by decide) (r32 h441 rfl) (r32 (rR (x := 8)) rfl) (fun h442 => ?_) (fun h442 => ?_)
          · have h443 : 8 ≤ z378 ∧ z378 ≤ 19 := (vc_X12_feed_8 h442 h411 h440 h441)
            refine mr_iload (z := z378) dX12_feed_47 rfl ?_
            refine mr_bipush (z := 12) dX12_feed_49 (by decide) ?_
            refine mr_icmp_ge (tgt := 58) dX12_feed_51 (by decide) (r32 h443 rfl) (r32 (rR (x := 12)) rfl) (fun h444 => ?_) (fun h444 => ?_)
            · have h445 : 12 ≤ z378 ∧ z378 ≤ 19 := (vc_X12_feed_9 h444 h411 h440 h442 h443)
              refine mr_iload (z := z378) dX12_feed_58 rfl ?_
              refine mr_bipush (z := 16) dX12_feed_60 (by decide) ?_
              refine mr_icmp_ge (tgt := 70) dX12_feed_62 (by decide) (r32 h445 rfl) (r32 (rR (x := 16)) rfl) (fun h446 => ?_) (fun h446 => ?_)
              · have h447 : 16 ≤ z378 ∧ z378 ≤ 19 := (vc_X12_feed_10 h446 h411 h440 h442 h444 h445)
                refine mr_iload (z := p5) dX12_feed_70 rfl ?_
                exact J427 p5 hp5
              have h448 : 12 ≤ z378 ∧ z378 ≤ 15 := (vc_X12_feed_11 h446 h411 h440 h442 h444 h445)
              refine mr_iload (z := p4) dX12_feed_65 rfl ?_
              refine sv_goto (tgt := 72) dX12_feed_67 (by decide) ?_
              exact J427 p4 hp4
            have h449 : 8 ≤ z378 ∧ z378 ≤ 11 := (vc_X12_feed_12 h444 h411 h440 h442 h443)
            refine mr_iload_n (z := p3) dX12_feed_54 rfl rfl ?_
            refine sv_goto (tgt := 72) dX12_feed_55 (by decide) ?_
            exact J427 p3 hp3
          have h450 : 4 ≤ z378 ∧ z378 ≤ 7 := (vc_X12_feed_13 h442 h411 h440 h441)
          refine mr_iload_n (z := p2) dX12_feed_43 rfl rfl ?_
          refine sv_goto (tgt := 72) dX12_feed_44 (by decide) ?_
          exact J427 p2 hp2
        have h451 : 0 ≤ z378 ∧ z378 ≤ 3 := (vc_X12_feed_14 h440 h411 h416)
        refine mr_iload_n (z := p1) dX12_feed_32 rfl rfl ?_
        refine sv_goto (tgt := 72) dX12_feed_33 (by decide) ?_
        exact J427 p1 hp1
    refine mr_lvS (lv' := [(0, .ref 106), (1, iv p1), (2, iv p2), (3, iv p3), (4, iv p4), (5, iv p5), (6, iv 0)]) (List.forall_mem_cons.mpr ⟨rfl, List.forall_mem_cons.mpr ⟨rfl, List.forall_mem_cons.mpr ⟨rfl, List.forall_mem_cons.mpr ⟨rfl, List.forall_mem_cons.mpr ⟨rfl, List.forall_mem_cons.mpr ⟨rfl, List.forall_mem_cons.mpr ⟨rfl, fun _ h => absurd h List.not_mem_nil⟩⟩⟩⟩⟩⟩⟩) ?_
    exact L380 22 0 μ hT mF.refl (rW (c := 0) (d := 20) (rR (x := 0)) rfl) vc_X12_feed_15
  have h452 : 981 ≤ z1 ∧ z1 ≤ 1000 := (vc_X12_feed_16 h4 h3)
  refine mr_bipush (z := (-3)) dX12_feed_13 (by decide) ?_
  exact mr_iret dX12_feed_15 rfl (le_t rfl) (le_t rfl) hT mF.refl ⟨(rW (c := (-2147483648)) (d := 2147483647) (rR (x := (-3))) rfl), trivial⟩
theorem vc_X12_cut_1 {p1 : Int} (h0 : p1 < 0) (h1 : (-2147483648) ≤ p1 ∧ p1 ≤ 2147483647) : (-2147483648) ≤ p1 ∧ p1 ≤ (-1) := by omega
theorem vc_X12_cut_2 {p1 : Int} (h0 : 0 ≤ p1) (h1 : (-2147483648) ≤ p1 ∧ p1 ≤ 2147483647) : 0 ≤ p1 ∧ p1 ≤ 2147483647 := by omega
theorem vc_X12_cut_3 {p1 z4 : Int} (h0 : p1 ≤ z4) (h1 : 0 ≤ p1) (h2 : 0 ≤ p1 ∧ p1 ≤ 2147483647) (h3 : 0 ≤ z4 ∧ z4 ≤ 1000) : 0 ≤ p1 ∧ p1 ≤ 1000 := by omega
theorem vc_X12_cut_4 {p1 z4 : Int} (h0 : z4 < p1) (h1 : 0 ≤ p1) (h2 : 0 ≤ p1 ∧ p1 ≤ 2147483647) (h3 : 0 ≤ z4 ∧ z4 ≤ 1000) : 1 ≤ p1 ∧ p1 ≤ 2147483647 := by omega
set_option maxRecDepth 4000 in
set_option maxHeartbeats 4000000 in
theorem c_X12_cut {l : Launch} {D : va_G} {c : Nat → ClassId} {H0 : Heap} {sa : Nat × Nat × (Nat → Int32)} {w : mW} {μ : mM} (hw : mWF w) (hT : mT w μ) {p1 : Int} (hp1 : (-2147483648) ≤ p1 ∧ p1 ≤ 2147483647) : sC (gG l D c H0 sa) mX12_cut 1 0 0 [.ref 106, iv p1] (mk w μ) (qI w [106001] μ (fun z μ1 => ((-2147483648) ≤ z ∧ z ≤ 2147483647) ∧ True)) := by
  refine sC.of rfl (by decide) (le_t rfl) ?_
  refine mr_lvE (lv' := [(0, .ref 106), (1, iv p1)]) rfl ?_
  refine mr_iload_n (z := p1) dX12_cut_0 rfl rfl ?_
  refine mr_if_lt (tgt := 12) dX12_cut_1 (by decide) hp1 (fun h1 => ?_) (fun h1 => ?_)
  · have h2 : (-2147483648) ≤ p1 ∧ p1 ≤ (-1) := (vc_X12_cut_1 h1 hp1)
    refine mr_iconst (z := (-1)) dX12_cut_12 ?_
    exact mr_iret dX12_cut_13 rfl (le_t rfl) (le_t rfl) hT mF.refl ⟨(rW (c := (-2147483648)) (d := 2147483647) (rR (x := (-1))) rfl), trivial⟩
  have h3 : 0 ≤ p1 ∧ p1 ≤ 2147483647 := (vc_X12_cut_2 h1 hp1)
  refine mr_iload_n (z := p1) dX12_cut_4 rfl rfl ?_
  refine sv_aload_n dX12_cut_5 rfl rfl ?_
  refine gf_X12_1 dX12_cut_6 wF_X12_1 (A_106 hw) hT fun z4 q5 h6 => ?_
  refine mr_icmp_le (tgt := 14) dX12_cut_9 (by decide) (r32 h3 rfl) (r32 h6 rfl) (fun h7 => ?_) (fun h7 => ?_)
  · have h8 : 0 ≤ p1 ∧ p1 ≤ 1000 := (vc_X12_cut_3 h7 h1 h3 h6)
    refine sv_aload_n dX12_cut_14 rfl rfl ?_
    refine gk_X12_1 dX12_cut_15 wF_X12_1 (A_106 hw) q5 ?_
    refine mr_istore_n (lv' := [(2, iv z4), (0, .ref 106), (1, iv p1)]) dX12_cut_18 rfl (by decide) rfl ?_
    refine sv_aload_n dX12_cut_19 rfl rfl ?_
    refine mr_iload_n (z := p1) dX12_cut_20 rfl rfl ?_
    refine pf_X12_1 dX12_cut_21 wF_X12_1 (A_106 hw) hT h8 fun μ9 u10 T11 => ?_
    refine mr_iload_n (z := z4) dX12_cut_24 rfl rfl ?_
    exact mr_iret dX12_cut_25 rfl (le_t rfl) (le_t rfl) T11 (mF.up mF.refl (A_106 hw) u10 rfl) ⟨(rW (c := (-2147483648)) (d := 2147483647) h6 rfl), trivial⟩
  have h12 : 1 ≤ p1 ∧ p1 ≤ 2147483647 := (vc_X12_cut_4 h7 h1 h3 h6)
  refine mr_iconst (z := (-1)) dX12_cut_12 ?_
  exact mr_iret dX12_cut_13 rfl (le_t rfl) (le_t rfl) hT mF.refl ⟨(rW (c := (-2147483648)) (d := 2147483647) (rR (x := (-1))) rfl), trivial⟩
theorem vc_X12_prefixOf_1 {z79 : Int} (h0 : (11 - z79) < ((0 : Nat) : Int)) (h1 : 0 ≤ z79 ∧ z79 ≤ 10) : False := by omega
theorem vc_X12_prefixOf_2  : (-(99999999 : Int) : Int) = -(99999999 : Int) ∨ ((0 : Int) ≤ (-(99999999 : Int) : Int) ∧ (-(99999999 : Int) : Int) ≤ (9 : Int)) := by omega
theorem vc_X12_prefixOf_3 {z79 z87 : Int} (h0 : z79 < z87) (h1 : 0 ≤ z79 ∧ z79 ≤ 10) (h2 : 0 ≤ z87 ∧ z87 ≤ 10) : 0 ≤ z79 ∧ z79 ≤ 9 := by omega
theorem vc_X12_prefixOf_4 {z79 z87 : Int} (h0 : z79 < z87) (h1 : 0 ≤ z79 ∧ z79 ≤ 9) (h2 : 0 ≤ z87 ∧ z87 ≤ 10) : 1 ≤ z87 ∧ z87 ≤ 10 := by omega
theorem vc_X12_prefixOf_5 {N z79 z87 : Int} (h0 : (11 - z79) < N + 1) (h1 : z79 < z87) (h2 : 0 ≤ z79 ∧ z79 ≤ 9) (h3 : 1 ≤ z87 ∧ z87 ≤ 10) : (11 - (z79 + 1)) < N := by omega
theorem vc_X12_prefixOf_6 {p2 z97 : Int} (h0 : z97 = p2) (h1 : (-2147483648) ≤ p2 ∧ p2 ≤ 2147483647) (h2 : 0 ≤ z97 ∧ z97 ≤ 32) : 0 ≤ p2 ∧ p2 ≤ 32 := by omega
theorem vc_X12_prefixOf_7 {z79 z87 : Int} (h0 : z79 < z87) (h1 : 0 ≤ z79 ∧ z79 ≤ 9) (h2 : 1 ≤ z87 ∧ z87 ≤ 10) : z79 = -99999999 ∨ (0 ≤ z79 ∧ z79 ≤ 9) := by omega
theorem vc_X12_prefixOf_8  : (11 - 0) < ((12 : Nat) : Int) := by omega
set_option maxRecDepth 4000 in
set_option maxHeartbeats 4000000 in
theorem c_X12_prefixOf {l : Launch} {D : va_G} {c : Nat → ClassId} {H0 : Heap} {sa : Nat × Nat × (Nat → Int32)} {w : mW} {μ : mM} (hw : mWF w) (hT : mT w μ) {p1 : Int} (hp1 : (-2147483648) ≤ p1 ∧ p1 ≤ 2147483647) {p2 : Int} (hp2 : (-2147483648) ≤ p2 ∧ p2 ≤ 2147483647) : sC (gG l D c H0 sa) mX12_prefixOf 1 0 0 [.ref 106, iv p1, iv p2] (mk w μ) (qP w μ (fun z => ((-99999999) ≤ z ∧ z ≤ 9) ∧ (z = -99999999 ∨ (0 ≤ z ∧ z ≤ 9)) ∧ True)) := by
  refine sC.of rfl (by decide) (le_t rfl) ?_
  refine mr_lvE (lv' := [(0, .ref 106), (1, iv p1), (2, iv p2)]) rfl ?_
  refine mr_iconst (z := 0) dX12_prefixOf_0 ?_
  refine mr_istore_n (lv' := [(3, iv 0), (0, .ref 106), (1, iv p1), (2, iv p2)]) dX12_prefixOf_1 rfl (by decide) rfl ?_
  have L80 : ∀ (nL80 : Nat) (z79 : Int), True → (0 ≤ z79 ∧ z79 ≤ 10) → (11 - z79) < (nL80 : Int) → sV (gG l D c H0 sa) mX12_prefixOf (sRm 1 0 0) (sZ (gG l D c H0 sa) 0 0 (qP w μ (fun z => ((-99999999) ≤ z ∧ z ≤ 9) ∧ (z = -99999999 ∨ (0 ≤ z ∧ z ≤ 9)) ∧ True))) 2 [(0, .ref 106), (1, iv p1), (2, iv p2), (3, iv z79)] [] (mk w μ) 0 0 := by
    intro nL80
    induction nL80 with
    | zero => intro z79 _ h81 h85; exact ((vc_X12_prefixOf_1 h85 h81)).elim
    | succ nL80 ih86 =>
      intro z79 _ h81 h85
      refine mr_iload_n (z := z79) dX12_prefixOf_2 rfl rfl ?_
      refine sv_aload_n dX12_prefixOf_3 rfl rfl ?_
      refine gf_X12_2 dX12_prefixOf_4 wF_X12_15 (A_106 hw) hT fun z87 q88 h89 => ?_
      refine mr_icmp_ge (tgt := 38) dX12_prefixOf_7 (by decide) (r32 h81 rfl) (r32 h89 rfl) (fun h90 => ?_) (fun h90 => ?_)
      · refine mr_ldc (z := (-99999999)) dX12_prefixOf_38 wG_X12_29 (by decide) ?_
        exact mr_iretP dX12_prefixOf_40 rfl (le_t rfl) (le_t rfl) ⟨(rW (c := (-99999999)) (d := 9) (rR (x := (-99999999))) rfl), vc_X12_prefixOf_2, trivial⟩
      have h91 : 0 ≤ z79 ∧ z79 ≤ 9 := (vc_X12_prefixOf_3 h90 h81 h89)
      have h92 : 1 ≤ z87 ∧ z87 ≤ 10 := (vc_X12_prefixOf_4 h90 h91 h89)
      refine sv_aload_n dX12_prefixOf_10 rfl rfl ?_
      refine gf_X12_3 dX12_prefixOf_11 wF_X12_22 (A_106 hw) hT ?_
      refine mr_iload_n (z := z79) dX12_prefixOf_14 rfl rfl ?_
      refine la_108 dX12_prefixOf_15 (A_108 hw) hT (rIx (n := 10) h91 rfl) fun z93 q94 h95 => ?_
      refine mr_iload_n (z := p1) dX12_prefixOf_16 rfl rfl ?_
      refine mr_icmp_ne (tgt := 32) dX12_prefixOf_17 (by decide) h95 hp1 (fun h96 => ?_) (fun h96 => ?_)
      · refine mr_iinc (lv' := [(3, iv (z79 + 1)), (0, .ref 106), (1, iv p1), (2, iv p2)]) dX12_prefixOf_32 rfl (by decide) rfl ?_
        refine sv_goto (tgt := 2) dX12_prefixOf_35 (by decide) ?_
        refine mr_lvS (lv' := [(0, .ref 106), (1, iv p1), (2, iv p2), (3, iv (z79 + 1))]) (List.forall_mem_cons.mpr ⟨rfl, List.forall_mem_cons.mpr ⟨rfl, List.forall_mem_cons.mpr ⟨rfl, List.forall_mem_cons.mpr ⟨rfl, fun _ h => absurd h List.not_mem_nil⟩⟩⟩⟩) ?_
        exact ih86 (z79 + 1) trivial (rW (c := 0) (d := 10) (rAdd (e := 1) (f := 10) h91 (rR (x := 1)) rfl) rfl) (vc_X12_prefixOf_5 (nS h85) h90 h91 h92)
      refine sv_aload_n dX12_prefixOf_20 rfl rfl ?_
      refine gf_X12_4 dX12_prefixOf_21 wF_X12_26 (A_106 hw) hT ?_
      refine mr_iload_n (z := z79) dX12_prefixOf_24 rfl rfl ?_
      refine la_109 dX12_prefixOf_25 (A_109 hw) hT (rIx (n := 10) h91 rfl) fun z97 q98 h99 => ?_
      refine mr_iload_n (z := p2) dX12_prefixOf_26 rfl rfl ?_
      refine mr_icmp_ne (tgt := 32) dX12_prefixOf_27 (by decide) (r32 h99 rfl) hp2 (fun h100 => ?_) (fun h100 => ?_)
      · refine mr_iinc (lv' := [(3, iv (z79 + 1)), (0, .ref 106), (1, iv p1), (2, iv p2)]) dX12_prefixOf_32 rfl (by decide) rfl ?_
        refine sv_goto (tgt := 2) dX12_prefixOf_35 (by decide) ?_
        refine mr_lvS (lv' := [(0, .ref 106), (1, iv p1), (2, iv p2), (3, iv (z79 + 1))]) (List.forall_mem_cons.mpr ⟨rfl, List.forall_mem_cons.mpr ⟨rfl, List.forall_mem_cons.mpr ⟨rfl, List.forall_mem_cons.mpr ⟨rfl, fun _ h => absurd h List.not_mem_nil⟩⟩⟩⟩) ?_
        exact ih86 (z79 + 1) trivial (rW (c := 0) (d := 10) (rAdd (e := 1) (f := 10) h91 (rR (x := 1)) rfl) rfl) (vc_X12_prefixOf_5 (nS h85) h90 h91 h92)
      have h101 : 0 ≤ p2 ∧ p2 ≤ 32 := (vc_X12_prefixOf_6 h100 hp2 h99)
      refine mr_iload_n (z := z79) dX12_prefixOf_30 rfl rfl ?_
      exact mr_iretP dX12_prefixOf_31 rfl (le_t rfl) (le_t rfl) ⟨(rW (c := (-99999999)) (d := 9) h91 rfl), (vc_X12_prefixOf_7 h90 h91 h92), trivial⟩
  refine mr_lvS (lv' := [(0, .ref 106), (1, iv p1), (2, iv p2), (3, iv 0)]) (List.forall_mem_cons.mpr ⟨rfl, List.forall_mem_cons.mpr ⟨rfl, List.forall_mem_cons.mpr ⟨rfl, List.forall_mem_cons.mpr ⟨rfl, fun _ h => absurd h List.not_mem_nil⟩⟩⟩⟩) ?_
  exact L80 12 0 trivial (rW (c := 0) (d := 10) (rR (x := 0)) rfl) vc_X12_prefixOf_8
theorem vc_X12_prefix_1 {p2 z5 : Int} (h0 : z5 = 0) (h1 : (z5 = 1 → 0 ≤ p2 ∧ p2 ≤ 32)) (h2 : (z5 = 0 → p2 < 0 ∨ 32 < p2)) (h3 : (-2147483648) ≤ p2 ∧ p2 ≤ 2147483647) (h4 : 0 ≤ z5 ∧ z5 ≤ 1) : 0 ≤ z5 ∧ z5 ≤ 0 := by omega
theorem vc_X12_prefix_2 {p2 z5 : Int} (h0 : (z5 = 1 → 0 ≤ p2 ∧ p2 ≤ 32)) (h1 : (z5 = 0 → p2 < 0 ∨ 32 < p2)) (h2 : z5 = 0) (h3 : (-2147483648) ≤ p2 ∧ p2 ≤ 2147483647) (h4 : 0 ≤ z5 ∧ z5 ≤ 0) : z5 = 0 := by omega
theorem vc_X12_prefix_3 {p2 z5 : Int} (h0 : ¬ z5 = 0) (h1 : (z5 = 1 → 0 ≤ p2 ∧ p2 ≤ 32)) (h2 : (z5 = 0 → p2 < 0 ∨ 32 < p2)) (h3 : (-2147483648) ≤ p2 ∧ p2 ≤ 2147483647) (h4 : 0 ≤ z5 ∧ z5 ≤ 1) : 1 ≤ z5 ∧ z5 ≤ 1 := by omega
theorem vc_X12_prefix_4 {p2 z5 : Int} (h0 : (z5 = 1 → 0 ≤ p2 ∧ p2 ≤ 32)) (h1 : (z5 = 0 → p2 < 0 ∨ 32 < p2)) (h2 : ¬ z5 = 0) (h3 : (-2147483648) ≤ p2 ∧ p2 ≤ 2147483647) (h4 : 1 ≤ z5 ∧ z5 ≤ 1) : z5 = 1 := by omega
theorem vc_X12_prefix_5 {p2 z5 : Int} (h0 : 0 ≤ p2 ∧ p2 ≤ 32) (h1 : (z5 = 1 → 0 ≤ p2 ∧ p2 ≤ 32)) (h2 : (z5 = 0 → p2 < 0 ∨ 32 < p2)) (h3 : (-2147483648) ≤ p2 ∧ p2 ≤ 2147483647) (h4 : 1 ≤ z5 ∧ z5 ≤ 1) : 0 ≤ p2 ∧ p2 ≤ 32 := by omega
theorem vc_X12_prefix_6 {z20 : Int} (h0 : z20 = 0) (h1 : (-2147483648) ≤ z20 ∧ z20 ≤ 2147483647) : 0 ≤ z20 ∧ z20 ≤ 0 := by omega
theorem vc_X12_prefix_7 {z29 : Int} (h0 : z29 = (-99999999)) (h1 : z29 = -99999999 ∨ (0 ≤ z29 ∧ z29 ≤ 9)) (h2 : (-99999999) ≤ z29 ∧ z29 ≤ 9) : (-99999999) ≤ z29 ∧ z29 ≤ (-99999999) := by omega
theorem vc_X12_prefix_8 {z32 : Int} (h0 : ¬ z32 = 10) (h1 : 0 ≤ z32 ∧ z32 ≤ 10) : 0 ≤ z32 ∧ z32 ≤ 9 := by omega
theorem vc_X12_prefix_9 {z32 : Int} (h0 : z32 = 10) (h1 : 0 ≤ z32 ∧ z32 ≤ 10) : 10 ≤ z32 ∧ z32 ≤ 10 := by omega
theorem vc_X12_prefix_10 {z29 : Int} (h0 : ¬ z29 = (-99999999)) (h1 : z29 = -99999999 ∨ (0 ≤ z29 ∧ z29 ≤ 9)) (h2 : (-99999999) ≤ z29 ∧ z29 ≤ 9) : 0 ≤ z29 ∧ z29 ≤ 9 := by omega
set_option maxRecDepth 4000 in
set_option maxHeartbeats 4000000 in
theorem c_X12_prefix {l : Launch} {D : va_G} {c : Nat → ClassId} {H0 : Heap} {sa : Nat × Nat × (Nat → Int32)} {w : mW} {μ : mM} (hw : mWF w) (hT : mT w μ) {p1 : Int} (hp1 : (-2147483648) ≤ p1 ∧ p1 ≤ 2147483647) {p2 : Int} (hp2 : (-2147483648) ≤ p2 ∧ p2 ≤ 2147483647) : sC (gG l D c H0 sa) mX12_prefix 2 0 0 [.ref 106, iv p1, iv p2] (mk w μ) (qI w [106002, 108999, 109999] μ (fun z μ1 => ((-2147483648) ≤ z ∧ z ≤ 2147483647) ∧ True)) := by
  refine sC.of rfl (by decide) (le_t rfl) ?_
  refine mr_lvE (lv' := [(0, .ref 106), (1, iv p1), (2, iv p2)]) rfl ?_
  refine mr_iload_n (z := p2) dX12_prefix_0 rfl rfl ?_
  refine mr_iconst (z := 0) dX12_prefix_1 ?_
  refine mr_bipush (z := 32) dX12_prefix_2 (by decide) ?_
  refine mr_cSP (c_X12_in hw hT hp2 (rW (c := (-2147483648)) (d := 2147483647) (rR (x := 0)) rfl) (rW (c := (-2147483648)) (d := 2147483647) (rR (x := 32)) rfl)) (gOk _ _ _ _ _) dX12_prefix_4 (tX12_in _ _ _ _ _) wS_X12_in wM_X12_18 ⟨le_t rfl, le_t rfl⟩ ⟨le_t rfl, le_t rfl⟩ rfl (le_t rfl) fun z5 h4 => ?_
  refine mr_if_eq (tgt := 21) dX12_prefix_7 (by decide) (r32 h4.1 rfl) (fun h6 => ?_) (fun h6 => ?_)
  · have h7 : 0 ≤ z5 ∧ z5 ≤ 0 := (vc_X12_prefix_1 h6 h4.2.1 h4.2.2.1 hp2 h4.1)
    have h8 : p2 < 0 ∨ 32 < p2 := (h4.2.2.1 (vc_X12_prefix_2 h4.2.1 h4.2.2.1 h6 hp2 h7))
    refine mr_iconst (z := (-1)) dX12_prefix_21 ?_
    exact mr_iret dX12_prefix_22 rfl (le_t rfl) (le_t rfl) hT mF.refl ⟨(rW (c := (-2147483648)) (d := 2147483647) (rR (x := (-1))) rfl), trivial⟩
  have h9 : 1 ≤ z5 ∧ z5 ≤ 1 := (vc_X12_prefix_3 h6 h4.2.1 h4.2.2.1 hp2 h4.1)
  have h10 : 0 ≤ p2 ∧ p2 ≤ 32 := (h4.2.1 (vc_X12_prefix_4 h4.2.1 h4.2.2.1 h6 hp2 h9))
  have h11 : 0 ≤ p2 ∧ p2 ≤ 32 := (vc_X12_prefix_5 h10 h4.2.1 h4.2.2.1 hp2 h9)
  refine mr_iload_n (z := p1) dX12_prefix_10 rfl rfl ?_
  refine mr_iload_n (z := p2) dX12_prefix_11 rfl rfl ?_
  refine mr_cSP (c_X12_mask hw hT h11) (gOk _ _ _ _ _) dX12_prefix_12 (tX12_mask _ _ _ _ _) wS_X12_mask wM_X12_11 ⟨le_t rfl, le_t rfl⟩ ⟨le_t rfl, le_t rfl⟩ rfl (le_t rfl) fun z16 h15 => ?_
  refine mr_iconst (z := (-1)) dX12_prefix_15 ?_
  refine mr_ixor (x := z16) (y := (-1)) dX12_prefix_16 ?_
  refine mr_gen (P := fun z => (-2147483648) ≤ z ∧ z ≤ 2147483647) (r32i _) fun z17 q18 h19 => ?_
  refine mr_iand (x := p1) (y := z17) dX12_prefix_17 ?_
  refine mr_gen (P := fun z => (-2147483648) ≤ z ∧ z ≤ 2147483647) (r32i _) fun z20 q21 h22 => ?_
  refine mr_if_eq (tgt := 23) dX12_prefix_18 (by decide) h22 (fun h23 => ?_) (fun h23 => ?_)
  · have h24 : 0 ≤ z20 ∧ z20 ≤ 0 := (vc_X12_prefix_6 h23 h22)
    refine sv_aload_n dX12_prefix_23 rfl rfl ?_
    refine mr_iload_n (z := p1) dX12_prefix_24 rfl rfl ?_
    refine mr_iload_n (z := p2) dX12_prefix_25 rfl rfl ?_
    refine mr_cVP (c_X12_prefixOf hw hT hp1 (rW (c := (-2147483648)) (d := 2147483647) h11 rfl)) (gOk _ _ _ _ _) dX12_prefix_26 (tX12_prefixOf _ _ _ _ _) ⟨wV_X12_prefixOf, wL_X12_prefixOf⟩ wM_X12_30 (gCX12 _ _ _ _ _) rfl (A_106 hw) rfl ⟨le_t rfl, le_t rfl⟩ ⟨le_t rfl, le_t rfl⟩ rfl (le_t rfl) fun z29 h28 => ?_
    refine mr_ldc (z := (-99999999)) dX12_prefix_29 wG_X12_29 (by decide) ?_
    refine mr_icmp_eq (tgt := 37) dX12_prefix_31 (by decide) (r32 h28.1 rfl) (r32 (rR (x := (-99999999))) rfl) (fun h30 => ?_) (fun h30 => ?_)
    · have h31 : (-99999999) ≤ z29 ∧ z29 ≤ (-99999999) := (vc_X12_prefix_7 h30 h28.2.1 h28.1)
      refine sv_aload_n dX12_prefix_37 rfl rfl ?_
      refine gf_X12_2 dX12_prefix_38 wF_X12_15 (A_106 hw) hT fun z32 q33 h34 => ?_
      refine mr_bipush (z := 10) dX12_prefix_41 (by decide) ?_
      refine mr_icmp_ne (tgt := 49) dX12_prefix_43 (by decide) (r32 h34 rfl) (r32 (rR (x := 10)) rfl) (fun h35 => ?_) (fun h35 => ?_)
      · have h36 : 0 ≤ z32 ∧ z32 ≤ 9 := (vc_X12_prefix_8 h35 h34)
        refine sv_aload_n dX12_prefix_49 rfl rfl ?_
        refine gf_X12_3 dX12_prefix_50 wF_X12_22 (A_106 hw) hT ?_
        refine sv_aload_n dX12_prefix_53 rfl rfl ?_
        refine gk_X12_2 dX12_prefix_54 wF_X12_15 (A_106 hw) q33 ?_
        refine mr_iload_n (z := p1) dX12_prefix_57 rfl rfl ?_
        refine ss_108 dX12_prefix_58 (A_108 hw) hT (rIx (n := 10) h36 rfl) hp1 fun μ37 u38 T39 => ?_
        refine sv_aload_n dX12_prefix_59 rfl rfl ?_
        refine gf_X12_4 dX12_prefix_60 wF_X12_26 (A_106 hw) T39 ?_
        refine sv_aload_n dX12_prefix_63 rfl rfl ?_
        refine gk_X12_2 dX12_prefix_64 wF_X12_15 (A_106 hw) (u38.f (Or.inl (mAt.ne (A_108 hw) (A_106 hw) rfl)) q33) ?_
        refine mr_iload_n (z := p2) dX12_prefix_67 rfl rfl ?_
        refine ss_109 dX12_prefix_68 (A_109 hw) T39 (rIx (n := 10) h36 rfl) h11 fun μ40 u41 T42 => ?_
        refine sv_aload_n dX12_prefix_69 rfl rfl ?_
        refine sv_dup dX12_prefix_70 rfl ?_
        refine gk_X12_2 dX12_prefix_71 wF_X12_15 (A_106 hw) (u41.f (Or.inl (mAt.ne (A_109 hw) (A_106 hw) rfl)) (u38.f (Or.inl (mAt.ne (A_108 hw) (A_106 hw) rfl)) q33)) ?_
        refine mr_iconst (z := 1) dX12_prefix_74 ?_
        refine mr_iadd (x := z32) (y := 1) dX12_prefix_75 ?_
        refine pf_X12_2 dX12_prefix_76 wF_X12_15 (A_106 hw) T42 (rW (c := 0) (d := 10) (rAdd (e := 1) (f := 10) h36 (rR (x := 1)) rfl) rfl) fun μ43 u44 T45 => ?_
        refine sv_aload_n dX12_prefix_79 rfl rfl ?_
        refine gk_X12_2 dX12_prefix_80 wF_X12_15 (A_106 hw) u44.1 ?_
        refine mr_iconst (z := 1) dX12_prefix_83 ?_
        refine mr_isub (x := (z32 + 1)) (y := 1) dX12_prefix_84 ?_
        exact mr_iret dX12_prefix_85 rfl (le_t rfl) (le_t rfl) T45 (mF.up (mF.up (mF.up mF.refl (A_108 hw) u38 rfl) (A_109 hw) u41 rfl) (A_106 hw) u44 rfl) ⟨(rW (c := (-2147483648)) (d := 2147483647) (rSub (e := 0) (f := 9) (rAdd (e := 1) (f := 10) h36 (rR (x := 1)) rfl) (rR (x := 1)) rfl) rfl), trivial⟩
      have h46 : 10 ≤ z32 ∧ z32 ≤ 10 := (vc_X12_prefix_9 h35 h34)
      refine mr_bipush (z := (-3)) dX12_prefix_46 (by decide) ?_
      exact mr_iret dX12_prefix_48 rfl (le_t rfl) (le_t rfl) hT mF.refl ⟨(rW (c := (-2147483648)) (d := 2147483647) (rR (x := (-3))) rfl), trivial⟩
    have h47 : 0 ≤ z29 ∧ z29 ≤ 9 := (vc_X12_prefix_10 h30 h28.2.1 h28.1)
    refine mr_bipush (z := (-2)) dX12_prefix_34 (by decide) ?_
    exact mr_iret dX12_prefix_36 rfl (le_t rfl) (le_t rfl) hT mF.refl ⟨(rW (c := (-2147483648)) (d := 2147483647) (rR (x := (-2))) rfl), trivial⟩
  refine mr_iconst (z := (-1)) dX12_prefix_21 ?_
  exact mr_iret dX12_prefix_22 rfl (le_t rfl) (le_t rfl) hT mF.refl ⟨(rW (c := (-2147483648)) (d := 2147483647) (rR (x := (-1))) rfl), trivial⟩
theorem vc_X12_tieOf_1 {z201 : Int} (h0 : (21 - z201) < ((0 : Nat) : Int)) (h1 : 0 ≤ z201 ∧ z201 ≤ 20) : False := by omega
theorem vc_X12_tieOf_2  : (-(99999999 : Int) : Int) = -(99999999 : Int) ∨ ((0 : Int) ≤ (-(99999999 : Int) : Int) ∧ (-(99999999 : Int) : Int) ≤ (19 : Int)) := by omega
theorem vc_X12_tieOf_3 {z201 z209 : Int} (h0 : z201 < z209) (h1 : 0 ≤ z201 ∧ z201 ≤ 20) (h2 : 0 ≤ z209 ∧ z209 ≤ 20) : 0 ≤ z201 ∧ z201 ≤ 19 := by omega
theorem vc_X12_tieOf_4 {z201 z209 : Int} (h0 : z201 < z209) (h1 : 0 ≤ z201 ∧ z201 ≤ 19) (h2 : 0 ≤ z209 ∧ z209 ≤ 20) : 1 ≤ z209 ∧ z209 ≤ 20 := by omega
theorem vc_X12_tieOf_5 {N z201 z209 : Int} (h0 : (21 - z201) < N + 1) (h1 : z201 < z209) (h2 : 0 ≤ z201 ∧ z201 ≤ 19) (h3 : 1 ≤ z209 ∧ z209 ≤ 20) : (21 - (z201 + 1)) < N := by omega
theorem vc_X12_tieOf_6 {p1 p2 z215 : Int} (h0 : z215 = p2) (h1 : ¬ z215 = p1) (h2 : (-2147483648) ≤ p1 ∧ p1 ≤ 2147483647) (h3 : (-2147483648) ≤ p2 ∧ p2 ≤ 2147483647) (h4 : 0 ≤ z215 ∧ z215 ≤ 9) : 0 ≤ p2 ∧ p2 ≤ 9 := by omega
theorem vc_X12_tieOf_7 {p1 z215 z221 : Int} (h0 : z221 = p1) (h1 : ¬ z215 = p1) (h2 : (-2147483648) ≤ p1 ∧ p1 ≤ 2147483647) (h3 : 0 ≤ z215 ∧ z215 ≤ 9) (h4 : 0 ≤ z221 ∧ z221 ≤ 9) : 0 ≤ p1 ∧ p1 ≤ 9 := by omega
theorem vc_X12_tieOf_8 {z201 z209 : Int} (h0 : z201 < z209) (h1 : 0 ≤ z201 ∧ z201 ≤ 19) (h2 : 1 ≤ z209 ∧ z209 ≤ 20) : z201 = -99999999 ∨ (0 ≤ z201 ∧ z201 ≤ 19) := by omega
theorem vc_X12_tieOf_9 {p1 z215 : Int} (h0 : z215 = p1) (h1 : (-2147483648) ≤ p1 ∧ p1 ≤ 2147483647) (h2 : 0 ≤ z215 ∧ z215 ≤ 9) : 0 ≤ p1 ∧ p1 ≤ 9 := by omega
theorem vc_X12_tieOf_10 {p2 z227 : Int} (h0 : z227 = p2) (h1 : (-2147483648) ≤ p2 ∧ p2 ≤ 2147483647) (h2 : 0 ≤ z227 ∧ z227 ≤ 9) : 0 ≤ p2 ∧ p2 ≤ 9 := by omega
theorem vc_X12_tieOf_11 {p1 p2 z215 z227 : Int} (h0 : z215 = p2) (h1 : z215 = p1) (h2 : ¬ z227 = p2) (h3 : 0 ≤ p1 ∧ p1 ≤ 9) (h4 : (-2147483648) ≤ p2 ∧ p2 ≤ 2147483647) (h5 : 0 ≤ z215 ∧ z215 ≤ 9) (h6 : 0 ≤ z227 ∧ z227 ≤ 9) : 0 ≤ p2 ∧ p2 ≤ 9 := by omega
theorem vc_X12_tieOf_12  : (21 - 0) < ((22 : Nat) : Int) := by omega
set_option maxRecDepth 4000 in
set_option maxHeartbeats 4000000 in
theorem c_X12_tieOf {l : Launch} {D : va_G} {c : Nat → ClassId} {H0 : Heap} {sa : Nat × Nat × (Nat → Int32)} {w : mW} {μ : mM} (hw : mWF w) (hT : mT w μ) {p1 : Int} (hp1 : (-2147483648) ≤ p1 ∧ p1 ≤ 2147483647) {p2 : Int} (hp2 : (-2147483648) ≤ p2 ∧ p2 ≤ 2147483647) : sC (gG l D c H0 sa) mX12_tieOf 1 0 0 [.ref 106, iv p1, iv p2] (mk w μ) (qP w μ (fun z => ((-99999999) ≤ z ∧ z ≤ 19) ∧ (z = -99999999 ∨ (0 ≤ z ∧ z ≤ 19)) ∧ True)) := by
  refine sC.of rfl (by decide) (le_t rfl) ?_
  refine mr_lvE (lv' := [(0, .ref 106), (1, iv p1), (2, iv p2)]) rfl ?_
  refine mr_iconst (z := 0) dX12_tieOf_0 ?_
  refine mr_istore_n (lv' := [(3, iv 0), (0, .ref 106), (1, iv p1), (2, iv p2)]) dX12_tieOf_1 rfl (by decide) rfl ?_
  have L202 : ∀ (nL202 : Nat) (z201 : Int), True → (0 ≤ z201 ∧ z201 ≤ 20) → (21 - z201) < (nL202 : Int) → sV (gG l D c H0 sa) mX12_tieOf (sRm 1 0 0) (sZ (gG l D c H0 sa) 0 0 (qP w μ (fun z => ((-99999999) ≤ z ∧ z ≤ 19) ∧ (z = -99999999 ∨ (0 ≤ z ∧ z ≤ 19)) ∧ True))) 2 [(0, .ref 106), (1, iv p1), (2, iv p2), (3, iv z201)] [] (mk w μ) 0 0 := by
    intro nL202
    induction nL202 with
    | zero => intro z201 _ h203 h207; exact ((vc_X12_tieOf_1 h207 h203)).elim
    | succ nL202 ih208 =>
      intro z201 _ h203 h207
      refine mr_iload_n (z := z201) dX12_tieOf_2 rfl rfl ?_
      refine sv_aload_n dX12_tieOf_3 rfl rfl ?_
      refine gf_X12_6 dX12_tieOf_4 wF_X12_37 (A_106 hw) hT fun z209 q210 h211 => ?_
      refine mr_icmp_ge (tgt := 70) dX12_tieOf_7 (by decide) (r32 h203 rfl) (r32 h211 rfl) (fun h212 => ?_) (fun h212 => ?_)
      · refine mr_ldc (z := (-99999999)) dX12_tieOf_70 wG_X12_29 (by decide) ?_
        exact mr_iretP dX12_tieOf_72 rfl (le_t rfl) (le_t rfl) ⟨(rW (c := (-99999999)) (d := 19) (rR (x := (-99999999))) rfl), vc_X12_tieOf_2, trivial⟩
      have h213 : 0 ≤ z201 ∧ z201 ≤ 19 := (vc_X12_tieOf_3 h212 h203 h211)
      have h214 : 1 ≤ z209 ∧ z209 ≤ 20 := (vc_X12_tieOf_4 h212 h213 h211)
      refine sv_aload_n dX12_tieOf_10 rfl rfl ?_
      refine gf_X12_7 dX12_tieOf_11 wF_X12_40 (A_106 hw) hT ?_
      refine mr_iconst (z := 2) dX12_tieOf_14 ?_
      refine mr_iload_n (z := z201) dX12_tieOf_15 rfl rfl ?_
      refine mr_imul (x := 2) (y := z201) dX12_tieOf_16 ?_
      refine la_110 dX12_tieOf_17 (A_110 hw) hT (rIx (n := 40) (rMulL (n := 2) (e := 0) (f := 38) h213 rfl) rfl) fun z215 q216 h217 => ?_
      refine mr_iload_n (z := p1) dX12_tieOf_18 rfl rfl ?_
      refine mr_icmp_ne (tgt := 36) dX12_tieOf_19 (by decide) (r32 h217 rfl) hp1 (fun h218 => ?_) (fun h218 => ?_)
      · refine sv_aload_n dX12_tieOf_36 rfl rfl ?_
        refine gf_X12_7 dX12_tieOf_37 wF_X12_40 (A_106 hw) hT ?_
        refine mr_iconst (z := 2) dX12_tieOf_40 ?_
        refine mr_iload_n (z := z201) dX12_tieOf_41 rfl rfl ?_
        refine mr_imul (x := 2) (y := z201) dX12_tieOf_42 ?_
        refine lk_110 dX12_tieOf_43 (A_110 hw) (rIx (n := 40) (rMulL (n := 2) (e := 0) (f := 38) h213 rfl) rfl) q216 ?_
        refine mr_iload_n (z := p2) dX12_tieOf_44 rfl rfl ?_
        refine mr_icmp_ne (tgt := 64) dX12_tieOf_45 (by decide) (r32 h217 rfl) hp2 (fun h219 => ?_) (fun h219 => ?_)
        · refine mr_iinc (lv' := [(3, iv (z201 + 1)), (0, .ref 106), (1, iv p1), (2, iv p2)]) dX12_tieOf_64 rfl (by decide) rfl ?_
          refine sv_goto (tgt := 2) dX12_tieOf_67 (by decide) ?_
          refine mr_lvS (lv' := [(0, .ref 106), (1, iv p1), (2, iv p2), (3, iv (z201 + 1))]) (List.forall_mem_cons.mpr ⟨rfl, List.forall_mem_cons.mpr ⟨rfl, List.forall_mem_cons.mpr ⟨rfl, List.forall_mem_cons.mpr ⟨rfl, fun _ h => absurd h List.not_mem_nil⟩⟩⟩⟩) ?_
          exact ih208 (z201 + 1) trivial (rW (c := 0) (d := 20) (rAdd (e := 1) (f := 20) h213 (rR (x := 1)) rfl) rfl) (vc_X12_tieOf_5 (nS h207) h212 h213 h214)
        have h220 : 0 ≤ p2 ∧ p2 ≤ 9 := (vc_X12_tieOf_6 h219 h218 hp1 hp2 h217)
        refine sv_aload_n dX12_tieOf_48 rfl rfl ?_
        refine gf_X12_7 dX12_tieOf_49 wF_X12_40 (A_106 hw) hT ?_
        refine mr_iconst (z := 2) dX12_tieOf_52 ?_
        refine mr_iload_n (z := z201) dX12_tieOf_53 rfl rfl ?_
        refine mr_imul (x := 2) (y := z201) dX12_tieOf_54 ?_
        refine mr_iconst (z := 1) dX12_tieOf_55 ?_
        refine mr_iadd (x := (2 * z201)) (y := 1) dX12_tieOf_56 ?_
        refine la_110 dX12_tieOf_57 (A_110 hw) hT (rIx (n := 40) (rAdd (e := 1) (f := 39) (rMulL (n := 2) (e := 0) (f := 38) h213 rfl) (rR (x := 1)) rfl) rfl) fun z221 q222 h223 => ?_
        refine mr_iload_n (z := p1) dX12_tieOf_58 rfl rfl ?_
        refine mr_icmp_ne (tgt := 64) dX12_tieOf_59 (by decide) (r32 h223 rfl) hp1 (fun h224 => ?_) (fun h224 => ?_)
        · refine mr_iinc (lv' := [(3, iv (z201 + 1)), (0, .ref 106), (1, iv p1), (2, iv p2)]) dX12_tieOf_64 rfl (by decide) rfl ?_
          refine sv_goto (tgt := 2) dX12_tieOf_67 (by decide) ?_
          refine mr_lvS (lv' := [(0, .ref 106), (1, iv p1), (2, iv p2), (3, iv (z201 + 1))]) (List.forall_mem_cons.mpr ⟨rfl, List.forall_mem_cons.mpr ⟨rfl, List.forall_mem_cons.mpr ⟨rfl, List.forall_mem_cons.mpr ⟨rfl, fun _ h => absurd h List.not_mem_nil⟩⟩⟩⟩) ?_
          exact ih208 (z201 + 1) trivial (rW (c := 0) (d := 20) (rAdd (e := 1) (f := 20) h213 (rR (x := 1)) rfl) rfl) (vc_X12_tieOf_5 (nS h207) h212 h213 h214)
        have h225 : 0 ≤ p1 ∧ p1 ≤ 9 := (vc_X12_tieOf_7 h224 h218 hp1 h217 h223)
        refine mr_iload_n (z := z201) dX12_tieOf_62 rfl rfl ?_
        exact mr_iretP dX12_tieOf_63 rfl (le_t rfl) (le_t rfl) ⟨(rW (c := (-99999999)) (d := 19) h213 rfl), (vc_X12_tieOf_8 h212 h213 h214), trivial⟩
      have h226 : 0 ≤ p1 ∧ p1 ≤ 9 := (vc_X12_tieOf_9 h218 hp1 h217)
      refine sv_aload_n dX12_tieOf_22 rfl rfl ?_
      refine gf_X12_7 dX12_tieOf_23 wF_X12_40 (A_106 hw) hT ?_
      refine mr_iconst (z := 2) dX12_tieOf_26 ?_
      refine mr_iload_n (z := z201) dX12_tieOf_27 rfl rfl ?_
      refine mr_imul (x := 2) (y := z201) dX12_tieOf_28 ?_
      refine mr_iconst (z := 1) dX12_tieOf_29 ?_
      refine mr_iadd (x := (2 * z201)) (y := 1) dX12_tieOf_30 ?_
      refine la_110 dX12_tieOf_31 (A_110 hw) hT (rIx (n := 40) (rAdd (e := 1) (f := 39) (rMulL (n := 2) (e := 0) (f := 38) h213 rfl) (rR (x := 1)) rfl) rfl) fun z227 q228 h229 => ?_
      refine mr_iload_n (z := p2) dX12_tieOf_32 rfl rfl ?_
      refine mr_icmp_eq (tgt := 62) dX12_tieOf_33 (by decide) (r32 h229 rfl) hp2 (fun h230 => ?_) (fun h230 => ?_)
      · have h231 : 0 ≤ p2 ∧ p2 ≤ 9 := (vc_X12_tieOf_10 h230 hp2 h229)
        refine mr_iload_n (z := z201) dX12_tieOf_62 rfl rfl ?_
        exact mr_iretP dX12_tieOf_63 rfl (le_t rfl) (le_t rfl) ⟨(rW (c := (-99999999)) (d := 19) h213 rfl), (vc_X12_tieOf_8 h212 h213 h214), trivial⟩
      refine sv_aload_n dX12_tieOf_36 rfl rfl ?_
      refine gf_X12_7 dX12_tieOf_37 wF_X12_40 (A_106 hw) hT ?_
      refine mr_iconst (z := 2) dX12_tieOf_40 ?_
      refine mr_iload_n (z := z201) dX12_tieOf_41 rfl rfl ?_
      refine mr_imul (x := 2) (y := z201) dX12_tieOf_42 ?_
      refine lk_110 dX12_tieOf_43 (A_110 hw) (rIx (n := 40) (rMulL (n := 2) (e := 0) (f := 38) h213 rfl) rfl) q216 ?_
      refine mr_iload_n (z := p2) dX12_tieOf_44 rfl rfl ?_
      refine mr_icmp_ne (tgt := 64) dX12_tieOf_45 (by decide) (r32 h217 rfl) hp2 (fun h232 => ?_) (fun h232 => ?_)
      · refine mr_iinc (lv' := [(3, iv (z201 + 1)), (0, .ref 106), (1, iv p1), (2, iv p2)]) dX12_tieOf_64 rfl (by decide) rfl ?_
        refine sv_goto (tgt := 2) dX12_tieOf_67 (by decide) ?_
        refine mr_lvS (lv' := [(0, .ref 106), (1, iv p1), (2, iv p2), (3, iv (z201 + 1))]) (List.forall_mem_cons.mpr ⟨rfl, List.forall_mem_cons.mpr ⟨rfl, List.forall_mem_cons.mpr ⟨rfl, List.forall_mem_cons.mpr ⟨rfl, fun _ h => absurd h List.not_mem_nil⟩⟩⟩⟩) ?_
        exact ih208 (z201 + 1) trivial (rW (c := 0) (d := 20) (rAdd (e := 1) (f := 20) h213 (rR (x := 1)) rfl) rfl) (vc_X12_tieOf_5 (nS h207) h212 h213 h214)
      have h233 : 0 ≤ p2 ∧ p2 ≤ 9 := (vc_X12_tieOf_11 h232 h218 h230 h226 hp2 h217 h229)
      refine sv_aload_n dX12_tieOf_48 rfl rfl ?_
      refine gf_X12_7 dX12_tieOf_49 wF_X12_40 (A_106 hw) hT ?_
      refine mr_iconst (z := 2) dX12_tieOf_52 ?_
      refine mr_iload_n (z := z201) dX12_tieOf_53 rfl rfl ?_
      refine mr_imul (x := 2) (y := z201) dX12_tieOf_54 ?_
      refine mr_iconst (z := 1) dX12_tieOf_55 ?_
      refine mr_iadd (x := (2 * z201)) (y := 1) dX12_tieOf_56 ?_
      refine lk_110 dX12_tieOf_57 (A_110 hw) (rIx (n := 40) (rAdd (e := 1) (f := 39) (rMulL (n := 2) (e := 0) (f := 38) h213 rfl) (rR (x := 1)) rfl) rfl) q228 ?_
      refine mr_iload_n (z := p1) dX12_tieOf_58 rfl rfl ?_
      refine mr_icmp_ne (tgt := 64) dX12_tieOf_59 (by decide) (r32 h229 rfl) (r32 h226 rfl) (fun h234 => ?_) (fun h234 => ?_)
      · refine mr_iinc (lv' := [(3, iv (z201 + 1)), (0, .ref 106), (1, iv p1), (2, iv p2)]) dX12_tieOf_64 rfl (by decide) rfl ?_
        refine sv_goto (tgt := 2) dX12_tieOf_67 (by decide) ?_
        refine mr_lvS (lv' := [(0, .ref 106), (1, iv p1), (2, iv p2), (3, iv (z201 + 1))]) (List.forall_mem_cons.mpr ⟨rfl, List.forall_mem_cons.mpr ⟨rfl, List.forall_mem_cons.mpr ⟨rfl, List.forall_mem_cons.mpr ⟨rfl, fun _ h => absurd h List.not_mem_nil⟩⟩⟩⟩) ?_
        exact ih208 (z201 + 1) trivial (rW (c := 0) (d := 20) (rAdd (e := 1) (f := 20) h213 (rR (x := 1)) rfl) rfl) (vc_X12_tieOf_5 (nS h207) h212 h213 h214)
      refine mr_iload_n (z := z201) dX12_tieOf_62 rfl rfl ?_
      exact mr_iretP dX12_tieOf_63 rfl (le_t rfl) (le_t rfl) ⟨(rW (c := (-99999999)) (d := 19) h213 rfl), (vc_X12_tieOf_8 h212 h213 h214), trivial⟩
  refine mr_lvS (lv' := [(0, .ref 106), (1, iv p1), (2, iv p2), (3, iv 0)]) (List.forall_mem_cons.mpr ⟨rfl, List.forall_mem_cons.mpr ⟨rfl, List.forall_mem_cons.mpr ⟨rfl, List.forall_mem_cons.mpr ⟨rfl, fun _ h => absurd h List.not_mem_nil⟩⟩⟩⟩) ?_
  exact L202 22 0 trivial (rW (c := 0) (d := 20) (rR (x := 0)) rfl) vc_X12_tieOf_12
theorem vc_X12_provides_1 {z5 : Int} (h0 : z5 = (-99999999)) (h1 : z5 = -99999999 ∨ (0 ≤ z5 ∧ z5 ≤ 19)) (h2 : (-99999999) ≤ z5 ∧ z5 ≤ 19) : (-99999999) ≤ z5 ∧ z5 ≤ (-99999999) := by omega
theorem vc_X12_provides_2 {z5 : Int} (h0 : ¬ z5 = (-99999999)) (h1 : z5 = -99999999 ∨ (0 ≤ z5 ∧ z5 ≤ 19)) (h2 : (-99999999) ≤ z5 ∧ z5 ≤ 19) : 0 ≤ z5 ∧ z5 ≤ 19 := by omega
theorem vc_X12_provides_3 {z20 : Int} (h0 : ¬ z20 = 0) (h1 : 0 ≤ z20 ∧ z20 ≤ 2) : 1 ≤ z20 ∧ z20 ≤ 2 := by omega
theorem vc_X12_provides_4 {z20 : Int} (h0 : z20 = 0) (h1 : 0 ≤ z20 ∧ z20 ≤ 2) : 0 ≤ z20 ∧ z20 ≤ 0 := by omega
theorem vc_X12_provides_5 {p1 z32 : Int} (h0 : z32 = p1) (h1 : (-2147483648) ≤ p1 ∧ p1 ≤ 2147483647) (h2 : 0 ≤ z32 ∧ z32 ≤ 9) : 0 ≤ p1 ∧ p1 ≤ 9 := by omega
set_option maxRecDepth 4000 in
set_option maxHeartbeats 4000000 in
theorem c_X12_provides {l : Launch} {D : va_G} {c : Nat → ClassId} {H0 : Heap} {sa : Nat × Nat × (Nat → Int32)} {w : mW} {μ : mM} (hw : mWF w) (hT : mT w μ) {p1 : Int} (hp1 : (-2147483648) ≤ p1 ∧ p1 ≤ 2147483647) {p2 : Int} (hp2 : (-2147483648) ≤ p2 ∧ p2 ≤ 2147483647) : sC (gG l D c H0 sa) mX12_provides 2 0 0 [.ref 106, iv p1, iv p2] (mk w μ) (qP w μ (fun z => (0 ≤ z ∧ z ≤ 1) ∧ True)) := by
  refine sC.of rfl (by decide) (le_t rfl) ?_
  refine mr_lvE (lv' := [(0, .ref 106), (1, iv p1), (2, iv p2)]) rfl ?_
  refine sv_aload_n dX12_provides_0 rfl rfl ?_
  refine mr_iload_n (z := p1) dX12_provides_1 rfl rfl ?_
  refine mr_iload_n (z := p2) dX12_provides_2 rfl rfl ?_
  refine mr_cVP (c_X12_tieOf hw hT hp1 hp2) (gOk _ _ _ _ _) dX12_provides_3 (tX12_tieOf _ _ _ _ _) ⟨wV_X12_tieOf, wL_X12_tieOf⟩ wM_X12_43 (gCX12 _ _ _ _ _) rfl (A_106 hw) rfl ⟨le_t rfl, le_t rfl⟩ ⟨le_t rfl, le_t rfl⟩ rfl (le_t rfl) fun z5 h4 => ?_
  refine mr_istore_n (lv' := [(3, iv z5), (0, .ref 106), (1, iv p1), (2, iv p2)]) dX12_provides_6 rfl (by decide) rfl ?_
  refine mr_iload_n (z := z5) dX12_provides_7 rfl rfl ?_
  refine mr_ldc (z := (-99999999)) dX12_provides_8 wG_X12_29 (by decide) ?_
  refine mr_icmp_eq (tgt := 38) dX12_provides_10 (by decide) (r32 h4.1 rfl) (r32 (rR (x := (-99999999))) rfl) (fun h17 => ?_) (fun h17 => ?_)
  · have h18 : (-99999999) ≤ z5 ∧ z5 ≤ (-99999999) := (vc_X12_provides_1 h17 h4.2.1 h4.1)
    refine mr_iconst (z := 0) dX12_provides_38 ?_
    exact mr_zretP dX12_provides_39 rfl (rW (c := 0) (d := 1) (rR (x := 0)) rfl) (le_t rfl) (le_t rfl) ⟨(rW (c := 0) (d := 1) (rR (x := 0)) rfl), trivial⟩
  have h19 : 0 ≤ z5 ∧ z5 ≤ 19 := (vc_X12_provides_2 h17 h4.2.1 h4.1)
  refine sv_aload_n dX12_provides_13 rfl rfl ?_
  refine gf_X12_8 dX12_provides_14 wF_X12_46 (A_106 hw) hT ?_
  refine mr_iload_n (z := z5) dX12_provides_17 rfl rfl ?_
  refine la_111 dX12_provides_18 (A_111 hw) hT (rIx (n := 20) h19 rfl) fun z20 q21 h22 => ?_
  refine mr_if_ne (tgt := 38) dX12_provides_19 (by decide) (r32 h22 rfl) (fun h29 => ?_) (fun h29 => ?_)
  · have h30 : 1 ≤ z20 ∧ z20 ≤ 2 := (vc_X12_provides_3 h29 h22)
    refine mr_iconst (z := 0) dX12_provides_38 ?_
    exact mr_zretP dX12_provides_39 rfl (rW (c := 0) (d := 1) (rR (x := 0)) rfl) (le_t rfl) (le_t rfl) ⟨(rW (c := 0) (d := 1) (rR (x := 0)) rfl), trivial⟩
  have h31 : 0 ≤ z20 ∧ z20 ≤ 0 := (vc_X12_provides_4 h29 h22)
  refine sv_aload_n dX12_provides_22 rfl rfl ?_
  refine gf_X12_7 dX12_provides_23 wF_X12_40 (A_106 hw) hT ?_
  refine mr_iconst (z := 2) dX12_provides_26 ?_
  refine mr_iload_n (z := z5) dX12_provides_27 rfl rfl ?_
  refine mr_imul (x := 2) (y := z5) dX12_provides_28 ?_
  refine la_110 dX12_provides_29 (A_110 hw) hT (rIx (n := 40) (rMulL (n := 2) (e := 0) (f := 38) h19 rfl) rfl) fun z32 q33 h34 => ?_
  refine mr_iload_n (z := p1) dX12_provides_30 rfl rfl ?_
  refine mr_icmp_ne (tgt := 38) dX12_provides_31 (by decide) (r32 h34 rfl) hp1 (fun h36 => ?_) (fun h36 => ?_)
  · refine mr_iconst (z := 0) dX12_provides_38 ?_
    exact mr_zretP dX12_provides_39 rfl (rW (c := 0) (d := 1) (rR (x := 0)) rfl) (le_t rfl) (le_t rfl) ⟨(rW (c := 0) (d := 1) (rR (x := 0)) rfl), trivial⟩
  have h37 : 0 ≤ p1 ∧ p1 ≤ 9 := (vc_X12_provides_5 h36 hp1 h34)
  refine mr_iconst (z := 1) dX12_provides_34 ?_
  refine sv_goto (tgt := 39) dX12_provides_35 (by decide) ?_
  exact mr_zretP dX12_provides_39 rfl (rW (c := 0) (d := 1) (rR (x := 1)) rfl) (le_t rfl) (le_t rfl) ⟨(rW (c := 0) (d := 1) (rR (x := 1)) rfl), trivial⟩
theorem vc_X12_domain_1 {z1 : Int} (h0 : ¬ z1 = 10) (h1 : 0 ≤ z1 ∧ z1 ≤ 10) : 0 ≤ z1 ∧ z1 ≤ 9 := by omega
theorem vc_X12_domain_2 {z1 : Int} (h0 : z1 = 10) (h1 : 0 ≤ z1 ∧ z1 ≤ 10) : 10 ≤ z1 ∧ z1 ≤ 10 := by omega
set_option maxRecDepth 4000 in
set_option maxHeartbeats 4000000 in
theorem c_X12_domain {l : Launch} {D : va_G} {c : Nat → ClassId} {H0 : Heap} {sa : Nat × Nat × (Nat → Int32)} {w : mW} {μ : mM} (hw : mWF w) (hT : mT w μ) : sC (gG l D c H0 sa) mX12_domain 1 0 0 [.ref 106] (mk w μ) (qI w [106005] μ (fun z μ1 => ((-2147483648) ≤ z ∧ z ≤ 2147483647) ∧ True)) := by
  refine sC.of rfl (by decide) (le_t rfl) ?_
  refine mr_lvE (lv' := [(0, .ref 106)]) rfl ?_
  refine sv_aload_n dX12_domain_0 rfl rfl ?_
  refine gf_X12_5 dX12_domain_1 wF_X12_34 (A_106 hw) hT fun z1 q2 h3 => ?_
  refine mr_bipush (z := 10) dX12_domain_4 (by decide) ?_
  refine mr_icmp_ne (tgt := 12) dX12_domain_6 (by decide) (r32 h3 rfl) (r32 (rR (x := 10)) rfl) (fun h4 => ?_) (fun h4 => ?_)
  · have h5 : 0 ≤ z1 ∧ z1 ≤ 9 := (vc_X12_domain_1 h4 h3)
    refine sv_aload_n dX12_domain_12 rfl rfl ?_
    refine sv_dup dX12_domain_13 rfl ?_
    refine gk_X12_5 dX12_domain_14 wF_X12_34 (A_106 hw) q2 ?_
    refine mr_iconst (z := 1) dX12_domain_17 ?_
    refine mr_iadd (x := z1) (y := 1) dX12_domain_18 ?_
    refine pf_X12_5 dX12_domain_19 wF_X12_34 (A_106 hw) hT (rW (c := 0) (d := 10) (rAdd (e := 1) (f := 10) h5 (rR (x := 1)) rfl) rfl) fun μ6 u7 T8 => ?_
    refine sv_aload_n dX12_domain_22 rfl rfl ?_
    refine gk_X12_5 dX12_domain_23 wF_X12_34 (A_106 hw) u7.1 ?_
    refine mr_iconst (z := 1) dX12_domain_26 ?_
    refine mr_isub (x := (z1 + 1)) (y := 1) dX12_domain_27 ?_
    exact mr_iret dX12_domain_28 rfl (le_t rfl) (le_t rfl) T8 (mF.up mF.refl (A_106 hw) u7 rfl) ⟨(rW (c := (-2147483648)) (d := 2147483647) (rSub (e := 0) (f := 9) (rAdd (e := 1) (f := 10) h5 (rR (x := 1)) rfl) (rR (x := 1)) rfl) rfl), trivial⟩
  have h9 : 10 ≤ z1 ∧ z1 ≤ 10 := (vc_X12_domain_2 h4 h3)
  refine mr_bipush (z := (-3)) dX12_domain_9 (by decide) ?_
  exact mr_iret dX12_domain_11 rfl (le_t rfl) (le_t rfl) hT mF.refl ⟨(rW (c := (-2147483648)) (d := 2147483647) (rR (x := (-3))) rfl), trivial⟩
theorem vc_X12_tie_1 {p1 z1 z8 : Int} (h0 : z8 = 0) (h1 : (z8 = 1 → 0 ≤ p1 ∧ p1 < z1)) (h2 : (z8 = 0 → p1 < 0 ∨ z1 ≤ p1)) (h3 : (-2147483648) ≤ p1 ∧ p1 ≤ 2147483647) (h4 : 0 ≤ z1 ∧ z1 ≤ 10) (h5 : 0 ≤ z8 ∧ z8 ≤ 1) : 0 ≤ z8 ∧ z8 ≤ 0 := by omega
theorem vc_X12_tie_2 {p1 z1 z8 : Int} (h0 : (z8 = 1 → 0 ≤ p1 ∧ p1 < z1)) (h1 : (z8 = 0 → p1 < 0 ∨ z1 ≤ p1)) (h2 : z8 = 0) (h3 : (-2147483648) ≤ p1 ∧ p1 ≤ 2147483647) (h4 : 0 ≤ z1 ∧ z1 ≤ 10) (h5 : 0 ≤ z8 ∧ z8 ≤ 0) : z8 = 0 := by omega
theorem vc_X12_tie_3 {p1 z1 z8 : Int} (h0 : ¬ z8 = 0) (h1 : (z8 = 1 → 0 ≤ p1 ∧ p1 < z1)) (h2 : (z8 = 0 → p1 < 0 ∨ z1 ≤ p1)) (h3 : (-2147483648) ≤ p1 ∧ p1 ≤ 2147483647) (h4 : 0 ≤ z1 ∧ z1 ≤ 10) (h5 : 0 ≤ z8 ∧ z8 ≤ 1) : 1 ≤ z8 ∧ z8 ≤ 1 := by omega
theorem vc_X12_tie_4 {p1 z1 z8 : Int} (h0 : (z8 = 1 → 0 ≤ p1 ∧ p1 < z1)) (h1 : (z8 = 0 → p1 < 0 ∨ z1 ≤ p1)) (h2 : ¬ z8 = 0) (h3 : (-2147483648) ≤ p1 ∧ p1 ≤ 2147483647) (h4 : 0 ≤ z1 ∧ z1 ≤ 10) (h5 : 1 ≤ z8 ∧ z8 ≤ 1) : z8 = 1 := by omega
theorem vc_X12_tie_5 {p1 z1 z8 : Int} (h0 : 0 ≤ p1 ∧ p1 < z1) (h1 : (z8 = 1 → 0 ≤ p1 ∧ p1 < z1)) (h2 : (z8 = 0 → p1 < 0 ∨ z1 ≤ p1)) (h3 : (-2147483648) ≤ p1 ∧ p1 ≤ 2147483647) (h4 : 0 ≤ z1 ∧ z1 ≤ 10) (h5 : 1 ≤ z8 ∧ z8 ≤ 1) : 0 ≤ p1 ∧ p1 ≤ 9 := by omega
theorem vc_X12_tie_6 {p1 z1 z8 : Int} (h0 : 0 ≤ p1 ∧ p1 < z1) (h1 : (z8 = 1 → 0 ≤ p1 ∧ p1 < z1)) (h2 : (z8 = 0 → p1 < 0 ∨ z1 ≤ p1)) (h3 : 0 ≤ p1 ∧ p1 ≤ 9) (h4 : 0 ≤ z1 ∧ z1 ≤ 10) (h5 : 1 ≤ z8 ∧ z8 ≤ 1) : 1 ≤ z1 ∧ z1 ≤ 10 := by omega
theorem vc_X12_tie_7 {p2 z1 z20 : Int} (h0 : z20 = 0) (h1 : (z20 = 1 → 0 ≤ p2 ∧ p2 < z1)) (h2 : (z20 = 0 → p2 < 0 ∨ z1 ≤ p2)) (h3 : (-2147483648) ≤ p2 ∧ p2 ≤ 2147483647) (h4 : 1 ≤ z1 ∧ z1 ≤ 10) (h5 : 0 ≤ z20 ∧ z20 ≤ 1) : 0 ≤ z20 ∧ z20 ≤ 0 := by omega
theorem vc_X12_tie_8 {p1 p2 z1 z20 z8 : Int} (h0 : (z20 = 1 → 0 ≤ p2 ∧ p2 < z1)) (h1 : (z20 = 0 → p2 < 0 ∨ z1 ≤ p2)) (h2 : z20 = 0) (h3 : (z8 = 1 → 0 ≤ p1 ∧ p1 < z1)) (h4 : (z8 = 0 → p1 < 0 ∨ z1 ≤ p1)) (h5 : 0 ≤ p1 ∧ p1 < z1) (h6 : 0 ≤ p1 ∧ p1 ≤ 9) (h7 : (-2147483648) ≤ p2 ∧ p2 ≤ 2147483647) (h8 : 1 ≤ z1 ∧ z1 ≤ 10) (h9 : 0 ≤ z20 ∧ z20 ≤ 0) (h10 : 1 ≤ z8 ∧ z8 ≤ 1) : z20 = 0 := by omega
theorem vc_X12_tie_9 {p2 z1 z20 : Int} (h0 : ¬ z20 = 0) (h1 : (z20 = 1 → 0 ≤ p2 ∧ p2 < z1)) (h2 : (z20 = 0 → p2 < 0 ∨ z1 ≤ p2)) (h3 : (-2147483648) ≤ p2 ∧ p2 ≤ 2147483647) (h4 : 1 ≤ z1 ∧ z1 ≤ 10) (h5 : 0 ≤ z20 ∧ z20 ≤ 1) : 1 ≤ z20 ∧ z20 ≤ 1 := by omega
theorem vc_X12_tie_10 {p1 p2 z1 z20 z8 : Int} (h0 : (z20 = 1 → 0 ≤ p2 ∧ p2 < z1)) (h1 : (z20 = 0 → p2 < 0 ∨ z1 ≤ p2)) (h2 : ¬ z20 = 0) (h3 : (z8 = 1 → 0 ≤ p1 ∧ p1 < z1)) (h4 : (z8 = 0 → p1 < 0 ∨ z1 ≤ p1)) (h5 : 0 ≤ p1 ∧ p1 < z1) (h6 : 0 ≤ p1 ∧ p1 ≤ 9) (h7 : (-2147483648) ≤ p2 ∧ p2 ≤ 2147483647) (h8 : 1 ≤ z1 ∧ z1 ≤ 10) (h9 : 1 ≤ z20 ∧ z20 ≤ 1) (h10 : 1 ≤ z8 ∧ z8 ≤ 1) : z20 = 1 := by omega
theorem vc_X12_tie_11 {p1 p2 z1 z20 z8 : Int} (h0 : 0 ≤ p2 ∧ p2 < z1) (h1 : (z8 = 1 → 0 ≤ p1 ∧ p1 < z1)) (h2 : (z8 = 0 → p1 < 0 ∨ z1 ≤ p1)) (h3 : 0 ≤ p1 ∧ p1 < z1) (h4 : (z20 = 1 → 0 ≤ p2 ∧ p2 < z1)) (h5 : (z20 = 0 → p2 < 0 ∨ z1 ≤ p2)) (h6 : 0 ≤ p1 ∧ p1 ≤ 9) (h7 : (-2147483648) ≤ p2 ∧ p2 ≤ 2147483647) (h8 : 1 ≤ z1 ∧ z1 ≤ 10) (h9 : 1 ≤ z20 ∧ z20 ≤ 1) (h10 : 1 ≤ z8 ∧ z8 ≤ 1) : 0 ≤ p2 ∧ p2 ≤ 9 := by omega
theorem vc_X12_tie_12 {p3 z32 : Int} (h0 : ¬ z32 = 0) (h1 : (z32 = 1 → 0 ≤ p3 ∧ p3 ≤ 2)) (h2 : (z32 = 0 → p3 < 0 ∨ 2 < p3)) (h3 : (-2147483648) ≤ p3 ∧ p3 ≤ 2147483647) (h4 : 0 ≤ z32 ∧ z32 ≤ 1) : 1 ≤ z32 ∧ z32 ≤ 1 := by omega
theorem vc_X12_tie_13 {p3 z32 : Int} (h0 : (z32 = 1 → 0 ≤ p3 ∧ p3 ≤ 2)) (h1 : (z32 = 0 → p3 < 0 ∨ 2 < p3)) (h2 : ¬ z32 = 0) (h3 : (-2147483648) ≤ p3 ∧ p3 ≤ 2147483647) (h4 : 1 ≤ z32 ∧ z32 ≤ 1) : z32 = 1 := by omega
theorem vc_X12_tie_14 {p3 z32 : Int} (h0 : 0 ≤ p3 ∧ p3 ≤ 2) (h1 : (z32 = 1 → 0 ≤ p3 ∧ p3 ≤ 2)) (h2 : (z32 = 0 → p3 < 0 ∨ 2 < p3)) (h3 : (-2147483648) ≤ p3 ∧ p3 ≤ 2147483647) (h4 : 1 ≤ z32 ∧ z32 ≤ 1) : 0 ≤ p3 ∧ p3 ≤ 2 := by omega
theorem vc_X12_tie_15 {z41 : Int} (h0 : z41 = (-99999999)) (h1 : z41 = -99999999 ∨ (0 ≤ z41 ∧ z41 ≤ 19)) (h2 : (-99999999) ≤ z41 ∧ z41 ≤ 19) : (-99999999) ≤ z41 ∧ z41 ≤ (-99999999) := by omega
theorem vc_X12_tie_16 {z44 : Int} (h0 : ¬ z44 = 20) (h1 : 0 ≤ z44 ∧ z44 ≤ 20) : 0 ≤ z44 ∧ z44 ≤ 19 := by omega
theorem vc_X12_tie_17 {z107 : Int} (h0 : (5 - z107) < ((0 : Nat) : Int)) (h1 : 0 ≤ z107 ∧ z107 ≤ 4) : False := by omega
theorem vc_X12_tie_18 {z107 : Int} (h0 : 4 ≤ z107) (h1 : 0 ≤ z107 ∧ z107 ≤ 4) : 4 ≤ z107 ∧ z107 ≤ 4 := by omega
theorem vc_X12_tie_19 {z107 : Int} (h0 : z107 < 4) (h1 : 0 ≤ z107 ∧ z107 ≤ 4) : 0 ≤ z107 ∧ z107 ≤ 3 := by omega
theorem vc_X12_tie_20  : ((-99999999) : Int) = -(99999999 : Int) ∨ ((0 : Int) ≤ ((-99999999) : Int) ∧ ((-99999999) : Int) ≤ (11 : Int)) := by omega
theorem vc_X12_tie_21 {N z107 : Int} (h0 : (5 - z107) < N + 1) (h1 : z107 < 4) (h2 : 0 ≤ z107 ∧ z107 ≤ 3) : (5 - (z107 + 1)) < N := by omega
theorem vc_X12_tie_22  : (5 - 0) < ((6 : Nat) : Int) := by omega
theorem vc_X12_tie_23 {z44 : Int} (h0 : z44 = 20) (h1 : 0 ≤ z44 ∧ z44 ≤ 20) : 20 ≤ z44 ∧ z44 ≤ 20 := by omega
theorem vc_X12_tie_24 {z41 : Int} (h0 : ¬ z41 = (-99999999)) (h1 : z41 = -99999999 ∨ (0 ≤ z41 ∧ z41 ≤ 19)) (h2 : (-99999999) ≤ z41 ∧ z41 ≤ 19) : 0 ≤ z41 ∧ z41 ≤ 19 := by omega
theorem vc_X12_tie_25 {p3 z32 : Int} (h0 : z32 = 0) (h1 : (z32 = 1 → 0 ≤ p3 ∧ p3 ≤ 2)) (h2 : (z32 = 0 → p3 < 0 ∨ 2 < p3)) (h3 : (-2147483648) ≤ p3 ∧ p3 ≤ 2147483647) (h4 : 0 ≤ z32 ∧ z32 ≤ 1) : 0 ≤ z32 ∧ z32 ≤ 0 := by omega
theorem vc_X12_tie_26 {p3 z32 : Int} (h0 : (z32 = 1 → 0 ≤ p3 ∧ p3 ≤ 2)) (h1 : (z32 = 0 → p3 < 0 ∨ 2 < p3)) (h2 : z32 = 0) (h3 : (-2147483648) ≤ p3 ∧ p3 ≤ 2147483647) (h4 : 0 ≤ z32 ∧ z32 ≤ 0) : z32 = 0 := by omega
set_option maxRecDepth 4000 in
set_option maxHeartbeats 4000000 in
theorem c_X12_tie {l : Launch} {D : va_G} {c : Nat → ClassId} {H0 : Heap} {sa : Nat × Nat × (Nat → Int32)} {w : mW} {μ : mM} (hw : mWF w) (hT : mT w μ) {p1 : Int} (hp1 : (-2147483648) ≤ p1 ∧ p1 ≤ 2147483647) {p2 : Int} (hp2 : (-2147483648) ≤ p2 ∧ p2 ≤ 2147483647) {p3 : Int} (hp3 : (-2147483648) ≤ p3 ∧ p3 ≤ 2147483647) : sC (gG l D c H0 sa) mX12_tie 3 0 0 [.ref 106, iv p1, iv p2, iv p3] (mk w μ) (qI w [106006, 110999, 111999, 112999, 113999, 114999, 115999] μ (fun z μ1 => ((-2147483648) ≤ z ∧ z ≤ 2147483647) ∧ True)) := by
  refine sC.of rfl (by decide) (le_t rfl) ?_
  refine mr_lvE (lv' := [(0, .ref 106), (1, iv p1), (2, iv p2), (3, iv p3)]) rfl ?_
  refine sv_aload_n dX12_tie_0 rfl rfl ?_
  refine mr_iload_n (z := p1) dX12_tie_1 rfl rfl ?_
  obtain ⟨z1, q2⟩ : ∃ z, μ 106 5 = z := ⟨_, rfl⟩
  have h3 : (0 ≤ z1 ∧ z1 ≤ 10) := by rw [← q2]; exact hT 106 106 (A_106 hw) 5
  refine mr_cVP (c_X12_isDomain hw hT hp1 q2) (gOk _ _ _ _ _) dX12_tie_2 (tX12_isDomain _ _ _ _ _) ⟨wV_X12_isDomain, wL_X12_isDomain⟩ wM_X12_49 (gCX12 _ _ _ _ _) rfl (A_106 hw) rfl ⟨le_t rfl, le_t rfl⟩ ⟨le_t rfl, le_t rfl⟩ rfl (le_t rfl) fun z8 h7 => ?_
  refine mr_if_eq (tgt := 30) dX12_tie_5 (by decide) (r32 h7.1 rfl) (fun h9 => ?_) (fun h9 => ?_)
  · have h10 : 0 ≤ z8 ∧ z8 ≤ 0 := (vc_X12_tie_1 h9 h7.2.1 h7.2.2.1 hp1 h3 h7.1)
    have h11 : p1 < 0 ∨ z1 ≤ p1 := (h7.2.2.1 (vc_X12_tie_2 h7.2.1 h7.2.2.1 h9 hp1 h3 h10))
    refine mr_iconst (z := (-1)) dX12_tie_30 ?_
    exact mr_iret dX12_tie_31 rfl (le_t rfl) (le_t rfl) hT mF.refl ⟨(rW (c := (-2147483648)) (d := 2147483647) (rR (x := (-1))) rfl), trivial⟩
  have h12 : 1 ≤ z8 ∧ z8 ≤ 1 := (vc_X12_tie_3 h9 h7.2.1 h7.2.2.1 hp1 h3 h7.1)
  have h13 : 0 ≤ p1 ∧ p1 < z1 := (h7.2.1 (vc_X12_tie_4 h7.2.1 h7.2.2.1 h9 hp1 h3 h12))
  have h14 : 0 ≤ p1 ∧ p1 ≤ 9 := (vc_X12_tie_5 h13 h7.2.1 h7.2.2.1 hp1 h3 h12)
  have h15 : 1 ≤ z1 ∧ z1 ≤ 10 := (vc_X12_tie_6 h13 h7.2.1 h7.2.2.1 h14 h3 h12)
  refine sv_aload_n dX12_tie_8 rfl rfl ?_
  refine mr_iload_n (z := p2) dX12_tie_9 rfl rfl ?_
  refine mr_cVP (c_X12_isDomain hw hT hp2 q2) (gOk _ _ _ _ _) dX12_tie_10 (tX12_isDomain _ _ _ _ _) ⟨wV_X12_isDomain, wL_X12_isDomain⟩ wM_X12_49 (gCX12 _ _ _ _ _) rfl (A_106 hw) rfl ⟨le_t rfl, le_t rfl⟩ ⟨le_t rfl, le_t rfl⟩ rfl (le_t rfl) fun z20 h19 => ?_
  refine mr_if_eq (tgt := 30) dX12_tie_13 (by decide) (r32 h19.1 rfl) (fun h21 => ?_) (fun h21 => ?_)
  · have h22 : 0 ≤ z20 ∧ z20 ≤ 0 := (vc_X12_tie_7 h21 h19.2.1 h19.2.2.1 hp2 h15 h19.1)
    have h23 : p2 < 0 ∨ z1 ≤ p2 := (h19.2.2.1 (vc_X12_tie_8 h19.2.1 h19.2.2.1 h21 h7.2.1 h7.2.2.1 h13 h14 hp2 h15 h22 h12))
    refine mr_iconst (z := (-1)) dX12_tie_30 ?_
    exact mr_iret dX12_tie_31 rfl (le_t rfl) (le_t rfl) hT mF.refl ⟨(rW (c := (-2147483648)) (d := 2147483647) (rR (x := (-1))) rfl), trivial⟩
  have h24 : 1 ≤ z20 ∧ z20 ≤ 1 := (vc_X12_tie_9 h21 h19.2.1 h19.2.2.1 hp2 h15 h19.1)
  have h25 : 0 ≤ p2 ∧ p2 < z1 := (h19.2.1 (vc_X12_tie_10 h19.2.1 h19.2.2.1 h21 h7.2.1 h7.2.2.1 h13 h14 hp2 h15 h24 h12))
  have h26 : 0 ≤ p2 ∧ p2 ≤ 9 := (vc_X12_tie_11 h25 h7.2.1 h7.2.2.1 h13 h19.2.1 h19.2.2.1 h14 hp2 h15 h24 h12)
  refine mr_iload_n (z := p1) dX12_tie_16 rfl rfl ?_
  refine mr_iload_n (z := p2) dX12_tie_17 rfl rfl ?_
  refine mr_icmp_eq (tgt := 30) dX12_tie_18 (by decide) (r32 h14 rfl) (r32 h26 rfl) (fun h27 => ?_) (fun h27 => ?_)
  · refine mr_iconst (z := (-1)) dX12_tie_30 ?_
    exact mr_iret dX12_tie_31 rfl (le_t rfl) (le_t rfl) hT mF.refl ⟨(rW (c := (-2147483648)) (d := 2147483647) (rR (x := (-1))) rfl), trivial⟩
  refine mr_iload_n (z := p3) dX12_tie_21 rfl rfl ?_
  refine mr_iconst (z := 0) dX12_tie_22 ?_
  refine mr_iconst (z := 2) dX12_tie_23 ?_
  refine mr_cSP (c_X12_in hw hT hp3 (rW (c := (-2147483648)) (d := 2147483647) (rR (x := 0)) rfl) (rW (c := (-2147483648)) (d := 2147483647) (rR (x := 2)) rfl)) (gOk _ _ _ _ _) dX12_tie_24 (tX12_in _ _ _ _ _) wS_X12_in wM_X12_18 ⟨le_t rfl, le_t rfl⟩ ⟨le_t rfl, le_t rfl⟩ rfl (le_t rfl) fun z32 h31 => ?_
  refine mr_if_ne (tgt := 32) dX12_tie_27 (by decide) (r32 h31.1 rfl) (fun h33 => ?_) (fun h33 => ?_)
  · have h34 : 1 ≤ z32 ∧ z32 ≤ 1 := (vc_X12_tie_12 h33 h31.2.1 h31.2.2.1 hp3 h31.1)
    have h35 : 0 ≤ p3 ∧ p3 ≤ 2 := (h31.2.1 (vc_X12_tie_13 h31.2.1 h31.2.2.1 h33 hp3 h34))
    have h36 : 0 ≤ p3 ∧ p3 ≤ 2 := (vc_X12_tie_14 h35 h31.2.1 h31.2.2.1 hp3 h34)
    refine sv_aload_n dX12_tie_32 rfl rfl ?_
    refine mr_iload_n (z := p1) dX12_tie_33 rfl rfl ?_
    refine mr_iload_n (z := p2) dX12_tie_34 rfl rfl ?_
    refine mr_cVP (c_X12_tieOf hw hT (rW (c := (-2147483648)) (d := 2147483647) h14 rfl) (rW (c := (-2147483648)) (d := 2147483647) h26 rfl)) (gOk _ _ _ _ _) dX12_tie_35 (tX12_tieOf _ _ _ _ _) ⟨wV_X12_tieOf, wL_X12_tieOf⟩ wM_X12_43 (gCX12 _ _ _ _ _) rfl (A_106 hw) rfl ⟨le_t rfl, le_t rfl⟩ ⟨le_t rfl, le_t rfl⟩ rfl (le_t rfl) fun z41 h40 => ?_
    refine mr_ldc (z := (-99999999)) dX12_tie_38 wG_X12_29 (by decide) ?_
    refine mr_icmp_eq (tgt := 46) dX12_tie_40 (by decide) (r32 h40.1 rfl) (r32 (rR (x := (-99999999))) rfl) (fun h42 => ?_) (fun h42 => ?_)
    · have h43 : (-99999999) ≤ z41 ∧ z41 ≤ (-99999999) := (vc_X12_tie_15 h42 h40.2.1 h40.1)
      refine sv_aload_n dX12_tie_46 rfl rfl ?_
      refine gf_X12_6 dX12_tie_47 wF_X12_37 (A_106 hw) hT fun z44 q45 h46 => ?_
      refine mr_bipush (z := 20) dX12_tie_50 (by decide) ?_
      refine mr_icmp_ne (tgt := 58) dX12_tie_52 (by decide) (r32 h46 rfl) (r32 (rR (x := 20)) rfl) (fun h47 => ?_) (fun h47 => ?_)
      · have h48 : 0 ≤ z44 ∧ z44 ≤ 19 := (vc_X12_tie_16 h47 h46)
        refine sv_aload_n dX12_tie_58 rfl rfl ?_
        refine gf_X12_7 dX12_tie_59 wF_X12_40 (A_106 hw) hT ?_
        refine mr_iconst (z := 2) dX12_tie_62 ?_
        refine sv_aload_n dX12_tie_63 rfl rfl ?_
        refine gk_X12_6 dX12_tie_64 wF_X12_37 (A_106 hw) q45 ?_
        refine mr_imul (x := 2) (y := z44) dX12_tie_67 ?_
        refine mr_iload_n (z := p1) dX12_tie_68 rfl rfl ?_
        refine ss_110 dX12_tie_69 (A_110 hw) hT (rIx (n := 40) (rMulL (n := 2) (e := 0) (f := 38) h48 rfl) rfl) h14 fun μ49 u50 T51 => ?_
        refine sv_aload_n dX12_tie_70 rfl rfl ?_
        refine gf_X12_7 dX12_tie_71 wF_X12_40 (A_106 hw) T51 ?_
        refine mr_iconst (z := 2) dX12_tie_74 ?_
        refine sv_aload_n dX12_tie_75 rfl rfl ?_
        refine gk_X12_6 dX12_tie_76 wF_X12_37 (A_106 hw) (u50.f (Or.inl (mAt.ne (A_110 hw) (A_106 hw) rfl)) q45) ?_
        refine mr_imul (x := 2) (y := z44) dX12_tie_79 ?_
        refine mr_iconst (z := 1) dX12_tie_80 ?_
        refine mr_iadd (x := (2 * z44)) (y := 1) dX12_tie_81 ?_
        refine mr_iload_n (z := p2) dX12_tie_82 rfl rfl ?_
        refine ss_110 dX12_tie_83 (A_110 hw) T51 (rIx (n := 40) (rAdd (e := 1) (f := 39) (rMulL (n := 2) (e := 0) (f := 38) h48 rfl) (rR (x := 1)) rfl) rfl) h26 fun μ52 u53 T54 => ?_
        refine sv_aload_n dX12_tie_84 rfl rfl ?_
        refine gf_X12_8 dX12_tie_85 wF_X12_46 (A_106 hw) T54 ?_
        refine sv_aload_n dX12_tie_88 rfl rfl ?_
        refine gk_X12_6 dX12_tie_89 wF_X12_37 (A_106 hw) (u53.f (Or.inl (mAt.ne (A_110 hw) (A_106 hw) rfl)) (u50.f (Or.inl (mAt.ne (A_110 hw) (A_106 hw) rfl)) q45)) ?_
        refine mr_iload_n (z := p3) dX12_tie_92 rfl rfl ?_
        refine ss_111 dX12_tie_93 (A_111 hw) T54 (rIx (n := 20) h48 rfl) h36 fun μ55 u56 T57 => ?_
        refine sv_aload_n dX12_tie_94 rfl rfl ?_
        refine gf_X12_9 dX12_tie_95 wF_X12_53 (A_106 hw) T57 ?_
        refine sv_aload_n dX12_tie_98 rfl rfl ?_
        refine gk_X12_6 dX12_tie_99 wF_X12_37 (A_106 hw) (u56.f (Or.inl (mAt.ne (A_111 hw) (A_106 hw) rfl)) (u53.f (Or.inl (mAt.ne (A_110 hw) (A_106 hw) rfl)) (u50.f (Or.inl (mAt.ne (A_110 hw) (A_106 hw) rfl)) q45))) ?_
        refine mr_iconst (z := 1) dX12_tie_102 ?_
        refine ss_112 dX12_tie_103 (A_112 hw) T57 (rIx (n := 20) h48 rfl) (rW (c := 0) (d := 1) (rR (x := 1)) rfl) fun μ58 u59 T60 => ?_
        refine sv_aload_n dX12_tie_104 rfl rfl ?_
        refine gf_X12_10 dX12_tie_105 wF_X12_57 (A_106 hw) T60 ?_
        refine sv_aload_n dX12_tie_108 rfl rfl ?_
        refine gk_X12_6 dX12_tie_109 wF_X12_37 (A_106 hw) (u59.f (Or.inl (mAt.ne (A_112 hw) (A_106 hw) rfl)) (u56.f (Or.inl (mAt.ne (A_111 hw) (A_106 hw) rfl)) (u53.f (Or.inl (mAt.ne (A_110 hw) (A_106 hw) rfl)) (u50.f (Or.inl (mAt.ne (A_110 hw) (A_106 hw) rfl)) q45)))) ?_
        refine mr_iconst (z := 1) dX12_tie_112 ?_
        refine ss_113 dX12_tie_113 (A_113 hw) T60 (rIx (n := 20) h48 rfl) (rW (c := 0) (d := 1000) (rR (x := 1)) rfl) fun μ61 u62 T63 => ?_
        refine sv_aload_n dX12_tie_114 rfl rfl ?_
        refine gf_X12_11 dX12_tie_115 wF_X12_60 (A_106 hw) T63 ?_
        refine sv_aload_n dX12_tie_118 rfl rfl ?_
        refine gk_X12_6 dX12_tie_119 wF_X12_37 (A_106 hw) (u62.f (Or.inl (mAt.ne (A_113 hw) (A_106 hw) rfl)) (u59.f (Or.inl (mAt.ne (A_112 hw) (A_106 hw) rfl)) (u56.f (Or.inl (mAt.ne (A_111 hw) (A_106 hw) rfl)) (u53.f (Or.inl (mAt.ne (A_110 hw) (A_106 hw) rfl)) (u50.f (Or.inl (mAt.ne (A_110 hw) (A_106 hw) rfl)) q45))))) ?_
        refine mr_iconst (z := 0) dX12_tie_122 ?_
        refine ss_114 dX12_tie_123 (A_114 hw) T63 (rIx (n := 20) h48 rfl) (rW (c := 0) (d := 1000) (rR (x := 0)) rfl) fun μ64 u65 T66 => ?_
        refine mr_iconst (z := 0) dX12_tie_124 ?_
        refine mr_istore (lv' := [(4, iv 0), (0, .ref 106), (1, iv p1), (2, iv p2), (3, iv p3)]) dX12_tie_125 (by decide) rfl ?_
        have L109 : ∀ (nL109 : Nat) (z107 : Int) (μ108 : mM), mT w μ108 → mF [115999] w μ64 μ108 → (0 ≤ z107 ∧ z107 ≤ 4) → (5 - z107) < (nL109 : Int) → sV (gG l D c H0 sa) mX12_tie (sRm 3 0 0) (sZ (gG l D c H0 sa) 0 0 (qI w [106006, 110999, 111999, 112999, 113999, 114999, 115999] μ (fun z μ1 => ((-2147483648) ≤ z ∧ z ≤ 2147483647) ∧ True))) 127 [(0, .ref 106), (4, iv z107)] [] (mk w μ108) 0 0 := by
          intro nL109
          induction nL109 with
          | zero => intro z107 μ108 T111 F112 h110 h114; exact ((vc_X12_tie_17 h114 h110)).elim
          | succ nL109 ih115 =>
            intro z107 μ108 T111 F112 h110 h114
            refine mr_iload (z := z107) dX12_tie_127 rfl ?_
            refine mr_iconst (z := 4) dX12_tie_129 ?_
            refine mr_icmp_ge (tgt := 155) dX12_tie_130 (by decide) (r32 h110 rfl) (r32 (rR (x := 4)) rfl) (fun h121 => ?_) (fun h121 => ?_)
            · have h122 : 4 ≤ z107 ∧ z107 ≤ 4 := (vc_X12_tie_18 h121 h110)
              refine sv_aload_n dX12_tie_155 rfl rfl ?_
              refine sv_dup dX12_tie_156 rfl ?_
              refine gk_X12_6 dX12_tie_157 wF_X12_37 (A_106 hw) (F112.f (A_106 hw) rfl (u65.f (Or.inl (mAt.ne (A_114 hw) (A_106 hw) rfl)) (u62.f (Or.inl (mAt.ne (A_113 hw) (A_106 hw) rfl)) (u59.f (Or.inl (mAt.ne (A_112 hw) (A_106 hw) rfl)) (u56.f (Or.inl (mAt.ne (A_111 hw) (A_106 hw) rfl)) (u53.f (Or.inl (mAt.ne (A_110 hw) (A_106 hw) rfl)) (u50.f (Or.inl (mAt.ne (A_110 hw) (A_106 hw) rfl)) q45))))))) ?_
              refine mr_iconst (z := 1) dX12_tie_160 ?_
              refine mr_iadd (x := z44) (y := 1) dX12_tie_161 ?_
              refine pf_X12_6 dX12_tie_162 wF_X12_37 (A_106 hw) T111 (rW (c := 0) (d := 20) (rAdd (e := 1) (f := 20) h48 (rR (x := 1)) rfl) rfl) fun μ123 u124 T125 => ?_
              refine sv_aload_n dX12_tie_165 rfl rfl ?_
              refine gk_X12_6 dX12_tie_166 wF_X12_37 (A_106 hw) u124.1 ?_
              refine mr_iconst (z := 1) dX12_tie_169 ?_
              refine mr_isub (x := (z44 + 1)) (y := 1) dX12_tie_170 ?_
              exact mr_iret dX12_tie_171 rfl (le_t rfl) (le_t rfl) T125 (mF.up (mF.call (mF.up (mF.up (mF.up (mF.up (mF.up (mF.up mF.refl (A_110 hw) u50 rfl) (A_110 hw) u53 rfl) (A_111 hw) u56 rfl) (A_112 hw) u59 rfl) (A_113 hw) u62 rfl) (A_114 hw) u65 rfl) F112 rfl) (A_106 hw) u124 rfl) ⟨(rW (c := (-2147483648)) (d := 2147483647) (rSub (e := 0) (f := 19) (rAdd (e := 1) (f := 20) h48 (rR (x := 1)) rfl) (rR (x := 1)) rfl) rfl), trivial⟩
            have h126 : 0 ≤ z107 ∧ z107 ≤ 3 := (vc_X12_tie_19 h121 h110)
            refine sv_aload_n dX12_tie_133 rfl rfl ?_
            refine gf_X12_12 dX12_tie_134 wF_X12_63 (A_106 hw) T111 ?_
            refine mr_iconst (z := 4) dX12_tie_137 ?_
            refine sv_aload_n dX12_tie_138 rfl rfl ?_
            refine gk_X12_6 dX12_tie_139 wF_X12_37 (A_106 hw) (F112.f (A_106 hw) rfl (u65.f (Or.inl (mAt.ne (A_114 hw) (A_106 hw) rfl)) (u62.f (Or.inl (mAt.ne (A_113 hw) (A_106 hw) rfl)) (u59.f (Or.inl (mAt.ne (A_112 hw) (A_106 hw) rfl)) (u56.f (Or.inl (mAt.ne (A_111 hw) (A_106 hw) rfl)) (u53.f (Or.inl (mAt.ne (A_110 hw) (A_106 hw) rfl)) (u50.f (Or.inl (mAt.ne (A_110 hw) (A_106 hw) rfl)) q45))))))) ?_
            refine mr_imul (x := 4) (y := z44) dX12_tie_142 ?_
            refine mr_iload (z := z107) dX12_tie_143 rfl ?_
            refine mr_iadd (x := (4 * z44)) (y := z107) dX12_tie_145 ?_
            refine mr_ldc (z := (-99999999)) dX12_tie_146 wG_X12_29 (by decide) ?_
            refine ss_115 dX12_tie_148 (A_115 hw) T111 (rIx (n := 80) (rAdd (e := 0) (f := 79) (rMulL (n := 4) (e := 0) (f := 76) h48 rfl) h126 rfl) rfl) vc_X12_tie_20 fun μ127 u128 T129 => ?_
            refine mr_iinc (lv' := [(4, iv (z107 + 1)), (0, .ref 106)]) dX12_tie_149 rfl (by decide) rfl ?_
            refine sv_goto (tgt := 127) dX12_tie_152 (by decide) ?_
            refine mr_lvS (lv' := [(0, .ref 106), (4, iv (z107 + 1))]) (List.forall_mem_cons.mpr ⟨rfl, List.forall_mem_cons.mpr ⟨rfl, fun _ h => absurd h List.not_mem_nil⟩⟩) ?_
            exact ih115 (z107 + 1) μ127 T129 (mF.up (mF.call mF.refl F112 rfl) (A_115 hw) u128 rfl) (rW (c := 0) (d := 4) (rAdd (e := 1) (f := 4) h126 (rR (x := 1)) rfl) rfl) (vc_X12_tie_21 (nS h114) h121 h126)
        refine mr_lvS (lv' := [(0, .ref 106), (4, iv 0)]) (List.forall_mem_cons.mpr ⟨rfl, List.forall_mem_cons.mpr ⟨rfl, fun _ h => absurd h List.not_mem_nil⟩⟩) ?_
        exact L109 6 0 μ64 T66 mF.refl (rW (c := 0) (d := 4) (rR (x := 0)) rfl) vc_X12_tie_22
      have h130 : 20 ≤ z44 ∧ z44 ≤ 20 := (vc_X12_tie_23 h47 h46)
      refine mr_bipush (z := (-3)) dX12_tie_55 (by decide) ?_
      exact mr_iret dX12_tie_57 rfl (le_t rfl) (le_t rfl) hT mF.refl ⟨(rW (c := (-2147483648)) (d := 2147483647) (rR (x := (-3))) rfl), trivial⟩
    have h131 : 0 ≤ z41 ∧ z41 ≤ 19 := (vc_X12_tie_24 h42 h40.2.1 h40.1)
    refine mr_bipush (z := (-2)) dX12_tie_43 (by decide) ?_
    exact mr_iret dX12_tie_45 rfl (le_t rfl) (le_t rfl) hT mF.refl ⟨(rW (c := (-2147483648)) (d := 2147483647) (rR (x := (-2))) rfl), trivial⟩
  have h132 : 0 ≤ z32 ∧ z32 ≤ 0 := (vc_X12_tie_25 h33 h31.2.1 h31.2.2.1 hp3 h31.1)
  have h133 : p3 < 0 ∨ 2 < p3 := (h31.2.2.1 (vc_X12_tie_26 h31.2.1 h31.2.2.1 h33 hp3 h132))
  refine mr_iconst (z := (-1)) dX12_tie_30 ?_
  exact mr_iret dX12_tie_31 rfl (le_t rfl) (le_t rfl) hT mF.refl ⟨(rW (c := (-2147483648)) (d := 2147483647) (rR (x := (-1))) rfl), trivial⟩
theorem vc_X12_pace_1 {p1 z1 z8 : Int} (h0 : z8 = 0) (h1 : (z8 = 1 → 0 ≤ p1 ∧ p1 < z1)) (h2 : (z8 = 0 → p1 < 0 ∨ z1 ≤ p1)) (h3 : (-2147483648) ≤ p1 ∧ p1 ≤ 2147483647) (h4 : 0 ≤ z1 ∧ z1 ≤ 20) (h5 : 0 ≤ z8 ∧ z8 ≤ 1) : 0 ≤ z8 ∧ z8 ≤ 0 := by omega
theorem vc_X12_pace_2 {p1 z1 z8 : Int} (h0 : (z8 = 1 → 0 ≤ p1 ∧ p1 < z1)) (h1 : (z8 = 0 → p1 < 0 ∨ z1 ≤ p1)) (h2 : z8 = 0) (h3 : (-2147483648) ≤ p1 ∧ p1 ≤ 2147483647) (h4 : 0 ≤ z1 ∧ z1 ≤ 20) (h5 : 0 ≤ z8 ∧ z8 ≤ 0) : z8 = 0 := by omega
theorem vc_X12_pace_3 {p1 z1 z8 : Int} (h0 : ¬ z8 = 0) (h1 : (z8 = 1 → 0 ≤ p1 ∧ p1 < z1)) (h2 : (z8 = 0 → p1 < 0 ∨ z1 ≤ p1)) (h3 : (-2147483648) ≤ p1 ∧ p1 ≤ 2147483647) (h4 : 0 ≤ z1 ∧ z1 ≤ 20) (h5 : 0 ≤ z8 ∧ z8 ≤ 1) : 1 ≤ z8 ∧ z8 ≤ 1 := by omega
theorem vc_X12_pace_4 {p1 z1 z8 : Int} (h0 : (z8 = 1 → 0 ≤ p1 ∧ p1 < z1)) (h1 : (z8 = 0 → p1 < 0 ∨ z1 ≤ p1)) (h2 : ¬ z8 = 0) (h3 : (-2147483648) ≤ p1 ∧ p1 ≤ 2147483647) (h4 : 0 ≤ z1 ∧ z1 ≤ 20) (h5 : 1 ≤ z8 ∧ z8 ≤ 1) : z8 = 1 := by omega
theorem vc_X12_pace_5 {p1 z1 z8 : Int} (h0 : 0 ≤ p1 ∧ p1 < z1) (h1 : (z8 = 1 → 0 ≤ p1 ∧ p1 < z1)) (h2 : (z8 = 0 → p1 < 0 ∨ z1 ≤ p1)) (h3 : (-2147483648) ≤ p1 ∧ p1 ≤ 2147483647) (h4 : 0 ≤ z1 ∧ z1 ≤ 20) (h5 : 1 ≤ z8 ∧ z8 ≤ 1) : 0 ≤ p1 ∧ p1 ≤ 19 := by omega
theorem vc_X12_pace_6 {p1 z1 z8 : Int} (h0 : 0 ≤ p1 ∧ p1 < z1) (h1 : (z8 = 1 → 0 ≤ p1 ∧ p1 < z1)) (h2 : (z8 = 0 → p1 < 0 ∨ z1 ≤ p1)) (h3 : 0 ≤ p1 ∧ p1 ≤ 19) (h4 : 0 ≤ z1 ∧ z1 ≤ 20) (h5 : 1 ≤ z8 ∧ z8 ≤ 1) : 1 ≤ z1 ∧ z1 ≤ 20 := by omega
theorem vc_X12_pace_7 {p2 z20 : Int} (h0 : z20 = 0) (h1 : (z20 = 1 → 1 ≤ p2 ∧ p2 ≤ 1000)) (h2 : (z20 = 0 → p2 < 1 ∨ 1000 < p2)) (h3 : (-2147483648) ≤ p2 ∧ p2 ≤ 2147483647) (h4 : 0 ≤ z20 ∧ z20 ≤ 1) : 0 ≤ z20 ∧ z20 ≤ 0 := by omega
theorem vc_X12_pace_8 {p2 z20 : Int} (h0 : (z20 = 1 → 1 ≤ p2 ∧ p2 ≤ 1000)) (h1 : (z20 = 0 → p2 < 1 ∨ 1000 < p2)) (h2 : z20 = 0) (h3 : (-2147483648) ≤ p2 ∧ p2 ≤ 2147483647) (h4 : 0 ≤ z20 ∧ z20 ≤ 0) : z20 = 0 := by omega
theorem vc_X12_pace_9 {p2 z20 : Int} (h0 : ¬ z20 = 0) (h1 : (z20 = 1 → 1 ≤ p2 ∧ p2 ≤ 1000)) (h2 : (z20 = 0 → p2 < 1 ∨ 1000 < p2)) (h3 : (-2147483648) ≤ p2 ∧ p2 ≤ 2147483647) (h4 : 0 ≤ z20 ∧ z20 ≤ 1) : 1 ≤ z20 ∧ z20 ≤ 1 := by omega
theorem vc_X12_pace_10 {p2 z20 : Int} (h0 : (z20 = 1 → 1 ≤ p2 ∧ p2 ≤ 1000)) (h1 : (z20 = 0 → p2 < 1 ∨ 1000 < p2)) (h2 : ¬ z20 = 0) (h3 : (-2147483648) ≤ p2 ∧ p2 ≤ 2147483647) (h4 : 1 ≤ z20 ∧ z20 ≤ 1) : z20 = 1 := by omega
theorem vc_X12_pace_11 {p2 z20 : Int} (h0 : 1 ≤ p2 ∧ p2 ≤ 1000) (h1 : (z20 = 1 → 1 ≤ p2 ∧ p2 ≤ 1000)) (h2 : (z20 = 0 → p2 < 1 ∨ 1000 < p2)) (h3 : (-2147483648) ≤ p2 ∧ p2 ≤ 2147483647) (h4 : 1 ≤ z20 ∧ z20 ≤ 1) : 1 ≤ p2 ∧ p2 ≤ 1000 := by omega
theorem vc_X12_pace_12 {p3 z31 : Int} (h0 : ¬ z31 = 0) (h1 : (z31 = 1 → 0 ≤ p3 ∧ p3 ≤ 1000)) (h2 : (z31 = 0 → p3 < 0 ∨ 1000 < p3)) (h3 : (-2147483648) ≤ p3 ∧ p3 ≤ 2147483647) (h4 : 0 ≤ z31 ∧ z31 ≤ 1) : 1 ≤ z31 ∧ z31 ≤ 1 := by omega
theorem vc_X12_pace_13 {p3 z31 : Int} (h0 : (z31 = 1 → 0 ≤ p3 ∧ p3 ≤ 1000)) (h1 : (z31 = 0 → p3 < 0 ∨ 1000 < p3)) (h2 : ¬ z31 = 0) (h3 : (-2147483648) ≤ p3 ∧ p3 ≤ 2147483647) (h4 : 1 ≤ z31 ∧ z31 ≤ 1) : z31 = 1 := by omega
theorem vc_X12_pace_14 {p3 z31 : Int} (h0 : 0 ≤ p3 ∧ p3 ≤ 1000) (h1 : (z31 = 1 → 0 ≤ p3 ∧ p3 ≤ 1000)) (h2 : (z31 = 0 → p3 < 0 ∨ 1000 < p3)) (h3 : (-2147483648) ≤ p3 ∧ p3 ≤ 2147483647) (h4 : 1 ≤ z31 ∧ z31 ≤ 1) : 0 ≤ p3 ∧ p3 ≤ 1000 := by omega
theorem vc_X12_pace_15 {p3 z31 : Int} (h0 : z31 = 0) (h1 : (z31 = 1 → 0 ≤ p3 ∧ p3 ≤ 1000)) (h2 : (z31 = 0 → p3 < 0 ∨ 1000 < p3)) (h3 : (-2147483648) ≤ p3 ∧ p3 ≤ 2147483647) (h4 : 0 ≤ z31 ∧ z31 ≤ 1) : 0 ≤ z31 ∧ z31 ≤ 0 := by omega
theorem vc_X12_pace_16 {p3 z31 : Int} (h0 : (z31 = 1 → 0 ≤ p3 ∧ p3 ≤ 1000)) (h1 : (z31 = 0 → p3 < 0 ∨ 1000 < p3)) (h2 : z31 = 0) (h3 : (-2147483648) ≤ p3 ∧ p3 ≤ 2147483647) (h4 : 0 ≤ z31 ∧ z31 ≤ 0) : z31 = 0 := by omega
set_option maxRecDepth 4000 in
set_option maxHeartbeats 4000000 in
theorem c_X12_pace {l : Launch} {D : va_G} {c : Nat → ClassId} {H0 : Heap} {sa : Nat × Nat × (Nat → Int32)} {w : mW} {μ : mM} (hw : mWF w) (hT : mT w μ) {p1 : Int} (hp1 : (-2147483648) ≤ p1 ∧ p1 ≤ 2147483647) {p2 : Int} (hp2 : (-2147483648) ≤ p2 ∧ p2 ≤ 2147483647) {p3 : Int} (hp3 : (-2147483648) ≤ p3 ∧ p3 ≤ 2147483647) : sC (gG l D c H0 sa) mX12_pace 3 0 0 [.ref 106, iv p1, iv p2, iv p3] (mk w μ) (qI w [113999, 114999] μ (fun z μ1 => ((-2147483648) ≤ z ∧ z ≤ 2147483647) ∧ True)) := by
  refine sC.of rfl (by decide) (le_t rfl) ?_
  refine mr_lvE (lv' := [(0, .ref 106), (1, iv p1), (2, iv p2), (3, iv p3)]) rfl ?_
  refine sv_aload_n dX12_pace_0 rfl rfl ?_
  refine mr_iload_n (z := p1) dX12_pace_1 rfl rfl ?_
  obtain ⟨z1, q2⟩ : ∃ z, μ 106 6 = z := ⟨_, rfl⟩
  have h3 : (0 ≤ z1 ∧ z1 ≤ 20) := by rw [← q2]; exact hT 106 106 (A_106 hw) 6
  refine mr_cVP (c_X12_isTie hw hT hp1 q2) (gOk _ _ _ _ _) dX12_pace_2 (tX12_isTie _ _ _ _ _) ⟨wV_X12_isTie, wL_X12_isTie⟩ wM_X12_66 (gCX12 _ _ _ _ _) rfl (A_106 hw) rfl ⟨le_t rfl, le_t rfl⟩ ⟨le_t rfl, le_t rfl⟩ rfl (le_t rfl) fun z8 h7 => ?_
  refine mr_if_eq (tgt := 30) dX12_pace_5 (by decide) (r32 h7.1 rfl) (fun h9 => ?_) (fun h9 => ?_)
  · have h10 : 0 ≤ z8 ∧ z8 ≤ 0 := (vc_X12_pace_1 h9 h7.2.1 h7.2.2.1 hp1 h3 h7.1)
    have h11 : p1 < 0 ∨ z1 ≤ p1 := (h7.2.2.1 (vc_X12_pace_2 h7.2.1 h7.2.2.1 h9 hp1 h3 h10))
    refine mr_iconst (z := (-1)) dX12_pace_30 ?_
    exact mr_iret dX12_pace_31 rfl (le_t rfl) (le_t rfl) hT mF.refl ⟨(rW (c := (-2147483648)) (d := 2147483647) (rR (x := (-1))) rfl), trivial⟩
  have h12 : 1 ≤ z8 ∧ z8 ≤ 1 := (vc_X12_pace_3 h9 h7.2.1 h7.2.2.1 hp1 h3 h7.1)
  have h13 : 0 ≤ p1 ∧ p1 < z1 := (h7.2.1 (vc_X12_pace_4 h7.2.1 h7.2.2.1 h9 hp1 h3 h12))
  have h14 : 0 ≤ p1 ∧ p1 ≤ 19 := (vc_X12_pace_5 h13 h7.2.1 h7.2.2.1 hp1 h3 h12)
  have h15 : 1 ≤ z1 ∧ z1 ≤ 20 := (vc_X12_pace_6 h13 h7.2.1 h7.2.2.1 h14 h3 h12)
  refine mr_iload_n (z := p2) dX12_pace_8 rfl rfl ?_
  refine mr_iconst (z := 1) dX12_pace_9 ?_
  refine mr_sipush (z := 1000) dX12_pace_10 (by decide) ?_
  refine mr_cSP (c_X12_in hw hT hp2 (rW (c := (-2147483648)) (d := 2147483647) (rR (x := 1)) rfl) (rW (c := (-2147483648)) (d := 2147483647) (rR (x := 1000)) rfl)) (gOk _ _ _ _ _) dX12_pace_13 (tX12_in _ _ _ _ _) wS_X12_in wM_X12_18 ⟨le_t rfl, le_t rfl⟩ ⟨le_t rfl, le_t rfl⟩ rfl (le_t rfl) fun z20 h19 => ?_
  refine mr_if_eq (tgt := 30) dX12_pace_16 (by decide) (r32 h19.1 rfl) (fun h21 => ?_) (fun h21 => ?_)
  · have h22 : 0 ≤ z20 ∧ z20 ≤ 0 := (vc_X12_pace_7 h21 h19.2.1 h19.2.2.1 hp2 h19.1)
    have h23 : p2 < 1 ∨ 1000 < p2 := (h19.2.2.1 (vc_X12_pace_8 h19.2.1 h19.2.2.1 h21 hp2 h22))
    refine mr_iconst (z := (-1)) dX12_pace_30 ?_
    exact mr_iret dX12_pace_31 rfl (le_t rfl) (le_t rfl) hT mF.refl ⟨(rW (c := (-2147483648)) (d := 2147483647) (rR (x := (-1))) rfl), trivial⟩
  have h24 : 1 ≤ z20 ∧ z20 ≤ 1 := (vc_X12_pace_9 h21 h19.2.1 h19.2.2.1 hp2 h19.1)
  have h25 : 1 ≤ p2 ∧ p2 ≤ 1000 := (h19.2.1 (vc_X12_pace_10 h19.2.1 h19.2.2.1 h21 hp2 h24))
  have h26 : 1 ≤ p2 ∧ p2 ≤ 1000 := (vc_X12_pace_11 h25 h19.2.1 h19.2.2.1 hp2 h24)
  refine mr_iload_n (z := p3) dX12_pace_19 rfl rfl ?_
  refine mr_iconst (z := 0) dX12_pace_20 ?_
  refine mr_sipush (z := 1000) dX12_pace_21 (by decide) ?_
  refine mr_cSP (c_X12_in hw hT hp3 (rW (c := (-2147483648)) (d := 2147483647) (rR (x := 0)) rfl) (rW (c := (-2147483648)) (d := 2147483647) (rR (x := 1000)) rfl)) (gOk _ _ _ _ _) dX12_pace_24 (tX12_in _ _ _ _ _) wS_X12_in wM_X12_18 ⟨le_t rfl, le_t rfl⟩ ⟨le_t rfl, le_t rfl⟩ rfl (le_t rfl) fun z31 h30 => ?_
  refine mr_if_ne (tgt := 32) dX12_pace_27 (by decide) (r32 h30.1 rfl) (fun h32 => ?_) (fun h32 => ?_)
  · have h33 : 1 ≤ z31 ∧ z31 ≤ 1 := (vc_X12_pace_12 h32 h30.2.1 h30.2.2.1 hp3 h30.1)
    have h34 : 0 ≤ p3 ∧ p3 ≤ 1000 := (h30.2.1 (vc_X12_pace_13 h30.2.1 h30.2.2.1 h32 hp3 h33))
    have h35 : 0 ≤ p3 ∧ p3 ≤ 1000 := (vc_X12_pace_14 h34 h30.2.1 h30.2.2.1 hp3 h33)
    refine sv_aload_n dX12_pace_32 rfl rfl ?_
    refine gf_X12_10 dX12_pace_33 wF_X12_57 (A_106 hw) hT ?_
    refine mr_iload_n (z := p1) dX12_pace_36 rfl rfl ?_
    refine mr_iload_n (z := p2) dX12_pace_37 rfl rfl ?_
    refine ss_113 dX12_pace_38 (A_113 hw) hT (rIx (n := 20) h14 rfl) (rW (c := 0) (d := 1000) h26 rfl) fun μ36 u37 T38 => ?_
    refine sv_aload_n dX12_pace_39 rfl rfl ?_
    refine gf_X12_11 dX12_pace_40 wF_X12_60 (A_106 hw) T38 ?_
    refine mr_iload_n (z := p1) dX12_pace_43 rfl rfl ?_
    refine mr_iload_n (z := p3) dX12_pace_44 rfl rfl ?_
    refine ss_114 dX12_pace_45 (A_114 hw) T38 (rIx (n := 20) h14 rfl) h35 fun μ39 u40 T41 => ?_
    refine mr_iconst (z := 0) dX12_pace_46 ?_
    exact mr_iret dX12_pace_47 rfl (le_t rfl) (le_t rfl) T41 (mF.up (mF.up mF.refl (A_113 hw) u37 rfl) (A_114 hw) u40 rfl) ⟨(rW (c := (-2147483648)) (d := 2147483647) (rR (x := 0)) rfl), trivial⟩
  have h42 : 0 ≤ z31 ∧ z31 ≤ 0 := (vc_X12_pace_15 h32 h30.2.1 h30.2.2.1 hp3 h30.1)
  have h43 : p3 < 0 ∨ 1000 < p3 := (h30.2.2.1 (vc_X12_pace_16 h30.2.1 h30.2.2.1 h32 hp3 h42))
  refine mr_iconst (z := (-1)) dX12_pace_30 ?_
  exact mr_iret dX12_pace_31 rfl (le_t rfl) (le_t rfl) hT mF.refl ⟨(rW (c := (-2147483648)) (d := 2147483647) (rR (x := (-1))) rfl), trivial⟩
theorem vc_X12_ring_1 {p1 : Int} (h0 : 0 ≤ p1) (h1 : (-2147483648) ≤ p1 ∧ p1 ≤ 2147483647) : 0 ≤ p1 ∧ p1 ≤ 2147483647 := by omega
theorem vc_X12_ring_2 {z6390 : Int} (h0 : (11 - z6390) < ((0 : Nat) : Int)) (h1 : 0 ≤ z6390 ∧ z6390 ≤ 10) : False := by omega
theorem vc_X12_ring_3 {z6390 z6399 : Int} (h0 : z6390 < z6399) (h1 : 0 ≤ z6390 ∧ z6390 ≤ 10) (h2 : 0 ≤ z6399 ∧ z6399 ≤ 10) : 0 ≤ z6390 ∧ z6390 ≤ 9 := by omega
theorem vc_X12_ring_4 {z6390 z6399 : Int} (h0 : z6390 < z6399) (h1 : 0 ≤ z6390 ∧ z6390 ≤ 9) (h2 : 0 ≤ z6399 ∧ z6399 ≤ 10) : 1 ≤ z6399 ∧ z6399 ≤ 10 := by omega
theorem vc_X12_ring_5 {z7324 : Int} (h0 : (11 - z7324) < ((0 : Nat) : Int)) (h1 : 0 ≤ z7324 ∧ z7324 ≤ 10) : False := by omega
theorem vc_X12_ring_6 {z7324 : Int} (h0 : 10 ≤ z7324) (h1 : 0 ≤ z7324 ∧ z7324 ≤ 10) : 10 ≤ z7324 ∧ z7324 ≤ 10 := by omega
theorem vc_X12_ring_7 {z8858 : Int} (h0 : (12 - z8858) < ((0 : Nat) : Int)) (h1 : 1 ≤ z8858 ∧ z8858 ≤ 11) : False := by omega
theorem vc_X12_ring_8 {z6390 z6399 z8858 : Int} (h0 : z6399 < z8858) (h1 : z6390 < z6399) (h2 : 0 ≤ z6390 ∧ z6390 ≤ 9) (h3 : 1 ≤ z6399 ∧ z6399 ≤ 10) (h4 : 1 ≤ z8858 ∧ z8858 ≤ 11) : 2 ≤ z8858 ∧ z8858 ≤ 11 := by omega
theorem vc_X12_ring_9 {z8999 : Int} (h0 : z8999 = -99999999 ∨ (0 ≤ z8999 ∧ z8999 ≤ 10)) : -99999999 ≤ z8999 ∧ z8999 ≤ 10 := by omega
theorem vc_X12_ring_10 {z8999 : Int} (h0 : ¬ z8999 = (-99999999)) (h1 : (-99999999) ≤ z8999 ∧ z8999 ≤ 10) (h2 : z8999 = -99999999 ∨ (0 ≤ z8999 ∧ z8999 ≤ 10)) : 0 ≤ z8999 ∧ z8999 ≤ 10 := by omega
theorem vc_X12_ring_11 {p1 z8999 : Int} (h0 : p1 < z8999) (h1 : 0 ≤ p1) (h2 : ¬ z8999 = (-99999999)) (h3 : 0 ≤ p1 ∧ p1 ≤ 2147483647) (h4 : 0 ≤ z8999 ∧ z8999 ≤ 10) (h5 : z8999 = -99999999 ∨ (0 ≤ z8999 ∧ z8999 ≤ 10)) : 0 ≤ p1 ∧ p1 ≤ 9 := by omega
theorem vc_X12_ring_12 {p1 z8999 : Int} (h0 : p1 < z8999) (h1 : 0 ≤ p1) (h2 : ¬ z8999 = (-99999999)) (h3 : 0 ≤ p1 ∧ p1 ≤ 9) (h4 : 0 ≤ z8999 ∧ z8999 ≤ 10) (h5 : z8999 = -99999999 ∨ (0 ≤ z8999 ∧ z8999 ≤ 10)) : 1 ≤ z8999 ∧ z8999 ≤ 10 := by omega
theorem vc_X12_ring_13 {z9248 : Int} (h0 : (10 - z9248) < ((0 : Nat) : Int)) (h1 : 0 ≤ z9248 ∧ z9248 ≤ 9) : False := by omega
theorem vc_X12_ring_14 {p1 z8999 z9248 : Int} (h0 : z9248 < p1) (h1 : 0 ≤ p1) (h2 : p1 < z8999) (h3 : 0 ≤ p1 ∧ p1 ≤ 9) (h4 : 1 ≤ z8999 ∧ z8999 ≤ 10) (h5 : z8999 = -99999999 ∨ (0 ≤ z8999 ∧ z8999 ≤ 10)) (h6 : 0 ≤ z9248 ∧ z9248 ≤ 9) : 0 ≤ z9248 ∧ z9248 ≤ 8 := by omega
theorem vc_X12_ring_15 {p1 z8999 z9248 : Int} (h0 : z9248 < p1) (h1 : 0 ≤ p1) (h2 : p1 < z8999) (h3 : 0 ≤ p1 ∧ p1 ≤ 9) (h4 : 1 ≤ z8999 ∧ z8999 ≤ 10) (h5 : z8999 = -99999999 ∨ (0 ≤ z8999 ∧ z8999 ≤ 10)) (h6 : 0 ≤ z9248 ∧ z9248 ≤ 8) : 1 ≤ p1 ∧ p1 ≤ 9 := by omega
theorem vc_X12_ring_16 {z9421 : Int} (h0 : (11 - z9421) < ((0 : Nat) : Int)) (h1 : 0 ≤ z9421 ∧ z9421 ≤ 10) : False := by omega
theorem vc_X12_ring_17 {z6390 z6399 z8858 z9421 : Int} (h0 : z6399 ≤ z9421) (h1 : z6390 < z6399) (h2 : z6399 < z8858) (h3 : 0 ≤ z6390 ∧ z6390 ≤ 9) (h4 : 1 ≤ z6399 ∧ z6399 ≤ 10) (h5 : 2 ≤ z8858 ∧ z8858 ≤ 11) (h6 : 0 ≤ z9421 ∧ z9421 ≤ 10) : 1 ≤ z9421 ∧ z9421 ≤ 10 := by omega
theorem vc_X12_ring_18 {N p1 z8999 z9248 : Int} (h0 : (10 - z9248) < N + 1) (h1 : z9248 < p1) (h2 : 0 ≤ p1) (h3 : p1 < z8999) (h4 : 1 ≤ p1 ∧ p1 ≤ 9) (h5 : 1 ≤ z8999 ∧ z8999 ≤ 10) (h6 : z8999 = -99999999 ∨ (0 ≤ z8999 ∧ z8999 ≤ 10)) (h7 : 0 ≤ z9248 ∧ z9248 ≤ 8) : (10 - (z9248 + 1)) < N := by omega
theorem vc_X12_ring_19 {z6390 z6399 z8858 z9421 : Int} (h0 : z9421 < z6399) (h1 : z6390 < z6399) (h2 : z6399 < z8858) (h3 : 0 ≤ z6390 ∧ z6390 ≤ 9) (h4 : 1 ≤ z6399 ∧ z6399 ≤ 10) (h5 : 2 ≤ z8858 ∧ z8858 ≤ 11) (h6 : 0 ≤ z9421 ∧ z9421 ≤ 10) : 0 ≤ z9421 ∧ z9421 ≤ 9 := by omega
theorem vc_X12_ring_20 {z9422 : Int} (h0 : ¬ z9422 = (-99999999)) (h1 : (-99999999) ≤ z9422 ∧ z9422 ≤ 9) : (-99999998) ≤ z9422 ∧ z9422 ≤ 9 := by omega
theorem vc_X12_ring_21 {z9422 : Int} (h0 : z9422 = (-99999999)) (h1 : (-99999999) ≤ z9422 ∧ z9422 ≤ 9) : (-99999999) ≤ z9422 ∧ z9422 ≤ (-99999999) := by omega
theorem vc_X12_ring_22 {z9471 : Int} (h0 : z9471 = 0) (h1 : 0 ≤ z9471 ∧ z9471 ≤ 1) : 0 ≤ z9471 ∧ z9471 ≤ 0 := by omega
theorem vc_X12_ring_23 {N z6390 z6399 z8858 z9421 : Int} (h0 : (11 - z9421) < N + 1) (h1 : z9421 < z6399) (h2 : z6390 < z6399) (h3 : z6399 < z8858) (h4 : 0 ≤ z6390 ∧ z6390 ≤ 9) (h5 : 1 ≤ z6399 ∧ z6399 ≤ 10) (h6 : 2 ≤ z8858 ∧ z8858 ≤ 11) (h7 : 0 ≤ z9421 ∧ z9421 ≤ 9) : (11 - (z9421 + 1)) < N := by omega
theorem vc_X12_ring_24 {z9471 : Int} (h0 : ¬ z9471 = 0) (h1 : 0 ≤ z9471 ∧ z9471 ≤ 1) : 1 ≤ z9471 ∧ z9471 ≤ 1 := by omega
theorem vc_X12_ring_25 {z9482 : Int} (h0 : z9482 = -99999999 ∨ (0 ≤ z9482 ∧ z9482 ≤ 10)) : -99999999 ≤ z9482 ∧ z9482 ≤ 10 := by omega
theorem vc_X12_ring_26 {p1 z8999 z9248 z9482 : Int} (h0 : z9482 = ((z8999 - z9248) - 1)) (h1 : ¬ z8999 = (-99999999)) (h2 : p1 < z8999) (h3 : z9248 < p1) (h4 : 1 ≤ p1 ∧ p1 ≤ 9) (h5 : 1 ≤ z8999 ∧ z8999 ≤ 10) (h6 : z8999 = -99999999 ∨ (0 ≤ z8999 ∧ z8999 ≤ 10)) (h7 : 0 ≤ z9248 ∧ z9248 ≤ 8) (h8 : (-99999999) ≤ z9482 ∧ z9482 ≤ 10) (h9 : z9482 = -99999999 ∨ (0 ≤ z9482 ∧ z9482 ≤ 10)) : 0 ≤ z9482 ∧ z9482 ≤ 9 := by omega
theorem vc_X12_ring_27  : (11 - 0) < ((12 : Nat) : Int) := by omega
theorem vc_X12_ring_28  : (10 - 0) < ((11 : Nat) : Int) := by omega
theorem vc_X12_ring_29 {z8999 : Int} (h0 : z8999 = (-99999999)) (h1 : (-99999999) ≤ z8999 ∧ z8999 ≤ 10) (h2 : z8999 = -99999999 ∨ (0 ≤ z8999 ∧ z8999 ≤ 10)) : (-99999999) ≤ z8999 ∧ z8999 ≤ (-99999999) := by omega
theorem vc_X12_ring_30 {N z6390 z6399 z8858 : Int} (h0 : (11 - z6390) < N + 1) (h1 : z6390 < z6399) (h2 : z6399 < z8858) (h3 : 0 ≤ z6390 ∧ z6390 ≤ 9) (h4 : 1 ≤ z6399 ∧ z6399 ≤ 10) (h5 : 2 ≤ z8858 ∧ z8858 ≤ 11) : (11 - (z6390 + 1)) < N := by omega
theorem vc_X12_ring_31 {z6390 z6399 z8858 : Int} (h0 : z8858 ≤ z6399) (h1 : z6390 < z6399) (h2 : 0 ≤ z6390 ∧ z6390 ≤ 9) (h3 : 1 ≤ z6399 ∧ z6399 ≤ 10) (h4 : 1 ≤ z8858 ∧ z8858 ≤ 11) : 1 ≤ z8858 ∧ z8858 ≤ 10 := by omega
theorem vc_X12_ring_32 {z9937 : Int} (h0 : (11 - z9937) < ((0 : Nat) : Int)) (h1 : 0 ≤ z9937 ∧ z9937 ≤ 10) : False := by omega
theorem vc_X12_ring_33 {z6390 z6399 z8858 z9937 : Int} (h0 : z6399 ≤ z9937) (h1 : z6390 < z6399) (h2 : z8858 ≤ z6399) (h3 : 0 ≤ z6390 ∧ z6390 ≤ 9) (h4 : 1 ≤ z6399 ∧ z6399 ≤ 10) (h5 : 1 ≤ z8858 ∧ z8858 ≤ 10) (h6 : 0 ≤ z9937 ∧ z9937 ≤ 10) : 1 ≤ z9937 ∧ z9937 ≤ 10 := by omega
theorem vc_X12_ring_34 {N z6390 z6399 z8858 z9937 : Int} (h0 : (12 - z8858) < N + 1) (h1 : z8858 ≤ z6399) (h2 : z6390 < z6399) (h3 : z6399 ≤ z9937) (h4 : 0 ≤ z6390 ∧ z6390 ≤ 9) (h5 : 1 ≤ z6399 ∧ z6399 ≤ 10) (h6 : 1 ≤ z8858 ∧ z8858 ≤ 10) (h7 : 1 ≤ z9937 ∧ z9937 ≤ 10) : (12 - (z8858 + 1)) < N := by omega
theorem vc_X12_ring_35 {z6390 z6399 z8858 z9937 : Int} (h0 : z9937 < z6399) (h1 : z6390 < z6399) (h2 : z8858 ≤ z6399) (h3 : 0 ≤ z6390 ∧ z6390 ≤ 9) (h4 : 1 ≤ z6399 ∧ z6399 ≤ 10) (h5 : 1 ≤ z8858 ∧ z8858 ≤ 10) (h6 : 0 ≤ z9937 ∧ z9937 ≤ 10) : 0 ≤ z9937 ∧ z9937 ≤ 9 := by omega
theorem vc_X12_ring_36 {z10224 : Int} (h0 : (11 - z10224) < ((0 : Nat) : Int)) (h1 : 0 ≤ z10224 ∧ z10224 ≤ 10) : False := by omega
theorem vc_X12_ring_37 {z10224 z6390 z6399 z8858 z9937 : Int} (h0 : z6399 ≤ z10224) (h1 : z6390 < z6399) (h2 : z8858 ≤ z6399) (h3 : z9937 < z6399) (h4 : 0 ≤ z10224 ∧ z10224 ≤ 10) (h5 : 0 ≤ z6390 ∧ z6390 ≤ 9) (h6 : 1 ≤ z6399 ∧ z6399 ≤ 10) (h7 : 1 ≤ z8858 ∧ z8858 ≤ 10) (h8 : 0 ≤ z9937 ∧ z9937 ≤ 9) : 1 ≤ z10224 ∧ z10224 ≤ 10 := by omega
theorem vc_X12_ring_38 {N z10224 z6390 z6399 z8858 z9937 : Int} (h0 : (11 - z9937) < N + 1) (h1 : z9937 < z6399) (h2 : z6390 < z6399) (h3 : z8858 ≤ z6399) (h4 : z6399 ≤ z10224) (h5 : 1 ≤ z10224 ∧ z10224 ≤ 10) (h6 : 0 ≤ z6390 ∧ z6390 ≤ 9) (h7 : 1 ≤ z6399 ∧ z6399 ≤ 10) (h8 : 1 ≤ z8858 ∧ z8858 ≤ 10) (h9 : 0 ≤ z9937 ∧ z9937 ≤ 9) : (11 - (z9937 + 1)) < N := by omega
theorem vc_X12_ring_39 {z10224 z6390 z6399 z8858 z9937 : Int} (h0 : z10224 < z6399) (h1 : z6390 < z6399) (h2 : z8858 ≤ z6399) (h3 : z9937 < z6399) (h4 : 0 ≤ z10224 ∧ z10224 ≤ 10) (h5 : 0 ≤ z6390 ∧ z6390 ≤ 9) (h6 : 1 ≤ z6399 ∧ z6399 ≤ 10) (h7 : 1 ≤ z8858 ∧ z8858 ≤ 10) (h8 : 0 ≤ z9937 ∧ z9937 ≤ 9) : 0 ≤ z10224 ∧ z10224 ≤ 9 := by omega
theorem vc_X12_ring_40 {z10264 : Int} (h0 : z10264 = -99999999 ∨ (0 ≤ z10264 ∧ z10264 ≤ 10)) : -99999999 ≤ z10264 ∧ z10264 ≤ 10 := by omega
theorem vc_X12_ring_41 {z10264 : Int} (h0 : ¬ z10264 = (-99999999)) (h1 : (-99999999) ≤ z10264 ∧ z10264 ≤ 10) (h2 : z10264 = -99999999 ∨ (0 ≤ z10264 ∧ z10264 ≤ 10)) : 0 ≤ z10264 ∧ z10264 ≤ 10 := by omega
theorem vc_X12_ring_42 {N z10224 z6390 z6399 z8858 z9937 : Int} (h0 : (11 - z9937) < N + 1) (h1 : z9937 < z6399) (h2 : z6390 < z6399) (h3 : z8858 ≤ z6399) (h4 : z10224 < z6399) (h5 : 0 ≤ z10224 ∧ z10224 ≤ 9) (h6 : 0 ≤ z6390 ∧ z6390 ≤ 9) (h7 : 1 ≤ z6399 ∧ z6399 ≤ 10) (h8 : 1 ≤ z8858 ∧ z8858 ≤ 10) (h9 : 0 ≤ z9937 ∧ z9937 ≤ 9) : (11 - (z9937 + 1)) < N := by omega
theorem vc_X12_ring_43 {z10264 : Int} (h0 : z10264 = (-99999999)) (h1 : (-99999999) ≤ z10264 ∧ z10264 ≤ 10) (h2 : z10264 = -99999999 ∨ (0 ≤ z10264 ∧ z10264 ≤ 10)) : (-99999999) ≤ z10264 ∧ z10264 ≤ (-99999999) := by omega
theorem vc_X12_ring_44 {z10297 : Int} (h0 : z10297 = 0) (h1 : 0 ≤ z10297 ∧ z10297 ≤ 1) : 0 ≤ z10297 ∧ z10297 ≤ 0 := by omega
theorem vc_X12_ring_45 {N z10224 z6390 z6399 z8858 z9937 : Int} (h0 : (11 - z10224) < N + 1) (h1 : z10224 < z6399) (h2 : z6390 < z6399) (h3 : z8858 ≤ z6399) (h4 : z9937 < z6399) (h5 : 0 ≤ z10224 ∧ z10224 ≤ 9) (h6 : 0 ≤ z6390 ∧ z6390 ≤ 9) (h7 : 1 ≤ z6399 ∧ z6399 ≤ 10) (h8 : 1 ≤ z8858 ∧ z8858 ≤ 10) (h9 : 0 ≤ z9937 ∧ z9937 ≤ 9) : (11 - (z10224 + 1)) < N := by omega
theorem vc_X12_ring_46 {z10297 : Int} (h0 : ¬ z10297 = 0) (h1 : 0 ≤ z10297 ∧ z10297 ≤ 1) : 1 ≤ z10297 ∧ z10297 ≤ 1 := by omega
theorem vc_X12_ring_47 {z6399 z8858 : Int} (h0 : ¬ z8858 = 1) (h1 : z8858 ≤ z6399) (h2 : 1 ≤ z6399 ∧ z6399 ≤ 10) (h3 : 1 ≤ z8858 ∧ z8858 ≤ 10) : 2 ≤ z8858 ∧ z8858 ≤ 10 := by omega
theorem vc_X12_ring_48 {z10331 : Int} (h0 : z10331 = -99999999 ∨ (0 ≤ z10331 ∧ z10331 ≤ 10)) : -99999999 ≤ z10331 ∧ z10331 ≤ 10 := by omega
theorem vc_X12_ring_49 {N z10224 z6390 z6399 z8858 z9937 : Int} (h0 : (11 - z10224) < N + 1) (h1 : z10224 < z6399) (h2 : z6390 < z6399) (h3 : z8858 ≤ z6399) (h4 : z9937 < z6399) (h5 : 0 ≤ z10224 ∧ z10224 ≤ 9) (h6 : 0 ≤ z6390 ∧ z6390 ≤ 9) (h7 : 1 ≤ z6399 ∧ z6399 ≤ 10) (h8 : 2 ≤ z8858 ∧ z8858 ≤ 10) (h9 : 0 ≤ z9937 ∧ z9937 ≤ 9) : (11 - (z10224 + 1)) < N := by omega
theorem vc_X12_ring_50 {z10331 z6399 z8858 : Int} (h0 : z10331 = (z8858 - 1)) (h1 : z8858 ≤ z6399) (h2 : ¬ z8858 = 1) (h3 : (-99999999) ≤ z10331 ∧ z10331 ≤ 10) (h4 : z10331 = -99999999 ∨ (0 ≤ z10331 ∧ z10331 ≤ 10)) (h5 : 1 ≤ z6399 ∧ z6399 ≤ 10) (h6 : 2 ≤ z8858 ∧ z8858 ≤ 10) : 1 ≤ z10331 ∧ z10331 ≤ 9 := by omega
theorem vc_X12_ring_51 {z10224 z10331 z6390 z6399 z8858 z9937 : Int} (h0 : z8858 ≤ z6399) (h1 : ¬ z8858 = 1) (h2 : z10331 = (z8858 - 1)) (h3 : z6390 < z6399) (h4 : z9937 < z6399) (h5 : z10224 < z6399) (h6 : 0 ≤ z10224 ∧ z10224 ≤ 9) (h7 : 1 ≤ z10331 ∧ z10331 ≤ 9) (h8 : z10331 = -99999999 ∨ (0 ≤ z10331 ∧ z10331 ≤ 10)) (h9 : 0 ≤ z6390 ∧ z6390 ≤ 9) (h10 : 1 ≤ z6399 ∧ z6399 ≤ 10) (h11 : 2 ≤ z8858 ∧ z8858 ≤ 10) (h12 : 0 ≤ z9937 ∧ z9937 ≤ 9) : z8858 = -99999999 ∨ (0 ≤ z8858 ∧ z8858 ≤ 10) := by omega
theorem vc_X12_ring_52 {z6399 z8858 : Int} (h0 : z8858 = 1) (h1 : z8858 ≤ z6399) (h2 : 1 ≤ z6399 ∧ z6399 ≤ 10) (h3 : 1 ≤ z8858 ∧ z8858 ≤ 10) : 1 ≤ z8858 ∧ z8858 ≤ 1 := by omega
theorem vc_X12_ring_53 {N z10224 z6390 z6399 z8858 z9937 : Int} (h0 : (11 - z10224) < N + 1) (h1 : z10224 < z6399) (h2 : ¬ z10224 = z6390) (h3 : z6390 < z6399) (h4 : z8858 ≤ z6399) (h5 : z9937 < z6399) (h6 : 0 ≤ z10224 ∧ z10224 ≤ 9) (h7 : 0 ≤ z6390 ∧ z6390 ≤ 9) (h8 : 1 ≤ z6399 ∧ z6399 ≤ 10) (h9 : 1 ≤ z8858 ∧ z8858 ≤ 1) (h10 : 0 ≤ z9937 ∧ z9937 ≤ 9) : (11 - (z10224 + 1)) < N := by omega
theorem vc_X12_ring_54 {z10224 z6390 z6399 z8858 z9937 : Int} (h0 : z8858 ≤ z6399) (h1 : z8858 = 1) (h2 : z6390 < z6399) (h3 : z9937 < z6399) (h4 : z10224 < z6399) (h5 : 0 ≤ z10224 ∧ z10224 ≤ 9) (h6 : 0 ≤ z6390 ∧ z6390 ≤ 9) (h7 : 1 ≤ z6399 ∧ z6399 ≤ 10) (h8 : 1 ≤ z8858 ∧ z8858 ≤ 1) (h9 : 0 ≤ z9937 ∧ z9937 ≤ 9) : z8858 = -99999999 ∨ (0 ≤ z8858 ∧ z8858 ≤ 10) := by omega
theorem vc_X12_ring_55 {N z10224 z6390 z6399 z8858 z9937 : Int} (h0 : (11 - z10224) < N + 1) (h1 : z10224 < z6399) (h2 : z10224 = z6390) (h3 : z6390 < z6399) (h4 : z8858 ≤ z6399) (h5 : z9937 < z6399) (h6 : 0 ≤ z10224 ∧ z10224 ≤ 9) (h7 : 0 ≤ z6390 ∧ z6390 ≤ 9) (h8 : 1 ≤ z6399 ∧ z6399 ≤ 10) (h9 : 1 ≤ z8858 ∧ z8858 ≤ 1) (h10 : 0 ≤ z9937 ∧ z9937 ≤ 9) : (11 - (z10224 + 1)) < N := by omega
theorem vc_X12_ring_56  : (12 - 1) < ((12 : Nat) : Int) := by omega
theorem vc_X12_ring_57 {z7324 : Int} (h0 : z7324 < 10) (h1 : 0 ≤ z7324 ∧ z7324 ≤ 10) : 0 ≤ z7324 ∧ z7324 ≤ 9 := by omega
theorem vc_X12_ring_58  : ((-99999999) : Int) = -(99999999 : Int) ∨ ((0 : Int) ≤ ((-99999999) : Int) ∧ ((-99999999) : Int) ≤ (10 : Int)) := by omega
theorem vc_X12_ring_59 {N z7324 : Int} (h0 : (11 - z7324) < N + 1) (h1 : z7324 < 10) (h2 : 0 ≤ z7324 ∧ z7324 ≤ 9) : (11 - (z7324 + 1)) < N := by omega
theorem vc_X12_ring_60 {p1 : Int} (h0 : p1 < 0) (h1 : (-2147483648) ≤ p1 ∧ p1 ≤ 2147483647) : (-2147483648) ≤ p1 ∧ p1 ≤ (-1) := by omega
set_option maxRecDepth 4000 in
set_option maxHeartbeats 4000000 in
theorem c_X12_ring {l : Launch} {D : va_G} {c : Nat → ClassId} {H0 : Heap} {sa : Nat × Nat × (Nat → Int32)} {w : mW} {μ : mM} (hw : mWF w) (hT : mT w μ) {p1 : Int} (hp1 : (-2147483648) ≤ p1 ∧ p1 ≤ 2147483647) : sC (gG l D c H0 sa) mX12_ring 3 0 0 [.ref 106, iv p1] (mk w μ) (qI w [117999] μ (fun z μ1 => ((-2147483648) ≤ z ∧ z ≤ 2147483647) ∧ True)) := by
  refine sC.of rfl (by decide) (le_t rfl) ?_
  refine mr_lvE (lv' := [(0, .ref 106), (1, iv p1)]) rfl ?_
  refine mr_iload_n (z := p1) dX12_ring_0 rfl rfl ?_
  refine mr_if_ge (tgt := 7) dX12_ring_1 (by decide) hp1 (fun h1 => ?_) (fun h1 => ?_)
  · have h2 : 0 ≤ p1 ∧ p1 ≤ 2147483647 := (vc_X12_ring_1 h1 hp1)
    refine mr_iconst (z := 0) dX12_ring_7 ?_
    refine mr_istore_n (lv' := [(2, iv 0), (0, .ref 106), (1, iv p1)]) dX12_ring_8 rfl (by decide) rfl ?_
    have L6392 : ∀ (nL6392 : Nat) (z6390 : Int) (μ6391 : mM), mT w μ6391 → mF [117999] w μ μ6391 → (0 ≤ z6390 ∧ z6390 ≤ 10) → (11 - z6390) < (nL6392 : Int) → sV (gG l D c H0 sa) mX12_ring (sRm 3 0 0) (sZ (gG l D c H0 sa) 0 0 (qI w [117999] μ (fun z μ1 => ((-2147483648) ≤ z ∧ z ≤ 2147483647) ∧ True))) 9 [(0, .ref 106), (1, iv p1), (2, iv z6390)] [] (mk w μ6391) 0 0 := by
      intro nL6392
      induction nL6392 with
      | zero => intro z6390 μ6391 T6394 F6395 h6393 h6397; exact ((vc_X12_ring_2 h6397 h6393)).elim
      | succ nL6392 ih6398 =>
        intro z6390 μ6391 T6394 F6395 h6393 h6397
        refine mr_iload_n (z := z6390) dX12_ring_9 rfl rfl ?_
        refine sv_aload_n dX12_ring_10 rfl rfl ?_
        refine gf_X12_5 dX12_ring_11 wF_X12_34 (A_106 hw) T6394 fun z6399 q6400 h6401 => ?_
        refine mr_icmp_ge (tgt := 272) dX12_ring_14 (by decide) (r32 h6393 rfl) (r32 h6401 rfl) (fun h6402 => ?_) (fun h6402 => ?_)
        · refine mr_ldc (z := (-99999999)) dX12_ring_272 wG_X12_29 (by decide) ?_
          exact mr_iret dX12_ring_274 rfl (le_t rfl) (le_t rfl) T6394 (mF.call mF.refl F6395 rfl) ⟨(rW (c := (-2147483648)) (d := 2147483647) (rR (x := (-99999999))) rfl), trivial⟩
        have h6403 : 0 ≤ z6390 ∧ z6390 ≤ 9 := (vc_X12_ring_3 h6402 h6393 h6401)
        have h6404 : 1 ≤ z6399 ∧ z6399 ≤ 10 := (vc_X12_ring_4 h6402 h6403 h6401)
        refine mr_iconst (z := 0) dX12_ring_17 ?_
        refine mr_istore_n (lv' := [(3, iv 0), (0, .ref 106), (1, iv p1), (2, iv z6390)]) dX12_ring_18 rfl (by decide) rfl ?_
        have L7326 : ∀ (nL7326 : Nat) (z7324 : Int) (μ7325 : mM), mT w μ7325 → mF [117999] w μ6391 μ7325 → (0 ≤ z7324 ∧ z7324 ≤ 10) → (11 - z7324) < (nL7326 : Int) → sV (gG l D c H0 sa) mX12_ring (sRm 3 0 0) (sZ (gG l D c H0 sa) 0 0 (qI w [117999] μ (fun z μ1 => ((-2147483648) ≤ z ∧ z ≤ 2147483647) ∧ True))) 19 [(0, .ref 106), (1, iv p1), (2, iv z6390), (3, iv z7324)] [] (mk w μ7325) 0 0 := by
          intro nL7326
          induction nL7326 with
          | zero => intro z7324 μ7325 T7328 F7329 h7327 h7331; exact ((vc_X12_ring_5 h7331 h7327)).elim
          | succ nL7326 ih7332 =>
            intro z7324 μ7325 T7328 F7329 h7327 h7331
            refine mr_iload_n (z := z7324) dX12_ring_19 rfl rfl ?_
            refine mr_bipush (z := 10) dX12_ring_20 (by decide) ?_
            refine mr_icmp_ge (tgt := 39) dX12_ring_22 (by decide) (r32 h7327 rfl) (r32 (rR (x := 10)) rfl) (fun h7338 => ?_) (fun h7338 => ?_)
            · have h7339 : 10 ≤ z7324 ∧ z7324 ≤ 10 := (vc_X12_ring_6 h7338 h7327)
              refine mr_iconst (z := 1) dX12_ring_39 ?_
              refine mr_istore_n (lv' := [(3, iv 1), (0, .ref 106), (1, iv p1), (2, iv z6390)]) dX12_ring_40 rfl (by decide) rfl ?_
              have L8860 : ∀ (nL8860 : Nat) (z8858 : Int) (μ8859 : mM), mT w μ8859 → mF [117999] w μ7325 μ8859 → (1 ≤ z8858 ∧ z8858 ≤ 11) → (12 - z8858) < (nL8860 : Int) → sV (gG l D c H0 sa) mX12_ring (sRm 3 0 0) (sZ (gG l D c H0 sa) 0 0 (qI w [117999] μ (fun z μ1 => ((-2147483648) ≤ z ∧ z ≤ 2147483647) ∧ True))) 41 [(0, .ref 106), (1, iv p1), (2, iv z6390), (3, iv z8858)] [] (mk w μ8859) 0 0 := by
                intro nL8860
                induction nL8860 with
                | zero => intro z8858 μ8859 T8862 F8863 h8861 h8865; exact ((vc_X12_ring_7 h8865 h8861)).elim
                | succ nL8860 ih8866 =>
                  intro z8858 μ8859 T8862 F8863 h8861 h8865
                  refine mr_iload_n (z := z8858) dX12_ring_41 rfl rfl ?_
                  refine sv_aload_n dX12_ring_42 rfl rfl ?_
                  refine gk_X12_5 dX12_ring_43 wF_X12_34 (A_106 hw) (F8863.f (A_106 hw) rfl (F7329.f (A_106 hw) rfl q6400)) ?_
                  refine mr_icmp_gt (tgt := 149) dX12_ring_46 (by decide) (r32 h8861 rfl) (r32 h6404 rfl) (fun h8997 => ?_) (fun h8997 => ?_)
                  · have h8998 : 2 ≤ z8858 ∧ z8858 ≤ 11 := (vc_X12_ring_8 h8997 h6402 h6403 h6404 h8861)
                    refine sv_aload_n dX12_ring_149 rfl rfl ?_
                    refine gf_X12_14 dX12_ring_150 wF_X12_72 (A_106 hw) T8862 ?_
                    refine mr_iload_n (z := z6390) dX12_ring_153 rfl rfl ?_
                    refine la_117 dX12_ring_154 (A_117 hw) T8862 (rIx (n := 10) h6403 rfl) fun z8999 q9000 h9001 => ?_
                    have h9002 : (-99999999) ≤ z8999 ∧ z8999 ≤ 10 := (vc_X12_ring_9 h9001)
                    refine mr_ldc (z := (-99999999)) dX12_ring_155 wG_X12_29 (by decide) ?_
                    refine mr_icmp_ne (tgt := 163) dX12_ring_157 (by decide) (r32 h9002 rfl) (r32 (rR (x := (-99999999))) rfl) (fun h9003 => ?_) (fun h9003 => ?_)
                    · have h9004 : 0 ≤ z8999 ∧ z8999 ≤ 10 := (vc_X12_ring_10 h9003 h9002 h9001)
                      refine mr_iload_n (z := p1) dX12_ring_163 rfl rfl ?_
                      refine sv_aload_n dX12_ring_164 rfl rfl ?_
                      refine gf_X12_14 dX12_ring_165 wF_X12_72 (A_106 hw) T8862 ?_
                      refine mr_iload_n (z := z6390) dX12_ring_168 rfl rfl ?_
                      refine lk_117 dX12_ring_169 (A_117 hw) (rIx (n := 10) h6403 rfl) q9000 ?_
                      refine mr_icmp_lt (tgt := 176) dX12_ring_170 (by decide) (r32 h2 rfl) (r32 h9004 rfl) (fun h9005 => ?_) (fun h9005 => ?_)
                      · have h9006 : 0 ≤ p1 ∧ p1 ≤ 9 := (vc_X12_ring_11 h9005 h1 h9003 h2 h9004 h9001)
                        have h9007 : 1 ≤ z8999 ∧ z8999 ≤ 10 := (vc_X12_ring_12 h9005 h1 h9003 h9006 h9004 h9001)
                        refine mr_iload_n (z := z6390) dX12_ring_176 rfl rfl ?_
                        refine mr_istore_n (lv' := [(3, iv z6390), (0, .ref 106), (1, iv p1), (2, iv z6390)]) dX12_ring_177 rfl (by decide) rfl ?_
                        refine mr_iconst (z := 0) dX12_ring_178 ?_
                        refine mr_istore (lv' := [(4, iv 0), (3, iv z6390), (0, .ref 106), (1, iv p1), (2, iv z6390)]) dX12_ring_179 (by decide) rfl ?_
                        have L9250 : ∀ (nL9250 : Nat) (z9249 z9248 : Int), True → ((-99999999) ≤ z9249 ∧ z9249 ≤ 9) → (0 ≤ z9248 ∧ z9248 ≤ 9) → (10 - z9248) < (nL9250 : Int) → sV (gG l D c H0 sa) mX12_ring (sRm 3 0 0) (sZ (gG l D c H0 sa) 0 0 (qI w [117999] μ (fun z μ1 => ((-2147483648) ≤ z ∧ z ≤ 2147483647) ∧ True))) 181 [(0, .ref 106), (1, iv p1), (2, iv z6390), (3, iv z9249), (4, iv z9248)] [] (mk w μ8859) 0 0 := by
                          intro nL9250
                          induction nL9250 with
                          | zero => intro z9249 z9248 _ h9251 h9252 h9256; exact ((vc_X12_ring_13 h9256 h9252)).elim
                          | succ nL9250 ih9257 =>
                            intro z9249 z9248 _ h9251 h9252 h9256
                            refine mr_iload (z := z9248) dX12_ring_181 rfl ?_
                            refine mr_iload_n (z := p1) dX12_ring_183 rfl rfl ?_
                            refine mr_icmp_ge (tgt := 264) dX12_ring_184 (by decide) (r32 h9252 rfl) (r32 h9006 rfl) (fun h9296 => ?_) (fun h9296 => ?_)
                            · refine mr_iload_n (z := z9249) dX12_ring_264 rfl rfl ?_
                              exact mr_iret dX12_ring_265 rfl (le_t rfl) (le_t rfl) T8862 (mF.call (mF.call (mF.call mF.refl F6395 rfl) F7329 rfl) F8863 rfl) ⟨(rW (c := (-2147483648)) (d := 2147483647) h9251 rfl), trivial⟩
                            have h9297 : 0 ≤ z9248 ∧ z9248 ≤ 8 := (vc_X12_ring_14 h9296 h1 h9005 h9006 h9007 h9001 h9252)
                            have h9298 : 1 ≤ p1 ∧ p1 ≤ 9 := (vc_X12_ring_15 h9296 h1 h9005 h9006 h9007 h9001 h9297)
                            refine sv_aload_n dX12_ring_187 rfl rfl ?_
                            refine gf_X12_14 dX12_ring_188 wF_X12_72 (A_106 hw) T8862 ?_
                            refine mr_iload_n (z := z6390) dX12_ring_191 rfl rfl ?_
                            refine lk_117 dX12_ring_192 (A_117 hw) (rIx (n := 10) h6403 rfl) q9000 ?_
                            refine mr_iload (z := z9248) dX12_ring_193 rfl ?_
                            refine mr_isub (x := z8999) (y := z9248) dX12_ring_195 ?_
                            refine mr_iconst (z := 1) dX12_ring_196 ?_
                            refine mr_isub (x := (z8999 - z9248)) (y := 1) dX12_ring_197 ?_
                            refine mr_istore (lv' := [(5, iv ((z8999 - z9248) - 1)), (0, .ref 106), (1, iv p1), (2, iv z6390), (3, iv z9249), (4, iv z9248)]) dX12_ring_198 (by decide) rfl ?_
                            refine mr_ldc (z := (-99999999)) dX12_ring_200 wG_X12_29 (by decide) ?_
                            refine mr_istore (lv' := [(6, iv (-99999999)), (5, iv ((z8999 - z9248) - 1)), (0, .ref 106), (1, iv p1), (2, iv z6390), (3, iv z9249), (4, iv z9248)]) dX12_ring_202 (by decide) rfl ?_
                            refine mr_iconst (z := 0) dX12_ring_204 ?_
                            refine mr_istore (lv' := [(7, iv 0), (6, iv (-99999999)), (5, iv ((z8999 - z9248) - 1)), (0, .ref 106), (1, iv p1), (2, iv z6390), (3, iv z9249), (4, iv z9248)]) dX12_ring_205 (by decide) rfl ?_
                            have L9423 : ∀ (nL9423 : Nat) (z9422 z9421 : Int), True → ((-99999999) ≤ z9422 ∧ z9422 ≤ 9) → (0 ≤ z9421 ∧ z9421 ≤ 10) → (11 - z9421) < (nL9423 : Int) → sV (gG l D c H0 sa) mX12_ring (sRm 3 0 0) (sZ (gG l D c H0 sa) 0 0 (qI w [117999] μ (fun z μ1 => ((-2147483648) ≤ z ∧ z ≤ 2147483647) ∧ True))) 207 [(0, .ref 106), (1, iv p1), (2, iv z6390), (3, iv z9249), (4, iv z9248), (5, iv ((z8999 - z9248) - 1)), (6, iv z9422), (7, iv z9421)] [] (mk w μ8859) 0 0 := by
                              intro nL9423
                              induction nL9423 with
                              | zero => intro z9422 z9421 _ h9424 h9425 h9429; exact ((vc_X12_ring_16 h9429 h9425)).elim
                              | succ nL9423 ih9430 =>
                                intro z9422 z9421 _ h9424 h9425 h9429
                                refine mr_iload (z := z9421) dX12_ring_207 rfl ?_
                                refine sv_aload_n dX12_ring_209 rfl rfl ?_
                                refine gk_X12_5 dX12_ring_210 wF_X12_34 (A_106 hw) (F8863.f (A_106 hw) rfl (F7329.f (A_106 hw) rfl q6400)) ?_
                                refine mr_icmp_ge (tgt := 255) dX12_ring_213 (by decide) (r32 h9425 rfl) (r32 h6404 rfl) (fun h9447 => ?_) (fun h9447 => ?_)
                                · have h9448 : 1 ≤ z9421 ∧ z9421 ≤ 10 := (vc_X12_ring_17 h9447 h6402 h8997 h6403 h6404 h8998 h9425)
                                  refine mr_iload (z := z9422) dX12_ring_255 rfl ?_
                                  refine mr_istore_n (lv' := [(3, iv z9422), (0, .ref 106), (1, iv p1), (2, iv z6390), (4, iv z9248), (5, iv ((z8999 - z9248) - 1)), (6, iv z9422), (7, iv z9421)]) dX12_ring_257 rfl (by decide) rfl ?_
                                  refine mr_iinc (lv' := [(4, iv (z9248 + 1)), (3, iv z9422), (0, .ref 106), (1, iv p1), (2, iv z6390), (5, iv ((z8999 - z9248) - 1)), (6, iv z9422), (7, iv z9421)]) dX12_ring_258 rfl (by decide) rfl ?_
                                  refine sv_goto (tgt := 181) dX12_ring_261 (by decide) ?_
                                  refine mr_lvS (lv' := [(0, .ref 106), (1, iv p1), (2, iv z6390), (3, iv z9422), (4, iv (z9248 + 1))]) (List.forall_mem_cons.mpr ⟨rfl, List.forall_mem_cons.mpr ⟨rfl, List.forall_mem_cons.mpr ⟨rfl, List.forall_mem_cons.mpr ⟨rfl, List.forall_mem_cons.mpr ⟨rfl, fun _ h => absurd h List.not_mem_nil⟩⟩⟩⟩⟩) ?_
                                  exact ih9257 z9422 (z9248 + 1) trivial h9424 (rW (c := 0) (d := 9) (rAdd (e := 1) (f := 9) h9297 (rR (x := 1)) rfl) rfl) (vc_X12_ring_18 (nS h9256) h9296 h1 h9005 h9298 h9007 h9001 h9297)
                                have h9449 : 0 ≤ z9421 ∧ z9421 ≤ 9 := (vc_X12_ring_19 h9447 h6402 h8997 h6403 h6404 h8998 h9425)
                                refine mr_iload (z := z9422) dX12_ring_216 rfl ?_
                                refine mr_ldc (z := (-99999999)) dX12_ring_218 wG_X12_29 (by decide) ?_
                                refine mr_icmp_ne (tgt := 255) dX12_ring_220 (by decide) (r32 h9424 rfl) (r32 (rR (x := (-99999999))) rfl) (fun h9464 => ?_) (fun h9464 => ?_)
                                · have h9465 : (-99999998) ≤ z9422 ∧ z9422 ≤ 9 := (vc_X12_ring_20 h9464 h9424)
                                  refine mr_iload (z := z9422) dX12_ring_255 rfl ?_
                                  refine mr_istore_n (lv' := [(3, iv z9422), (0, .ref 106), (1, iv p1), (2, iv z6390), (4, iv z9248), (5, iv ((z8999 - z9248) - 1)), (6, iv z9422), (7, iv z9421)]) dX12_ring_257 rfl (by decide) rfl ?_
                                  refine mr_iinc (lv' := [(4, iv (z9248 + 1)), (3, iv z9422), (0, .ref 106), (1, iv p1), (2, iv z6390), (5, iv ((z8999 - z9248) - 1)), (6, iv z9422), (7, iv z9421)]) dX12_ring_258 rfl (by decide) rfl ?_
                                  refine sv_goto (tgt := 181) dX12_ring_261 (by decide) ?_
                                  refine mr_lvS (lv' := [(0, .ref 106), (1, iv p1), (2, iv z6390), (3, iv z9422), (4, iv (z9248 + 1))]) (List.forall_mem_cons.mpr ⟨rfl, List.forall_mem_cons.mpr ⟨rfl, List.forall_mem_cons.mpr ⟨rfl, List.forall_mem_cons.mpr ⟨rfl, List.forall_mem_cons.mpr ⟨rfl, fun _ h => absurd h List.not_mem_nil⟩⟩⟩⟩⟩) ?_
                                  exact ih9257 z9422 (z9248 + 1) trivial (rW (c := (-99999999)) (d := 9) h9465 rfl) (rW (c := 0) (d := 9) (rAdd (e := 1) (f := 9) h9297 (rR (x := 1)) rfl) rfl) (vc_X12_ring_18 (nS h9256) h9296 h1 h9005 h9298 h9007 h9001 h9297)
                                have h9466 : (-99999999) ≤ z9422 ∧ z9422 ≤ (-99999999) := (vc_X12_ring_21 h9464 h9424)
                                refine sv_aload_n dX12_ring_223 rfl rfl ?_
                                refine mr_iload_n (z := z9249) dX12_ring_224 rfl rfl ?_
                                refine mr_iload (z := z9421) dX12_ring_225 rfl ?_
                                refine mr_cVP (c_X12_provides hw T8862 (rW (c := (-2147483648)) (d := 2147483647) h9251 rfl) (rW (c := (-2147483648)) (d := 2147483647) h9449 rfl)) (gOk _ _ _ _ _) dX12_ring_227 (tX12_provides _ _ _ _ _) ⟨wV_X12_provides, wL_X12_provides⟩ wM_X12_75 (gCX12 _ _ _ _ _) rfl (A_106 hw) rfl ⟨le_t rfl, le_t rfl⟩ ⟨le_t rfl, le_t rfl⟩ rfl (le_t rfl) fun z9471 h9470 => ?_
                                refine mr_if_eq (tgt := 249) dX12_ring_230 (by decide) (r32 h9470.1 rfl) (fun h9479 => ?_) (fun h9479 => ?_)
                                · have h9480 : 0 ≤ z9471 ∧ z9471 ≤ 0 := (vc_X12_ring_22 h9479 h9470.1)
                                  refine mr_iinc (lv' := [(7, iv (z9421 + 1)), (0, .ref 106), (1, iv p1), (2, iv z6390), (3, iv z9249), (4, iv z9248), (5, iv ((z8999 - z9248) - 1)), (6, iv z9422)]) dX12_ring_249 rfl (by decide) rfl ?_
                                  refine sv_goto (tgt := 207) dX12_ring_252 (by decide) ?_
                                  refine mr_lvS (lv' := [(0, .ref 106), (1, iv p1), (2, iv z6390), (3, iv z9249), (4, iv z9248), (5, iv ((z8999 - z9248) - 1)), (6, iv z9422), (7, iv (z9421 + 1))]) (List.forall_mem_cons.mpr ⟨rfl, List.forall_mem_cons.mpr ⟨rfl, List.forall_mem_cons.mpr ⟨rfl, List.forall_mem_cons.mpr ⟨rfl, List.forall_mem_cons.mpr ⟨rfl, List.forall_mem_cons.mpr ⟨rfl, List.forall_mem_cons.mpr ⟨rfl, List.forall_mem_cons.mpr ⟨rfl, fun _ h => absurd h List.not_mem_nil⟩⟩⟩⟩⟩⟩⟩⟩) ?_
                                  exact ih9430 z9422 (z9421 + 1) trivial (rW (c := (-99999999)) (d := 9) h9466 rfl) (rW (c := 0) (d := 10) (rAdd (e := 1) (f := 10) h9449 (rR (x := 1)) rfl) rfl) (vc_X12_ring_23 (nS h9429) h9447 h6402 h8997 h6403 h6404 h8998 h9449)
                                have h9481 : 1 ≤ z9471 ∧ z9471 ≤ 1 := (vc_X12_ring_24 h9479 h9470.1)
                                refine sv_aload_n dX12_ring_233 rfl rfl ?_
                                refine gf_X12_14 dX12_ring_234 wF_X12_72 (A_106 hw) T8862 ?_
                                refine mr_iload (z := z9421) dX12_ring_237 rfl ?_
                                refine la_117 dX12_ring_239 (A_117 hw) T8862 (rIx (n := 10) h9449 rfl) fun z9482 q9483 h9484 => ?_
                                have h9485 : (-99999999) ≤ z9482 ∧ z9482 ≤ 10 := (vc_X12_ring_25 h9484)
                                refine mr_iload (z := ((z8999 - z9248) - 1)) dX12_ring_240 rfl ?_
                                refine mr_icmp_ne (tgt := 249) dX12_ring_242 (by decide) (r32 h9485 rfl) (r32 (rSub (e := (-8)) (f := 9) (rSub (e := (-7)) (f := 10) h9007 h9297 rfl) (rR (x := 1)) rfl) rfl) (fun h9487 => ?_) (fun h9487 => ?_)
                                · refine mr_iinc (lv' := [(7, iv (z9421 + 1)), (0, .ref 106), (1, iv p1), (2, iv z6390), (3, iv z9249), (4, iv z9248), (5, iv ((z8999 - z9248) - 1)), (6, iv z9422)]) dX12_ring_249 rfl (by decide) rfl ?_
                                  refine sv_goto (tgt := 207) dX12_ring_252 (by decide) ?_
                                  refine mr_lvS (lv' := [(0, .ref 106), (1, iv p1), (2, iv z6390), (3, iv z9249), (4, iv z9248), (5, iv ((z8999 - z9248) - 1)), (6, iv z9422), (7, iv (z9421 + 1))]) (List.forall_mem_cons.mpr ⟨rfl, List.forall_mem_cons.mpr ⟨rfl, List.forall_mem_cons.mpr ⟨rfl, List.forall_mem_cons.mpr ⟨rfl, List.forall_mem_cons.mpr ⟨rfl, List.forall_mem_cons.mpr ⟨rfl, List.forall_mem_cons.mpr ⟨rfl, List.forall_mem_cons.mpr ⟨rfl, fun _ h => absurd h List.not_mem_nil⟩⟩⟩⟩⟩⟩⟩⟩) ?_
                                  exact ih9430 z9422 (z9421 + 1) trivial (rW (c := (-99999999)) (d := 9) h9466 rfl) (rW (c := 0) (d := 10) (rAdd (e := 1) (f := 10) h9449 (rR (x := 1)) rfl) rfl) (vc_X12_ring_23 (nS h9429) h9447 h6402 h8997 h6403 h6404 h8998 h9449)
                                have h9488 : 0 ≤ z9482 ∧ z9482 ≤ 9 := (vc_X12_ring_26 h9487 h9003 h9005 h9296 h9298 h9007 h9001 h9297 h9485 h9484)
                                refine mr_iload (z := z9421) dX12_ring_245 rfl ?_
                                refine mr_istore (lv' := [(6, iv z9421), (0, .ref 106), (1, iv p1), (2, iv z6390), (3, iv z9249), (4, iv z9248), (5, iv ((z8999 - z9248) - 1)), (7, iv z9421)]) dX12_ring_247 (by decide) rfl ?_
                                refine mr_iinc (lv' := [(7, iv (z9421 + 1)), (6, iv z9421), (0, .ref 106), (1, iv p1), (2, iv z6390), (3, iv z9249), (4, iv z9248), (5, iv ((z8999 - z9248) - 1))]) dX12_ring_249 rfl (by decide) rfl ?_
                                refine sv_goto (tgt := 207) dX12_ring_252 (by decide) ?_
                                refine mr_lvS (lv' := [(0, .ref 106), (1, iv p1), (2, iv z6390), (3, iv z9249), (4, iv z9248), (5, iv ((z8999 - z9248) - 1)), (6, iv z9421), (7, iv (z9421 + 1))]) (List.forall_mem_cons.mpr ⟨rfl, List.forall_mem_cons.mpr ⟨rfl, List.forall_mem_cons.mpr ⟨rfl, List.forall_mem_cons.mpr ⟨rfl, List.forall_mem_cons.mpr ⟨rfl, List.forall_mem_cons.mpr ⟨rfl, List.forall_mem_cons.mpr ⟨rfl, List.forall_mem_cons.mpr ⟨rfl, fun _ h => absurd h List.not_mem_nil⟩⟩⟩⟩⟩⟩⟩⟩) ?_
                                exact ih9430 z9421 (z9421 + 1) trivial (rW (c := (-99999999)) (d := 9) h9449 rfl) (rW (c := 0) (d := 10) (rAdd (e := 1) (f := 10) h9449 (rR (x := 1)) rfl) rfl) (vc_X12_ring_23 (nS h9429) h9447 h6402 h8997 h6403 h6404 h8998 h9449)
                            refine mr_lvS (lv' := [(0, .ref 106), (1, iv p1), (2, iv z6390), (3, iv z9249), (4, iv z9248), (5, iv ((z8999 - z9248) - 1)), (6, iv (-99999999)), (7, iv 0)]) (List.forall_mem_cons.mpr ⟨rfl, List.forall_mem_cons.mpr ⟨rfl, List.forall_mem_cons.mpr ⟨rfl, List.forall_mem_cons.mpr ⟨rfl, List.forall_mem_cons.mpr ⟨rfl, List.forall_mem_cons.mpr ⟨rfl, List.forall_mem_cons.mpr ⟨rfl, List.forall_mem_cons.mpr ⟨rfl, fun _ h => absurd h List.not_mem_nil⟩⟩⟩⟩⟩⟩⟩⟩) ?_
                            exact L9423 12 (-99999999) 0 trivial (rW (c := (-99999999)) (d := 9) (rR (x := (-99999999))) rfl) (rW (c := 0) (d := 10) (rR (x := 0)) rfl) vc_X12_ring_27
                        refine mr_lvS (lv' := [(0, .ref 106), (1, iv p1), (2, iv z6390), (3, iv z6390), (4, iv 0)]) (List.forall_mem_cons.mpr ⟨rfl, List.forall_mem_cons.mpr ⟨rfl, List.forall_mem_cons.mpr ⟨rfl, List.forall_mem_cons.mpr ⟨rfl, List.forall_mem_cons.mpr ⟨rfl, fun _ h => absurd h List.not_mem_nil⟩⟩⟩⟩⟩) ?_
                        exact L9250 11 z6390 0 trivial (rW (c := (-99999999)) (d := 9) h6403 rfl) (rW (c := 0) (d := 9) (rR (x := 0)) rfl) vc_X12_ring_28
                      refine mr_ldc (z := (-99999999)) dX12_ring_173 wG_X12_29 (by decide) ?_
                      exact mr_iret dX12_ring_175 rfl (le_t rfl) (le_t rfl) T8862 (mF.call (mF.call (mF.call mF.refl F6395 rfl) F7329 rfl) F8863 rfl) ⟨(rW (c := (-2147483648)) (d := 2147483647) (rR (x := (-99999999))) rfl), trivial⟩
                    have h9489 : (-99999999) ≤ z8999 ∧ z8999 ≤ (-99999999) := (vc_X12_ring_29 h9003 h9002 h9001)
                    refine sv_goto (tgt := 266) dX12_ring_160 (by decide) ?_
                    refine mr_iinc (lv' := [(2, iv (z6390 + 1)), (0, .ref 106), (1, iv p1), (3, iv z8858)]) dX12_ring_266 rfl (by decide) rfl ?_
                    refine sv_goto (tgt := 9) dX12_ring_269 (by decide) ?_
                    refine mr_lvS (lv' := [(0, .ref 106), (1, iv p1), (2, iv (z6390 + 1))]) (List.forall_mem_cons.mpr ⟨rfl, List.forall_mem_cons.mpr ⟨rfl, List.forall_mem_cons.mpr ⟨rfl, fun _ h => absurd h List.not_mem_nil⟩⟩⟩) ?_
                    exact ih6398 (z6390 + 1) μ8859 T8862 (mF.call (mF.call (mF.call mF.refl F6395 rfl) F7329 rfl) F8863 rfl) (rW (c := 0) (d := 10) (rAdd (e := 1) (f := 10) h6403 (rR (x := 1)) rfl) rfl) (vc_X12_ring_30 (nS h6397) h6402 h8997 h6403 h6404 h8998)
                  have h9490 : 1 ≤ z8858 ∧ z8858 ≤ 10 := (vc_X12_ring_31 h8997 h6402 h6403 h6404 h8861)
                  refine mr_iconst (z := 0) dX12_ring_49 ?_
                  refine mr_istore (lv' := [(4, iv 0), (0, .ref 106), (1, iv p1), (2, iv z6390), (3, iv z8858)]) dX12_ring_50 (by decide) rfl ?_
                  have L9939 : ∀ (nL9939 : Nat) (z9937 : Int) (μ9938 : mM), mT w μ9938 → mF [117999] w μ8859 μ9938 → (0 ≤ z9937 ∧ z9937 ≤ 10) → (11 - z9937) < (nL9939 : Int) → sV (gG l D c H0 sa) mX12_ring (sRm 3 0 0) (sZ (gG l D c H0 sa) 0 0 (qI w [117999] μ (fun z μ1 => ((-2147483648) ≤ z ∧ z ≤ 2147483647) ∧ True))) 52 [(0, .ref 106), (1, iv p1), (2, iv z6390), (3, iv z8858), (4, iv z9937)] [] (mk w μ9938) 0 0 := by
                    intro nL9939
                    induction nL9939 with
                    | zero => intro z9937 μ9938 T9941 F9942 h9940 h9944; exact ((vc_X12_ring_32 h9944 h9940)).elim
                    | succ nL9939 ih9945 =>
                      intro z9937 μ9938 T9941 F9942 h9940 h9944
                      refine mr_iload (z := z9937) dX12_ring_52 rfl ?_
                      refine sv_aload_n dX12_ring_54 rfl rfl ?_
                      refine gk_X12_5 dX12_ring_55 wF_X12_34 (A_106 hw) (F9942.f (A_106 hw) rfl (F8863.f (A_106 hw) rfl (F7329.f (A_106 hw) rfl q6400))) ?_
                      refine mr_icmp_ge (tgt := 143) dX12_ring_58 (by decide) (r32 h9940 rfl) (r32 h6404 rfl) (fun h10008 => ?_) (fun h10008 => ?_)
                      · have h10009 : 1 ≤ z9937 ∧ z9937 ≤ 10 := (vc_X12_ring_33 h10008 h6402 h8997 h6403 h6404 h9490 h9940)
                        refine mr_iinc (lv' := [(3, iv (z8858 + 1)), (0, .ref 106), (1, iv p1), (2, iv z6390), (4, iv z9937)]) dX12_ring_143 rfl (by decide) rfl ?_
                        refine sv_goto (tgt := 41) dX12_ring_146 (by decide) ?_
                        refine mr_lvS (lv' := [(0, .ref 106), (1, iv p1), (2, iv z6390), (3, iv (z8858 + 1))]) (List.forall_mem_cons.mpr ⟨rfl, List.forall_mem_cons.mpr ⟨rfl, List.forall_mem_cons.mpr ⟨rfl, List.forall_mem_cons.mpr ⟨rfl, fun _ h => absurd h List.not_mem_nil⟩⟩⟩⟩) ?_
                        exact ih8866 (z8858 + 1) μ9938 T9941 (mF.call (mF.call mF.refl F8863 rfl) F9942 rfl) (rW (c := 1) (d := 11) (rAdd (e := 2) (f := 11) h9490 (rR (x := 1)) rfl) rfl) (vc_X12_ring_34 (nS h8865) h8997 h6402 h10008 h6403 h6404 h9490 h10009)
                      have h10010 : 0 ≤ z9937 ∧ z9937 ≤ 9 := (vc_X12_ring_35 h10008 h6402 h8997 h6403 h6404 h9490 h9940)
                      refine mr_iconst (z := 0) dX12_ring_61 ?_
                      refine mr_istore (lv' := [(5, iv 0), (0, .ref 106), (1, iv p1), (2, iv z6390), (3, iv z8858), (4, iv z9937)]) dX12_ring_62 (by decide) rfl ?_
                      have L10226 : ∀ (nL10226 : Nat) (z10224 : Int) (μ10225 : mM), mT w μ10225 → mF [117999] w μ9938 μ10225 → (0 ≤ z10224 ∧ z10224 ≤ 10) → (11 - z10224) < (nL10226 : Int) → sV (gG l D c H0 sa) mX12_ring (sRm 3 0 0) (sZ (gG l D c H0 sa) 0 0 (qI w [117999] μ (fun z μ1 => ((-2147483648) ≤ z ∧ z ≤ 2147483647) ∧ True))) 64 [(0, .ref 106), (1, iv p1), (2, iv z6390), (3, iv z8858), (4, iv z9937), (5, iv z10224)] [] (mk w μ10225) 0 0 := by
                        intro nL10226
                        induction nL10226 with
                        | zero => intro z10224 μ10225 T10228 F10229 h10227 h10231; exact ((vc_X12_ring_36 h10231 h10227)).elim
                        | succ nL10226 ih10232 =>
                          intro z10224 μ10225 T10228 F10229 h10227 h10231
                          refine mr_iload (z := z10224) dX12_ring_64 rfl ?_
                          refine sv_aload_n dX12_ring_66 rfl rfl ?_
                          refine gk_X12_5 dX12_ring_67 wF_X12_34 (A_106 hw) (F10229.f (A_106 hw) rfl (F9942.f (A_106 hw) rfl (F8863.f (A_106 hw) rfl (F7329.f (A_106 hw) rfl q6400)))) ?_
                          refine mr_icmp_ge (tgt := 137) dX12_ring_70 (by decide) (r32 h10227 rfl) (r32 h6404 rfl) (fun h10261 => ?_) (fun h10261 => ?_)
                          · have h10262 : 1 ≤ z10224 ∧ z10224 ≤ 10 := (vc_X12_ring_37 h10261 h6402 h8997 h10008 h10227 h6403 h6404 h9490 h10010)
                            refine mr_iinc (lv' := [(4, iv (z9937 + 1)), (0, .ref 106), (1, iv p1), (2, iv z6390), (3, iv z8858), (5, iv z10224)]) dX12_ring_137 rfl (by decide) rfl ?_
                            refine sv_goto (tgt := 52) dX12_ring_140 (by decide) ?_
                            refine mr_lvS (lv' := [(0, .ref 106), (1, iv p1), (2, iv z6390), (3, iv z8858), (4, iv (z9937 + 1))]) (List.forall_mem_cons.mpr ⟨rfl, List.forall_mem_cons.mpr ⟨rfl, List.forall_mem_cons.mpr ⟨rfl, List.forall_mem_cons.mpr ⟨rfl, List.forall_mem_cons.mpr ⟨rfl, fun _ h => absurd h List.not_mem_nil⟩⟩⟩⟩⟩) ?_
                            exact ih9945 (z9937 + 1) μ10225 T10228 (mF.call (mF.call mF.refl F9942 rfl) F10229 rfl) (rW (c := 0) (d := 10) (rAdd (e := 1) (f := 10) h10010 (rR (x := 1)) rfl) rfl) (vc_X12_ring_38 (nS h9944) h10008 h6402 h8997 h10261 h10262 h6403 h6404 h9490 h10010)
                          have h10263 : 0 ≤ z10224 ∧ z10224 ≤ 9 := (vc_X12_ring_39 h10261 h6402 h8997 h10008 h10227 h6403 h6404 h9490 h10010)
                          refine sv_aload_n dX12_ring_73 rfl rfl ?_
                          refine gf_X12_14 dX12_ring_74 wF_X12_72 (A_106 hw) T10228 ?_
                          refine mr_iload (z := z9937) dX12_ring_77 rfl ?_
                          refine la_117 dX12_ring_79 (A_117 hw) T10228 (rIx (n := 10) h10010 rfl) fun z10264 q10265 h10266 => ?_
                          have h10267 : (-99999999) ≤ z10264 ∧ z10264 ≤ 10 := (vc_X12_ring_40 h10266)
                          refine mr_ldc (z := (-99999999)) dX12_ring_80 wG_X12_29 (by decide) ?_
                          refine mr_icmp_ne (tgt := 137) dX12_ring_82 (by decide) (r32 h10267 rfl) (r32 (rR (x := (-99999999))) rfl) (fun h10290 => ?_) (fun h10290 => ?_)
                          · have h10291 : 0 ≤ z10264 ∧ z10264 ≤ 10 := (vc_X12_ring_41 h10290 h10267 h10266)
                            refine mr_iinc (lv' := [(4, iv (z9937 + 1)), (0, .ref 106), (1, iv p1), (2, iv z6390), (3, iv z8858), (5, iv z10224)]) dX12_ring_137 rfl (by decide) rfl ?_
                            refine sv_goto (tgt := 52) dX12_ring_140 (by decide) ?_
                            refine mr_lvS (lv' := [(0, .ref 106), (1, iv p1), (2, iv z6390), (3, iv z8858), (4, iv (z9937 + 1))]) (List.forall_mem_cons.mpr ⟨rfl, List.forall_mem_cons.mpr ⟨rfl, List.forall_mem_cons.mpr ⟨rfl, List.forall_mem_cons.mpr ⟨rfl, List.forall_mem_cons.mpr ⟨rfl, fun _ h => absurd h List.not_mem_nil⟩⟩⟩⟩⟩) ?_
                            exact ih9945 (z9937 + 1) μ10225 T10228 (mF.call (mF.call mF.refl F9942 rfl) F10229 rfl) (rW (c := 0) (d := 10) (rAdd (e := 1) (f := 10) h10010 (rR (x := 1)) rfl) rfl) (vc_X12_ring_42 (nS h9944) h10008 h6402 h8997 h10261 h10263 h6403 h6404 h9490 h10010)
                          have h10292 : (-99999999) ≤ z10264 ∧ z10264 ≤ (-99999999) := (vc_X12_ring_43 h10290 h10267 h10266)
                          refine sv_aload_n dX12_ring_85 rfl rfl ?_
                          refine mr_iload (z := z9937) dX12_ring_86 rfl ?_
                          refine mr_iload (z := z10224) dX12_ring_88 rfl ?_
                          refine mr_cVP (c_X12_provides hw T10228 (rW (c := (-2147483648)) (d := 2147483647) h10010 rfl) (rW (c := (-2147483648)) (d := 2147483647) h10263 rfl)) (gOk _ _ _ _ _) dX12_ring_90 (tX12_provides _ _ _ _ _) ⟨wV_X12_provides, wL_X12_provides⟩ wM_X12_75 (gCX12 _ _ _ _ _) rfl (A_106 hw) rfl ⟨le_t rfl, le_t rfl⟩ ⟨le_t rfl, le_t rfl⟩ rfl (le_t rfl) fun z10297 h10296 => ?_
                          refine mr_if_eq (tgt := 131) dX12_ring_93 (by decide) (r32 h10296.1 rfl) (fun h10313 => ?_) (fun h10313 => ?_)
                          · have h10314 : 0 ≤ z10297 ∧ z10297 ≤ 0 := (vc_X12_ring_44 h10313 h10296.1)
                            refine mr_iinc (lv' := [(5, iv (z10224 + 1)), (0, .ref 106), (1, iv p1), (2, iv z6390), (3, iv z8858), (4, iv z9937)]) dX12_ring_131 rfl (by decide) rfl ?_
                            refine sv_goto (tgt := 64) dX12_ring_134 (by decide) ?_
                            refine mr_lvS (lv' := [(0, .ref 106), (1, iv p1), (2, iv z6390), (3, iv z8858), (4, iv z9937), (5, iv (z10224 + 1))]) (List.forall_mem_cons.mpr ⟨rfl, List.forall_mem_cons.mpr ⟨rfl, List.forall_mem_cons.mpr ⟨rfl, List.forall_mem_cons.mpr ⟨rfl, List.forall_mem_cons.mpr ⟨rfl, List.forall_mem_cons.mpr ⟨rfl, fun _ h => absurd h List.not_mem_nil⟩⟩⟩⟩⟩⟩) ?_
                            exact ih10232 (z10224 + 1) μ10225 T10228 (mF.call mF.refl F10229 rfl) (rW (c := 0) (d := 10) (rAdd (e := 1) (f := 10) h10263 (rR (x := 1)) rfl) rfl) (vc_X12_ring_45 (nS h10231) h10261 h6402 h8997 h10008 h10263 h6403 h6404 h9490 h10010)
                          have h10315 : 1 ≤ z10297 ∧ z10297 ≤ 1 := (vc_X12_ring_46 h10313 h10296.1)
                          refine mr_iload_n (z := z8858) dX12_ring_96 rfl rfl ?_
                          refine mr_iconst (z := 1) dX12_ring_97 ?_
                          refine mr_icmp_ne (tgt := 110) dX12_ring_98 (by decide) (r32 h9490 rfl) (r32 (rR (x := 1)) rfl) (fun h10329 => ?_) (fun h10329 => ?_)
                          · have h10330 : 2 ≤ z8858 ∧ z8858 ≤ 10 := (vc_X12_ring_47 h10329 h8997 h6404 h9490)
                            refine sv_aload_n dX12_ring_110 rfl rfl ?_
                            refine gf_X12_14 dX12_ring_111 wF_X12_72 (A_106 hw) T10228 ?_
                            refine mr_iload (z := z10224) dX12_ring_114 rfl ?_
                            refine la_117 dX12_ring_116 (A_117 hw) T10228 (rIx (n := 10) h10263 rfl) fun z10331 q10332 h10333 => ?_
                            have h10334 : (-99999999) ≤ z10331 ∧ z10331 ≤ 10 := (vc_X12_ring_48 h10333)
                            refine mr_iload_n (z := z8858) dX12_ring_117 rfl rfl ?_
                            refine mr_iconst (z := 1) dX12_ring_118 ?_
                            refine mr_isub (x := z8858) (y := 1) dX12_ring_119 ?_
                            refine mr_icmp_ne (tgt := 131) dX12_ring_120 (by decide) (r32 h10334 rfl) (r32 (rSub (e := 1) (f := 9) h10330 (rR (x := 1)) rfl) rfl) (fun h10339 => ?_) (fun h10339 => ?_)
                            · refine mr_iinc (lv' := [(5, iv (z10224 + 1)), (0, .ref 106), (1, iv p1), (2, iv z6390), (3, iv z8858), (4, iv z9937)]) dX12_ring_131 rfl (by decide) rfl ?_
                              refine sv_goto (tgt := 64) dX12_ring_134 (by decide) ?_
                              refine mr_lvS (lv' := [(0, .ref 106), (1, iv p1), (2, iv z6390), (3, iv z8858), (4, iv z9937), (5, iv (z10224 + 1))]) (List.forall_mem_cons.mpr ⟨rfl, List.forall_mem_cons.mpr ⟨rfl, List.forall_mem_cons.mpr ⟨rfl, List.forall_mem_cons.mpr ⟨rfl, List.forall_mem_cons.mpr ⟨rfl, List.forall_mem_cons.mpr ⟨rfl, fun _ h => absurd h List.not_mem_nil⟩⟩⟩⟩⟩⟩) ?_
                              exact ih10232 (z10224 + 1) μ10225 T10228 (mF.call mF.refl F10229 rfl) (rW (c := 0) (d := 10) (rAdd (e := 1) (f := 10) h10263 (rR (x := 1)) rfl) rfl) (vc_X12_ring_49 (nS h10231) h10261 h6402 h8997 h10008 h10263 h6403 h6404 h10330 h10010)
                            have h10340 : 1 ≤ z10331 ∧ z10331 ≤ 9 := (vc_X12_ring_50 h10339 h8997 h10329 h10334 h10333 h6404 h10330)
                            refine sv_aload_n dX12_ring_123 rfl rfl ?_
                            refine gf_X12_14 dX12_ring_124 wF_X12_72 (A_106 hw) T10228 ?_
                            refine mr_iload (z := z9937) dX12_ring_127 rfl ?_
                            refine mr_iload_n (z := z8858) dX12_ring_129 rfl rfl ?_
                            refine ss_117 dX12_ring_130 (A_117 hw) T10228 (rIx (n := 10) h10010 rfl) (vc_X12_ring_51 h8997 h10329 h10339 h6402 h10008 h10261 h10263 h10340 h10333 h6403 h6404 h10330 h10010) fun μ10341 u10342 T10343 => ?_
                            refine mr_iinc (lv' := [(5, iv (z10224 + 1)), (0, .ref 106), (1, iv p1), (2, iv z6390), (3, iv z8858), (4, iv z9937)]) dX12_ring_131 rfl (by decide) rfl ?_
                            refine sv_goto (tgt := 64) dX12_ring_134 (by decide) ?_
                            refine mr_lvS (lv' := [(0, .ref 106), (1, iv p1), (2, iv z6390), (3, iv z8858), (4, iv z9937), (5, iv (z10224 + 1))]) (List.forall_mem_cons.mpr ⟨rfl, List.forall_mem_cons.mpr ⟨rfl, List.forall_mem_cons.mpr ⟨rfl, List.forall_mem_cons.mpr ⟨rfl, List.forall_mem_cons.mpr ⟨rfl, List.forall_mem_cons.mpr ⟨rfl, fun _ h => absurd h List.not_mem_nil⟩⟩⟩⟩⟩⟩) ?_
                            exact ih10232 (z10224 + 1) μ10341 T10343 (mF.up (mF.call mF.refl F10229 rfl) (A_117 hw) u10342 rfl) (rW (c := 0) (d := 10) (rAdd (e := 1) (f := 10) h10263 (rR (x := 1)) rfl) rfl) (vc_X12_ring_49 (nS h10231) h10261 h6402 h8997 h10008 h10263 h6403 h6404 h10330 h10010)
                          have h10344 : 1 ≤ z8858 ∧ z8858 ≤ 1 := (vc_X12_ring_52 h10329 h8997 h6404 h9490)
                          refine mr_iload (z := z10224) dX12_ring_101 rfl ?_
                          refine mr_iload_n (z := z6390) dX12_ring_103 rfl rfl ?_
                          refine mr_icmp_ne (tgt := 131) dX12_ring_104 (by decide) (r32 h10263 rfl) (r32 h6403 rfl) (fun h10348 => ?_) (fun h10348 => ?_)
                          · refine mr_iinc (lv' := [(5, iv (z10224 + 1)), (0, .ref 106), (1, iv p1), (2, iv z6390), (3, iv z8858), (4, iv z9937)]) dX12_ring_131 rfl (by decide) rfl ?_
                            refine sv_goto (tgt := 64) dX12_ring_134 (by decide) ?_
                            refine mr_lvS (lv' := [(0, .ref 106), (1, iv p1), (2, iv z6390), (3, iv z8858), (4, iv z9937), (5, iv (z10224 + 1))]) (List.forall_mem_cons.mpr ⟨rfl, List.forall_mem_cons.mpr ⟨rfl, List.forall_mem_cons.mpr ⟨rfl, List.forall_mem_cons.mpr ⟨rfl, List.forall_mem_cons.mpr ⟨rfl, List.forall_mem_cons.mpr ⟨rfl, fun _ h => absurd h List.not_mem_nil⟩⟩⟩⟩⟩⟩) ?_
                            exact ih10232 (z10224 + 1) μ10225 T10228 (mF.call mF.refl F10229 rfl) (rW (c := 0) (d := 10) (rAdd (e := 1) (f := 10) h10263 (rR (x := 1)) rfl) rfl) (vc_X12_ring_53 (nS h10231) h10261 h10348 h6402 h8997 h10008 h10263 h6403 h6404 h10344 h10010)
                          refine sv_goto (tgt := 123) dX12_ring_107 (by decide) ?_
                          refine sv_aload_n dX12_ring_123 rfl rfl ?_
                          refine gf_X12_14 dX12_ring_124 wF_X12_72 (A_106 hw) T10228 ?_
                          refine mr_iload (z := z9937) dX12_ring_127 rfl ?_
                          refine mr_iload_n (z := z8858) dX12_ring_129 rfl rfl ?_
                          refine ss_117 dX12_ring_130 (A_117 hw) T10228 (rIx (n := 10) h10010 rfl) (vc_X12_ring_54 h8997 h10329 h6402 h10008 h10261 h10263 h6403 h6404 h10344 h10010) fun μ10349 u10350 T10351 => ?_
                          refine mr_iinc (lv' := [(5, iv (z10224 + 1)), (0, .ref 106), (1, iv p1), (2, iv z6390), (3, iv z8858), (4, iv z9937)]) dX12_ring_131 rfl (by decide) rfl ?_
                          refine sv_goto (tgt := 64) dX12_ring_134 (by decide) ?_
                          refine mr_lvS (lv' := [(0, .ref 106), (1, iv p1), (2, iv z6390), (3, iv z8858), (4, iv z9937), (5, iv (z10224 + 1))]) (List.forall_mem_cons.mpr ⟨rfl, List.forall_mem_cons.mpr ⟨rfl, List.forall_mem_cons.mpr ⟨rfl, List.forall_mem_cons.mpr ⟨rfl, List.forall_mem_cons.mpr ⟨rfl, List.forall_mem_cons.mpr ⟨rfl, fun _ h => absurd h List.not_mem_nil⟩⟩⟩⟩⟩⟩) ?_
                          exact ih10232 (z10224 + 1) μ10349 T10351 (mF.up (mF.call mF.refl F10229 rfl) (A_117 hw) u10350 rfl) (rW (c := 0) (d := 10) (rAdd (e := 1) (f := 10) h10263 (rR (x := 1)) rfl) rfl) (vc_X12_ring_55 (nS h10231) h10261 h10348 h6402 h8997 h10008 h10263 h6403 h6404 h10344 h10010)
                      refine mr_lvS (lv' := [(0, .ref 106), (1, iv p1), (2, iv z6390), (3, iv z8858), (4, iv z9937), (5, iv 0)]) (List.forall_mem_cons.mpr ⟨rfl, List.forall_mem_cons.mpr ⟨rfl, List.forall_mem_cons.mpr ⟨rfl, List.forall_mem_cons.mpr ⟨rfl, List.forall_mem_cons.mpr ⟨rfl, List.forall_mem_cons.mpr ⟨rfl, fun _ h => absurd h List.not_mem_nil⟩⟩⟩⟩⟩⟩) ?_
                      exact L10226 12 0 μ9938 T9941 mF.refl (rW (c := 0) (d := 10) (rR (x := 0)) rfl) vc_X12_ring_27
                  refine mr_lvS (lv' := [(0, .ref 106), (1, iv p1), (2, iv z6390), (3, iv z8858), (4, iv 0)]) (List.forall_mem_cons.mpr ⟨rfl, List.forall_mem_cons.mpr ⟨rfl, List.forall_mem_cons.mpr ⟨rfl, List.forall_mem_cons.mpr ⟨rfl, List.forall_mem_cons.mpr ⟨rfl, fun _ h => absurd h List.not_mem_nil⟩⟩⟩⟩⟩) ?_
                  exact L9939 12 0 μ8859 T8862 mF.refl (rW (c := 0) (d := 10) (rR (x := 0)) rfl) vc_X12_ring_27
              refine mr_lvS (lv' := [(0, .ref 106), (1, iv p1), (2, iv z6390), (3, iv 1)]) (List.forall_mem_cons.mpr ⟨rfl, List.forall_mem_cons.mpr ⟨rfl, List.forall_mem_cons.mpr ⟨rfl, List.forall_mem_cons.mpr ⟨rfl, fun _ h => absurd h List.not_mem_nil⟩⟩⟩⟩) ?_
              exact L8860 12 1 μ7325 T7328 mF.refl (rW (c := 1) (d := 11) (rR (x := 1)) rfl) vc_X12_ring_56
            have h10352 : 0 ≤ z7324 ∧ z7324 ≤ 9 := (vc_X12_ring_57 h7338 h7327)
            refine sv_aload_n dX12_ring_25 rfl rfl ?_
            refine gf_X12_14 dX12_ring_26 wF_X12_72 (A_106 hw) T7328 ?_
            refine mr_iload_n (z := z7324) dX12_ring_29 rfl rfl ?_
            refine mr_ldc (z := (-99999999)) dX12_ring_30 wG_X12_29 (by decide) ?_
            refine ss_117 dX12_ring_32 (A_117 hw) T7328 (rIx (n := 10) h10352 rfl) vc_X12_ring_58 fun μ10353 u10354 T10355 => ?_
            refine mr_iinc (lv' := [(3, iv (z7324 + 1)), (0, .ref 106), (1, iv p1), (2, iv z6390)]) dX12_ring_33 rfl (by decide) rfl ?_
            refine sv_goto (tgt := 19) dX12_ring_36 (by decide) ?_
            refine mr_lvS (lv' := [(0, .ref 106), (1, iv p1), (2, iv z6390), (3, iv (z7324 + 1))]) (List.forall_mem_cons.mpr ⟨rfl, List.forall_mem_cons.mpr ⟨rfl, List.forall_mem_cons.mpr ⟨rfl, List.forall_mem_cons.mpr ⟨rfl, fun _ h => absurd h List.not_mem_nil⟩⟩⟩⟩) ?_
            exact ih7332 (z7324 + 1) μ10353 T10355 (mF.up (mF.call mF.refl F7329 rfl) (A_117 hw) u10354 rfl) (rW (c := 0) (d := 10) (rAdd (e := 1) (f := 10) h10352 (rR (x := 1)) rfl) rfl) (vc_X12_ring_59 (nS h7331) h7338 h10352)
        refine mr_lvS (lv' := [(0, .ref 106), (1, iv p1), (2, iv z6390), (3, iv 0)]) (List.forall_mem_cons.mpr ⟨rfl, List.forall_mem_cons.mpr ⟨rfl, List.forall_mem_cons.mpr ⟨rfl, List.forall_mem_cons.mpr ⟨rfl, fun _ h => absurd h List.not_mem_nil⟩⟩⟩⟩) ?_
        exact L7326 12 0 μ6391 T6394 mF.refl (rW (c := 0) (d := 10) (rR (x := 0)) rfl) vc_X12_ring_27
    refine mr_lvS (lv' := [(0, .ref 106), (1, iv p1), (2, iv 0)]) (List.forall_mem_cons.mpr ⟨rfl, List.forall_mem_cons.mpr ⟨rfl, List.forall_mem_cons.mpr ⟨rfl, fun _ h => absurd h List.not_mem_nil⟩⟩⟩) ?_
    exact L6392 12 0 μ hT mF.refl (rW (c := 0) (d := 10) (rR (x := 0)) rfl) vc_X12_ring_27
  have h10356 : (-2147483648) ≤ p1 ∧ p1 ≤ (-1) := (vc_X12_ring_60 h1 hp1)
  refine mr_ldc (z := (-99999999)) dX12_ring_4 wG_X12_29 (by decide) ?_
  exact mr_iret dX12_ring_6 rfl (le_t rfl) (le_t rfl) hT mF.refl ⟨(rW (c := (-2147483648)) (d := 2147483647) (rR (x := (-99999999))) rfl), trivial⟩
theorem vc_X12_walk_1 {p1 z5 : Int} (h0 : ¬ z5 = 0) (h1 : (z5 = 1 → (-1) ≤ p1 ∧ p1 ≤ 9)) (h2 : (z5 = 0 → p1 < (-1) ∨ 9 < p1)) (h3 : (-2147483648) ≤ p1 ∧ p1 ≤ 2147483647) (h4 : 0 ≤ z5 ∧ z5 ≤ 1) : 1 ≤ z5 ∧ z5 ≤ 1 := by omega
theorem vc_X12_walk_2 {p1 z5 : Int} (h0 : (z5 = 1 → (-1) ≤ p1 ∧ p1 ≤ 9)) (h1 : (z5 = 0 → p1 < (-1) ∨ 9 < p1)) (h2 : ¬ z5 = 0) (h3 : (-2147483648) ≤ p1 ∧ p1 ≤ 2147483647) (h4 : 1 ≤ z5 ∧ z5 ≤ 1) : z5 = 1 := by omega
theorem vc_X12_walk_3 {p1 z5 : Int} (h0 : (-1) ≤ p1 ∧ p1 ≤ 9) (h1 : (z5 = 1 → (-1) ≤ p1 ∧ p1 ≤ 9)) (h2 : (z5 = 0 → p1 < (-1) ∨ 9 < p1)) (h3 : (-2147483648) ≤ p1 ∧ p1 ≤ 2147483647) (h4 : 1 ≤ z5 ∧ z5 ≤ 1) : (-1) ≤ p1 ∧ p1 ≤ 9 := by omega
theorem vc_X12_walk_4 {p1 z5 : Int} (h0 : ¬ p1 = (-1)) (h1 : (z5 = 1 → (-1) ≤ p1 ∧ p1 ≤ 9)) (h2 : (z5 = 0 → p1 < (-1) ∨ 9 < p1)) (h3 : (-1) ≤ p1 ∧ p1 ≤ 9) (h4 : 1 ≤ z5 ∧ z5 ≤ 1) : 0 ≤ p1 ∧ p1 ≤ 9 := by omega
theorem vc_X12_walk_5 {z12 : Int} (h0 : ¬ z12 = 20) (h1 : 0 ≤ z12 ∧ z12 ≤ 20) : 0 ≤ z12 ∧ z12 ≤ 19 := by omega
theorem vc_X12_walk_6 {z12 : Int} (h0 : z12 = 20) (h1 : 0 ≤ z12 ∧ z12 ≤ 20) : 20 ≤ z12 ∧ z12 ≤ 20 := by omega
theorem vc_X12_walk_7 {p1 z5 : Int} (h0 : p1 = (-1)) (h1 : (z5 = 1 → (-1) ≤ p1 ∧ p1 ≤ 9)) (h2 : (z5 = 0 → p1 < (-1) ∨ 9 < p1)) (h3 : (-1) ≤ p1 ∧ p1 ≤ 9) (h4 : 1 ≤ z5 ∧ z5 ≤ 1) : (-1) ≤ p1 ∧ p1 ≤ (-1) := by omega
theorem vc_X12_walk_8 {p1 z5 : Int} (h0 : z5 = 0) (h1 : (z5 = 1 → (-1) ≤ p1 ∧ p1 ≤ 9)) (h2 : (z5 = 0 → p1 < (-1) ∨ 9 < p1)) (h3 : (-2147483648) ≤ p1 ∧ p1 ≤ 2147483647) (h4 : 0 ≤ z5 ∧ z5 ≤ 1) : 0 ≤ z5 ∧ z5 ≤ 0 := by omega
theorem vc_X12_walk_9 {p1 z5 : Int} (h0 : (z5 = 1 → (-1) ≤ p1 ∧ p1 ≤ 9)) (h1 : (z5 = 0 → p1 < (-1) ∨ 9 < p1)) (h2 : z5 = 0) (h3 : (-2147483648) ≤ p1 ∧ p1 ≤ 2147483647) (h4 : 0 ≤ z5 ∧ z5 ≤ 0) : z5 = 0 := by omega
set_option maxRecDepth 4000 in
set_option maxHeartbeats 4000000 in
theorem c_X12_walk {l : Launch} {D : va_G} {c : Nat → ClassId} {H0 : Heap} {sa : Nat × Nat × (Nat → Int32)} {w : mW} {μ : mM} (hw : mWF w) (hT : mT w μ) {p1 : Int} (hp1 : (-2147483648) ≤ p1 ∧ p1 ≤ 2147483647) : sC (gG l D c H0 sa) mX12_walk 2 0 0 [.ref 106, iv p1] (mk w μ) (qI w [106015, 118999] μ (fun z μ1 => ((-2147483648) ≤ z ∧ z ≤ 2147483647) ∧ True)) := by
  refine sC.of rfl (by decide) (le_t rfl) ?_
  refine mr_lvE (lv' := [(0, .ref 106), (1, iv p1)]) rfl ?_
  refine mr_iload_n (z := p1) dX12_walk_0 rfl rfl ?_
  refine mr_iconst (z := (-1)) dX12_walk_1 ?_
  refine mr_bipush (z := 9) dX12_walk_2 (by decide) ?_
  refine mr_cSP (c_X12_in hw hT hp1 (rW (c := (-2147483648)) (d := 2147483647) (rR (x := (-1))) rfl) (rW (c := (-2147483648)) (d := 2147483647) (rR (x := 9)) rfl)) (gOk _ _ _ _ _) dX12_walk_4 (tX12_in _ _ _ _ _) wS_X12_in wM_X12_18 ⟨le_t rfl, le_t rfl⟩ ⟨le_t rfl, le_t rfl⟩ rfl (le_t rfl) fun z5 h4 => ?_
  refine mr_if_ne (tgt := 12) dX12_walk_7 (by decide) (r32 h4.1 rfl) (fun h6 => ?_) (fun h6 => ?_)
  · have h7 : 1 ≤ z5 ∧ z5 ≤ 1 := (vc_X12_walk_1 h6 h4.2.1 h4.2.2.1 hp1 h4.1)
    have h8 : (-1) ≤ p1 ∧ p1 ≤ 9 := (h4.2.1 (vc_X12_walk_2 h4.2.1 h4.2.2.1 h6 hp1 h7))
    have h9 : (-1) ≤ p1 ∧ p1 ≤ 9 := (vc_X12_walk_3 h8 h4.2.1 h4.2.2.1 hp1 h7)
    refine mr_iload_n (z := p1) dX12_walk_12 rfl rfl ?_
    refine mr_iconst (z := (-1)) dX12_walk_13 ?_
    refine mr_icmp_ne (tgt := 24) dX12_walk_14 (by decide) (r32 h9 rfl) (r32 (rR (x := (-1))) rfl) (fun h10 => ?_) (fun h10 => ?_)
    · have h11 : 0 ≤ p1 ∧ p1 ≤ 9 := (vc_X12_walk_4 h10 h4.2.1 h4.2.2.1 h8 h7)
      refine sv_aload_n dX12_walk_24 rfl rfl ?_
      refine gf_X12_15 dX12_walk_25 wF_X12_79 (A_106 hw) hT fun z12 q13 h14 => ?_
      refine mr_bipush (z := 20) dX12_walk_28 (by decide) ?_
      refine mr_icmp_ne (tgt := 36) dX12_walk_30 (by decide) (r32 h14 rfl) (r32 (rR (x := 20)) rfl) (fun h15 => ?_) (fun h15 => ?_)
      · have h16 : 0 ≤ z12 ∧ z12 ≤ 19 := (vc_X12_walk_5 h15 h14)
        refine sv_aload_n dX12_walk_36 rfl rfl ?_
        refine gf_X12_16 dX12_walk_37 wF_X12_82 (A_106 hw) hT ?_
        refine sv_aload_n dX12_walk_40 rfl rfl ?_
        refine gk_X12_15 dX12_walk_41 wF_X12_79 (A_106 hw) q13 ?_
        refine mr_iload_n (z := p1) dX12_walk_44 rfl rfl ?_
        refine ss_118 dX12_walk_45 (A_118 hw) hT (rIx (n := 20) h16 rfl) h11 fun μ17 u18 T19 => ?_
        refine sv_aload_n dX12_walk_46 rfl rfl ?_
        refine sv_dup dX12_walk_47 rfl ?_
        refine gk_X12_15 dX12_walk_48 wF_X12_79 (A_106 hw) (u18.f (Or.inl (mAt.ne (A_118 hw) (A_106 hw) rfl)) q13) ?_
        refine mr_iconst (z := 1) dX12_walk_51 ?_
        refine mr_iadd (x := z12) (y := 1) dX12_walk_52 ?_
        refine pf_X12_15 dX12_walk_53 wF_X12_79 (A_106 hw) T19 (rW (c := 0) (d := 20) (rAdd (e := 1) (f := 20) h16 (rR (x := 1)) rfl) rfl) fun μ20 u21 T22 => ?_
        refine sv_aload_n dX12_walk_56 rfl rfl ?_
        refine gk_X12_15 dX12_walk_57 wF_X12_79 (A_106 hw) u21.1 ?_
        exact mr_iret dX12_walk_60 rfl (le_t rfl) (le_t rfl) T22 (mF.up (mF.up mF.refl (A_118 hw) u18 rfl) (A_106 hw) u21 rfl) ⟨(rW (c := (-2147483648)) (d := 2147483647) (rAdd (e := 1) (f := 20) h16 (rR (x := 1)) rfl) rfl), trivial⟩
      have h23 : 20 ≤ z12 ∧ z12 ≤ 20 := (vc_X12_walk_6 h15 h14)
      refine mr_bipush (z := (-3)) dX12_walk_33 (by decide) ?_
      exact mr_iret dX12_walk_35 rfl (le_t rfl) (le_t rfl) hT mF.refl ⟨(rW (c := (-2147483648)) (d := 2147483647) (rR (x := (-3))) rfl), trivial⟩
    have h24 : (-1) ≤ p1 ∧ p1 ≤ (-1) := (vc_X12_walk_7 h10 h4.2.1 h4.2.2.1 h8 h7)
    refine sv_aload_n dX12_walk_17 rfl rfl ?_
    refine mr_iconst (z := 0) dX12_walk_18 ?_
    refine pf_X12_15 dX12_walk_19 wF_X12_79 (A_106 hw) hT (rW (c := 0) (d := 20) (rR (x := 0)) rfl) fun μ25 u26 T27 => ?_
    refine mr_iconst (z := 0) dX12_walk_22 ?_
    exact mr_iret dX12_walk_23 rfl (le_t rfl) (le_t rfl) T27 (mF.up mF.refl (A_106 hw) u26 rfl) ⟨(rW (c := (-2147483648)) (d := 2147483647) (rR (x := 0)) rfl), trivial⟩
  have h28 : 0 ≤ z5 ∧ z5 ≤ 0 := (vc_X12_walk_8 h6 h4.2.1 h4.2.2.1 hp1 h4.1)
  have h29 : p1 < (-1) ∨ 9 < p1 := (h4.2.2.1 (vc_X12_walk_9 h4.2.1 h4.2.2.1 h6 hp1 h28))
  refine mr_iconst (z := (-1)) dX12_walk_10 ?_
  exact mr_iret dX12_walk_11 rfl (le_t rfl) (le_t rfl) hT mF.refl ⟨(rW (c := (-2147483648)) (d := 2147483647) (rR (x := (-1))) rfl), trivial⟩
theorem vc_X12_letWay_1 {z373 : Int} (h0 : (20 - z373) < ((0 : Nat) : Int)) (h1 : 0 ≤ z373 ∧ z373 ≤ 19) : False := by omega
theorem vc_X12_letWay_2 {z373 z383 : Int} (h0 : (z373 + 1) < z383) (h1 : 0 ≤ z373 ∧ z373 ≤ 19) (h2 : 0 ≤ z383 ∧ z383 ≤ 20) : 0 ≤ z373 ∧ z373 ≤ 18 := by omega
theorem vc_X12_letWay_3 {z373 z383 : Int} (h0 : (z373 + 1) < z383) (h1 : 0 ≤ z373 ∧ z373 ≤ 18) (h2 : 0 ≤ z383 ∧ z383 ≤ 20) : 2 ≤ z383 ∧ z383 ≤ 20 := by omega
theorem vc_X12_letWay_4 {z399 : Int} (h0 : ¬ z399 = (-99999999)) (h1 : z399 = -99999999 ∨ (0 ≤ z399 ∧ z399 ≤ 19)) (h2 : (-99999999) ≤ z399 ∧ z399 ≤ 19) : 0 ≤ z399 ∧ z399 ≤ 19 := by omega
theorem vc_X12_letWay_5 {z402 : Int} (h0 : ¬ z402 = 2) (h1 : 0 ≤ z402 ∧ z402 ≤ 2) : 0 ≤ z402 ∧ z402 ≤ 1 := by omega
theorem vc_X12_letWay_6 {z374 : Int} (h0 : z374 = 0) (h1 : 0 ≤ z374 ∧ z374 ≤ 1) : 0 ≤ z374 ∧ z374 ≤ 0 := by omega
theorem vc_X12_letWay_7 {z402 : Int} (h0 : z402 = 1) (h1 : ¬ z402 = 2) (h2 : 0 ≤ z402 ∧ z402 ≤ 1) : 1 ≤ z402 ∧ z402 ≤ 1 := by omega
theorem vc_X12_letWay_8 {N z373 z383 : Int} (h0 : (20 - z373) < N + 1) (h1 : (z373 + 1) < z383) (h2 : 0 ≤ z373 ∧ z373 ≤ 18) (h3 : 2 ≤ z383 ∧ z383 ≤ 20) : (20 - (z373 + 1)) < N := by omega
theorem vc_X12_letWay_9 {z402 : Int} (h0 : ¬ z402 = 1) (h1 : ¬ z402 = 2) (h2 : 0 ≤ z402 ∧ z402 ≤ 1) : 0 ≤ z402 ∧ z402 ≤ 0 := by omega
theorem vc_X12_letWay_10 {z412 : Int} (h0 : z412 = 0) (h1 : 0 ≤ z412 ∧ z412 ≤ 1) : 0 ≤ z412 ∧ z412 ≤ 0 := by omega
theorem vc_X12_letWay_11 {z412 : Int} (h0 : ¬ z412 = 0) (h1 : 0 ≤ z412 ∧ z412 ≤ 1) : 1 ≤ z412 ∧ z412 ≤ 1 := by omega
theorem vc_X12_letWay_12 {z374 : Int} (h0 : ¬ z374 = 0) (h1 : 0 ≤ z374 ∧ z374 ≤ 1) : 1 ≤ z374 ∧ z374 ≤ 1 := by omega
theorem vc_X12_letWay_13 {z412 : Int} (h0 : z412 = 0) (h1 : 1 ≤ z412 ∧ z412 ≤ 1) : False := by omega
theorem vc_X12_letWay_14 {z402 : Int} (h0 : ¬ z402 = 0) (h1 : ¬ z402 = 2) (h2 : 0 ≤ z402 ∧ z402 ≤ 1) : 1 ≤ z402 ∧ z402 ≤ 1 := by omega
theorem vc_X12_letWay_15 {z402 : Int} (h0 : z402 = 0) (h1 : ¬ z402 = 2) (h2 : 0 ≤ z402 ∧ z402 ≤ 1) : 0 ≤ z402 ∧ z402 ≤ 0 := by omega
theorem vc_X12_letWay_16 {z402 : Int} (h0 : z402 = 2) (h1 : 0 ≤ z402 ∧ z402 ≤ 2) : 2 ≤ z402 ∧ z402 ≤ 2 := by omega
theorem vc_X12_letWay_17 {z399 : Int} (h0 : z399 = (-99999999)) (h1 : z399 = -99999999 ∨ (0 ≤ z399 ∧ z399 ≤ 19)) (h2 : (-99999999) ≤ z399 ∧ z399 ≤ 19) : (-99999999) ≤ z399 ∧ z399 ≤ (-99999999) := by omega
theorem vc_X12_letWay_18  : (20 - 0) < ((21 : Nat) : Int) := by omega
set_option maxRecDepth 4000 in
set_option maxHeartbeats 4000000 in
theorem c_X12_letWay {l : Launch} {D : va_G} {c : Nat → ClassId} {H0 : Heap} {sa : Nat × Nat × (Nat → Int32)} {w : mW} {μ : mM} (hw : mWF w) (hT : mT w μ) : sC (gG l D c H0 sa) mX12_letWay 2 0 0 [.ref 106] (mk w μ) (qP w μ (fun z => ((-2147483648) ≤ z ∧ z ≤ 2147483647) ∧ True)) := by
  refine sC.of rfl (by decide) (le_t rfl) ?_
  refine mr_lvE (lv' := [(0, .ref 106)]) rfl ?_
  refine mr_iconst (z := 0) dX12_letWay_0 ?_
  refine mr_istore_n (lv' := [(1, iv 0), (0, .ref 106)]) dX12_letWay_1 rfl (by decide) rfl ?_
  refine mr_iconst (z := 0) dX12_letWay_2 ?_
  refine mr_istore_n (lv' := [(2, iv 0), (1, iv 0), (0, .ref 106)]) dX12_letWay_3 rfl (by decide) rfl ?_
  have L375 : ∀ (nL375 : Nat) (z374 z373 : Int), True → (0 ≤ z374 ∧ z374 ≤ 1) → (0 ≤ z373 ∧ z373 ≤ 19) → (20 - z373) < (nL375 : Int) → sV (gG l D c H0 sa) mX12_letWay (sRm 2 0 0) (sZ (gG l D c H0 sa) 0 0 (qP w μ (fun z => ((-2147483648) ≤ z ∧ z ≤ 2147483647) ∧ True))) 4 [(0, .ref 106), (1, iv z374), (2, iv z373)] [] (mk w μ) 0 0 := by
    intro nL375
    induction nL375 with
    | zero => intro z374 z373 _ h376 h377 h381; exact ((vc_X12_letWay_1 h381 h377)).elim
    | succ nL375 ih382 =>
      intro z374 z373 _ h376 h377 h381
      refine mr_iload_n (z := z373) dX12_letWay_4 rfl rfl ?_
      refine mr_iconst (z := 1) dX12_letWay_5 ?_
      refine mr_iadd (x := z373) (y := 1) dX12_letWay_6 ?_
      refine sv_aload_n dX12_letWay_7 rfl rfl ?_
      refine gf_X12_15 dX12_letWay_8 wF_X12_79 (A_106 hw) hT fun z383 q384 h385 => ?_
      refine mr_icmp_ge (tgt := 125) dX12_letWay_11 (by decide) (r32 (rAdd (e := 1) (f := 20) h377 (rR (x := 1)) rfl) rfl) (r32 h385 rfl) (fun h386 => ?_) (fun h386 => ?_)
      · refine mr_iconst (z := 0) dX12_letWay_125 ?_
        exact mr_iretP dX12_letWay_126 rfl (le_t rfl) (le_t rfl) ⟨(rW (c := (-2147483648)) (d := 2147483647) (rR (x := 0)) rfl), trivial⟩
      have h387 : 0 ≤ z373 ∧ z373 ≤ 18 := (vc_X12_letWay_2 h386 h377 h385)
      have h388 : 2 ≤ z383 ∧ z383 ≤ 20 := (vc_X12_letWay_3 h386 h387 h385)
      refine sv_aload_n dX12_letWay_14 rfl rfl ?_
      refine sv_aload_n dX12_letWay_15 rfl rfl ?_
      refine gf_X12_16 dX12_letWay_16 wF_X12_82 (A_106 hw) hT ?_
      refine mr_iload_n (z := z373) dX12_letWay_19 rfl rfl ?_
      refine la_118 dX12_letWay_20 (A_118 hw) hT (rIx (n := 20) h387 rfl) fun z389 q390 h391 => ?_
      refine sv_aload_n dX12_letWay_21 rfl rfl ?_
      refine gf_X12_16 dX12_letWay_22 wF_X12_82 (A_106 hw) hT ?_
      refine mr_iload_n (z := z373) dX12_letWay_25 rfl rfl ?_
      refine mr_iconst (z := 1) dX12_letWay_26 ?_
      refine mr_iadd (x := z373) (y := 1) dX12_letWay_27 ?_
      refine la_118 dX12_letWay_28 (A_118 hw) hT (rIx (n := 20) (rAdd (e := 1) (f := 19) h387 (rR (x := 1)) rfl) rfl) fun z392 q393 h394 => ?_
      refine mr_cVP (c_X12_tieOf hw hT (rW (c := (-2147483648)) (d := 2147483647) h391 rfl) (rW (c := (-2147483648)) (d := 2147483647) h394 rfl)) (gOk _ _ _ _ _) dX12_letWay_29 (tX12_tieOf _ _ _ _ _) ⟨wV_X12_tieOf, wL_X12_tieOf⟩ wM_X12_43 (gCX12 _ _ _ _ _) rfl (A_106 hw) rfl ⟨le_t rfl, le_t rfl⟩ ⟨le_t rfl, le_t rfl⟩ rfl (le_t rfl) fun z399 h398 => ?_
      refine mr_istore_n (lv' := [(3, iv z399), (0, .ref 106), (1, iv z374), (2, iv z373)]) dX12_letWay_32 rfl (by decide) rfl ?_
      refine mr_iload_n (z := z399) dX12_letWay_33 rfl rfl ?_
      refine mr_ldc (z := (-99999999)) dX12_letWay_34 wG_X12_29 (by decide) ?_
      refine mr_icmp_ne (tgt := 43) dX12_letWay_36 (by decide) (r32 h398.1 rfl) (r32 (rR (x := (-99999999))) rfl) (fun h400 => ?_) (fun h400 => ?_)
      · have h401 : 0 ≤ z399 ∧ z399 ≤ 19 := (vc_X12_letWay_4 h400 h398.2.1 h398.1)
        refine sv_aload_n dX12_letWay_43 rfl rfl ?_
        refine gf_X12_8 dX12_letWay_44 wF_X12_46 (A_106 hw) hT ?_
        refine mr_iload_n (z := z399) dX12_letWay_47 rfl rfl ?_
        refine la_111 dX12_letWay_48 (A_111 hw) hT (rIx (n := 20) h401 rfl) fun z402 q403 h404 => ?_
        refine mr_iconst (z := 2) dX12_letWay_49 ?_
        refine mr_icmp_ne (tgt := 56) dX12_letWay_50 (by decide) (r32 h404 rfl) (r32 (rR (x := 2)) rfl) (fun h405 => ?_) (fun h405 => ?_)
        · have h406 : 0 ≤ z402 ∧ z402 ≤ 1 := (vc_X12_letWay_5 h405 h404)
          refine sv_aload_n dX12_letWay_56 rfl rfl ?_
          refine gf_X12_8 dX12_letWay_57 wF_X12_46 (A_106 hw) hT ?_
          refine mr_iload_n (z := z399) dX12_letWay_60 rfl rfl ?_
          refine lk_111 dX12_letWay_61 (A_111 hw) (rIx (n := 20) h401 rfl) q403 ?_
          have J414 : ∀ (z412 : Int), (0 ≤ z412 ∧ z412 ≤ 1) → sV (gG l D c H0 sa) mX12_letWay (sRm 2 0 0) (sZ (gG l D c H0 sa) 0 0 (qP w μ (fun z => ((-2147483648) ≤ z ∧ z ≤ 2147483647) ∧ True))) 87 [(0, .ref 106), (1, iv z374), (2, iv z373), (3, iv z399)] [iv z412] (mk w μ) 0 0 := by
            intro z412 h413
            refine mr_istore (lv' := [(4, iv z412), (0, .ref 106), (1, iv z374), (2, iv z373), (3, iv z399)]) dX12_letWay_87 (by decide) rfl ?_
            refine mr_iload_n (z := z374) dX12_letWay_89 rfl rfl ?_
            refine mr_if_eq (tgt := 102) dX12_letWay_90 (by decide) (r32 h376 rfl) (fun h415 => ?_) (fun h415 => ?_)
            · have h416 : 0 ≤ z374 ∧ z374 ≤ 0 := (vc_X12_letWay_6 h415 h376)
              refine sv_aload_n dX12_letWay_102 rfl rfl ?_
              refine gf_X12_8 dX12_letWay_103 wF_X12_46 (A_106 hw) hT ?_
              refine mr_iload_n (z := z399) dX12_letWay_106 rfl rfl ?_
              refine lk_111 dX12_letWay_107 (A_111 hw) (rIx (n := 20) h401 rfl) q403 ?_
              refine mr_iconst (z := 1) dX12_letWay_108 ?_
              refine mr_icmp_eq (tgt := 117) dX12_letWay_109 (by decide) (r32 h406 rfl) (r32 (rR (x := 1)) rfl) (fun h421 => ?_) (fun h421 => ?_)
              · have h422 : 1 ≤ z402 ∧ z402 ≤ 1 := (vc_X12_letWay_7 h421 h405 h406)
                refine mr_iconst (z := 1) dX12_letWay_117 ?_
                refine mr_istore_n (lv' := [(1, iv 1), (4, iv z412), (0, .ref 106), (2, iv z373), (3, iv z399)]) dX12_letWay_118 rfl (by decide) rfl ?_
                refine mr_iinc (lv' := [(2, iv (z373 + 1)), (1, iv 1), (4, iv z412), (0, .ref 106), (3, iv z399)]) dX12_letWay_119 rfl (by decide) rfl ?_
                refine sv_goto (tgt := 4) dX12_letWay_122 (by decide) ?_
                refine mr_lvS (lv' := [(0, .ref 106), (1, iv 1), (2, iv (z373 + 1))]) (List.forall_mem_cons.mpr ⟨rfl, List.forall_mem_cons.mpr ⟨rfl, List.forall_mem_cons.mpr ⟨rfl, fun _ h => absurd h List.not_mem_nil⟩⟩⟩) ?_
                exact ih382 1 (z373 + 1) trivial (rW (c := 0) (d := 1) (rR (x := 1)) rfl) (rW (c := 0) (d := 19) (rAdd (e := 1) (f := 19) h387 (rR (x := 1)) rfl) rfl) (vc_X12_letWay_8 (nS h381) h386 h387 h388)
              have h423 : 0 ≤ z402 ∧ z402 ≤ 0 := (vc_X12_letWay_9 h421 h405 h406)
              refine mr_iload (z := z412) dX12_letWay_112 rfl ?_
              refine mr_if_eq (tgt := 119) dX12_letWay_114 (by decide) (r32 h413 rfl) (fun h426 => ?_) (fun h426 => ?_)
              · have h427 : 0 ≤ z412 ∧ z412 ≤ 0 := (vc_X12_letWay_10 h426 h413)
                refine mr_iinc (lv' := [(2, iv (z373 + 1)), (4, iv z412), (0, .ref 106), (1, iv z374), (3, iv z399)]) dX12_letWay_119 rfl (by decide) rfl ?_
                refine sv_goto (tgt := 4) dX12_letWay_122 (by decide) ?_
                refine mr_lvS (lv' := [(0, .ref 106), (1, iv z374), (2, iv (z373 + 1))]) (List.forall_mem_cons.mpr ⟨rfl, List.forall_mem_cons.mpr ⟨rfl, List.forall_mem_cons.mpr ⟨rfl, fun _ h => absurd h List.not_mem_nil⟩⟩⟩) ?_
                exact ih382 z374 (z373 + 1) trivial (rW (c := 0) (d := 1) h416 rfl) (rW (c := 0) (d := 19) (rAdd (e := 1) (f := 19) h387 (rR (x := 1)) rfl) rfl) (vc_X12_letWay_8 (nS h381) h386 h387 h388)
              have h428 : 1 ≤ z412 ∧ z412 ≤ 1 := (vc_X12_letWay_11 h426 h413)
              refine mr_iconst (z := 1) dX12_letWay_117 ?_
              refine mr_istore_n (lv' := [(1, iv 1), (4, iv z412), (0, .ref 106), (2, iv z373), (3, iv z399)]) dX12_letWay_118 rfl (by decide) rfl ?_
              refine mr_iinc (lv' := [(2, iv (z373 + 1)), (1, iv 1), (4, iv z412), (0, .ref 106), (3, iv z399)]) dX12_letWay_119 rfl (by decide) rfl ?_
              refine sv_goto (tgt := 4) dX12_letWay_122 (by decide) ?_
              refine mr_lvS (lv' := [(0, .ref 106), (1, iv 1), (2, iv (z373 + 1))]) (List.forall_mem_cons.mpr ⟨rfl, List.forall_mem_cons.mpr ⟨rfl, List.forall_mem_cons.mpr ⟨rfl, fun _ h => absurd h List.not_mem_nil⟩⟩⟩) ?_
              exact ih382 1 (z373 + 1) trivial (rW (c := 0) (d := 1) (rR (x := 1)) rfl) (rW (c := 0) (d := 19) (rAdd (e := 1) (f := 19) h387 (rR (x := 1)) rfl) rfl) (vc_X12_letWay_8 (nS h381) h386 h387 h388)
            have h429 : 1 ≤ z374 ∧ z374 ≤ 1 := (vc_X12_letWay_12 h415 h376)
            refine mr_iload (z := z412) dX12_letWay_93 rfl ?_
            refine mr_if_ne (tgt := 102) dX12_letWay_95 (by decide) (r32 h413 rfl) (fun h430 => ?_) (fun h430 => ?_)
            · have h431 : 1 ≤ z412 ∧ z412 ≤ 1 := (vc_X12_letWay_11 h430 h413)
              refine sv_aload_n dX12_letWay_102 rfl rfl ?_
              refine gf_X12_8 dX12_letWay_103 wF_X12_46 (A_106 hw) hT ?_
              refine mr_iload_n (z := z399) dX12_letWay_106 rfl rfl ?_
              refine lk_111 dX12_letWay_107 (A_111 hw) (rIx (n := 20) h401 rfl) q403 ?_
              refine mr_iconst (z := 1) dX12_letWay_108 ?_
              refine mr_icmp_eq (tgt := 117) dX12_letWay_109 (by decide) (r32 h406 rfl) (r32 (rR (x := 1)) rfl) (fun h434 => ?_) (fun h434 => ?_)
              · have h435 : 1 ≤ z402 ∧ z402 ≤ 1 := (vc_X12_letWay_7 h434 h405 h406)
                refine mr_iconst (z := 1) dX12_letWay_117 ?_
                refine mr_istore_n (lv' := [(1, iv 1), (4, iv z412), (0, .ref 106), (2, iv z373), (3, iv z399)]) dX12_letWay_118 rfl (by decide) rfl ?_
                refine mr_iinc (lv' := [(2, iv (z373 + 1)), (1, iv 1), (4, iv z412), (0, .ref 106), (3, iv z399)]) dX12_letWay_119 rfl (by decide) rfl ?_
                refine sv_goto (tgt := 4) dX12_letWay_122 (by decide) ?_
                refine mr_lvS (lv' := [(0, .ref 106), (1, iv 1), (2, iv (z373 + 1))]) (List.forall_mem_cons.mpr ⟨rfl, List.forall_mem_cons.mpr ⟨rfl, List.forall_mem_cons.mpr ⟨rfl, fun _ h => absurd h List.not_mem_nil⟩⟩⟩) ?_
                exact ih382 1 (z373 + 1) trivial (rW (c := 0) (d := 1) (rR (x := 1)) rfl) (rW (c := 0) (d := 19) (rAdd (e := 1) (f := 19) h387 (rR (x := 1)) rfl) rfl) (vc_X12_letWay_8 (nS h381) h386 h387 h388)
              have h436 : 0 ≤ z402 ∧ z402 ≤ 0 := (vc_X12_letWay_9 h434 h405 h406)
              refine mr_iload (z := z412) dX12_letWay_112 rfl ?_
              refine mr_if_eq (tgt := 119) dX12_letWay_114 (by decide) (r32 h431 rfl) (fun h => ((vc_X12_letWay_13 h h431)).elim) (fun _ => ?_)
              refine mr_iconst (z := 1) dX12_letWay_117 ?_
              refine mr_istore_n (lv' := [(1, iv 1), (4, iv z412), (0, .ref 106), (2, iv z373), (3, iv z399)]) dX12_letWay_118 rfl (by decide) rfl ?_
              refine mr_iinc (lv' := [(2, iv (z373 + 1)), (1, iv 1), (4, iv z412), (0, .ref 106), (3, iv z399)]) dX12_letWay_119 rfl (by decide) rfl ?_
              refine sv_goto (tgt := 4) dX12_letWay_122 (by decide) ?_
              refine mr_lvS (lv' := [(0, .ref 106), (1, iv 1), (2, iv (z373 + 1))]) (List.forall_mem_cons.mpr ⟨rfl, List.forall_mem_cons.mpr ⟨rfl, List.forall_mem_cons.mpr ⟨rfl, fun _ h => absurd h List.not_mem_nil⟩⟩⟩) ?_
              exact ih382 1 (z373 + 1) trivial (rW (c := 0) (d := 1) (rR (x := 1)) rfl) (rW (c := 0) (d := 19) (rAdd (e := 1) (f := 19) h387 (rR (x := 1)) rfl) rfl) (vc_X12_letWay_8 (nS h381) h386 h387 h388)
            have h437 : 0 ≤ z412 ∧ z412 ≤ 0 := (vc_X12_letWay_10 h430 h413)
            refine mr_iload_n (z := z373) dX12_letWay_98 rfl rfl ?_
            refine mr_iconst (z := 1) dX12_letWay_99 ?_
            refine mr_iadd (x := z373) (y := 1) dX12_letWay_100 ?_
            exact mr_iretP dX12_letWay_101 rfl (le_t rfl) (le_t rfl) ⟨(rW (c := (-2147483648)) (d := 2147483647) (rAdd (e := 1) (f := 19) h387 (rR (x := 1)) rfl) rfl), trivial⟩
          refine mr_if_ne (tgt := 86) dX12_letWay_62 (by decide) (r32 h406 rfl) (fun h438 => ?_) (fun h438 => ?_)
          · have h439 : 1 ≤ z402 ∧ z402 ≤ 1 := (vc_X12_letWay_14 h438 h405 h406)
            refine mr_iconst (z := 0) dX12_letWay_86 ?_
            refine mr_lvS (lv' := [(0, .ref 106), (1, iv z374), (2, iv z373), (3, iv z399)]) (List.forall_mem_cons.mpr ⟨rfl, List.forall_mem_cons.mpr ⟨rfl, List.forall_mem_cons.mpr ⟨rfl, List.forall_mem_cons.mpr ⟨rfl, fun _ h => absurd h List.not_mem_nil⟩⟩⟩⟩) ?_
            exact J414 0 (rW (c := 0) (d := 1) (rR (x := 0)) rfl)
          have h440 : 0 ≤ z402 ∧ z402 ≤ 0 := (vc_X12_letWay_15 h438 h405 h406)
          refine sv_aload_n dX12_letWay_65 rfl rfl ?_
          refine gf_X12_7 dX12_letWay_66 wF_X12_40 (A_106 hw) hT ?_
          refine mr_iconst (z := 2) dX12_letWay_69 ?_
          refine mr_iload_n (z := z399) dX12_letWay_70 rfl rfl ?_
          refine mr_imul (x := 2) (y := z399) dX12_letWay_71 ?_
          refine la_110 dX12_letWay_72 (A_110 hw) hT (rIx (n := 40) (rMulL (n := 2) (e := 0) (f := 38) h401 rfl) rfl) fun z441 q442 h443 => ?_
          refine sv_aload_n dX12_letWay_73 rfl rfl ?_
          refine gf_X12_16 dX12_letWay_74 wF_X12_82 (A_106 hw) hT ?_
          refine mr_iload_n (z := z373) dX12_letWay_77 rfl rfl ?_
          refine lk_118 dX12_letWay_78 (A_118 hw) (rIx (n := 20) h387 rfl) q390 ?_
          refine mr_icmp_ne (tgt := 86) dX12_letWay_79 (by decide) (r32 h443 rfl) (r32 h391 rfl) (fun h444 => ?_) (fun h444 => ?_)
          · refine mr_iconst (z := 0) dX12_letWay_86 ?_
            refine mr_lvS (lv' := [(0, .ref 106), (1, iv z374), (2, iv z373), (3, iv z399)]) (List.forall_mem_cons.mpr ⟨rfl, List.forall_mem_cons.mpr ⟨rfl, List.forall_mem_cons.mpr ⟨rfl, List.forall_mem_cons.mpr ⟨rfl, fun _ h => absurd h List.not_mem_nil⟩⟩⟩⟩) ?_
            exact J414 0 (rW (c := 0) (d := 1) (rR (x := 0)) rfl)
          refine mr_iconst (z := 1) dX12_letWay_82 ?_
          refine sv_goto (tgt := 87) dX12_letWay_83 (by decide) ?_
          refine mr_lvS (lv' := [(0, .ref 106), (1, iv z374), (2, iv z373), (3, iv z399)]) (List.forall_mem_cons.mpr ⟨rfl, List.forall_mem_cons.mpr ⟨rfl, List.forall_mem_cons.mpr ⟨rfl, List.forall_mem_cons.mpr ⟨rfl, fun _ h => absurd h List.not_mem_nil⟩⟩⟩⟩) ?_
          exact J414 1 (rW (c := 0) (d := 1) (rR (x := 1)) rfl)
        have h445 : 2 ≤ z402 ∧ z402 ≤ 2 := (vc_X12_letWay_16 h405 h404)
        refine sv_goto (tgt := 119) dX12_letWay_53 (by decide) ?_
        refine mr_iinc (lv' := [(2, iv (z373 + 1)), (3, iv z399), (0, .ref 106), (1, iv z374)]) dX12_letWay_119 rfl (by decide) rfl ?_
        refine sv_goto (tgt := 4) dX12_letWay_122 (by decide) ?_
        refine mr_lvS (lv' := [(0, .ref 106), (1, iv z374), (2, iv (z373 + 1))]) (List.forall_mem_cons.mpr ⟨rfl, List.forall_mem_cons.mpr ⟨rfl, List.forall_mem_cons.mpr ⟨rfl, fun _ h => absurd h List.not_mem_nil⟩⟩⟩) ?_
        exact ih382 z374 (z373 + 1) trivial h376 (rW (c := 0) (d := 19) (rAdd (e := 1) (f := 19) h387 (rR (x := 1)) rfl) rfl) (vc_X12_letWay_8 (nS h381) h386 h387 h388)
      have h446 : (-99999999) ≤ z399 ∧ z399 ≤ (-99999999) := (vc_X12_letWay_17 h400 h398.2.1 h398.1)
      refine mr_iload_n (z := z373) dX12_letWay_39 rfl rfl ?_
      refine mr_iconst (z := 1) dX12_letWay_40 ?_
      refine mr_iadd (x := z373) (y := 1) dX12_letWay_41 ?_
      exact mr_iretP dX12_letWay_42 rfl (le_t rfl) (le_t rfl) ⟨(rW (c := (-2147483648)) (d := 2147483647) (rAdd (e := 1) (f := 19) h387 (rR (x := 1)) rfl) rfl), trivial⟩
  refine mr_lvS (lv' := [(0, .ref 106), (1, iv 0), (2, iv 0)]) (List.forall_mem_cons.mpr ⟨rfl, List.forall_mem_cons.mpr ⟨rfl, List.forall_mem_cons.mpr ⟨rfl, fun _ h => absurd h List.not_mem_nil⟩⟩⟩) ?_
  exact L375 21 0 0 trivial (rW (c := 0) (d := 1) (rR (x := 0)) rfl) (rW (c := 0) (d := 19) (rR (x := 0)) rfl) vc_X12_letWay_18
theorem vc_X12_judgedAnew_1 {z745 : Int} (h0 : (31 - z745) < ((0 : Nat) : Int)) (h1 : 0 ≤ z745 ∧ z745 ≤ 30) : False := by omega
theorem vc_X12_judgedAnew_2 {z745 z755 : Int} (h0 : z745 < z755) (h1 : 0 ≤ z745 ∧ z745 ≤ 30) (h2 : 0 ≤ z755 ∧ z755 ≤ 30) : 0 ≤ z745 ∧ z745 ≤ 29 := by omega
theorem vc_X12_judgedAnew_3 {z745 z755 : Int} (h0 : z745 < z755) (h1 : 0 ≤ z745 ∧ z745 ≤ 29) (h2 : 0 ≤ z755 ∧ z755 ≤ 30) : 1 ≤ z755 ∧ z755 ≤ 30 := by omega
theorem vc_X12_judgedAnew_4 {z848 : Int} (h0 : z848 = 0) (h1 : 0 ≤ z848 ∧ z848 ≤ 1) : 0 ≤ z848 ∧ z848 ≤ 0 := by omega
theorem vc_X12_judgedAnew_5 {N z745 z755 : Int} (h0 : (31 - z745) < N + 1) (h1 : z745 < z755) (h2 : 0 ≤ z745 ∧ z745 ≤ 29) (h3 : 1 ≤ z755 ∧ z755 ≤ 30) : (31 - (z745 + 1)) < N := by omega
theorem vc_X12_judgedAnew_6 {z848 : Int} (h0 : ¬ z848 = 0) (h1 : 0 ≤ z848 ∧ z848 ≤ 1) : 1 ≤ z848 ∧ z848 ≤ 1 := by omega
theorem vc_X12_judgedAnew_7 {z889 z892 : Int} (h0 : z892 < z889) (h1 : 0 ≤ z889 ∧ z889 ≤ 32) (h2 : 0 ≤ z892 ∧ z892 ≤ 32) : 1 ≤ z889 ∧ z889 ≤ 32 := by omega
theorem vc_X12_judgedAnew_8 {z889 z892 : Int} (h0 : z892 < z889) (h1 : 1 ≤ z889 ∧ z889 ≤ 32) (h2 : 0 ≤ z892 ∧ z892 ≤ 32) : 0 ≤ z892 ∧ z892 ≤ 31 := by omega
theorem vc_X12_judgedAnew_9 {z935 : Int} (h0 : ¬ z935 = 0) (h1 : 0 ≤ z935 ∧ z935 ≤ 1) : 1 ≤ z935 ∧ z935 ≤ 1 := by omega
theorem vc_X12_judgedAnew_10 {z889 z892 z966 : Int} (h0 : z966 < z892) (h1 : z889 ≤ z892) (h2 : 0 ≤ z889 ∧ z889 ≤ 32) (h3 : 0 ≤ z892 ∧ z892 ≤ 32) (h4 : (-2147483648) ≤ z966 ∧ z966 ≤ 2147483647) : (-2147483648) ≤ z966 ∧ z966 ≤ 31 := by omega
theorem vc_X12_judgedAnew_11 {z889 z892 z966 : Int} (h0 : z892 ≤ z966) (h1 : z889 ≤ z892) (h2 : 0 ≤ z889 ∧ z889 ≤ 32) (h3 : 0 ≤ z892 ∧ z892 ≤ 32) (h4 : (-2147483648) ≤ z966 ∧ z966 ≤ 2147483647) : 0 ≤ z966 ∧ z966 ≤ 2147483647 := by omega
theorem vc_X12_judgedAnew_12 {z746 : Int} (h0 : ¬ z746 = 2) (h1 : 0 ≤ z746 ∧ z746 ≤ 2) : 0 ≤ z746 ∧ z746 ≤ 1 := by omega
theorem vc_X12_judgedAnew_13 {z746 : Int} (h0 : z746 = 2) (h1 : 0 ≤ z746 ∧ z746 ≤ 2) : 2 ≤ z746 ∧ z746 ≤ 2 := by omega
theorem vc_X12_judgedAnew_14 {z935 : Int} (h0 : z935 = 0) (h1 : 0 ≤ z935 ∧ z935 ≤ 1) : 0 ≤ z935 ∧ z935 ≤ 0 := by omega
theorem vc_X12_judgedAnew_15 {p3 z827 : Int} (h0 : p3 < z827) (h1 : (-2147483648) ≤ p3 ∧ p3 ≤ 2147483647) (h2 : (-2147483648) ≤ z827 ∧ z827 ≤ 2147483647) : (-2147483647) ≤ z827 ∧ z827 ≤ 2147483647 := by omega
theorem vc_X12_judgedAnew_16 {p3 z827 : Int} (h0 : p3 < z827) (h1 : (-2147483648) ≤ p3 ∧ p3 ≤ 2147483647) (h2 : (-2147483647) ≤ z827 ∧ z827 ≤ 2147483647) : (-2147483648) ≤ p3 ∧ p3 ≤ 2147483646 := by omega
theorem vc_X12_judgedAnew_17 {p3 z827 z981 : Int} (h0 : p3 < z981) (h1 : z827 ≤ p3) (h2 : (-2147483648) ≤ p3 ∧ p3 ≤ 2147483647) (h3 : (-2147483648) ≤ z827 ∧ z827 ≤ 2147483647) (h4 : (-2147483648) ≤ z981 ∧ z981 ≤ 2147483647) : (-2147483648) ≤ p3 ∧ p3 ≤ 2147483646 := by omega
theorem vc_X12_judgedAnew_18 {p3 z827 z981 : Int} (h0 : p3 < z981) (h1 : z827 ≤ p3) (h2 : (-2147483648) ≤ p3 ∧ p3 ≤ 2147483646) (h3 : (-2147483648) ≤ z827 ∧ z827 ≤ 2147483647) (h4 : (-2147483648) ≤ z981 ∧ z981 ≤ 2147483647) : (-2147483647) ≤ z981 ∧ z981 ≤ 2147483647 := by omega
theorem vc_X12_judgedAnew_19 {p4 z987 : Int} (h0 : p4 < z987) (h1 : (-2147483648) ≤ p4 ∧ p4 ≤ 2147483647) (h2 : (-2147483648) ≤ z987 ∧ z987 ≤ 2147483647) : (-2147483647) ≤ z987 ∧ z987 ≤ 2147483647 := by omega
theorem vc_X12_judgedAnew_20 {p4 z987 : Int} (h0 : p4 < z987) (h1 : (-2147483648) ≤ p4 ∧ p4 ≤ 2147483647) (h2 : (-2147483647) ≤ z987 ∧ z987 ≤ 2147483647) : (-2147483648) ≤ p4 ∧ p4 ≤ 2147483646 := by omega
theorem vc_X12_judgedAnew_21 {z993 : Int} (h0 : z993 = (-99999999)) (h1 : (-2147483648) ≤ z993 ∧ z993 ≤ 2147483647) : (-99999999) ≤ z993 ∧ z993 ≤ (-99999999) := by omega
theorem vc_X12_judgedAnew_22 {p4 z987 z993 : Int} (h0 : p4 < z993) (h1 : z987 ≤ p4) (h2 : ¬ z993 = (-99999999)) (h3 : (-2147483648) ≤ p4 ∧ p4 ≤ 2147483647) (h4 : (-2147483648) ≤ z987 ∧ z987 ≤ 2147483647) (h5 : (-2147483648) ≤ z993 ∧ z993 ≤ 2147483647) : (-2147483648) ≤ p4 ∧ p4 ≤ 2147483646 := by omega
theorem vc_X12_judgedAnew_23 {p4 z987 z993 : Int} (h0 : p4 < z993) (h1 : z987 ≤ p4) (h2 : ¬ z993 = (-99999999)) (h3 : (-2147483648) ≤ p4 ∧ p4 ≤ 2147483646) (h4 : (-2147483648) ≤ z987 ∧ z987 ≤ 2147483647) (h5 : (-2147483648) ≤ z993 ∧ z993 ≤ 2147483647) : (-2147483647) ≤ z993 ∧ z993 ≤ 2147483647 := by omega
theorem vc_X12_judgedAnew_24  : (31 - 0) < ((32 : Nat) : Int) := by omega
set_option maxRecDepth 4000 in
set_option maxHeartbeats 4000000 in
theorem c_X12_judgedAnew {l : Launch} {D : va_G} {c : Nat → ClassId} {H0 : Heap} {sa : Nat × Nat × (Nat → Int32)} {w : mW} {μ : mM} (hw : mWF w) (hT : mT w μ) {p1 : Int} (hp1 : 0 ≤ p1 ∧ p1 ≤ 9) {p2 : Int} (hp2 : (-2147483648) ≤ p2 ∧ p2 ≤ 2147483647) {p3 : Int} (hp3 : (-2147483648) ≤ p3 ∧ p3 ≤ 2147483647) {p4 : Int} (hp4 : (-2147483648) ≤ p4 ∧ p4 ≤ 2147483647) : sC (gG l D c H0 sa) mX12_judgedAnew 3 0 0 [.ref 106, iv p1, iv p2, iv p3, iv p4] (mk w μ) (qP w μ (fun z => (0 ≤ z ∧ z ≤ 2) ∧ True)) := by
  refine sC.of rfl (by decide) (le_t rfl) ?_
  refine mr_lvE (lv' := [(0, .ref 106), (1, iv p1), (2, iv p2), (3, iv p3), (4, iv p4)]) rfl ?_
  refine mr_iconst (z := 2) dX12_judgedAnew_0 ?_
  refine mr_istore (lv' := [(5, iv 2), (0, .ref 106), (1, iv p1), (2, iv p2), (3, iv p3), (4, iv p4)]) dX12_judgedAnew_1 (by decide) rfl ?_
  refine mr_iconst (z := 0) dX12_judgedAnew_3 ?_
  refine mr_istore (lv' := [(6, iv 0), (5, iv 2), (0, .ref 106), (1, iv p1), (2, iv p2), (3, iv p3), (4, iv p4)]) dX12_judgedAnew_4 (by decide) rfl ?_
  have L747 : ∀ (nL747 : Nat) (z746 z745 : Int), True → (0 ≤ z746 ∧ z746 ≤ 2) → (0 ≤ z745 ∧ z745 ≤ 30) → (31 - z745) < (nL747 : Int) → sV (gG l D c H0 sa) mX12_judgedAnew (sRm 3 0 0) (sZ (gG l D c H0 sa) 0 0 (qP w μ (fun z => (0 ≤ z ∧ z ≤ 2) ∧ True))) 6 [(0, .ref 106), (1, iv p1), (2, iv p2), (3, iv p3), (4, iv p4), (5, iv z746), (6, iv z745)] [] (mk w μ) 0 0 := by
    intro nL747
    induction nL747 with
    | zero => intro z746 z745 _ h748 h749 h753; exact ((vc_X12_judgedAnew_1 h753 h749)).elim
    | succ nL747 ih754 =>
      intro z746 z745 _ h748 h749 h753
      refine mr_iload (z := z745) dX12_judgedAnew_6 rfl ?_
      refine sv_aload_n dX12_judgedAnew_8 rfl rfl ?_
      refine gf_X12_18 dX12_judgedAnew_9 wF_X12_95 (A_106 hw) hT fun z755 q756 h757 => ?_
      refine mr_icmp_ge (tgt := 184) dX12_judgedAnew_12 (by decide) (r32 h749 rfl) (r32 h757 rfl) (fun h821 => ?_) (fun h821 => ?_)
      · refine mr_iload (z := z746) dX12_judgedAnew_184 rfl ?_
        exact mr_iretP dX12_judgedAnew_186 rfl (le_t rfl) (le_t rfl) ⟨h748, trivial⟩
      have h822 : 0 ≤ z745 ∧ z745 ≤ 29 := (vc_X12_judgedAnew_2 h821 h749 h757)
      have h823 : 1 ≤ z755 ∧ z755 ≤ 30 := (vc_X12_judgedAnew_3 h821 h822 h757)
      refine sv_aload_n dX12_judgedAnew_15 rfl rfl ?_
      refine gf_X12_19 dX12_judgedAnew_16 wF_X12_98 (A_106 hw) hT ?_
      refine mr_iload (z := z745) dX12_judgedAnew_19 rfl ?_
      refine la_119 dX12_judgedAnew_21 (A_119 hw) hT (rIx (n := 30) h822 rfl) fun z824 q825 h826 => ?_
      refine mr_istore (lv' := [(7, iv z824), (0, .ref 106), (1, iv p1), (2, iv p2), (3, iv p3), (4, iv p4), (5, iv z746), (6, iv z745)]) dX12_judgedAnew_22 (by decide) rfl ?_
      refine sv_aload_n dX12_judgedAnew_24 rfl rfl ?_
      refine gf_X12_22 dX12_judgedAnew_25 wF_X12_107 (A_106 hw) hT ?_
      refine mr_iload (z := z745) dX12_judgedAnew_28 rfl ?_
      refine la_122 dX12_judgedAnew_30 (A_122 hw) hT (rIx (n := 30) h822 rfl) fun z827 q828 h829 => ?_
      refine mr_iload_n (z := p3) dX12_judgedAnew_31 rfl rfl ?_
      have J850 : ∀ (z848 : Int), (0 ≤ z848 ∧ z848 ≤ 1) → sV (gG l D c H0 sa) mX12_judgedAnew (sRm 3 0 0) (sZ (gG l D c H0 sa) 0 0 (qP w μ (fun z => (0 ≤ z ∧ z ≤ 2) ∧ True))) 87 [(0, .ref 106), (1, iv p1), (2, iv p2), (3, iv p3), (4, iv p4), (5, iv z746), (6, iv z745), (7, iv z824)] [iv z848] (mk w μ) 0 0 := by
        intro z848 h849
        refine mr_istore (lv' := [(8, iv z848), (0, .ref 106), (1, iv p1), (2, iv p2), (3, iv p3), (4, iv p4), (5, iv z746), (6, iv z745), (7, iv z824)]) dX12_judgedAnew_87 (by decide) rfl ?_
        refine mr_iload (z := z848) dX12_judgedAnew_89 rfl ?_
        refine mr_if_eq (tgt := 178) dX12_judgedAnew_91 (by decide) (r32 h849 rfl) (fun h886 => ?_) (fun h886 => ?_)
        · have h887 : 0 ≤ z848 ∧ z848 ≤ 0 := (vc_X12_judgedAnew_4 h886 h849)
          refine mr_iinc (lv' := [(6, iv (z745 + 1)), (8, iv z848), (0, .ref 106), (1, iv p1), (2, iv p2), (3, iv p3), (4, iv p4), (5, iv z746), (7, iv z824)]) dX12_judgedAnew_178 rfl (by decide) rfl ?_
          refine sv_goto (tgt := 6) dX12_judgedAnew_181 (by decide) ?_
          refine mr_lvS (lv' := [(0, .ref 106), (1, iv p1), (2, iv p2), (3, iv p3), (4, iv p4), (5, iv z746), (6, iv (z745 + 1))]) (List.forall_mem_cons.mpr ⟨rfl, List.forall_mem_cons.mpr ⟨rfl, List.forall_mem_cons.mpr ⟨rfl, List.forall_mem_cons.mpr ⟨rfl, List.forall_mem_cons.mpr ⟨rfl, List.forall_mem_cons.mpr ⟨rfl, List.forall_mem_cons.mpr ⟨rfl, fun _ h => absurd h List.not_mem_nil⟩⟩⟩⟩⟩⟩⟩) ?_
          exact ih754 z746 (z745 + 1) trivial h748 (rW (c := 0) (d := 30) (rAdd (e := 1) (f := 30) h822 (rR (x := 1)) rfl) rfl) (vc_X12_judgedAnew_5 (nS h753) h821 h822 h823)
        have h888 : 1 ≤ z848 ∧ z848 ≤ 1 := (vc_X12_judgedAnew_6 h886 h849)
        refine sv_aload_n dX12_judgedAnew_94 rfl rfl ?_
        refine gf_X12_4 dX12_judgedAnew_95 wF_X12_26 (A_106 hw) hT ?_
        refine mr_iload (z := z824) dX12_judgedAnew_98 rfl ?_
        refine la_109 dX12_judgedAnew_100 (A_109 hw) hT (rIx (n := 10) h826 rfl) fun z889 q890 h891 => ?_
        refine sv_aload_n dX12_judgedAnew_101 rfl rfl ?_
        refine gf_X12_4 dX12_judgedAnew_102 wF_X12_26 (A_106 hw) hT ?_
        refine mr_iload_n (z := p1) dX12_judgedAnew_105 rfl rfl ?_
        refine la_109 dX12_judgedAnew_106 (A_109 hw) hT (rIx (n := 10) hp1 rfl) fun z892 q893 h894 => ?_
        refine mr_icmp_gt (tgt := 178) dX12_judgedAnew_107 (by decide) (r32 h891 rfl) (r32 h894 rfl) (fun h922 => ?_) (fun h922 => ?_)
        · have h923 : 1 ≤ z889 ∧ z889 ≤ 32 := (vc_X12_judgedAnew_7 h922 h891 h894)
          have h924 : 0 ≤ z892 ∧ z892 ≤ 31 := (vc_X12_judgedAnew_8 h922 h923 h894)
          refine mr_iinc (lv' := [(6, iv (z745 + 1)), (8, iv z848), (0, .ref 106), (1, iv p1), (2, iv p2), (3, iv p3), (4, iv p4), (5, iv z746), (7, iv z824)]) dX12_judgedAnew_178 rfl (by decide) rfl ?_
          refine sv_goto (tgt := 6) dX12_judgedAnew_181 (by decide) ?_
          refine mr_lvS (lv' := [(0, .ref 106), (1, iv p1), (2, iv p2), (3, iv p3), (4, iv p4), (5, iv z746), (6, iv (z745 + 1))]) (List.forall_mem_cons.mpr ⟨rfl, List.forall_mem_cons.mpr ⟨rfl, List.forall_mem_cons.mpr ⟨rfl, List.forall_mem_cons.mpr ⟨rfl, List.forall_mem_cons.mpr ⟨rfl, List.forall_mem_cons.mpr ⟨rfl, List.forall_mem_cons.mpr ⟨rfl, fun _ h => absurd h List.not_mem_nil⟩⟩⟩⟩⟩⟩⟩) ?_
          exact ih754 z746 (z745 + 1) trivial h748 (rW (c := 0) (d := 30) (rAdd (e := 1) (f := 30) h822 (rR (x := 1)) rfl) rfl) (vc_X12_judgedAnew_5 (nS h753) h821 h822 h823)
        refine sv_aload_n dX12_judgedAnew_110 rfl rfl ?_
        refine gf_X12_3 dX12_judgedAnew_111 wF_X12_22 (A_106 hw) hT ?_
        refine mr_iload (z := z824) dX12_judgedAnew_114 rfl ?_
        refine la_108 dX12_judgedAnew_116 (A_108 hw) hT (rIx (n := 10) h826 rfl) fun z925 q926 h927 => ?_
        refine sv_aload_n dX12_judgedAnew_117 rfl rfl ?_
        refine gf_X12_4 dX12_judgedAnew_118 wF_X12_26 (A_106 hw) hT ?_
        refine mr_iload (z := z824) dX12_judgedAnew_121 rfl ?_
        refine lk_109 dX12_judgedAnew_123 (A_109 hw) (rIx (n := 10) h826 rfl) q890 ?_
        refine sv_aload_n dX12_judgedAnew_124 rfl rfl ?_
        refine gf_X12_3 dX12_judgedAnew_125 wF_X12_22 (A_106 hw) hT ?_
        refine mr_iload_n (z := p1) dX12_judgedAnew_128 rfl rfl ?_
        refine la_108 dX12_judgedAnew_129 (A_108 hw) hT (rIx (n := 10) hp1 rfl) fun z928 q929 h930 => ?_
        refine mr_cSP (c_X12_holds hw hT h927 h891 h930) (gOk _ _ _ _ _) dX12_judgedAnew_130 (tX12_holds _ _ _ _ _) wS_X12_holds wM_X12_142 ⟨le_t rfl, le_t rfl⟩ ⟨le_t rfl, le_t rfl⟩ rfl (le_t rfl) fun z935 h934 => ?_
        refine mr_if_ne (tgt := 139) dX12_judgedAnew_133 (by decide) (r32 h934.1 rfl) (fun h950 => ?_) (fun h950 => ?_)
        · have h951 : 1 ≤ z935 ∧ z935 ≤ 1 := (vc_X12_judgedAnew_9 h950 h934.1)
          refine mr_iload (z := z746) dX12_judgedAnew_139 rfl ?_
          refine mr_iconst (z := 2) dX12_judgedAnew_141 ?_
          have J956 : ∀ (z954 : Int), (0 ≤ z954 ∧ z954 ≤ 1) → sV (gG l D c H0 sa) mX12_judgedAnew (sRm 3 0 0) (sZ (gG l D c H0 sa) 0 0 (qP w μ (fun z => (0 ≤ z ∧ z ≤ 2) ∧ True))) 148 [(0, .ref 106), (1, iv p1), (2, iv p2), (3, iv p3), (4, iv p4), (5, iv z954), (6, iv z745)] [] (mk w μ) 0 0 := by
            intro z954 h955
            refine sv_aload_n dX12_judgedAnew_148 rfl rfl ?_
            refine gf_X12_21 dX12_judgedAnew_149 wF_X12_104 (A_106 hw) hT ?_
            refine mr_iload (z := z745) dX12_judgedAnew_152 rfl ?_
            refine la_121 dX12_judgedAnew_154 (A_121 hw) hT (rIx (n := 30) h822 rfl) fun z957 q958 h959 => ?_
            refine mr_iload_n (z := p2) dX12_judgedAnew_155 rfl rfl ?_
            refine mr_icmp_ne (tgt := 178) dX12_judgedAnew_156 (by decide) h959 hp2 (fun h965 => ?_) (fun h965 => ?_)
            · refine mr_iinc (lv' := [(6, iv (z745 + 1)), (0, .ref 106), (1, iv p1), (2, iv p2), (3, iv p3), (4, iv p4), (5, iv z954)]) dX12_judgedAnew_178 rfl (by decide) rfl ?_
              refine sv_goto (tgt := 6) dX12_judgedAnew_181 (by decide) ?_
              refine mr_lvS (lv' := [(0, .ref 106), (1, iv p1), (2, iv p2), (3, iv p3), (4, iv p4), (5, iv z954), (6, iv (z745 + 1))]) (List.forall_mem_cons.mpr ⟨rfl, List.forall_mem_cons.mpr ⟨rfl, List.forall_mem_cons.mpr ⟨rfl, List.forall_mem_cons.mpr ⟨rfl, List.forall_mem_cons.mpr ⟨rfl, List.forall_mem_cons.mpr ⟨rfl, List.forall_mem_cons.mpr ⟨rfl, fun _ h => absurd h List.not_mem_nil⟩⟩⟩⟩⟩⟩⟩) ?_
              exact ih754 z954 (z745 + 1) trivial (rW (c := 0) (d := 2) h955 rfl) (rW (c := 0) (d := 30) (rAdd (e := 1) (f := 30) h822 (rR (x := 1)) rfl) rfl) (vc_X12_judgedAnew_5 (nS h753) h821 h822 h823)
            refine sv_aload_n dX12_judgedAnew_159 rfl rfl ?_
            refine gf_X12_4 dX12_judgedAnew_160 wF_X12_26 (A_106 hw) hT ?_
            refine mr_iload_n (z := p1) dX12_judgedAnew_163 rfl rfl ?_
            refine lk_109 dX12_judgedAnew_164 (A_109 hw) (rIx (n := 10) hp1 rfl) q893 ?_
            refine sv_aload_n dX12_judgedAnew_165 rfl rfl ?_
            refine gf_X12_20 dX12_judgedAnew_166 wF_X12_101 (A_106 hw) hT ?_
            refine mr_iload (z := z745) dX12_judgedAnew_169 rfl ?_
            refine la_120 dX12_judgedAnew_171 (A_120 hw) hT (rIx (n := 30) h822 rfl) fun z966 q967 h968 => ?_
            refine mr_icmp_gt (tgt := 178) dX12_judgedAnew_172 (by decide) (r32 h894 rfl) h968 (fun h971 => ?_) (fun h971 => ?_)
            · have h972 : (-2147483648) ≤ z966 ∧ z966 ≤ 31 := (vc_X12_judgedAnew_10 h971 h922 h891 h894 h968)
              refine mr_iinc (lv' := [(6, iv (z745 + 1)), (0, .ref 106), (1, iv p1), (2, iv p2), (3, iv p3), (4, iv p4), (5, iv z954)]) dX12_judgedAnew_178 rfl (by decide) rfl ?_
              refine sv_goto (tgt := 6) dX12_judgedAnew_181 (by decide) ?_
              refine mr_lvS (lv' := [(0, .ref 106), (1, iv p1), (2, iv p2), (3, iv p3), (4, iv p4), (5, iv z954), (6, iv (z745 + 1))]) (List.forall_mem_cons.mpr ⟨rfl, List.forall_mem_cons.mpr ⟨rfl, List.forall_mem_cons.mpr ⟨rfl, List.forall_mem_cons.mpr ⟨rfl, List.forall_mem_cons.mpr ⟨rfl, List.forall_mem_cons.mpr ⟨rfl, List.forall_mem_cons.mpr ⟨rfl, fun _ h => absurd h List.not_mem_nil⟩⟩⟩⟩⟩⟩⟩) ?_
              exact ih754 z954 (z745 + 1) trivial (rW (c := 0) (d := 2) h955 rfl) (rW (c := 0) (d := 30) (rAdd (e := 1) (f := 30) h822 (rR (x := 1)) rfl) rfl) (vc_X12_judgedAnew_5 (nS h753) h821 h822 h823)
            have h973 : 0 ≤ z966 ∧ z966 ≤ 2147483647 := (vc_X12_judgedAnew_11 h971 h922 h891 h894 h968)
            refine mr_iconst (z := 1) dX12_judgedAnew_175 ?_
            refine mr_istore (lv' := [(5, iv 1), (0, .ref 106), (1, iv p1), (2, iv p2), (3, iv p3), (4, iv p4), (6, iv z745)]) dX12_judgedAnew_176 (by decide) rfl ?_
            refine mr_iinc (lv' := [(6, iv (z745 + 1)), (5, iv 1), (0, .ref 106), (1, iv p1), (2, iv p2), (3, iv p3), (4, iv p4)]) dX12_judgedAnew_178 rfl (by decide) rfl ?_
            refine sv_goto (tgt := 6) dX12_judgedAnew_181 (by decide) ?_
            refine mr_lvS (lv' := [(0, .ref 106), (1, iv p1), (2, iv p2), (3, iv p3), (4, iv p4), (5, iv 1), (6, iv (z745 + 1))]) (List.forall_mem_cons.mpr ⟨rfl, List.forall_mem_cons.mpr ⟨rfl, List.forall_mem_cons.mpr ⟨rfl, List.forall_mem_cons.mpr ⟨rfl, List.forall_mem_cons.mpr ⟨rfl, List.forall_mem_cons.mpr ⟨rfl, List.forall_mem_cons.mpr ⟨rfl, fun _ h => absurd h List.not_mem_nil⟩⟩⟩⟩⟩⟩⟩) ?_
            exact ih754 1 (z745 + 1) trivial (rW (c := 0) (d := 2) (rR (x := 1)) rfl) (rW (c := 0) (d := 30) (rAdd (e := 1) (f := 30) h822 (rR (x := 1)) rfl) rfl) (vc_X12_judgedAnew_5 (nS h753) h821 h822 h823)
          refine mr_icmp_ne (tgt := 148) dX12_judgedAnew_142 (by decide) (r32 h748 rfl) (r32 (rR (x := 2)) rfl) (fun h974 => ?_) (fun h974 => ?_)
          · have h975 : 0 ≤ z746 ∧ z746 ≤ 1 := (vc_X12_judgedAnew_12 h974 h748)
            refine mr_lvS (lv' := [(0, .ref 106), (1, iv p1), (2, iv p2), (3, iv p3), (4, iv p4), (5, iv z746), (6, iv z745)]) (List.forall_mem_cons.mpr ⟨rfl, List.forall_mem_cons.mpr ⟨rfl, List.forall_mem_cons.mpr ⟨rfl, List.forall_mem_cons.mpr ⟨rfl, List.forall_mem_cons.mpr ⟨rfl, List.forall_mem_cons.mpr ⟨rfl, List.forall_mem_cons.mpr ⟨rfl, fun _ h => absurd h List.not_mem_nil⟩⟩⟩⟩⟩⟩⟩) ?_
            exact J956 z746 h975
          have h976 : 2 ≤ z746 ∧ z746 ≤ 2 := (vc_X12_judgedAnew_13 h974 h748)
          refine mr_iconst (z := 0) dX12_judgedAnew_145 ?_
          refine mr_istore (lv' := [(5, iv 0), (8, iv z848), (0, .ref 106), (1, iv p1), (2, iv p2), (3, iv p3), (4, iv p4), (6, iv z745), (7, iv z824)]) dX12_judgedAnew_146 (by decide) rfl ?_
          refine mr_lvS (lv' := [(0, .ref 106), (1, iv p1), (2, iv p2), (3, iv p3), (4, iv p4), (5, iv 0), (6, iv z745)]) (List.forall_mem_cons.mpr ⟨rfl, List.forall_mem_cons.mpr ⟨rfl, List.forall_mem_cons.mpr ⟨rfl, List.forall_mem_cons.mpr ⟨rfl, List.forall_mem_cons.mpr ⟨rfl, List.forall_mem_cons.mpr ⟨rfl, List.forall_mem_cons.mpr ⟨rfl, fun _ h => absurd h List.not_mem_nil⟩⟩⟩⟩⟩⟩⟩) ?_
          exact J956 0 (rW (c := 0) (d := 1) (rR (x := 0)) rfl)
        have h977 : 0 ≤ z935 ∧ z935 ≤ 0 := (vc_X12_judgedAnew_14 h950 h934.1)
        refine sv_goto (tgt := 178) dX12_judgedAnew_136 (by decide) ?_
        refine mr_iinc (lv' := [(6, iv (z745 + 1)), (8, iv z848), (0, .ref 106), (1, iv p1), (2, iv p2), (3, iv p3), (4, iv p4), (5, iv z746), (7, iv z824)]) dX12_judgedAnew_178 rfl (by decide) rfl ?_
        refine sv_goto (tgt := 6) dX12_judgedAnew_181 (by decide) ?_
        refine mr_lvS (lv' := [(0, .ref 106), (1, iv p1), (2, iv p2), (3, iv p3), (4, iv p4), (5, iv z746), (6, iv (z745 + 1))]) (List.forall_mem_cons.mpr ⟨rfl, List.forall_mem_cons.mpr ⟨rfl, List.forall_mem_cons.mpr ⟨rfl, List.forall_mem_cons.mpr ⟨rfl, List.forall_mem_cons.mpr ⟨rfl, List.forall_mem_cons.mpr ⟨rfl, List.forall_mem_cons.mpr ⟨rfl, fun _ h => absurd h List.not_mem_nil⟩⟩⟩⟩⟩⟩⟩) ?_
        exact ih754 z746 (z745 + 1) trivial h748 (rW (c := 0) (d := 30) (rAdd (e := 1) (f := 30) h822 (rR (x := 1)) rfl) rfl) (vc_X12_judgedAnew_5 (nS h753) h821 h822 h823)
      refine mr_icmp_gt (tgt := 86) dX12_judgedAnew_32 (by decide) h829 hp3 (fun h978 => ?_) (fun h978 => ?_)
      · have h979 : (-2147483647) ≤ z827 ∧ z827 ≤ 2147483647 := (vc_X12_judgedAnew_15 h978 hp3 h829)
        have h980 : (-2147483648) ≤ p3 ∧ p3 ≤ 2147483646 := (vc_X12_judgedAnew_16 h978 hp3 h979)
        refine mr_iconst (z := 0) dX12_judgedAnew_86 ?_
        refine mr_lvS (lv' := [(0, .ref 106), (1, iv p1), (2, iv p2), (3, iv p3), (4, iv p4), (5, iv z746), (6, iv z745), (7, iv z824)]) (List.forall_mem_cons.mpr ⟨rfl, List.forall_mem_cons.mpr ⟨rfl, List.forall_mem_cons.mpr ⟨rfl, List.forall_mem_cons.mpr ⟨rfl, List.forall_mem_cons.mpr ⟨rfl, List.forall_mem_cons.mpr ⟨rfl, List.forall_mem_cons.mpr ⟨rfl, List.forall_mem_cons.mpr ⟨rfl, fun _ h => absurd h List.not_mem_nil⟩⟩⟩⟩⟩⟩⟩⟩) ?_
        exact J850 0 (rW (c := 0) (d := 1) (rR (x := 0)) rfl)
      refine mr_iload_n (z := p3) dX12_judgedAnew_35 rfl rfl ?_
      refine sv_aload_n dX12_judgedAnew_36 rfl rfl ?_
      refine gf_X12_23 dX12_judgedAnew_37 wF_X12_110 (A_106 hw) hT ?_
      refine mr_iload (z := z745) dX12_judgedAnew_40 rfl ?_
      refine la_123 dX12_judgedAnew_42 (A_123 hw) hT (rIx (n := 30) h822 rfl) fun z981 q982 h983 => ?_
      refine mr_icmp_ge (tgt := 86) dX12_judgedAnew_43 (by decide) hp3 h983 (fun h984 => ?_) (fun h984 => ?_)
      · refine mr_iconst (z := 0) dX12_judgedAnew_86 ?_
        refine mr_lvS (lv' := [(0, .ref 106), (1, iv p1), (2, iv p2), (3, iv p3), (4, iv p4), (5, iv z746), (6, iv z745), (7, iv z824)]) (List.forall_mem_cons.mpr ⟨rfl, List.forall_mem_cons.mpr ⟨rfl, List.forall_mem_cons.mpr ⟨rfl, List.forall_mem_cons.mpr ⟨rfl, List.forall_mem_cons.mpr ⟨rfl, List.forall_mem_cons.mpr ⟨rfl, List.forall_mem_cons.mpr ⟨rfl, List.forall_mem_cons.mpr ⟨rfl, fun _ h => absurd h List.not_mem_nil⟩⟩⟩⟩⟩⟩⟩⟩) ?_
        exact J850 0 (rW (c := 0) (d := 1) (rR (x := 0)) rfl)
      have h985 : (-2147483648) ≤ p3 ∧ p3 ≤ 2147483646 := (vc_X12_judgedAnew_17 h984 h978 hp3 h829 h983)
      have h986 : (-2147483647) ≤ z981 ∧ z981 ≤ 2147483647 := (vc_X12_judgedAnew_18 h984 h978 h985 h829 h983)
      refine sv_aload_n dX12_judgedAnew_46 rfl rfl ?_
      refine gf_X12_24 dX12_judgedAnew_47 wF_X12_113 (A_106 hw) hT ?_
      refine mr_iload (z := z745) dX12_judgedAnew_50 rfl ?_
      refine la_124 dX12_judgedAnew_52 (A_124 hw) hT (rIx (n := 30) h822 rfl) fun z987 q988 h989 => ?_
      refine mr_iload (z := p4) dX12_judgedAnew_53 rfl ?_
      refine mr_icmp_gt (tgt := 86) dX12_judgedAnew_55 (by decide) h989 hp4 (fun h990 => ?_) (fun h990 => ?_)
      · have h991 : (-2147483647) ≤ z987 ∧ z987 ≤ 2147483647 := (vc_X12_judgedAnew_19 h990 hp4 h989)
        have h992 : (-2147483648) ≤ p4 ∧ p4 ≤ 2147483646 := (vc_X12_judgedAnew_20 h990 hp4 h991)
        refine mr_iconst (z := 0) dX12_judgedAnew_86 ?_
        refine mr_lvS (lv' := [(0, .ref 106), (1, iv p1), (2, iv p2), (3, iv p3), (4, iv p4), (5, iv z746), (6, iv z745), (7, iv z824)]) (List.forall_mem_cons.mpr ⟨rfl, List.forall_mem_cons.mpr ⟨rfl, List.forall_mem_cons.mpr ⟨rfl, List.forall_mem_cons.mpr ⟨rfl, List.forall_mem_cons.mpr ⟨rfl, List.forall_mem_cons.mpr ⟨rfl, List.forall_mem_cons.mpr ⟨rfl, List.forall_mem_cons.mpr ⟨rfl, fun _ h => absurd h List.not_mem_nil⟩⟩⟩⟩⟩⟩⟩⟩) ?_
        exact J850 0 (rW (c := 0) (d := 1) (rR (x := 0)) rfl)
      refine sv_aload_n dX12_judgedAnew_58 rfl rfl ?_
      refine gf_X12_25 dX12_judgedAnew_59 wF_X12_116 (A_106 hw) hT ?_
      refine mr_iload (z := z745) dX12_judgedAnew_62 rfl ?_
      refine la_125 dX12_judgedAnew_64 (A_125 hw) hT (rIx (n := 30) h822 rfl) fun z993 q994 h995 => ?_
      refine mr_ldc (z := (-99999999)) dX12_judgedAnew_65 wG_X12_29 (by decide) ?_
      refine mr_icmp_eq (tgt := 82) dX12_judgedAnew_67 (by decide) h995 (r32 (rR (x := (-99999999))) rfl) (fun h996 => ?_) (fun h996 => ?_)
      · have h997 : (-99999999) ≤ z993 ∧ z993 ≤ (-99999999) := (vc_X12_judgedAnew_21 h996 h995)
        refine mr_iconst (z := 1) dX12_judgedAnew_82 ?_
        refine sv_goto (tgt := 87) dX12_judgedAnew_83 (by decide) ?_
        refine mr_lvS (lv' := [(0, .ref 106), (1, iv p1), (2, iv p2), (3, iv p3), (4, iv p4), (5, iv z746), (6, iv z745), (7, iv z824)]) (List.forall_mem_cons.mpr ⟨rfl, List.forall_mem_cons.mpr ⟨rfl, List.forall_mem_cons.mpr ⟨rfl, List.forall_mem_cons.mpr ⟨rfl, List.forall_mem_cons.mpr ⟨rfl, List.forall_mem_cons.mpr ⟨rfl, List.forall_mem_cons.mpr ⟨rfl, List.forall_mem_cons.mpr ⟨rfl, fun _ h => absurd h List.not_mem_nil⟩⟩⟩⟩⟩⟩⟩⟩) ?_
        exact J850 1 (rW (c := 0) (d := 1) (rR (x := 1)) rfl)
      refine mr_iload (z := p4) dX12_judgedAnew_70 rfl ?_
      refine sv_aload_n dX12_judgedAnew_72 rfl rfl ?_
      refine gf_X12_25 dX12_judgedAnew_73 wF_X12_116 (A_106 hw) hT ?_
      refine mr_iload (z := z745) dX12_judgedAnew_76 rfl ?_
      refine lk_125 dX12_judgedAnew_78 (A_125 hw) (rIx (n := 30) h822 rfl) q994 ?_
      refine mr_icmp_ge (tgt := 86) dX12_judgedAnew_79 (by decide) hp4 h995 (fun h998 => ?_) (fun h998 => ?_)
      · refine mr_iconst (z := 0) dX12_judgedAnew_86 ?_
        refine mr_lvS (lv' := [(0, .ref 106), (1, iv p1), (2, iv p2), (3, iv p3), (4, iv p4), (5, iv z746), (6, iv z745), (7, iv z824)]) (List.forall_mem_cons.mpr ⟨rfl, List.forall_mem_cons.mpr ⟨rfl, List.forall_mem_cons.mpr ⟨rfl, List.forall_mem_cons.mpr ⟨rfl, List.forall_mem_cons.mpr ⟨rfl, List.forall_mem_cons.mpr ⟨rfl, List.forall_mem_cons.mpr ⟨rfl, List.forall_mem_cons.mpr ⟨rfl, fun _ h => absurd h List.not_mem_nil⟩⟩⟩⟩⟩⟩⟩⟩) ?_
        exact J850 0 (rW (c := 0) (d := 1) (rR (x := 0)) rfl)
      have h999 : (-2147483648) ≤ p4 ∧ p4 ≤ 2147483646 := (vc_X12_judgedAnew_22 h998 h990 h996 hp4 h989 h995)
      have h1000 : (-2147483647) ≤ z993 ∧ z993 ≤ 2147483647 := (vc_X12_judgedAnew_23 h998 h990 h996 h999 h989 h995)
      refine mr_iconst (z := 1) dX12_judgedAnew_82 ?_
      refine sv_goto (tgt := 87) dX12_judgedAnew_83 (by decide) ?_
      refine mr_lvS (lv' := [(0, .ref 106), (1, iv p1), (2, iv p2), (3, iv p3), (4, iv p4), (5, iv z746), (6, iv z745), (7, iv z824)]) (List.forall_mem_cons.mpr ⟨rfl, List.forall_mem_cons.mpr ⟨rfl, List.forall_mem_cons.mpr ⟨rfl, List.forall_mem_cons.mpr ⟨rfl, List.forall_mem_cons.mpr ⟨rfl, List.forall_mem_cons.mpr ⟨rfl, List.forall_mem_cons.mpr ⟨rfl, List.forall_mem_cons.mpr ⟨rfl, fun _ h => absurd h List.not_mem_nil⟩⟩⟩⟩⟩⟩⟩⟩) ?_
      exact J850 1 (rW (c := 0) (d := 1) (rR (x := 1)) rfl)
  refine mr_lvS (lv' := [(0, .ref 106), (1, iv p1), (2, iv p2), (3, iv p3), (4, iv p4), (5, iv 2), (6, iv 0)]) (List.forall_mem_cons.mpr ⟨rfl, List.forall_mem_cons.mpr ⟨rfl, List.forall_mem_cons.mpr ⟨rfl, List.forall_mem_cons.mpr ⟨rfl, List.forall_mem_cons.mpr ⟨rfl, List.forall_mem_cons.mpr ⟨rfl, List.forall_mem_cons.mpr ⟨rfl, fun _ h => absurd h List.not_mem_nil⟩⟩⟩⟩⟩⟩⟩) ?_
  exact L747 32 2 0 trivial (rW (c := 0) (d := 2) (rR (x := 2)) rfl) (rW (c := 0) (d := 30) (rR (x := 0)) rfl) vc_X12_judgedAnew_24
theorem vc_X12_judged_1 {z1 : Int} (h0 : z1 = 0) (h1 : 0 ≤ z1 ∧ z1 ≤ 1) : 0 ≤ z1 ∧ z1 ≤ 0 := by omega
theorem vc_X12_judged_2 {z1 : Int} (h0 : ¬ z1 = 0) (h1 : 0 ≤ z1 ∧ z1 ≤ 1) : 1 ≤ z1 ∧ z1 ≤ 1 := by omega
theorem vc_X12_judged_3 {p1 z168 : Int} (h0 : z168 = p1) (h1 : 0 ≤ p1 ∧ p1 ≤ 9) (h2 : (-2147483648) ≤ z168 ∧ z168 ≤ 2147483647) : 0 ≤ z168 ∧ z168 ≤ 9 := by omega
set_option maxRecDepth 4000 in
set_option maxHeartbeats 4000000 in
theorem c_X12_judged {l : Launch} {D : va_G} {c : Nat → ClassId} {H0 : Heap} {sa : Nat × Nat × (Nat → Int32)} {w : mW} {μ : mM} (hw : mWF w) (hT : mT w μ) {p1 : Int} (hp1 : 0 ≤ p1 ∧ p1 ≤ 9) {p2 : Int} (hp2 : (-2147483648) ≤ p2 ∧ p2 ≤ 2147483647) {p3 : Int} (hp3 : (-2147483648) ≤ p3 ∧ p3 ≤ 2147483647) {p4 : Int} (hp4 : (-2147483648) ≤ p4 ∧ p4 ≤ 2147483647) : sC (gG l D c H0 sa) mX12_judged 4 0 0 [.ref 106, iv p1, iv p2, iv p3, iv p4] (mk w μ) (qI w [106026, 106027, 106028, 106029, 106030, 106031] μ (fun z μ1 => (0 ≤ z ∧ z ≤ 2) ∧ True)) := by
  refine sC.of rfl (by decide) (le_t rfl) ?_
  refine mr_lvE (lv' := [(0, .ref 106), (1, iv p1), (2, iv p2), (3, iv p3), (4, iv p4)]) rfl ?_
  refine sv_aload_n dX12_judged_0 rfl rfl ?_
  refine gf_X12_26 dX12_judged_1 wF_X12_119 (A_106 hw) hT fun z1 q2 h3 => ?_
  have J138 : ∀ (μ134 : mM), mT w μ134 → mF [106026, 106027, 106028, 106029, 106030, 106031] w μ μ134 → sV (gG l D c H0 sa) mX12_judged (sRm 4 0 0) (sZ (gG l D c H0 sa) 0 0 (qI w [106026, 106027, 106028, 106029, 106030, 106031] μ (fun z μ1 => (0 ≤ z ∧ z ≤ 2) ∧ True))) 79 [(0, .ref 106)] [] (mk w μ134) 0 0 := by
    intro μ134 T135 F136
    refine sv_aload_n dX12_judged_79 rfl rfl ?_
    refine gf_X12_31 dX12_judged_80 wF_X12_139 (A_106 hw) T135 fun z139 q140 h141 => ?_
    exact mr_iret dX12_judged_83 rfl (le_t rfl) (le_t rfl) T135 (mF.call mF.refl F136 rfl) ⟨h141, trivial⟩
  refine mr_if_eq (tgt := 40) dX12_judged_4 (by decide) (r32 h3 rfl) (fun h142 => ?_) (fun h142 => ?_)
  · have h143 : 0 ≤ z1 ∧ z1 ≤ 0 := (vc_X12_judged_1 h142 h3)
    refine sv_aload_n dX12_judged_40 rfl rfl ?_
    refine sv_aload_n dX12_judged_41 rfl rfl ?_
    refine mr_iload_n (z := p1) dX12_judged_42 rfl rfl ?_
    refine mr_iload_n (z := p2) dX12_judged_43 rfl rfl ?_
    refine mr_iload_n (z := p3) dX12_judged_44 rfl rfl ?_
    refine mr_iload (z := p4) dX12_judged_45 rfl ?_
    refine mr_cVP (c_X12_judgedAnew hw hT hp1 hp2 hp3 hp4) (gOk _ _ _ _ _) dX12_judged_47 (tX12_judgedAnew _ _ _ _ _) ⟨wV_X12_judgedAnew, wL_X12_judgedAnew⟩ wM_X12_135 (gCX12 _ _ _ _ _) rfl (A_106 hw) rfl ⟨le_t rfl, le_t rfl⟩ ⟨le_t rfl, le_t rfl⟩ rfl (le_t rfl) fun z148 h147 => ?_
    refine pf_X12_31 dX12_judged_50 wF_X12_139 (A_106 hw) hT h147.1 fun μ149 u150 T151 => ?_
    refine sv_aload_n dX12_judged_53 rfl rfl ?_
    refine mr_iload_n (z := p1) dX12_judged_54 rfl rfl ?_
    refine pf_X12_27 dX12_judged_55 wF_X12_123 (A_106 hw) T151 (rW (c := (-2147483648)) (d := 2147483647) hp1 rfl) fun μ152 u153 T154 => ?_
    refine sv_aload_n dX12_judged_58 rfl rfl ?_
    refine mr_iload_n (z := p2) dX12_judged_59 rfl rfl ?_
    refine pf_X12_28 dX12_judged_60 wF_X12_126 (A_106 hw) T154 hp2 fun μ155 u156 T157 => ?_
    refine sv_aload_n dX12_judged_63 rfl rfl ?_
    refine mr_iload_n (z := p3) dX12_judged_64 rfl rfl ?_
    refine pf_X12_29 dX12_judged_65 wF_X12_129 (A_106 hw) T157 hp3 fun μ158 u159 T160 => ?_
    refine sv_aload_n dX12_judged_68 rfl rfl ?_
    refine mr_iload (z := p4) dX12_judged_69 rfl ?_
    refine pf_X12_30 dX12_judged_71 wF_X12_132 (A_106 hw) T160 hp4 fun μ161 u162 T163 => ?_
    refine sv_aload_n dX12_judged_74 rfl rfl ?_
    refine mr_iconst (z := 1) dX12_judged_75 ?_
    refine pf_X12_26 dX12_judged_76 wF_X12_119 (A_106 hw) T163 (rW (c := 0) (d := 1) (rR (x := 1)) rfl) fun μ164 u165 T166 => ?_
    refine mr_lvS (lv' := [(0, .ref 106)]) (List.forall_mem_cons.mpr ⟨rfl, fun _ h => absurd h List.not_mem_nil⟩) ?_
    exact J138 μ164 T166 (mF.up (mF.up (mF.up (mF.up (mF.up (mF.up mF.refl (A_106 hw) u150 rfl) (A_106 hw) u153 rfl) (A_106 hw) u156 rfl) (A_106 hw) u159 rfl) (A_106 hw) u162 rfl) (A_106 hw) u165 rfl)
  have h167 : 1 ≤ z1 ∧ z1 ≤ 1 := (vc_X12_judged_2 h142 h3)
  refine sv_aload_n dX12_judged_7 rfl rfl ?_
  refine gf_X12_27 dX12_judged_8 wF_X12_123 (A_106 hw) hT fun z168 q169 h170 => ?_
  refine mr_iload_n (z := p1) dX12_judged_11 rfl rfl ?_
  refine mr_icmp_ne (tgt := 40) dX12_judged_12 (by decide) h170 (r32 hp1 rfl) (fun h171 => ?_) (fun h171 => ?_)
  · refine sv_aload_n dX12_judged_40 rfl rfl ?_
    refine sv_aload_n dX12_judged_41 rfl rfl ?_
    refine mr_iload_n (z := p1) dX12_judged_42 rfl rfl ?_
    refine mr_iload_n (z := p2) dX12_judged_43 rfl rfl ?_
    refine mr_iload_n (z := p3) dX12_judged_44 rfl rfl ?_
    refine mr_iload (z := p4) dX12_judged_45 rfl ?_
    refine mr_cVP (c_X12_judgedAnew hw hT hp1 hp2 hp3 hp4) (gOk _ _ _ _ _) dX12_judged_47 (tX12_judgedAnew _ _ _ _ _) ⟨wV_X12_judgedAnew, wL_X12_judgedAnew⟩ wM_X12_135 (gCX12 _ _ _ _ _) rfl (A_106 hw) rfl ⟨le_t rfl, le_t rfl⟩ ⟨le_t rfl, le_t rfl⟩ rfl (le_t rfl) fun z176 h175 => ?_
    refine pf_X12_31 dX12_judged_50 wF_X12_139 (A_106 hw) hT h175.1 fun μ177 u178 T179 => ?_
    refine sv_aload_n dX12_judged_53 rfl rfl ?_
    refine mr_iload_n (z := p1) dX12_judged_54 rfl rfl ?_
    refine pf_X12_27 dX12_judged_55 wF_X12_123 (A_106 hw) T179 (rW (c := (-2147483648)) (d := 2147483647) hp1 rfl) fun μ180 u181 T182 => ?_
    refine sv_aload_n dX12_judged_58 rfl rfl ?_
    refine mr_iload_n (z := p2) dX12_judged_59 rfl rfl ?_
    refine pf_X12_28 dX12_judged_60 wF_X12_126 (A_106 hw) T182 hp2 fun μ183 u184 T185 => ?_
    refine sv_aload_n dX12_judged_63 rfl rfl ?_
    refine mr_iload_n (z := p3) dX12_judged_64 rfl rfl ?_
    refine pf_X12_29 dX12_judged_65 wF_X12_129 (A_106 hw) T185 hp3 fun μ186 u187 T188 => ?_
    refine sv_aload_n dX12_judged_68 rfl rfl ?_
    refine mr_iload (z := p4) dX12_judged_69 rfl ?_
    refine pf_X12_30 dX12_judged_71 wF_X12_132 (A_106 hw) T188 hp4 fun μ189 u190 T191 => ?_
    refine sv_aload_n dX12_judged_74 rfl rfl ?_
    refine mr_iconst (z := 1) dX12_judged_75 ?_
    refine pf_X12_26 dX12_judged_76 wF_X12_119 (A_106 hw) T191 (rW (c := 0) (d := 1) (rR (x := 1)) rfl) fun μ192 u193 T194 => ?_
    refine mr_lvS (lv' := [(0, .ref 106)]) (List.forall_mem_cons.mpr ⟨rfl, fun _ h => absurd h List.not_mem_nil⟩) ?_
    exact J138 μ192 T194 (mF.up (mF.up (mF.up (mF.up (mF.up (mF.up mF.refl (A_106 hw) u178 rfl) (A_106 hw) u181 rfl) (A_106 hw) u184 rfl) (A_106 hw) u187 rfl) (A_106 hw) u190 rfl) (A_106 hw) u193 rfl)
  have h195 : 0 ≤ z168 ∧ z168 ≤ 9 := (vc_X12_judged_3 h171 hp1 h170)
  refine sv_aload_n dX12_judged_15 rfl rfl ?_
  refine gf_X12_28 dX12_judged_16 wF_X12_126 (A_106 hw) hT fun z196 q197 h198 => ?_
  refine mr_iload_n (z := p2) dX12_judged_19 rfl rfl ?_
  refine mr_icmp_ne (tgt := 40) dX12_judged_20 (by decide) h198 hp2 (fun h199 => ?_) (fun h199 => ?_)
  · refine sv_aload_n dX12_judged_40 rfl rfl ?_
    refine sv_aload_n dX12_judged_41 rfl rfl ?_
    refine mr_iload_n (z := p1) dX12_judged_42 rfl rfl ?_
    refine mr_iload_n (z := p2) dX12_judged_43 rfl rfl ?_
    refine mr_iload_n (z := p3) dX12_judged_44 rfl rfl ?_
    refine mr_iload (z := p4) dX12_judged_45 rfl ?_
    refine mr_cVP (c_X12_judgedAnew hw hT hp1 hp2 hp3 hp4) (gOk _ _ _ _ _) dX12_judged_47 (tX12_judgedAnew _ _ _ _ _) ⟨wV_X12_judgedAnew, wL_X12_judgedAnew⟩ wM_X12_135 (gCX12 _ _ _ _ _) rfl (A_106 hw) rfl ⟨le_t rfl, le_t rfl⟩ ⟨le_t rfl, le_t rfl⟩ rfl (le_t rfl) fun z204 h203 => ?_
    refine pf_X12_31 dX12_judged_50 wF_X12_139 (A_106 hw) hT h203.1 fun μ205 u206 T207 => ?_
    refine sv_aload_n dX12_judged_53 rfl rfl ?_
    refine mr_iload_n (z := p1) dX12_judged_54 rfl rfl ?_
    refine pf_X12_27 dX12_judged_55 wF_X12_123 (A_106 hw) T207 (rW (c := (-2147483648)) (d := 2147483647) hp1 rfl) fun μ208 u209 T210 => ?_
    refine sv_aload_n dX12_judged_58 rfl rfl ?_
    refine mr_iload_n (z := p2) dX12_judged_59 rfl rfl ?_
    refine pf_X12_28 dX12_judged_60 wF_X12_126 (A_106 hw) T210 hp2 fun μ211 u212 T213 => ?_
    refine sv_aload_n dX12_judged_63 rfl rfl ?_
    refine mr_iload_n (z := p3) dX12_judged_64 rfl rfl ?_
    refine pf_X12_29 dX12_judged_65 wF_X12_129 (A_106 hw) T213 hp3 fun μ214 u215 T216 => ?_
    refine sv_aload_n dX12_judged_68 rfl rfl ?_
    refine mr_iload (z := p4) dX12_judged_69 rfl ?_
    refine pf_X12_30 dX12_judged_71 wF_X12_132 (A_106 hw) T216 hp4 fun μ217 u218 T219 => ?_
    refine sv_aload_n dX12_judged_74 rfl rfl ?_
    refine mr_iconst (z := 1) dX12_judged_75 ?_
    refine pf_X12_26 dX12_judged_76 wF_X12_119 (A_106 hw) T219 (rW (c := 0) (d := 1) (rR (x := 1)) rfl) fun μ220 u221 T222 => ?_
    refine mr_lvS (lv' := [(0, .ref 106)]) (List.forall_mem_cons.mpr ⟨rfl, fun _ h => absurd h List.not_mem_nil⟩) ?_
    exact J138 μ220 T222 (mF.up (mF.up (mF.up (mF.up (mF.up (mF.up mF.refl (A_106 hw) u206 rfl) (A_106 hw) u209 rfl) (A_106 hw) u212 rfl) (A_106 hw) u215 rfl) (A_106 hw) u218 rfl) (A_106 hw) u221 rfl)
  refine sv_aload_n dX12_judged_23 rfl rfl ?_
  refine gf_X12_29 dX12_judged_24 wF_X12_129 (A_106 hw) hT fun z223 q224 h225 => ?_
  refine mr_iload_n (z := p3) dX12_judged_27 rfl rfl ?_
  refine mr_icmp_ne (tgt := 40) dX12_judged_28 (by decide) h225 hp3 (fun h226 => ?_) (fun h226 => ?_)
  · refine sv_aload_n dX12_judged_40 rfl rfl ?_
    refine sv_aload_n dX12_judged_41 rfl rfl ?_
    refine mr_iload_n (z := p1) dX12_judged_42 rfl rfl ?_
    refine mr_iload_n (z := p2) dX12_judged_43 rfl rfl ?_
    refine mr_iload_n (z := p3) dX12_judged_44 rfl rfl ?_
    refine mr_iload (z := p4) dX12_judged_45 rfl ?_
    refine mr_cVP (c_X12_judgedAnew hw hT hp1 hp2 hp3 hp4) (gOk _ _ _ _ _) dX12_judged_47 (tX12_judgedAnew _ _ _ _ _) ⟨wV_X12_judgedAnew, wL_X12_judgedAnew⟩ wM_X12_135 (gCX12 _ _ _ _ _) rfl (A_106 hw) rfl ⟨le_t rfl, le_t rfl⟩ ⟨le_t rfl, le_t rfl⟩ rfl (le_t rfl) fun z231 h230 => ?_
    refine pf_X12_31 dX12_judged_50 wF_X12_139 (A_106 hw) hT h230.1 fun μ232 u233 T234 => ?_
    refine sv_aload_n dX12_judged_53 rfl rfl ?_
    refine mr_iload_n (z := p1) dX12_judged_54 rfl rfl ?_
    refine pf_X12_27 dX12_judged_55 wF_X12_123 (A_106 hw) T234 (rW (c := (-2147483648)) (d := 2147483647) hp1 rfl) fun μ235 u236 T237 => ?_
    refine sv_aload_n dX12_judged_58 rfl rfl ?_
    refine mr_iload_n (z := p2) dX12_judged_59 rfl rfl ?_
    refine pf_X12_28 dX12_judged_60 wF_X12_126 (A_106 hw) T237 hp2 fun μ238 u239 T240 => ?_
    refine sv_aload_n dX12_judged_63 rfl rfl ?_
    refine mr_iload_n (z := p3) dX12_judged_64 rfl rfl ?_
    refine pf_X12_29 dX12_judged_65 wF_X12_129 (A_106 hw) T240 hp3 fun μ241 u242 T243 => ?_
    refine sv_aload_n dX12_judged_68 rfl rfl ?_
    refine mr_iload (z := p4) dX12_judged_69 rfl ?_
    refine pf_X12_30 dX12_judged_71 wF_X12_132 (A_106 hw) T243 hp4 fun μ244 u245 T246 => ?_
    refine sv_aload_n dX12_judged_74 rfl rfl ?_
    refine mr_iconst (z := 1) dX12_judged_75 ?_
    refine pf_X12_26 dX12_judged_76 wF_X12_119 (A_106 hw) T246 (rW (c := 0) (d := 1) (rR (x := 1)) rfl) fun μ247 u248 T249 => ?_
    refine mr_lvS (lv' := [(0, .ref 106)]) (List.forall_mem_cons.mpr ⟨rfl, fun _ h => absurd h List.not_mem_nil⟩) ?_
    exact J138 μ247 T249 (mF.up (mF.up (mF.up (mF.up (mF.up (mF.up mF.refl (A_106 hw) u233 rfl) (A_106 hw) u236 rfl) (A_106 hw) u239 rfl) (A_106 hw) u242 rfl) (A_106 hw) u245 rfl) (A_106 hw) u248 rfl)
  refine sv_aload_n dX12_judged_31 rfl rfl ?_
  refine gf_X12_30 dX12_judged_32 wF_X12_132 (A_106 hw) hT fun z250 q251 h252 => ?_
  refine mr_iload (z := p4) dX12_judged_35 rfl ?_
  refine mr_icmp_eq (tgt := 79) dX12_judged_37 (by decide) h252 hp4 (fun h253 => ?_) (fun h253 => ?_)
  · refine mr_lvS (lv' := [(0, .ref 106)]) (List.forall_mem_cons.mpr ⟨rfl, fun _ h => absurd h List.not_mem_nil⟩) ?_
    exact J138 μ hT mF.refl
  refine sv_aload_n dX12_judged_40 rfl rfl ?_
  refine sv_aload_n dX12_judged_41 rfl rfl ?_
  refine mr_iload_n (z := p1) dX12_judged_42 rfl rfl ?_
  refine mr_iload_n (z := p2) dX12_judged_43 rfl rfl ?_
  refine mr_iload_n (z := p3) dX12_judged_44 rfl rfl ?_
  refine mr_iload (z := p4) dX12_judged_45 rfl ?_
  refine mr_cVP (c_X12_judgedAnew hw hT hp1 hp2 hp3 hp4) (gOk _ _ _ _ _) dX12_judged_47 (tX12_judgedAnew _ _ _ _ _) ⟨wV_X12_judgedAnew, wL_X12_judgedAnew⟩ wM_X12_135 (gCX12 _ _ _ _ _) rfl (A_106 hw) rfl ⟨le_t rfl, le_t rfl⟩ ⟨le_t rfl, le_t rfl⟩ rfl (le_t rfl) fun z258 h257 => ?_
  refine pf_X12_31 dX12_judged_50 wF_X12_139 (A_106 hw) hT h257.1 fun μ259 u260 T261 => ?_
  refine sv_aload_n dX12_judged_53 rfl rfl ?_
  refine mr_iload_n (z := p1) dX12_judged_54 rfl rfl ?_
  refine pf_X12_27 dX12_judged_55 wF_X12_123 (A_106 hw) T261 (rW (c := (-2147483648)) (d := 2147483647) hp1 rfl) fun μ262 u263 T264 => ?_
  refine sv_aload_n dX12_judged_58 rfl rfl ?_
  refine mr_iload_n (z := p2) dX12_judged_59 rfl rfl ?_
  refine pf_X12_28 dX12_judged_60 wF_X12_126 (A_106 hw) T264 hp2 fun μ265 u266 T267 => ?_
  refine sv_aload_n dX12_judged_63 rfl rfl ?_
  refine mr_iload_n (z := p3) dX12_judged_64 rfl rfl ?_
  refine pf_X12_29 dX12_judged_65 wF_X12_129 (A_106 hw) T267 hp3 fun μ268 u269 T270 => ?_
  refine sv_aload_n dX12_judged_68 rfl rfl ?_
  refine mr_iload (z := p4) dX12_judged_69 rfl ?_
  refine pf_X12_30 dX12_judged_71 wF_X12_132 (A_106 hw) T270 hp4 fun μ271 u272 T273 => ?_
  refine sv_aload_n dX12_judged_74 rfl rfl ?_
  refine mr_iconst (z := 1) dX12_judged_75 ?_
  refine pf_X12_26 dX12_judged_76 wF_X12_119 (A_106 hw) T273 (rW (c := 0) (d := 1) (rR (x := 1)) rfl) fun μ274 u275 T276 => ?_
  refine mr_lvS (lv' := [(0, .ref 106)]) (List.forall_mem_cons.mpr ⟨rfl, fun _ h => absurd h List.not_mem_nil⟩) ?_
  exact J138 μ274 T276 (mF.up (mF.up (mF.up (mF.up (mF.up (mF.up mF.refl (A_106 hw) u260 rfl) (A_106 hw) u263 rfl) (A_106 hw) u266 rfl) (A_106 hw) u269 rfl) (A_106 hw) u272 rfl) (A_106 hw) u275 rfl)
theorem vc_X12_verdict_1 {p1 z1 z8 : Int} (h0 : z8 = 0) (h1 : (z8 = 1 → 0 ≤ p1 ∧ p1 < z1)) (h2 : (z8 = 0 → p1 < 0 ∨ z1 ≤ p1)) (h3 : (-2147483648) ≤ p1 ∧ p1 ≤ 2147483647) (h4 : 0 ≤ z1 ∧ z1 ≤ 10) (h5 : 0 ≤ z8 ∧ z8 ≤ 1) : 0 ≤ z8 ∧ z8 ≤ 0 := by omega
theorem vc_X12_verdict_2 {p1 z1 z8 : Int} (h0 : (z8 = 1 → 0 ≤ p1 ∧ p1 < z1)) (h1 : (z8 = 0 → p1 < 0 ∨ z1 ≤ p1)) (h2 : z8 = 0) (h3 : (-2147483648) ≤ p1 ∧ p1 ≤ 2147483647) (h4 : 0 ≤ z1 ∧ z1 ≤ 10) (h5 : 0 ≤ z8 ∧ z8 ≤ 0) : z8 = 0 := by omega
theorem vc_X12_verdict_3 {p1 z1 z8 : Int} (h0 : ¬ z8 = 0) (h1 : (z8 = 1 → 0 ≤ p1 ∧ p1 < z1)) (h2 : (z8 = 0 → p1 < 0 ∨ z1 ≤ p1)) (h3 : (-2147483648) ≤ p1 ∧ p1 ≤ 2147483647) (h4 : 0 ≤ z1 ∧ z1 ≤ 10) (h5 : 0 ≤ z8 ∧ z8 ≤ 1) : 1 ≤ z8 ∧ z8 ≤ 1 := by omega
theorem vc_X12_verdict_4 {p1 z1 z8 : Int} (h0 : (z8 = 1 → 0 ≤ p1 ∧ p1 < z1)) (h1 : (z8 = 0 → p1 < 0 ∨ z1 ≤ p1)) (h2 : ¬ z8 = 0) (h3 : (-2147483648) ≤ p1 ∧ p1 ≤ 2147483647) (h4 : 0 ≤ z1 ∧ z1 ≤ 10) (h5 : 1 ≤ z8 ∧ z8 ≤ 1) : z8 = 1 := by omega
theorem vc_X12_verdict_5 {p1 z1 z8 : Int} (h0 : 0 ≤ p1 ∧ p1 < z1) (h1 : (z8 = 1 → 0 ≤ p1 ∧ p1 < z1)) (h2 : (z8 = 0 → p1 < 0 ∨ z1 ≤ p1)) (h3 : (-2147483648) ≤ p1 ∧ p1 ≤ 2147483647) (h4 : 0 ≤ z1 ∧ z1 ≤ 10) (h5 : 1 ≤ z8 ∧ z8 ≤ 1) : 0 ≤ p1 ∧ p1 ≤ 9 := by omega
theorem vc_X12_verdict_6 {p1 z1 z8 : Int} (h0 : 0 ≤ p1 ∧ p1 < z1) (h1 : (z8 = 1 → 0 ≤ p1 ∧ p1 < z1)) (h2 : (z8 = 0 → p1 < 0 ∨ z1 ≤ p1)) (h3 : 0 ≤ p1 ∧ p1 ≤ 9) (h4 : 0 ≤ z1 ∧ z1 ≤ 10) (h5 : 1 ≤ z8 ∧ z8 ≤ 1) : 1 ≤ z1 ∧ z1 ≤ 10 := by omega
theorem vc_X12_verdict_7 {p3 : Int} (h0 : p3 < 0) (h1 : (-2147483648) ≤ p3 ∧ p3 ≤ 2147483647) : (-2147483648) ≤ p3 ∧ p3 ≤ (-1) := by omega
theorem vc_X12_verdict_8 {p3 : Int} (h0 : 0 ≤ p3) (h1 : (-2147483648) ≤ p3 ∧ p3 ≤ 2147483647) : 0 ≤ p3 ∧ p3 ≤ 2147483647 := by omega
theorem vc_X12_verdict_9 {p4 : Int} (h0 : 0 ≤ p4) (h1 : (-2147483648) ≤ p4 ∧ p4 ≤ 2147483647) : 0 ≤ p4 ∧ p4 ≤ 2147483647 := by omega
theorem vc_X12_verdict_10 {p4 : Int} (h0 : p4 < 0) (h1 : (-2147483648) ≤ p4 ∧ p4 ≤ 2147483647) : (-2147483648) ≤ p4 ∧ p4 ≤ (-1) := by omega
set_option maxRecDepth 4000 in
set_option maxHeartbeats 4000000 in
theorem c_X12_verdict {l : Launch} {D : va_G} {c : Nat → ClassId} {H0 : Heap} {sa : Nat × Nat × (Nat → Int32)} {w : mW} {μ : mM} (hw : mWF w) (hT : mT w μ) {p1 : Int} (hp1 : (-2147483648) ≤ p1 ∧ p1 ≤ 2147483647) {p2 : Int} (hp2 : (-2147483648) ≤ p2 ∧ p2 ≤ 2147483647) {p3 : Int} (hp3 : (-2147483648) ≤ p3 ∧ p3 ≤ 2147483647) {p4 : Int} (hp4 : (-2147483648) ≤ p4 ∧ p4 ≤ 2147483647) : sC (gG l D c H0 sa) mX12_verdict 5 0 0 [.ref 106, iv p1, iv p2, iv p3, iv p4] (mk w μ) (qI w [106026, 106027, 106028, 106029, 106030, 106031] μ (fun z μ1 => ((-2147483648) ≤ z ∧ z ≤ 2147483647) ∧ True)) := by
  refine sC.of rfl (by decide) (le_t rfl) ?_
  refine mr_lvE (lv' := [(0, .ref 106), (1, iv p1), (2, iv p2), (3, iv p3), (4, iv p4)]) rfl ?_
  refine sv_aload_n dX12_verdict_0 rfl rfl ?_
  refine mr_iload_n (z := p1) dX12_verdict_1 rfl rfl ?_
  obtain ⟨z1, q2⟩ : ∃ z, μ 106 2 = z := ⟨_, rfl⟩
  have h3 : (0 ≤ z1 ∧ z1 ≤ 10) := by rw [← q2]; exact hT 106 106 (A_106 hw) 2
  refine mr_cVP (c_X12_isPrefix hw hT hp1 q2) (gOk _ _ _ _ _) dX12_verdict_2 (tX12_isPrefix _ _ _ _ _) ⟨wV_X12_isPrefix, wL_X12_isPrefix⟩ wM_X12_92 (gCX12 _ _ _ _ _) rfl (A_106 hw) rfl ⟨le_t rfl, le_t rfl⟩ ⟨le_t rfl, le_t rfl⟩ rfl (le_t rfl) fun z8 h7 => ?_
  refine mr_if_eq (tgt := 17) dX12_verdict_5 (by decide) (r32 h7.1 rfl) (fun h9 => ?_) (fun h9 => ?_)
  · have h10 : 0 ≤ z8 ∧ z8 ≤ 0 := (vc_X12_verdict_1 h9 h7.2.1 h7.2.2.1 hp1 h3 h7.1)
    have h11 : p1 < 0 ∨ z1 ≤ p1 := (h7.2.2.1 (vc_X12_verdict_2 h7.2.1 h7.2.2.1 h9 hp1 h3 h10))
    refine mr_iconst (z := (-1)) dX12_verdict_17 ?_
    exact mr_iret dX12_verdict_18 rfl (le_t rfl) (le_t rfl) hT mF.refl ⟨(rW (c := (-2147483648)) (d := 2147483647) (rR (x := (-1))) rfl), trivial⟩
  have h12 : 1 ≤ z8 ∧ z8 ≤ 1 := (vc_X12_verdict_3 h9 h7.2.1 h7.2.2.1 hp1 h3 h7.1)
  have h13 : 0 ≤ p1 ∧ p1 < z1 := (h7.2.1 (vc_X12_verdict_4 h7.2.1 h7.2.2.1 h9 hp1 h3 h12))
  have h14 : 0 ≤ p1 ∧ p1 ≤ 9 := (vc_X12_verdict_5 h13 h7.2.1 h7.2.2.1 hp1 h3 h12)
  have h15 : 1 ≤ z1 ∧ z1 ≤ 10 := (vc_X12_verdict_6 h13 h7.2.1 h7.2.2.1 h14 h3 h12)
  refine mr_iload_n (z := p3) dX12_verdict_8 rfl rfl ?_
  refine mr_if_lt (tgt := 17) dX12_verdict_9 (by decide) hp3 (fun h16 => ?_) (fun h16 => ?_)
  · have h17 : (-2147483648) ≤ p3 ∧ p3 ≤ (-1) := (vc_X12_verdict_7 h16 hp3)
    refine mr_iconst (z := (-1)) dX12_verdict_17 ?_
    exact mr_iret dX12_verdict_18 rfl (le_t rfl) (le_t rfl) hT mF.refl ⟨(rW (c := (-2147483648)) (d := 2147483647) (rR (x := (-1))) rfl), trivial⟩
  have h18 : 0 ≤ p3 ∧ p3 ≤ 2147483647 := (vc_X12_verdict_8 h16 hp3)
  refine mr_iload (z := p4) dX12_verdict_12 rfl ?_
  refine mr_if_ge (tgt := 19) dX12_verdict_14 (by decide) hp4 (fun h19 => ?_) (fun h19 => ?_)
  · have h20 : 0 ≤ p4 ∧ p4 ≤ 2147483647 := (vc_X12_verdict_9 h19 hp4)
    refine sv_aload_n dX12_verdict_19 rfl rfl ?_
    refine mr_iload_n (z := p1) dX12_verdict_20 rfl rfl ?_
    refine mr_iload_n (z := p2) dX12_verdict_21 rfl rfl ?_
    refine mr_iload_n (z := p3) dX12_verdict_22 rfl rfl ?_
    refine mr_iload (z := p4) dX12_verdict_23 rfl ?_
    refine mr_cVI (c_X12_judged hw hT h14 hp2 (rW (c := (-2147483648)) (d := 2147483647) h18 rfl) (rW (c := (-2147483648)) (d := 2147483647) h20 rfl)) (gOk _ _ _ _ _) dX12_verdict_25 (tX12_judged _ _ _ _ _) ⟨wV_X12_judged, wL_X12_judged⟩ wM_X12_145 (gCX12 _ _ _ _ _) rfl (A_106 hw) rfl ⟨le_t rfl, le_t rfl⟩ ⟨le_t rfl, le_t rfl⟩ rfl (le_t rfl) fun z25 μ21 T22 F23 h24 => ?_
    exact mr_iret dX12_verdict_28 rfl (le_t rfl) (le_t rfl) T22 (mF.call mF.refl F23 rfl) ⟨(rW (c := (-2147483648)) (d := 2147483647) h24.1 rfl), trivial⟩
  have h26 : (-2147483648) ≤ p4 ∧ p4 ≤ (-1) := (vc_X12_verdict_10 h19 hp4)
  refine mr_iconst (z := (-1)) dX12_verdict_17 ?_
  exact mr_iret dX12_verdict_18 rfl (le_t rfl) (le_t rfl) hT mF.refl ⟨(rW (c := (-2147483648)) (d := 2147483647) (rR (x := (-1))) rfl), trivial⟩
theorem vc_X12_copy_1 {p1 : Int} (h0 : 0 ≤ p1 ∧ p1 ≤ 2099) : 0 ≤ (40 * p1) := by omega
theorem vc_X12_copy_2 {p1 : Int} (h0 : 0 ≤ p1 ∧ p1 ≤ 2099) : (40 * p1) % 40 = 0 := by omega
theorem vc_X12_copy_3 (h0 : (40 : Int) ≤ (0 : Int)) : False := by omega
theorem vc_X12_copy_4 {p1 : Int} (h0 : 0 ≤ p1 ∧ p1 ≤ 2099) : ((40 * p1) + 0) = (40 * p1) := by omega
theorem vc_X12_copy_5 {f_x p1 p2 : Int} (h0 : p1 < p2 ∨ p2 < p1) (h1 : (-1) ≤ f_x ∧ f_x ≤ 9) (h2 : 0 ≤ p1 ∧ p1 ≤ 2099) (h3 : 0 ≤ p2 ∧ p2 ≤ 2099) : (-2147483648 ≤ f_x ∧ f_x ≤ 2147483647) ∧ (((40 * p2) + 0) % 40 = 0 → -1 ≤ f_x ∧ f_x ≤ 9) ∧ (((40 * p2) + 0) % 40 = 4 → 0 ≤ f_x ∧ f_x ≤ 20) ∧ (((40 * p2) + 0) % 40 = 5 → 0 ≤ f_x ∧ f_x ≤ 8) := by omega
theorem vc_X12_copy_6 {z294 : Int} (h0 : (41 - z294) < ((0 : Nat) : Int)) (h1 : 1 ≤ z294 ∧ z294 ≤ 40) : False := by omega
theorem vc_X12_copy_7 {p1 p2 : Int} (h0 : p1 < p2 ∨ p2 < p1) (h1 : 0 ≤ p1 ∧ p1 ≤ 2099) (h2 : 0 ≤ p2 ∧ p2 ≤ 2099) : 0 ≤ (40 * p2) := by omega
theorem vc_X12_copy_8 {p1 p2 : Int} (h0 : p1 < p2 ∨ p2 < p1) (h1 : 0 ≤ p1 ∧ p1 ≤ 2099) (h2 : 0 ≤ p2 ∧ p2 ≤ 2099) : (40 * p2) % 40 = 0 := by omega
theorem vc_X12_copy_9 {z294 : Int} (h0 : 40 ≤ z294) (h1 : 1 ≤ z294 ∧ z294 ≤ 40) : 40 ≤ z294 ∧ z294 ≤ 40 := by omega
theorem vc_X12_copy_10 {p1 p2 : Int} (h0 : p1 < p2 ∨ p2 < p1) (h1 : 0 ≤ p1 ∧ p1 ≤ 2099) (h2 : 0 ≤ p2 ∧ p2 ≤ 2099) : 0 ≤ ((40 * p2) + 0) ∧ (40 * p2) ≤ ((40 * p2) + 0) ∧ ((40 * p2) + 0) < ((40 * p2) + 40) := by omega
theorem vc_X12_copy_11 {p1 p2 : Int} (h0 : p1 < p2 ∨ p2 < p1) (h1 : 0 ≤ p1 ∧ p1 ≤ 2099) (h2 : 0 ≤ p2 ∧ p2 ≤ 2099) : (40 * p2) ≤ (40 * p2) ∧ ((40 * p2) + 40) ≤ ((40 * p2) + 40) := by omega
theorem vc_X12_copy_12 {f_x f_y : Int} (h0 : f_y = f_x) (h1 : (-1) ≤ f_x ∧ f_x ≤ 9) (h2 : (-1) ≤ f_y ∧ f_y ≤ 9) : f_y = f_x := by omega
theorem vc_X12_copy_13 {z294 : Int} (h0 : z294 < 40) (h1 : 1 ≤ z294 ∧ z294 ≤ 40) : 1 ≤ z294 ∧ z294 ≤ 39 := by omega
theorem vc_X12_copy_14 {p1 p2 z294 z318 : Int} (h0 : p1 < p2 ∨ p2 < p1) (h1 : z294 < 40) (h2 : (((40 * p1) + z294) % 40 = 0 → -1 ≤ z318 ∧ z318 ≤ 9)) (h3 : (((40 * p1) + z294) % 40 = 4 → 0 ≤ z318 ∧ z318 ≤ 20)) (h4 : (((40 * p1) + z294) % 40 = 5 → 0 ≤ z318 ∧ z318 ≤ 8)) (h5 : 0 ≤ p1 ∧ p1 ≤ 2099) (h6 : 0 ≤ p2 ∧ p2 ≤ 2099) (h7 : 1 ≤ z294 ∧ z294 ≤ 39) (h8 : (-2147483648) ≤ z318 ∧ z318 ≤ 2147483647) : (-2147483648 ≤ z318 ∧ z318 ≤ 2147483647) ∧ (((40 * p2) + z294) % 40 = 0 → -1 ≤ z318 ∧ z318 ≤ 9) ∧ (((40 * p2) + z294) % 40 = 4 → 0 ≤ z318 ∧ z318 ≤ 20) ∧ (((40 * p2) + z294) % 40 = 5 → 0 ≤ z318 ∧ z318 ≤ 8) := by omega
theorem vc_X12_copy_15 {p1 p2 z294 z318 : Int} (h0 : p1 < p2 ∨ p2 < p1) (h1 : z294 < 40) (h2 : (((40 * p1) + z294) % 40 = 0 → -1 ≤ z318 ∧ z318 ≤ 9)) (h3 : (((40 * p1) + z294) % 40 = 4 → 0 ≤ z318 ∧ z318 ≤ 20)) (h4 : (((40 * p1) + z294) % 40 = 5 → 0 ≤ z318 ∧ z318 ≤ 8)) (h5 : 0 ≤ p1 ∧ p1 ≤ 2099) (h6 : 0 ≤ p2 ∧ p2 ≤ 2099) (h7 : 1 ≤ z294 ∧ z294 ≤ 39) (h8 : (-2147483648) ≤ z318 ∧ z318 ≤ 2147483647) : ((40 * p2)).toNat ≠ (((40 * p2) + z294)).toNat := by omega
theorem vc_X12_copy_16 {N p1 p2 z294 z318 : Int} (h0 : (41 - z294) < N + 1) (h1 : z294 < 40) (h2 : (((40 * p1) + z294) % 40 = 0 → -1 ≤ z318 ∧ z318 ≤ 9)) (h3 : (((40 * p1) + z294) % 40 = 4 → 0 ≤ z318 ∧ z318 ≤ 20)) (h4 : (((40 * p1) + z294) % 40 = 5 → 0 ≤ z318 ∧ z318 ≤ 8)) (h5 : p1 < p2 ∨ p2 < p1) (h6 : 0 ≤ p1 ∧ p1 ≤ 2099) (h7 : 0 ≤ p2 ∧ p2 ≤ 2099) (h8 : 1 ≤ z294 ∧ z294 ≤ 39) (h9 : (-2147483648) ≤ z318 ∧ z318 ≤ 2147483647) : (41 - (z294 + 1)) < N := by omega
theorem vc_X12_copy_17 {p1 p2 z294 z318 : Int} (h0 : p1 < p2 ∨ p2 < p1) (h1 : (((40 * p1) + z294) % 40 = 0 → -1 ≤ z318 ∧ z318 ≤ 9)) (h2 : (((40 * p1) + z294) % 40 = 4 → 0 ≤ z318 ∧ z318 ≤ 20)) (h3 : (((40 * p1) + z294) % 40 = 5 → 0 ≤ z318 ∧ z318 ≤ 8)) (h4 : 0 ≤ p1 ∧ p1 ≤ 2099) (h5 : 0 ≤ p2 ∧ p2 ≤ 2099) (h6 : 1 ≤ z294 ∧ z294 ≤ 39) (h7 : (-2147483648) ≤ z318 ∧ z318 ≤ 2147483647) : (40 * p2) ≤ (40 * p2) ∧ ((40 * p2) + 40) ≤ ((40 * p2) + 40) := by omega
theorem vc_X12_copy_18 {p1 p2 z294 z318 : Int} (h0 : p1 < p2 ∨ p2 < p1) (h1 : z294 < 40) (h2 : (((40 * p1) + z294) % 40 = 0 → -1 ≤ z318 ∧ z318 ≤ 9)) (h3 : (((40 * p1) + z294) % 40 = 4 → 0 ≤ z318 ∧ z318 ≤ 20)) (h4 : (((40 * p1) + z294) % 40 = 5 → 0 ≤ z318 ∧ z318 ≤ 8)) (h5 : 0 ≤ p1 ∧ p1 ≤ 2099) (h6 : 0 ≤ p2 ∧ p2 ≤ 2099) (h7 : 1 ≤ z294 ∧ z294 ≤ 39) (h8 : (-2147483648) ≤ z318 ∧ z318 ≤ 2147483647) : 0 ≤ ((40 * p2) + z294) ∧ (40 * p2) ≤ ((40 * p2) + z294) ∧ ((40 * p2) + z294) < ((40 * p2) + 40) := by omega
theorem vc_X12_copy_19 {p2 : Int} (h0 : 0 ≤ p2 ∧ p2 ≤ 2099) : (40 * p2) = ((40 * p2) + 0) := by omega
theorem vc_X12_copy_20 {f_x : Int} (h0 : (-1) ≤ f_x ∧ f_x ≤ 9) : f_x = f_x := by omega
theorem vc_X12_copy_21  : (41 - (0 + 1)) < ((41 : Nat) : Int) := by omega
set_option maxRecDepth 4000 in
set_option maxHeartbeats 4000000 in
theorem c_X12_copy {l : Launch} {D : va_G} {c : Nat → ClassId} {H0 : Heap} {sa : Nat × Nat × (Nat → Int32)} {w : mW} {μ : mM} (hw : mWF w) (hT : mT w μ) {p1 : Int} (hp1 : 0 ≤ p1 ∧ p1 ≤ 2099) {p2 : Int} (hp2 : 0 ≤ p2 ∧ p2 ≤ 2099) {f_x : Int} (q_f_x : μ 126 (40 * p1).toNat = f_x) (hq0 : p1 < p2 ∨ p2 < p1) : sC (gG l D c H0 sa) mX12_copy 1 0 0 [.ref 106, iv p1, iv p2] (mk w μ) (qV w [126999] μ (fun μ1 => ∃ o_x : Int, μ1 126 (40 * p2).toNat = o_x ∧ mG [((40 * p2), ((40 * p2) + 40))] μ μ1 ∧ (o_x = f_x) ∧ True)) := by
  refine sC.of rfl (by decide) (le_t rfl) ?_
  have ht_f_x := rt7 hT (A_126 hw) (vc_X12_copy_1 hp1) q_f_x
  have h1 : (-1) ≤ f_x ∧ f_x ≤ 9 := ht_f_x.2.1 (vc_X12_copy_2 hp1)
  refine mr_lvE (lv' := [(0, .ref 106), (1, iv p1), (2, iv p2)]) rfl ?_
  refine mr_iconst (z := 0) dX12_copy_0 ?_
  refine mr_istore_n (lv' := [(3, iv 0), (0, .ref 106), (1, iv p1), (2, iv p2)]) dX12_copy_1 rfl (by decide) rfl ?_
  refine mr_iload_n (z := 0) dX12_copy_2 rfl rfl ?_
  refine mr_bipush (z := 40) dX12_copy_3 (by decide) ?_
  refine mr_icmp_ge (tgt := 36) dX12_copy_5 (by decide) (r32 (rR (x := 0)) rfl) (r32 (rR (x := 40)) rfl) (fun h => ((vc_X12_copy_3 h)).elim) (fun _ => ?_)
  refine sv_aload_n dX12_copy_8 rfl rfl ?_
  refine gf_X12_32 dX12_copy_9 wF_X12_148 (A_106 hw) hT ?_
  refine mr_bipush (z := 40) dX12_copy_12 (by decide) ?_
  refine mr_iload_n (z := p2) dX12_copy_14 rfl rfl ?_
  refine mr_imul (x := 40) (y := p2) dX12_copy_15 ?_
  refine mr_iload_n (z := 0) dX12_copy_16 rfl rfl ?_
  refine mr_iadd (x := (40 * p2)) (y := 0) dX12_copy_17 ?_
  refine sv_aload_n dX12_copy_18 rfl rfl ?_
  refine gf_X12_32 dX12_copy_19 wF_X12_148 (A_106 hw) hT ?_
  refine mr_bipush (z := 40) dX12_copy_22 (by decide) ?_
  refine mr_iload_n (z := p1) dX12_copy_24 rfl rfl ?_
  refine mr_imul (x := 40) (y := p1) dX12_copy_25 ?_
  refine mr_iload_n (z := 0) dX12_copy_26 rfl rfl ?_
  refine mr_iadd (x := (40 * p1)) (y := 0) dX12_copy_27 ?_
  refine lk_126 dX12_copy_28 (A_126 hw) (rIx (n := 84000) (rAdd (e := 0) (f := 83960) (rMulL (n := 40) (e := 0) (f := 83960) hp1 rfl) (rR (x := 0)) rfl) rfl) (eqIx (vc_X12_copy_4 hp1) q_f_x) ?_
  refine ss_126 dX12_copy_29 (A_126 hw) hT (rIx (n := 84000) (rAdd (e := 0) (f := 83960) (rMulL (n := 40) (e := 0) (f := 83960) hp2 rfl) (rR (x := 0)) rfl) rfl) (vc_X12_copy_5 hq0 h1 hp1 hp2) fun μ177 u178 T179 => ?_
  refine mr_iinc (lv' := [(3, iv (0 + 1)), (0, .ref 106), (1, iv p1), (2, iv p2)]) dX12_copy_30 rfl (by decide) rfl ?_
  refine sv_goto (tgt := 2) dX12_copy_33 (by decide) ?_
  have L296 : ∀ (nL296 : Nat) (z294 : Int) (μ295 : mM) (f_y : Int), mT w μ295 → mF [126999] w μ177 μ295 → mG [((40 * p2), ((40 * p2) + 40))] μ177 μ295 → μ295 126 (40 * p2).toNat = f_y → (1 ≤ z294 ∧ z294 ≤ 40) → f_y = f_x → (41 - z294) < (nL296 : Int) → sV (gG l D c H0 sa) mX12_copy (sRm 1 0 0) (sZ (gG l D c H0 sa) 0 0 (qV w [126999] μ (fun μ1 => ∃ o_x : Int, μ1 126 (40 * p2).toNat = o_x ∧ mG [((40 * p2), ((40 * p2) + 40))] μ μ1 ∧ (o_x = f_x) ∧ True))) 2 [(0, .ref 106), (1, iv p1), (2, iv p2), (3, iv z294)] [] (mk w μ295) 0 0 := by
    intro nL296
    induction nL296 with
    | zero => intro z294 μ295 f_y T298 F299 G300 q303 h297 h301 h302; exact ((vc_X12_copy_6 h302 h297)).elim
    | succ nL296 ih304 =>
      intro z294 μ295 f_y T298 F299 G300 q303 h297 h301 h302
      have h305 := rt7 T298 (A_126 hw) (vc_X12_copy_7 hq0 hp1 hp2) q303
      have h306 : (-1) ≤ f_y ∧ f_y ≤ 9 := h305.2.1 (vc_X12_copy_8 hq0 hp1 hp2)
      refine mr_iload_n (z := z294) dX12_copy_2 rfl rfl ?_
      refine mr_bipush (z := 40) dX12_copy_3 (by decide) ?_
      refine mr_icmp_ge (tgt := 36) dX12_copy_5 (by decide) (r32 h297 rfl) (r32 (rR (x := 40)) rfl) (fun h315 => ?_) (fun h315 => ?_)
      · have h316 : 40 ≤ z294 ∧ z294 ≤ 40 := (vc_X12_copy_9 h315 h297)
        exact mr_vret dX12_copy_36 rfl (le_t rfl) (le_t rfl) T298 (mF.call (mF.up mF.refl (A_126 hw) u178 rfl) F299 rfl) ⟨f_y, q303, (mG.call (mG.up mG.refl u178 List.mem_cons_self (vc_X12_copy_10 hq0 hp1 hp2)) G300 (List.forall_mem_cons.mpr ⟨⟨_, List.mem_cons_self, (vc_X12_copy_11 hq0 hp1 hp2)⟩, (fun _ h => absurd h List.not_mem_nil)⟩)), (vc_X12_copy_12 h301 h1 h306), trivial⟩
      have h317 : 1 ≤ z294 ∧ z294 ≤ 39 := (vc_X12_copy_13 h315 h297)
      refine sv_aload_n dX12_copy_8 rfl rfl ?_
      refine gf_X12_32 dX12_copy_9 wF_X12_148 (A_106 hw) T298 ?_
      refine mr_bipush (z := 40) dX12_copy_12 (by decide) ?_
      refine mr_iload_n (z := p2) dX12_copy_14 rfl rfl ?_
      refine mr_imul (x := 40) (y := p2) dX12_copy_15 ?_
      refine mr_iload_n (z := z294) dX12_copy_16 rfl rfl ?_
      refine mr_iadd (x := (40 * p2)) (y := z294) dX12_copy_17 ?_
      refine sv_aload_n dX12_copy_18 rfl rfl ?_
      refine gf_X12_32 dX12_copy_19 wF_X12_148 (A_106 hw) T298 ?_
      refine mr_bipush (z := 40) dX12_copy_22 (by decide) ?_
      refine mr_iload_n (z := p1) dX12_copy_24 rfl rfl ?_
      refine mr_imul (x := 40) (y := p1) dX12_copy_25 ?_
      refine mr_iload_n (z := z294) dX12_copy_26 rfl rfl ?_
      refine mr_iadd (x := (40 * p1)) (y := z294) dX12_copy_27 ?_
      refine la_126 dX12_copy_28 (A_126 hw) T298 (rIx (n := 84000) (rAdd (e := 1) (f := 83999) (rMulL (n := 40) (e := 0) (f := 83960) hp1 rfl) h317 rfl) rfl) fun z318 q319 h320 => ?_
      refine ss_126 dX12_copy_29 (A_126 hw) T298 (rIx (n := 84000) (rAdd (e := 1) (f := 83999) (rMulL (n := 40) (e := 0) (f := 83960) hp2 rfl) h317 rfl) rfl) (vc_X12_copy_14 hq0 h315 h320.2.1 h320.2.2.1 h320.2.2.2 hp1 hp2 h317 h320.1) fun μ321 u322 T323 => ?_
      refine mr_iinc (lv' := [(3, iv (z294 + 1)), (0, .ref 106), (1, iv p1), (2, iv p2)]) dX12_copy_30 rfl (by decide) rfl ?_
      refine sv_goto (tgt := 2) dX12_copy_33 (by decide) ?_
      refine mr_lvS (lv' := [(0, .ref 106), (1, iv p1), (2, iv p2), (3, iv (z294 + 1))]) (List.forall_mem_cons.mpr ⟨rfl, List.forall_mem_cons.mpr ⟨rfl, List.forall_mem_cons.mpr ⟨rfl, List.forall_mem_cons.mpr ⟨rfl, fun _ h => absurd h List.not_mem_nil⟩⟩⟩⟩) ?_
      exact ih304 (z294 + 1) μ321 f_y T323 (mF.up (mF.call mF.refl F299 rfl) (A_126 hw) u322 rfl) (mG.up (mG.call mG.refl G300 (List.forall_mem_cons.mpr ⟨⟨_, List.mem_cons_self, (vc_X12_copy_17 hq0 h320.2.1 h320.2.2.1 h320.2.2.2 hp1 hp2 h317 h320.1)⟩, (fun _ h => absurd h List.not_mem_nil)⟩)) u322 List.mem_cons_self (vc_X12_copy_18 hq0 h315 h320.2.1 h320.2.2.1 h320.2.2.2 hp1 hp2 h317 h320.1)) (u322.f (Or.inr (vc_X12_copy_15 hq0 h315 h320.2.1 h320.2.2.1 h320.2.2.2 hp1 hp2 h317 h320.1)) q303) (rW (c := 1) (d := 40) (rAdd (e := 2) (f := 40) h317 (rR (x := 1)) rfl) rfl) (vc_X12_copy_12 h301 h1 h306) (vc_X12_copy_16 (nS h302) h315 h320.2.1 h320.2.2.1 h320.2.2.2 hq0 hp1 hp2 h317 h320.1)
  refine mr_lvS (lv' := [(0, .ref 106), (1, iv p1), (2, iv p2), (3, iv (0 + 1))]) (List.forall_mem_cons.mpr ⟨rfl, List.forall_mem_cons.mpr ⟨rfl, List.forall_mem_cons.mpr ⟨rfl, List.forall_mem_cons.mpr ⟨rfl, fun _ h => absurd h List.not_mem_nil⟩⟩⟩⟩) ?_
  exact L296 41 (0 + 1) μ177 f_x T179 mF.refl mG.refl (eqIx (vc_X12_copy_19 hp2) u178.1) (rW (c := 1) (d := 40) (rAdd (e := 1) (f := 1) (rR (x := 0)) (rR (x := 1)) rfl) rfl) (vc_X12_copy_20 h1) vc_X12_copy_21
theorem vc_X12_nothing_1 {p1 : Int} (h0 : 0 ≤ p1 ∧ p1 ≤ 2099) : (-2147483648 ≤ (-1) ∧ (-1) ≤ 2147483647) ∧ ((40 * p1) % 40 = 0 → -1 ≤ (-1) ∧ (-1) ≤ 9) ∧ ((40 * p1) % 40 = 4 → 0 ≤ (-1) ∧ (-1) ≤ 20) ∧ ((40 * p1) % 40 = 5 → 0 ≤ (-1) ∧ (-1) ≤ 8) := by omega
theorem vc_X12_nothing_2 {p1 : Int} (h0 : 0 ≤ p1 ∧ p1 ≤ 2099) : 0 ≤ (40 * p1) ∧ (40 * p1) ≤ (40 * p1) ∧ (40 * p1) < ((40 * p1) + 1) := by omega
theorem vc_X12_nothing_3  : (-(1 : Int) : Int) = -(1 : Int) := by omega
set_option maxRecDepth 4000 in
set_option maxHeartbeats 4000000 in
theorem c_X12_nothing {l : Launch} {D : va_G} {c : Nat → ClassId} {H0 : Heap} {sa : Nat × Nat × (Nat → Int32)} {w : mW} {μ : mM} (hw : mWF w) (hT : mT w μ) {p1 : Int} (hp1 : 0 ≤ p1 ∧ p1 ≤ 2099) : sC (gG l D c H0 sa) mX12_nothing 1 0 0 [.ref 106, iv p1] (mk w μ) (qV w [126999] μ (fun μ1 => ∃ o_x : Int, μ1 126 (40 * p1).toNat = o_x ∧ mG [((40 * p1), ((40 * p1) + 1))] μ μ1 ∧ (o_x = -1) ∧ True)) := by
  refine sC.of rfl (by decide) (le_t rfl) ?_
  refine mr_lvE (lv' := [(0, .ref 106), (1, iv p1)]) rfl ?_
  refine sv_aload_n dX12_nothing_0 rfl rfl ?_
  refine gf_X12_32 dX12_nothing_1 wF_X12_148 (A_106 hw) hT ?_
  refine mr_bipush (z := 40) dX12_nothing_4 (by decide) ?_
  refine mr_iload_n (z := p1) dX12_nothing_6 rfl rfl ?_
  refine mr_imul (x := 40) (y := p1) dX12_nothing_7 ?_
  refine mr_iconst (z := (-1)) dX12_nothing_8 ?_
  refine ss_126 dX12_nothing_9 (A_126 hw) hT (rIx (n := 84000) (rMulL (n := 40) (e := 0) (f := 83960) hp1 rfl) rfl) (vc_X12_nothing_1 hp1) fun μ1 u2 T3 => ?_
  exact mr_vret dX12_nothing_10 rfl (le_t rfl) (le_t rfl) T3 (mF.up mF.refl (A_126 hw) u2 rfl) ⟨(-1), u2.1, (mG.up mG.refl u2 List.mem_cons_self (vc_X12_nothing_2 hp1)), vc_X12_nothing_3, trivial⟩
theorem vc_X12_isThere_1 {p1 : Int} (h0 : 0 ≤ p1 ∧ p1 ≤ 2099) : 0 ≤ (40 * p1) := by omega
theorem vc_X12_isThere_2 {p1 : Int} (h0 : 0 ≤ p1 ∧ p1 ≤ 2099) : (40 * p1) % 40 = 0 := by omega
theorem vc_X12_isThere_3 {f_x : Int} (h0 : f_x < 0) (h1 : (-1) ≤ f_x ∧ f_x ≤ 9) : (-1) ≤ f_x ∧ f_x ≤ (-1) := by omega
theorem vc_X12_isThere_4 {f_x : Int} (h0 : f_x < 0) (h1 : (-1) ≤ f_x ∧ f_x ≤ (-1)) : (0 : Int) = 1 → 0 ≤ f_x := by omega
theorem vc_X12_isThere_5 {f_x : Int} (h0 : f_x < 0) (h1 : (-1) ≤ f_x ∧ f_x ≤ (-1)) : (0 : Int) = 0 → f_x < 0 := by omega
theorem vc_X12_isThere_6 {f_x : Int} (h0 : 0 ≤ f_x) (h1 : (-1) ≤ f_x ∧ f_x ≤ 9) : 0 ≤ f_x ∧ f_x ≤ 9 := by omega
theorem vc_X12_isThere_7 {f_x : Int} (h0 : 0 ≤ f_x) (h1 : 0 ≤ f_x ∧ f_x ≤ 9) : (1 : Int) = 1 → 0 ≤ f_x := by omega
theorem vc_X12_isThere_8 {f_x : Int} (h0 : 0 ≤ f_x) (h1 : 0 ≤ f_x ∧ f_x ≤ 9) : (1 : Int) = 0 → f_x < 0 := by omega
set_option maxRecDepth 4000 in
set_option maxHeartbeats 4000000 in
theorem c_X12_isThere {l : Launch} {D : va_G} {c : Nat → ClassId} {H0 : Heap} {sa : Nat × Nat × (Nat → Int32)} {w : mW} {μ : mM} (hw : mWF w) (hT : mT w μ) {p1 : Int} (hp1 : 0 ≤ p1 ∧ p1 ≤ 2099) {f_x : Int} (q_f_x : μ 126 (40 * p1).toNat = f_x) : sC (gG l D c H0 sa) mX12_isThere 1 0 0 [.ref 106, iv p1] (mk w μ) (qP w μ (fun z => (0 ≤ z ∧ z ≤ 1) ∧ (z = 1 → 0 ≤ f_x) ∧ (z = 0 → f_x < 0) ∧ True)) := by
  refine sC.of rfl (by decide) (le_t rfl) ?_
  have ht_f_x := rt7 hT (A_126 hw) (vc_X12_isThere_1 hp1) q_f_x
  have h1 : (-1) ≤ f_x ∧ f_x ≤ 9 := ht_f_x.2.1 (vc_X12_isThere_2 hp1)
  refine mr_lvE (lv' := [(0, .ref 106), (1, iv p1)]) rfl ?_
  refine sv_aload_n dX12_isThere_0 rfl rfl ?_
  refine gf_X12_32 dX12_isThere_1 wF_X12_148 (A_106 hw) hT ?_
  refine mr_bipush (z := 40) dX12_isThere_4 (by decide) ?_
  refine mr_iload_n (z := p1) dX12_isThere_6 rfl rfl ?_
  refine mr_imul (x := 40) (y := p1) dX12_isThere_7 ?_
  refine lk_126 dX12_isThere_8 (A_126 hw) (rIx (n := 84000) (rMulL (n := 40) (e := 0) (f := 83960) hp1 rfl) rfl) q_f_x ?_
  refine mr_if_lt (tgt := 16) dX12_isThere_9 (by decide) (r32 h1 rfl) (fun h10 => ?_) (fun h10 => ?_)
  · have h11 : (-1) ≤ f_x ∧ f_x ≤ (-1) := (vc_X12_isThere_3 h10 h1)
    refine mr_iconst (z := 0) dX12_isThere_16 ?_
    exact mr_zretP dX12_isThere_17 rfl (rW (c := 0) (d := 1) (rR (x := 0)) rfl) (le_t rfl) (le_t rfl) ⟨(rW (c := 0) (d := 1) (rR (x := 0)) rfl), (vc_X12_isThere_4 h10 h11), (vc_X12_isThere_5 h10 h11), trivial⟩
  have h12 : 0 ≤ f_x ∧ f_x ≤ 9 := (vc_X12_isThere_6 h10 h1)
  refine mr_iconst (z := 1) dX12_isThere_12 ?_
  refine sv_goto (tgt := 17) dX12_isThere_13 (by decide) ?_
  exact mr_zretP dX12_isThere_17 rfl (rW (c := 0) (d := 1) (rR (x := 1)) rfl) (le_t rfl) (le_t rfl) ⟨(rW (c := 0) (d := 1) (rR (x := 1)) rfl), (vc_X12_isThere_7 h10 h12), (vc_X12_isThere_8 h10 h12), trivial⟩
theorem vc_X12_same_1 {p1 : Int} (h0 : 0 ≤ p1 ∧ p1 ≤ 2099) : 0 ≤ (40 * p1) := by omega
theorem vc_X12_same_2 {p1 : Int} (h0 : 0 ≤ p1 ∧ p1 ≤ 2099) : (40 * p1) % 40 = 0 := by omega
theorem vc_X12_same_3 {z1 z9 : Int} (h0 : z9 = 0) (h1 : (z9 = 1 → 0 ≤ z1)) (h2 : (z9 = 0 → z1 < 0)) (h3 : (-1) ≤ z1 ∧ z1 ≤ 9) (h4 : 0 ≤ z9 ∧ z9 ≤ 1) : 0 ≤ z9 ∧ z9 ≤ 0 := by omega
theorem vc_X12_same_4 {z1 z9 : Int} (h0 : (z9 = 1 → 0 ≤ z1)) (h1 : (z9 = 0 → z1 < 0)) (h2 : z9 = 0) (h3 : (-1) ≤ z1 ∧ z1 ≤ 9) (h4 : 0 ≤ z9 ∧ z9 ≤ 0) : z9 = 0 := by omega
theorem vc_X12_same_5 {z1 z9 : Int} (h0 : z1 < 0) (h1 : (z9 = 1 → 0 ≤ z1)) (h2 : (z9 = 0 → z1 < 0)) (h3 : (-1) ≤ z1 ∧ z1 ≤ 9) (h4 : 0 ≤ z9 ∧ z9 ≤ 0) : (-1) ≤ z1 ∧ z1 ≤ (-1) := by omega
theorem vc_X12_same_6 {p2 : Int} (h0 : 0 ≤ p2 ∧ p2 ≤ 2099) : 0 ≤ (40 * p2) := by omega
theorem vc_X12_same_7 {p2 : Int} (h0 : 0 ≤ p2 ∧ p2 ≤ 2099) : (40 * p2) % 40 = 0 := by omega
theorem vc_X12_same_8 {z1 z9 : Int} (h0 : ¬ z9 = 0) (h1 : (z9 = 1 → 0 ≤ z1)) (h2 : (z9 = 0 → z1 < 0)) (h3 : (-1) ≤ z1 ∧ z1 ≤ 9) (h4 : 0 ≤ z9 ∧ z9 ≤ 1) : 1 ≤ z9 ∧ z9 ≤ 1 := by omega
theorem vc_X12_same_9 {z1 z9 : Int} (h0 : (z9 = 1 → 0 ≤ z1)) (h1 : (z9 = 0 → z1 < 0)) (h2 : ¬ z9 = 0) (h3 : (-1) ≤ z1 ∧ z1 ≤ 9) (h4 : 1 ≤ z9 ∧ z9 ≤ 1) : z9 = 1 := by omega
theorem vc_X12_same_10 {z1 z9 : Int} (h0 : 0 ≤ z1) (h1 : (z9 = 1 → 0 ≤ z1)) (h2 : (z9 = 0 → z1 < 0)) (h3 : (-1) ≤ z1 ∧ z1 ≤ 9) (h4 : 1 ≤ z9 ∧ z9 ≤ 1) : 0 ≤ z1 ∧ z1 ≤ 9 := by omega
theorem vc_X12_same_11 {z32 z40 : Int} (h0 : ¬ z40 = 0) (h1 : (z40 = 1 → 0 ≤ z32)) (h2 : (z40 = 0 → z32 < 0)) (h3 : (-1) ≤ z32 ∧ z32 ≤ 9) (h4 : 0 ≤ z40 ∧ z40 ≤ 1) : 1 ≤ z40 ∧ z40 ≤ 1 := by omega
theorem vc_X12_same_12 {z32 z40 : Int} (h0 : (z40 = 1 → 0 ≤ z32)) (h1 : (z40 = 0 → z32 < 0)) (h2 : ¬ z40 = 0) (h3 : (-1) ≤ z32 ∧ z32 ≤ 9) (h4 : 1 ≤ z40 ∧ z40 ≤ 1) : z40 = 1 := by omega
theorem vc_X12_same_13 {z32 z40 : Int} (h0 : 0 ≤ z32) (h1 : (z40 = 1 → 0 ≤ z32)) (h2 : (z40 = 0 → z32 < 0)) (h3 : (-1) ≤ z32 ∧ z32 ≤ 9) (h4 : 1 ≤ z40 ∧ z40 ≤ 1) : 0 ≤ z32 ∧ z32 ≤ 9 := by omega
theorem vc_X12_same_14 {z343 : Int} (h0 : (7 - z343) < ((0 : Nat) : Int)) (h1 : 0 ≤ z343 ∧ z343 ≤ 6) : False := by omega
theorem vc_X12_same_15 {z343 : Int} (h0 : 6 ≤ z343) (h1 : 0 ≤ z343 ∧ z343 ≤ 6) : 6 ≤ z343 ∧ z343 ≤ 6 := by omega
theorem vc_X12_same_16 {z1097 : Int} (h0 : (21 - z1097) < ((0 : Nat) : Int)) (h1 : 0 ≤ z1097 ∧ z1097 ≤ 20) : False := by omega
theorem vc_X12_same_17 {z1288 : Int} (h0 : (9 - z1288) < ((0 : Nat) : Int)) (h1 : 0 ≤ z1288 ∧ z1288 ≤ 8) : False := by omega
theorem vc_X12_same_18 {z1288 : Int} (h0 : 8 ≤ z1288) (h1 : 0 ≤ z1288 ∧ z1288 ≤ 8) : 8 ≤ z1288 ∧ z1288 ≤ 8 := by omega
theorem vc_X12_same_19 {z1288 : Int} (h0 : z1288 < 8) (h1 : 0 ≤ z1288 ∧ z1288 ≤ 8) : 0 ≤ z1288 ∧ z1288 ≤ 7 := by omega
theorem vc_X12_same_20 {z1289 : Int} (h0 : z1289 = 0) (h1 : 0 ≤ z1289 ∧ z1289 ≤ 1) : 0 ≤ z1289 ∧ z1289 ≤ 0 := by omega
theorem vc_X12_same_21 {z1289 : Int} (h0 : ¬ z1289 = 0) (h1 : 0 ≤ z1289 ∧ z1289 ≤ 1) : 1 ≤ z1289 ∧ z1289 ≤ 1 := by omega
theorem vc_X12_same_22 {p1 : Int} (h0 : 0 ≤ p1 ∧ p1 ≤ 2099) : ((40 * p1) + 5) % 40 = 5 := by omega
theorem vc_X12_same_23 {z1288 z1334 : Int} (h0 : z1334 ≤ z1288) (h1 : z1288 < 8) (h2 : 0 ≤ z1288 ∧ z1288 ≤ 7) (h3 : 0 ≤ z1334 ∧ z1334 ≤ 8) : 0 ≤ z1334 ∧ z1334 ≤ 7 := by omega
theorem vc_X12_same_24 {N z1288 z1334 : Int} (h0 : (9 - z1288) < N + 1) (h1 : z1288 < 8) (h2 : z1334 ≤ z1288) (h3 : 0 ≤ z1288 ∧ z1288 ≤ 7) (h4 : 0 ≤ z1334 ∧ z1334 ≤ 7) : (9 - (z1288 + 1)) < N := by omega
theorem vc_X12_same_25 {z1288 z1334 : Int} (h0 : z1288 < z1334) (h1 : z1288 < 8) (h2 : 0 ≤ z1288 ∧ z1288 ≤ 7) (h3 : 0 ≤ z1334 ∧ z1334 ≤ 8) : 1 ≤ z1334 ∧ z1334 ≤ 8 := by omega
theorem vc_X12_same_26 {N p1 p2 z1288 z1334 z1349 z1352 : Int} (h0 : (9 - z1288) < N + 1) (h1 : z1288 < 8) (h2 : z1288 < z1334) (h3 : ((((40 * p1) + 26) + z1288) % 40 = 0 → -1 ≤ z1349 ∧ z1349 ≤ 9)) (h4 : ((((40 * p1) + 26) + z1288) % 40 = 4 → 0 ≤ z1349 ∧ z1349 ≤ 20)) (h5 : ((((40 * p1) + 26) + z1288) % 40 = 5 → 0 ≤ z1349 ∧ z1349 ≤ 8)) (h6 : ((((40 * p2) + 26) + z1288) % 40 = 0 → -1 ≤ z1352 ∧ z1352 ≤ 9)) (h7 : ((((40 * p2) + 26) + z1288) % 40 = 4 → 0 ≤ z1352 ∧ z1352 ≤ 20)) (h8 : ((((40 * p2) + 26) + z1288) % 40 = 5 → 0 ≤ z1352 ∧ z1352 ≤ 8)) (h9 : ¬ z1349 = z1352) (h10 : 0 ≤ p1 ∧ p1 ≤ 2099) (h11 : 0 ≤ p2 ∧ p2 ≤ 2099) (h12 : 0 ≤ z1288 ∧ z1288 ≤ 7) (h13 : 1 ≤ z1334 ∧ z1334 ≤ 8) (h14 : (-2147483648) ≤ z1349 ∧ z1349 ≤ 2147483647) (h15 : (-2147483648) ≤ z1352 ∧ z1352 ≤ 2147483647) : (9 - (z1288 + 1)) < N := by omega
theorem vc_X12_same_27 {N p1 p2 z1288 z1334 z1349 z1352 : Int} (h0 : (9 - z1288) < N + 1) (h1 : z1288 < 8) (h2 : z1288 < z1334) (h3 : ((((40 * p1) + 26) + z1288) % 40 = 0 → -1 ≤ z1349 ∧ z1349 ≤ 9)) (h4 : ((((40 * p1) + 26) + z1288) % 40 = 4 → 0 ≤ z1349 ∧ z1349 ≤ 20)) (h5 : ((((40 * p1) + 26) + z1288) % 40 = 5 → 0 ≤ z1349 ∧ z1349 ≤ 8)) (h6 : ((((40 * p2) + 26) + z1288) % 40 = 0 → -1 ≤ z1352 ∧ z1352 ≤ 9)) (h7 : ((((40 * p2) + 26) + z1288) % 40 = 4 → 0 ≤ z1352 ∧ z1352 ≤ 20)) (h8 : ((((40 * p2) + 26) + z1288) % 40 = 5 → 0 ≤ z1352 ∧ z1352 ≤ 8)) (h9 : z1349 = z1352) (h10 : 0 ≤ p1 ∧ p1 ≤ 2099) (h11 : 0 ≤ p2 ∧ p2 ≤ 2099) (h12 : 0 ≤ z1288 ∧ z1288 ≤ 7) (h13 : 1 ≤ z1334 ∧ z1334 ≤ 8) (h14 : (-2147483648) ≤ z1349 ∧ z1349 ≤ 2147483647) (h15 : (-2147483648) ≤ z1352 ∧ z1352 ≤ 2147483647) : (9 - (z1288 + 1)) < N := by omega
theorem vc_X12_same_28  : (9 - 0) < ((10 : Nat) : Int) := by omega
theorem vc_X12_same_29 {z1097 : Int} (h0 : 20 ≤ z1097) (h1 : 0 ≤ z1097 ∧ z1097 ≤ 20) : 20 ≤ z1097 ∧ z1097 ≤ 20 := by omega
theorem vc_X12_same_30 {z1097 : Int} (h0 : z1097 < 20) (h1 : 0 ≤ z1097 ∧ z1097 ≤ 20) : 0 ≤ z1097 ∧ z1097 ≤ 19 := by omega
theorem vc_X12_same_31 {z1098 : Int} (h0 : z1098 = 0) (h1 : 0 ≤ z1098 ∧ z1098 ≤ 1) : 0 ≤ z1098 ∧ z1098 ≤ 0 := by omega
theorem vc_X12_same_32 {z1098 : Int} (h0 : ¬ z1098 = 0) (h1 : 0 ≤ z1098 ∧ z1098 ≤ 1) : 1 ≤ z1098 ∧ z1098 ≤ 1 := by omega
theorem vc_X12_same_33 {p1 : Int} (h0 : 0 ≤ p1 ∧ p1 ≤ 2099) : ((40 * p1) + 4) % 40 = 4 := by omega
theorem vc_X12_same_34 {z1097 z1362 : Int} (h0 : z1362 ≤ z1097) (h1 : z1097 < 20) (h2 : 0 ≤ z1097 ∧ z1097 ≤ 19) (h3 : 0 ≤ z1362 ∧ z1362 ≤ 20) : 0 ≤ z1362 ∧ z1362 ≤ 19 := by omega
theorem vc_X12_same_35 {N z1097 z1362 : Int} (h0 : (21 - z1097) < N + 1) (h1 : z1097 < 20) (h2 : z1362 ≤ z1097) (h3 : 0 ≤ z1097 ∧ z1097 ≤ 19) (h4 : 0 ≤ z1362 ∧ z1362 ≤ 19) : (21 - (z1097 + 1)) < N := by omega
theorem vc_X12_same_36 {z1097 z1362 : Int} (h0 : z1097 < z1362) (h1 : z1097 < 20) (h2 : 0 ≤ z1097 ∧ z1097 ≤ 19) (h3 : 0 ≤ z1362 ∧ z1362 ≤ 20) : 1 ≤ z1362 ∧ z1362 ≤ 20 := by omega
theorem vc_X12_same_37 {N p1 p2 z1097 z1362 z1377 z1380 : Int} (h0 : (21 - z1097) < N + 1) (h1 : z1097 < 20) (h2 : z1097 < z1362) (h3 : ((((40 * p1) + 6) + z1097) % 40 = 0 → -1 ≤ z1377 ∧ z1377 ≤ 9)) (h4 : ((((40 * p1) + 6) + z1097) % 40 = 4 → 0 ≤ z1377 ∧ z1377 ≤ 20)) (h5 : ((((40 * p1) + 6) + z1097) % 40 = 5 → 0 ≤ z1377 ∧ z1377 ≤ 8)) (h6 : ((((40 * p2) + 6) + z1097) % 40 = 0 → -1 ≤ z1380 ∧ z1380 ≤ 9)) (h7 : ((((40 * p2) + 6) + z1097) % 40 = 4 → 0 ≤ z1380 ∧ z1380 ≤ 20)) (h8 : ((((40 * p2) + 6) + z1097) % 40 = 5 → 0 ≤ z1380 ∧ z1380 ≤ 8)) (h9 : ¬ z1377 = z1380) (h10 : 0 ≤ p1 ∧ p1 ≤ 2099) (h11 : 0 ≤ p2 ∧ p2 ≤ 2099) (h12 : 0 ≤ z1097 ∧ z1097 ≤ 19) (h13 : 1 ≤ z1362 ∧ z1362 ≤ 20) (h14 : (-2147483648) ≤ z1377 ∧ z1377 ≤ 2147483647) (h15 : (-2147483648) ≤ z1380 ∧ z1380 ≤ 2147483647) : (21 - (z1097 + 1)) < N := by omega
theorem vc_X12_same_38 {N p1 p2 z1097 z1362 z1377 z1380 : Int} (h0 : (21 - z1097) < N + 1) (h1 : z1097 < 20) (h2 : z1097 < z1362) (h3 : ((((40 * p1) + 6) + z1097) % 40 = 0 → -1 ≤ z1377 ∧ z1377 ≤ 9)) (h4 : ((((40 * p1) + 6) + z1097) % 40 = 4 → 0 ≤ z1377 ∧ z1377 ≤ 20)) (h5 : ((((40 * p1) + 6) + z1097) % 40 = 5 → 0 ≤ z1377 ∧ z1377 ≤ 8)) (h6 : ((((40 * p2) + 6) + z1097) % 40 = 0 → -1 ≤ z1380 ∧ z1380 ≤ 9)) (h7 : ((((40 * p2) + 6) + z1097) % 40 = 4 → 0 ≤ z1380 ∧ z1380 ≤ 20)) (h8 : ((((40 * p2) + 6) + z1097) % 40 = 5 → 0 ≤ z1380 ∧ z1380 ≤ 8)) (h9 : z1377 = z1380) (h10 : 0 ≤ p1 ∧ p1 ≤ 2099) (h11 : 0 ≤ p2 ∧ p2 ≤ 2099) (h12 : 0 ≤ z1097 ∧ z1097 ≤ 19) (h13 : 1 ≤ z1362 ∧ z1362 ≤ 20) (h14 : (-2147483648) ≤ z1377 ∧ z1377 ≤ 2147483647) (h15 : (-2147483648) ≤ z1380 ∧ z1380 ≤ 2147483647) : (21 - (z1097 + 1)) < N := by omega
theorem vc_X12_same_39  : (21 - 0) < ((22 : Nat) : Int) := by omega
theorem vc_X12_same_40 {z343 : Int} (h0 : z343 < 6) (h1 : 0 ≤ z343 ∧ z343 ≤ 6) : 0 ≤ z343 ∧ z343 ≤ 5 := by omega
theorem vc_X12_same_41 {z344 : Int} (h0 : z344 = 0) (h1 : 0 ≤ z344 ∧ z344 ≤ 1) : 0 ≤ z344 ∧ z344 ≤ 0 := by omega
theorem vc_X12_same_42 {N z343 : Int} (h0 : (7 - z343) < N + 1) (h1 : z343 < 6) (h2 : 0 ≤ z343 ∧ z343 ≤ 5) : (7 - (z343 + 1)) < N := by omega
theorem vc_X12_same_43 {z344 : Int} (h0 : ¬ z344 = 0) (h1 : 0 ≤ z344 ∧ z344 ≤ 1) : 1 ≤ z344 ∧ z344 ≤ 1 := by omega
theorem vc_X12_same_44 {N p1 p2 z1396 z1399 z343 : Int} (h0 : (7 - z343) < N + 1) (h1 : z343 < 6) (h2 : (((40 * p1) + z343) % 40 = 0 → -1 ≤ z1396 ∧ z1396 ≤ 9)) (h3 : (((40 * p1) + z343) % 40 = 4 → 0 ≤ z1396 ∧ z1396 ≤ 20)) (h4 : (((40 * p1) + z343) % 40 = 5 → 0 ≤ z1396 ∧ z1396 ≤ 8)) (h5 : (((40 * p2) + z343) % 40 = 0 → -1 ≤ z1399 ∧ z1399 ≤ 9)) (h6 : (((40 * p2) + z343) % 40 = 4 → 0 ≤ z1399 ∧ z1399 ≤ 20)) (h7 : (((40 * p2) + z343) % 40 = 5 → 0 ≤ z1399 ∧ z1399 ≤ 8)) (h8 : ¬ z1396 = z1399) (h9 : 0 ≤ p1 ∧ p1 ≤ 2099) (h10 : 0 ≤ p2 ∧ p2 ≤ 2099) (h11 : (-2147483648) ≤ z1396 ∧ z1396 ≤ 2147483647) (h12 : (-2147483648) ≤ z1399 ∧ z1399 ≤ 2147483647) (h13 : 0 ≤ z343 ∧ z343 ≤ 5) : (7 - (z343 + 1)) < N := by omega
theorem vc_X12_same_45 {N p1 p2 z1396 z1399 z343 : Int} (h0 : (7 - z343) < N + 1) (h1 : z343 < 6) (h2 : (((40 * p1) + z343) % 40 = 0 → -1 ≤ z1396 ∧ z1396 ≤ 9)) (h3 : (((40 * p1) + z343) % 40 = 4 → 0 ≤ z1396 ∧ z1396 ≤ 20)) (h4 : (((40 * p1) + z343) % 40 = 5 → 0 ≤ z1396 ∧ z1396 ≤ 8)) (h5 : (((40 * p2) + z343) % 40 = 0 → -1 ≤ z1399 ∧ z1399 ≤ 9)) (h6 : (((40 * p2) + z343) % 40 = 4 → 0 ≤ z1399 ∧ z1399 ≤ 20)) (h7 : (((40 * p2) + z343) % 40 = 5 → 0 ≤ z1399 ∧ z1399 ≤ 8)) (h8 : z1396 = z1399) (h9 : 0 ≤ p1 ∧ p1 ≤ 2099) (h10 : 0 ≤ p2 ∧ p2 ≤ 2099) (h11 : (-2147483648) ≤ z1396 ∧ z1396 ≤ 2147483647) (h12 : (-2147483648) ≤ z1399 ∧ z1399 ≤ 2147483647) (h13 : 0 ≤ z343 ∧ z343 ≤ 5) : (7 - (z343 + 1)) < N := by omega
theorem vc_X12_same_46  : (7 - 0) < ((8 : Nat) : Int) := by omega
theorem vc_X12_same_47 {z32 z40 : Int} (h0 : z40 = 0) (h1 : (z40 = 1 → 0 ≤ z32)) (h2 : (z40 = 0 → z32 < 0)) (h3 : (-1) ≤ z32 ∧ z32 ≤ 9) (h4 : 0 ≤ z40 ∧ z40 ≤ 1) : 0 ≤ z40 ∧ z40 ≤ 0 := by omega
theorem vc_X12_same_48 {z32 z40 : Int} (h0 : (z40 = 1 → 0 ≤ z32)) (h1 : (z40 = 0 → z32 < 0)) (h2 : z40 = 0) (h3 : (-1) ≤ z32 ∧ z32 ≤ 9) (h4 : 0 ≤ z40 ∧ z40 ≤ 0) : z40 = 0 := by omega
theorem vc_X12_same_49 {z32 z40 : Int} (h0 : z32 < 0) (h1 : (z40 = 1 → 0 ≤ z32)) (h2 : (z40 = 0 → z32 < 0)) (h3 : (-1) ≤ z32 ∧ z32 ≤ 9) (h4 : 0 ≤ z40 ∧ z40 ≤ 0) : (-1) ≤ z32 ∧ z32 ≤ (-1) := by omega
set_option maxRecDepth 4000 in
set_option maxHeartbeats 4000000 in
theorem c_X12_same {l : Launch} {D : va_G} {c : Nat → ClassId} {H0 : Heap} {sa : Nat × Nat × (Nat → Int32)} {w : mW} {μ : mM} (hw : mWF w) (hT : mT w μ) {p1 : Int} (hp1 : 0 ≤ p1 ∧ p1 ≤ 2099) {p2 : Int} (hp2 : 0 ≤ p2 ∧ p2 ≤ 2099) : sC (gG l D c H0 sa) mX12_same 2 0 0 [.ref 106, iv p1, iv p2] (mk w μ) (qP w μ (fun z => (0 ≤ z ∧ z ≤ 1) ∧ True)) := by
  refine sC.of rfl (by decide) (le_t rfl) ?_
  refine mr_lvE (lv' := [(0, .ref 106), (1, iv p1), (2, iv p2)]) rfl ?_
  refine sv_aload_n dX12_same_0 rfl rfl ?_
  refine mr_iload_n (z := p1) dX12_same_1 rfl rfl ?_
  obtain ⟨z1, q2⟩ : ∃ z, μ 126 (40 * p1).toNat = z := ⟨_, rfl⟩
  have h3 := rt7 hT (A_126 hw) (vc_X12_same_1 hp1) q2
  have h4 : (-1) ≤ z1 ∧ z1 ≤ 9 := h3.2.1 (vc_X12_same_2 hp1)
  refine mr_cVP (c_X12_isThere hw hT hp1 q2) (gOk _ _ _ _ _) dX12_same_2 (tX12_isThere _ _ _ _ _) ⟨wV_X12_isThere, wL_X12_isThere⟩ wM_X12_151 (gCX12 _ _ _ _ _) rfl (A_106 hw) rfl ⟨le_t rfl, le_t rfl⟩ ⟨le_t rfl, le_t rfl⟩ rfl (le_t rfl) fun z9 h8 => ?_
  refine mr_if_eq (tgt := 16) dX12_same_5 (by decide) (r32 h8.1 rfl) (fun h10 => ?_) (fun h10 => ?_)
  · have h11 : 0 ≤ z9 ∧ z9 ≤ 0 := (vc_X12_same_3 h10 h8.2.1 h8.2.2.1 h4 h8.1)
    have h12 : z1 < 0 := (h8.2.2.1 (vc_X12_same_4 h8.2.1 h8.2.2.1 h10 h4 h11))
    have h13 : (-1) ≤ z1 ∧ z1 ≤ (-1) := (vc_X12_same_5 h12 h8.2.1 h8.2.2.1 h4 h11)
    refine sv_aload_n dX12_same_16 rfl rfl ?_
    refine mr_iload_n (z := p1) dX12_same_17 rfl rfl ?_
    refine mr_cVP (c_X12_isThere hw hT hp1 q2) (gOk _ _ _ _ _) dX12_same_18 (tX12_isThere _ _ _ _ _) ⟨wV_X12_isThere, wL_X12_isThere⟩ wM_X12_151 (gCX12 _ _ _ _ _) rfl (A_106 hw) rfl ⟨le_t rfl, le_t rfl⟩ ⟨le_t rfl, le_t rfl⟩ rfl (le_t rfl) fun z18 h17 => ?_
    refine sv_aload_n dX12_same_21 rfl rfl ?_
    refine mr_iload_n (z := p2) dX12_same_22 rfl rfl ?_
    obtain ⟨z19, q20⟩ : ∃ z, μ 126 (40 * p2).toNat = z := ⟨_, rfl⟩
    have h21 := rt7 hT (A_126 hw) (vc_X12_same_6 hp2) q20
    have h22 : (-1) ≤ z19 ∧ z19 ≤ 9 := h21.2.1 (vc_X12_same_7 hp2)
    refine mr_cVP (c_X12_isThere hw hT hp2 q20) (gOk _ _ _ _ _) dX12_same_23 (tX12_isThere _ _ _ _ _) ⟨wV_X12_isThere, wL_X12_isThere⟩ wM_X12_151 (gCX12 _ _ _ _ _) rfl (A_106 hw) rfl ⟨le_t rfl, le_t rfl⟩ ⟨le_t rfl, le_t rfl⟩ rfl (le_t rfl) fun z27 h26 => ?_
    refine mr_icmp_ne (tgt := 33) dX12_same_26 (by decide) (r32 h17.1 rfl) (r32 h26.1 rfl) (fun h28 => ?_) (fun h28 => ?_)
    · refine mr_iconst (z := 0) dX12_same_33 ?_
      exact mr_zretP dX12_same_34 rfl (rW (c := 0) (d := 1) (rR (x := 0)) rfl) (le_t rfl) (le_t rfl) ⟨(rW (c := 0) (d := 1) (rR (x := 0)) rfl), trivial⟩
    refine mr_iconst (z := 1) dX12_same_29 ?_
    refine sv_goto (tgt := 34) dX12_same_30 (by decide) ?_
    exact mr_zretP dX12_same_34 rfl (rW (c := 0) (d := 1) (rR (x := 1)) rfl) (le_t rfl) (le_t rfl) ⟨(rW (c := 0) (d := 1) (rR (x := 1)) rfl), trivial⟩
  have h29 : 1 ≤ z9 ∧ z9 ≤ 1 := (vc_X12_same_8 h10 h8.2.1 h8.2.2.1 h4 h8.1)
  have h30 : 0 ≤ z1 := (h8.2.1 (vc_X12_same_9 h8.2.1 h8.2.2.1 h10 h4 h29))
  have h31 : 0 ≤ z1 ∧ z1 ≤ 9 := (vc_X12_same_10 h30 h8.2.1 h8.2.2.1 h4 h29)
  refine sv_aload_n dX12_same_8 rfl rfl ?_
  refine mr_iload_n (z := p2) dX12_same_9 rfl rfl ?_
  obtain ⟨z32, q33⟩ : ∃ z, μ 126 (40 * p2).toNat = z := ⟨_, rfl⟩
  have h34 := rt7 hT (A_126 hw) (vc_X12_same_6 hp2) q33
  have h35 : (-1) ≤ z32 ∧ z32 ≤ 9 := h34.2.1 (vc_X12_same_7 hp2)
  refine mr_cVP (c_X12_isThere hw hT hp2 q33) (gOk _ _ _ _ _) dX12_same_10 (tX12_isThere _ _ _ _ _) ⟨wV_X12_isThere, wL_X12_isThere⟩ wM_X12_151 (gCX12 _ _ _ _ _) rfl (A_106 hw) rfl ⟨le_t rfl, le_t rfl⟩ ⟨le_t rfl, le_t rfl⟩ rfl (le_t rfl) fun z40 h39 => ?_
  refine mr_if_ne (tgt := 35) dX12_same_13 (by decide) (r32 h39.1 rfl) (fun h41 => ?_) (fun h41 => ?_)
  · have h42 : 1 ≤ z40 ∧ z40 ≤ 1 := (vc_X12_same_11 h41 h39.2.1 h39.2.2.1 h35 h39.1)
    have h43 : 0 ≤ z32 := (h39.2.1 (vc_X12_same_12 h39.2.1 h39.2.2.1 h41 h35 h42))
    have h44 : 0 ≤ z32 ∧ z32 ≤ 9 := (vc_X12_same_13 h43 h39.2.1 h39.2.2.1 h35 h42)
    refine mr_iconst (z := 1) dX12_same_35 ?_
    refine mr_istore_n (lv' := [(3, iv 1), (0, .ref 106), (1, iv p1), (2, iv p2)]) dX12_same_36 rfl (by decide) rfl ?_
    refine mr_iconst (z := 0) dX12_same_37 ?_
    refine mr_istore (lv' := [(4, iv 0), (3, iv 1), (0, .ref 106), (1, iv p1), (2, iv p2)]) dX12_same_38 (by decide) rfl ?_
    have L345 : ∀ (nL345 : Nat) (z344 z343 : Int), True → (0 ≤ z344 ∧ z344 ≤ 1) → (0 ≤ z343 ∧ z343 ≤ 6) → (7 - z343) < (nL345 : Int) → sV (gG l D c H0 sa) mX12_same (sRm 2 0 0) (sZ (gG l D c H0 sa) 0 0 (qP w μ (fun z => (0 ≤ z ∧ z ≤ 1) ∧ True))) 40 [(0, .ref 106), (1, iv p1), (2, iv p2), (3, iv z344), (4, iv z343)] [] (mk w μ) 0 0 := by
      intro nL345
      induction nL345 with
      | zero => intro z344 z343 _ h346 h347 h351; exact ((vc_X12_same_14 h351 h347)).elim
      | succ nL345 ih352 =>
        intro z344 z343 _ h346 h347 h351
        refine mr_iload (z := z343) dX12_same_40 rfl ?_
        refine mr_bipush (z := 6) dX12_same_42 (by decide) ?_
        refine mr_icmp_ge (tgt := 90) dX12_same_44 (by decide) (r32 h347 rfl) (r32 (rR (x := 6)) rfl) (fun h363 => ?_) (fun h363 => ?_)
        · have h364 : 6 ≤ z343 ∧ z343 ≤ 6 := (vc_X12_same_15 h363 h347)
          refine mr_iconst (z := 0) dX12_same_90 ?_
          refine mr_istore (lv' := [(4, iv 0), (0, .ref 106), (1, iv p1), (2, iv p2), (3, iv z344)]) dX12_same_91 (by decide) rfl ?_
          have L1099 : ∀ (nL1099 : Nat) (z1098 z1097 : Int), True → (0 ≤ z1098 ∧ z1098 ≤ 1) → (0 ≤ z1097 ∧ z1097 ≤ 20) → (21 - z1097) < (nL1099 : Int) → sV (gG l D c H0 sa) mX12_same (sRm 2 0 0) (sZ (gG l D c H0 sa) 0 0 (qP w μ (fun z => (0 ≤ z ∧ z ≤ 1) ∧ True))) 93 [(0, .ref 106), (1, iv p1), (2, iv p2), (3, iv z1098), (4, iv z1097)] [] (mk w μ) 0 0 := by
            intro nL1099
            induction nL1099 with
            | zero => intro z1098 z1097 _ h1100 h1101 h1105; exact ((vc_X12_same_16 h1105 h1101)).elim
            | succ nL1099 ih1106 =>
              intro z1098 z1097 _ h1100 h1101 h1105
              refine mr_iload (z := z1097) dX12_same_93 rfl ?_
              refine mr_bipush (z := 20) dX12_same_95 (by decide) ?_
              have J1123 : sV (gG l D c H0 sa) mX12_same (sRm 2 0 0) (sZ (gG l D c H0 sa) 0 0 (qP w μ (fun z => (0 ≤ z ∧ z ≤ 1) ∧ True))) 165 [(0, .ref 106), (1, iv p1), (2, iv p2), (3, iv z1098)] [] (mk w μ) 0 0 := by
                refine mr_iconst (z := 0) dX12_same_165 ?_
                refine mr_istore (lv' := [(4, iv 0), (0, .ref 106), (1, iv p1), (2, iv p2), (3, iv z1098)]) dX12_same_166 (by decide) rfl ?_
                have L1290 : ∀ (nL1290 : Nat) (z1289 z1288 : Int), True → (0 ≤ z1289 ∧ z1289 ≤ 1) → (0 ≤ z1288 ∧ z1288 ≤ 8) → (9 - z1288) < (nL1290 : Int) → sV (gG l D c H0 sa) mX12_same (sRm 2 0 0) (sZ (gG l D c H0 sa) 0 0 (qP w μ (fun z => (0 ≤ z ∧ z ≤ 1) ∧ True))) 168 [(0, .ref 106), (1, iv p1), (2, iv p2), (3, iv z1289), (4, iv z1288)] [] (mk w μ) 0 0 := by
                  intro nL1290
                  induction nL1290 with
                  | zero => intro z1289 z1288 _ h1291 h1292 h1296; exact ((vc_X12_same_17 h1296 h1292)).elim
                  | succ nL1290 ih1297 =>
                    intro z1289 z1288 _ h1291 h1292 h1296
                    refine mr_iload (z := z1288) dX12_same_168 rfl ?_
                    refine mr_bipush (z := 8) dX12_same_170 (by decide) ?_
                    refine mr_icmp_ge (tgt := 240) dX12_same_172 (by decide) (r32 h1292 rfl) (r32 (rR (x := 8)) rfl) (fun h1314 => ?_) (fun h1314 => ?_)
                    · have h1315 : 8 ≤ z1288 ∧ z1288 ≤ 8 := (vc_X12_same_18 h1314 h1292)
                      refine mr_iload_n (z := z1289) dX12_same_240 rfl rfl ?_
                      exact mr_zretP dX12_same_241 rfl h1291 (le_t rfl) (le_t rfl) ⟨h1291, trivial⟩
                    have h1316 : 0 ≤ z1288 ∧ z1288 ≤ 7 := (vc_X12_same_19 h1314 h1292)
                    refine mr_iload_n (z := z1289) dX12_same_175 rfl rfl ?_
                    refine mr_if_eq (tgt := 240) dX12_same_176 (by decide) (r32 h1291 rfl) (fun h1331 => ?_) (fun h1331 => ?_)
                    · have h1332 : 0 ≤ z1289 ∧ z1289 ≤ 0 := (vc_X12_same_20 h1331 h1291)
                      refine mr_iload_n (z := z1289) dX12_same_240 rfl rfl ?_
                      exact mr_zretP dX12_same_241 rfl (rW (c := 0) (d := 1) h1332 rfl) (le_t rfl) (le_t rfl) ⟨(rW (c := 0) (d := 1) h1332 rfl), trivial⟩
                    have h1333 : 1 ≤ z1289 ∧ z1289 ≤ 1 := (vc_X12_same_21 h1331 h1291)
                    refine mr_iload (z := z1288) dX12_same_179 rfl ?_
                    refine sv_aload_n dX12_same_181 rfl rfl ?_
                    refine gf_X12_32 dX12_same_182 wF_X12_148 (A_106 hw) hT ?_
                    refine mr_bipush (z := 40) dX12_same_185 (by decide) ?_
                    refine mr_iload_n (z := p1) dX12_same_187 rfl rfl ?_
                    refine mr_imul (x := 40) (y := p1) dX12_same_188 ?_
                    refine mr_iconst (z := 5) dX12_same_189 ?_
                    refine mr_iadd (x := (40 * p1)) (y := 5) dX12_same_190 ?_
                    refine la_126 dX12_same_191 (A_126 hw) hT (rIx (n := 84000) (rAdd (e := 5) (f := 83965) (rMulL (n := 40) (e := 0) (f := 83960) hp1 rfl) (rR (x := 5)) rfl) rfl) fun z1334 q1335 h1336 => ?_
                    have h1337 : 0 ≤ z1334 ∧ z1334 ≤ 8 := h1336.2.2.2 (vc_X12_same_22 hp1)
                    refine mr_icmp_ge (tgt := 228) dX12_same_192 (by decide) (r32 h1316 rfl) (r32 h1337 rfl) (fun h1346 => ?_) (fun h1346 => ?_)
                    · have h1347 : 0 ≤ z1334 ∧ z1334 ≤ 7 := (vc_X12_same_23 h1346 h1314 h1316 h1337)
                      refine mr_iconst (z := 1) dX12_same_228 ?_
                      refine sv_goto (tgt := 233) dX12_same_229 (by decide) ?_
                      refine mr_istore_n (lv' := [(3, iv 1), (0, .ref 106), (1, iv p1), (2, iv p2), (4, iv z1288)]) dX12_same_233 rfl (by decide) rfl ?_
                      refine mr_iinc (lv' := [(4, iv (z1288 + 1)), (3, iv 1), (0, .ref 106), (1, iv p1), (2, iv p2)]) dX12_same_234 rfl (by decide) rfl ?_
                      refine sv_goto (tgt := 168) dX12_same_237 (by decide) ?_
                      refine mr_lvS (lv' := [(0, .ref 106), (1, iv p1), (2, iv p2), (3, iv 1), (4, iv (z1288 + 1))]) (List.forall_mem_cons.mpr ⟨rfl, List.forall_mem_cons.mpr ⟨rfl, List.forall_mem_cons.mpr ⟨rfl, List.forall_mem_cons.mpr ⟨rfl, List.forall_mem_cons.mpr ⟨rfl, fun _ h => absurd h List.not_mem_nil⟩⟩⟩⟩⟩) ?_
                      exact ih1297 1 (z1288 + 1) trivial (rW (c := 0) (d := 1) (rR (x := 1)) rfl) (rW (c := 0) (d := 8) (rAdd (e := 1) (f := 8) h1316 (rR (x := 1)) rfl) rfl) (vc_X12_same_24 (nS h1296) h1314 h1346 h1316 h1347)
                    have h1348 : 1 ≤ z1334 ∧ z1334 ≤ 8 := (vc_X12_same_25 h1346 h1314 h1316 h1337)
                    refine sv_aload_n dX12_same_195 rfl rfl ?_
                    refine gf_X12_32 dX12_same_196 wF_X12_148 (A_106 hw) hT ?_
                    refine mr_bipush (z := 40) dX12_same_199 (by decide) ?_
                    refine mr_iload_n (z := p1) dX12_same_201 rfl rfl ?_
                    refine mr_imul (x := 40) (y := p1) dX12_same_202 ?_
                    refine mr_bipush (z := 26) dX12_same_203 (by decide) ?_
                    refine mr_iadd (x := (40 * p1)) (y := 26) dX12_same_205 ?_
                    refine mr_iload (z := z1288) dX12_same_206 rfl ?_
                    refine mr_iadd (x := ((40 * p1) + 26)) (y := z1288) dX12_same_208 ?_
                    refine la_126 dX12_same_209 (A_126 hw) hT (rIx (n := 84000) (rAdd (e := 26) (f := 83993) (rAdd (e := 26) (f := 83986) (rMulL (n := 40) (e := 0) (f := 83960) hp1 rfl) (rR (x := 26)) rfl) h1316 rfl) rfl) fun z1349 q1350 h1351 => ?_
                    refine sv_aload_n dX12_same_210 rfl rfl ?_
                    refine gf_X12_32 dX12_same_211 wF_X12_148 (A_106 hw) hT ?_
                    refine mr_bipush (z := 40) dX12_same_214 (by decide) ?_
                    refine mr_iload_n (z := p2) dX12_same_216 rfl rfl ?_
                    refine mr_imul (x := 40) (y := p2) dX12_same_217 ?_
                    refine mr_bipush (z := 26) dX12_same_218 (by decide) ?_
                    refine mr_iadd (x := (40 * p2)) (y := 26) dX12_same_220 ?_
                    refine mr_iload (z := z1288) dX12_same_221 rfl ?_
                    refine mr_iadd (x := ((40 * p2) + 26)) (y := z1288) dX12_same_223 ?_
                    refine la_126 dX12_same_224 (A_126 hw) hT (rIx (n := 84000) (rAdd (e := 26) (f := 83993) (rAdd (e := 26) (f := 83986) (rMulL (n := 40) (e := 0) (f := 83960) hp2 rfl) (rR (x := 26)) rfl) h1316 rfl) rfl) fun z1352 q1353 h1354 => ?_
                    refine mr_icmp_ne (tgt := 232) dX12_same_225 (by decide) h1351.1 h1354.1 (fun h1355 => ?_) (fun h1355 => ?_)
                    · refine mr_iconst (z := 0) dX12_same_232 ?_
                      refine mr_istore_n (lv' := [(3, iv 0), (0, .ref 106), (1, iv p1), (2, iv p2), (4, iv z1288)]) dX12_same_233 rfl (by decide) rfl ?_
                      refine mr_iinc (lv' := [(4, iv (z1288 + 1)), (3, iv 0), (0, .ref 106), (1, iv p1), (2, iv p2)]) dX12_same_234 rfl (by decide) rfl ?_
                      refine sv_goto (tgt := 168) dX12_same_237 (by decide) ?_
                      refine mr_lvS (lv' := [(0, .ref 106), (1, iv p1), (2, iv p2), (3, iv 0), (4, iv (z1288 + 1))]) (List.forall_mem_cons.mpr ⟨rfl, List.forall_mem_cons.mpr ⟨rfl, List.forall_mem_cons.mpr ⟨rfl, List.forall_mem_cons.mpr ⟨rfl, List.forall_mem_cons.mpr ⟨rfl, fun _ h => absurd h List.not_mem_nil⟩⟩⟩⟩⟩) ?_
                      exact ih1297 0 (z1288 + 1) trivial (rW (c := 0) (d := 1) (rR (x := 0)) rfl) (rW (c := 0) (d := 8) (rAdd (e := 1) (f := 8) h1316 (rR (x := 1)) rfl) rfl) (vc_X12_same_26 (nS h1296) h1314 h1346 h1351.2.1 h1351.2.2.1 h1351.2.2.2 h1354.2.1 h1354.2.2.1 h1354.2.2.2 h1355 hp1 hp2 h1316 h1348 h1351.1 h1354.1)
                    refine mr_iconst (z := 1) dX12_same_228 ?_
                    refine sv_goto (tgt := 233) dX12_same_229 (by decide) ?_
                    refine mr_istore_n (lv' := [(3, iv 1), (0, .ref 106), (1, iv p1), (2, iv p2), (4, iv z1288)]) dX12_same_233 rfl (by decide) rfl ?_
                    refine mr_iinc (lv' := [(4, iv (z1288 + 1)), (3, iv 1), (0, .ref 106), (1, iv p1), (2, iv p2)]) dX12_same_234 rfl (by decide) rfl ?_
                    refine sv_goto (tgt := 168) dX12_same_237 (by decide) ?_
                    refine mr_lvS (lv' := [(0, .ref 106), (1, iv p1), (2, iv p2), (3, iv 1), (4, iv (z1288 + 1))]) (List.forall_mem_cons.mpr ⟨rfl, List.forall_mem_cons.mpr ⟨rfl, List.forall_mem_cons.mpr ⟨rfl, List.forall_mem_cons.mpr ⟨rfl, List.forall_mem_cons.mpr ⟨rfl, fun _ h => absurd h List.not_mem_nil⟩⟩⟩⟩⟩) ?_
                    exact ih1297 1 (z1288 + 1) trivial (rW (c := 0) (d := 1) (rR (x := 1)) rfl) (rW (c := 0) (d := 8) (rAdd (e := 1) (f := 8) h1316 (rR (x := 1)) rfl) rfl) (vc_X12_same_27 (nS h1296) h1314 h1346 h1351.2.1 h1351.2.2.1 h1351.2.2.2 h1354.2.1 h1354.2.2.1 h1354.2.2.2 h1355 hp1 hp2 h1316 h1348 h1351.1 h1354.1)
                refine mr_lvS (lv' := [(0, .ref 106), (1, iv p1), (2, iv p2), (3, iv z1098), (4, iv 0)]) (List.forall_mem_cons.mpr ⟨rfl, List.forall_mem_cons.mpr ⟨rfl, List.forall_mem_cons.mpr ⟨rfl, List.forall_mem_cons.mpr ⟨rfl, List.forall_mem_cons.mpr ⟨rfl, fun _ h => absurd h List.not_mem_nil⟩⟩⟩⟩⟩) ?_
                exact L1290 10 z1098 0 trivial h1100 (rW (c := 0) (d := 8) (rR (x := 0)) rfl) vc_X12_same_28
              refine mr_icmp_ge (tgt := 165) dX12_same_97 (by decide) (r32 h1101 rfl) (r32 (rR (x := 20)) rfl) (fun h1356 => ?_) (fun h1356 => ?_)
              · have h1357 : 20 ≤ z1097 ∧ z1097 ≤ 20 := (vc_X12_same_29 h1356 h1101)
                refine mr_lvS (lv' := [(0, .ref 106), (1, iv p1), (2, iv p2), (3, iv z1098)]) (List.forall_mem_cons.mpr ⟨rfl, List.forall_mem_cons.mpr ⟨rfl, List.forall_mem_cons.mpr ⟨rfl, List.forall_mem_cons.mpr ⟨rfl, fun _ h => absurd h List.not_mem_nil⟩⟩⟩⟩) ?_
                exact J1123 
              have h1358 : 0 ≤ z1097 ∧ z1097 ≤ 19 := (vc_X12_same_30 h1356 h1101)
              refine mr_iload_n (z := z1098) dX12_same_100 rfl rfl ?_
              refine mr_if_eq (tgt := 165) dX12_same_101 (by decide) (r32 h1100 rfl) (fun h1359 => ?_) (fun h1359 => ?_)
              · have h1360 : 0 ≤ z1098 ∧ z1098 ≤ 0 := (vc_X12_same_31 h1359 h1100)
                refine mr_lvS (lv' := [(0, .ref 106), (1, iv p1), (2, iv p2), (3, iv z1098)]) (List.forall_mem_cons.mpr ⟨rfl, List.forall_mem_cons.mpr ⟨rfl, List.forall_mem_cons.mpr ⟨rfl, List.forall_mem_cons.mpr ⟨rfl, fun _ h => absurd h List.not_mem_nil⟩⟩⟩⟩) ?_
                exact J1123 
              have h1361 : 1 ≤ z1098 ∧ z1098 ≤ 1 := (vc_X12_same_32 h1359 h1100)
              refine mr_iload (z := z1097) dX12_same_104 rfl ?_
              refine sv_aload_n dX12_same_106 rfl rfl ?_
              refine gf_X12_32 dX12_same_107 wF_X12_148 (A_106 hw) hT ?_
              refine mr_bipush (z := 40) dX12_same_110 (by decide) ?_
              refine mr_iload_n (z := p1) dX12_same_112 rfl rfl ?_
              refine mr_imul (x := 40) (y := p1) dX12_same_113 ?_
              refine mr_iconst (z := 4) dX12_same_114 ?_
              refine mr_iadd (x := (40 * p1)) (y := 4) dX12_same_115 ?_
              refine la_126 dX12_same_116 (A_126 hw) hT (rIx (n := 84000) (rAdd (e := 4) (f := 83964) (rMulL (n := 40) (e := 0) (f := 83960) hp1 rfl) (rR (x := 4)) rfl) rfl) fun z1362 q1363 h1364 => ?_
              have h1365 : 0 ≤ z1362 ∧ z1362 ≤ 20 := h1364.2.2.1 (vc_X12_same_33 hp1)
              refine mr_icmp_ge (tgt := 153) dX12_same_117 (by decide) (r32 h1358 rfl) (r32 h1365 rfl) (fun h1374 => ?_) (fun h1374 => ?_)
              · have h1375 : 0 ≤ z1362 ∧ z1362 ≤ 19 := (vc_X12_same_34 h1374 h1356 h1358 h1365)
                refine mr_iconst (z := 1) dX12_same_153 ?_
                refine sv_goto (tgt := 158) dX12_same_154 (by decide) ?_
                refine mr_istore_n (lv' := [(3, iv 1), (0, .ref 106), (1, iv p1), (2, iv p2), (4, iv z1097)]) dX12_same_158 rfl (by decide) rfl ?_
                refine mr_iinc (lv' := [(4, iv (z1097 + 1)), (3, iv 1), (0, .ref 106), (1, iv p1), (2, iv p2)]) dX12_same_159 rfl (by decide) rfl ?_
                refine sv_goto (tgt := 93) dX12_same_162 (by decide) ?_
                refine mr_lvS (lv' := [(0, .ref 106), (1, iv p1), (2, iv p2), (3, iv 1), (4, iv (z1097 + 1))]) (List.forall_mem_cons.mpr ⟨rfl, List.forall_mem_cons.mpr ⟨rfl, List.forall_mem_cons.mpr ⟨rfl, List.forall_mem_cons.mpr ⟨rfl, List.forall_mem_cons.mpr ⟨rfl, fun _ h => absurd h List.not_mem_nil⟩⟩⟩⟩⟩) ?_
                exact ih1106 1 (z1097 + 1) trivial (rW (c := 0) (d := 1) (rR (x := 1)) rfl) (rW (c := 0) (d := 20) (rAdd (e := 1) (f := 20) h1358 (rR (x := 1)) rfl) rfl) (vc_X12_same_35 (nS h1105) h1356 h1374 h1358 h1375)
              have h1376 : 1 ≤ z1362 ∧ z1362 ≤ 20 := (vc_X12_same_36 h1374 h1356 h1358 h1365)
              refine sv_aload_n dX12_same_120 rfl rfl ?_
              refine gf_X12_32 dX12_same_121 wF_X12_148 (A_106 hw) hT ?_
              refine mr_bipush (z := 40) dX12_same_124 (by decide) ?_
              refine mr_iload_n (z := p1) dX12_same_126 rfl rfl ?_
              refine mr_imul (x := 40) (y := p1) dX12_same_127 ?_
              refine mr_bipush (z := 6) dX12_same_128 (by decide) ?_
              refine mr_iadd (x := (40 * p1)) (y := 6) dX12_same_130 ?_
              refine mr_iload (z := z1097) dX12_same_131 rfl ?_
              refine mr_iadd (x := ((40 * p1) + 6)) (y := z1097) dX12_same_133 ?_
              refine la_126 dX12_same_134 (A_126 hw) hT (rIx (n := 84000) (rAdd (e := 6) (f := 83985) (rAdd (e := 6) (f := 83966) (rMulL (n := 40) (e := 0) (f := 83960) hp1 rfl) (rR (x := 6)) rfl) h1358 rfl) rfl) fun z1377 q1378 h1379 => ?_
              refine sv_aload_n dX12_same_135 rfl rfl ?_
              refine gf_X12_32 dX12_same_136 wF_X12_148 (A_106 hw) hT ?_
              refine mr_bipush (z := 40) dX12_same_139 (by decide) ?_
              refine mr_iload_n (z := p2) dX12_same_141 rfl rfl ?_
              refine mr_imul (x := 40) (y := p2) dX12_same_142 ?_
              refine mr_bipush (z := 6) dX12_same_143 (by decide) ?_
              refine mr_iadd (x := (40 * p2)) (y := 6) dX12_same_145 ?_
              refine mr_iload (z := z1097) dX12_same_146 rfl ?_
              refine mr_iadd (x := ((40 * p2) + 6)) (y := z1097) dX12_same_148 ?_
              refine la_126 dX12_same_149 (A_126 hw) hT (rIx (n := 84000) (rAdd (e := 6) (f := 83985) (rAdd (e := 6) (f := 83966) (rMulL (n := 40) (e := 0) (f := 83960) hp2 rfl) (rR (x := 6)) rfl) h1358 rfl) rfl) fun z1380 q1381 h1382 => ?_
              refine mr_icmp_ne (tgt := 157) dX12_same_150 (by decide) h1379.1 h1382.1 (fun h1383 => ?_) (fun h1383 => ?_)
              · refine mr_iconst (z := 0) dX12_same_157 ?_
                refine mr_istore_n (lv' := [(3, iv 0), (0, .ref 106), (1, iv p1), (2, iv p2), (4, iv z1097)]) dX12_same_158 rfl (by decide) rfl ?_
                refine mr_iinc (lv' := [(4, iv (z1097 + 1)), (3, iv 0), (0, .ref 106), (1, iv p1), (2, iv p2)]) dX12_same_159 rfl (by decide) rfl ?_
                refine sv_goto (tgt := 93) dX12_same_162 (by decide) ?_
                refine mr_lvS (lv' := [(0, .ref 106), (1, iv p1), (2, iv p2), (3, iv 0), (4, iv (z1097 + 1))]) (List.forall_mem_cons.mpr ⟨rfl, List.forall_mem_cons.mpr ⟨rfl, List.forall_mem_cons.mpr ⟨rfl, List.forall_mem_cons.mpr ⟨rfl, List.forall_mem_cons.mpr ⟨rfl, fun _ h => absurd h List.not_mem_nil⟩⟩⟩⟩⟩) ?_
                exact ih1106 0 (z1097 + 1) trivial (rW (c := 0) (d := 1) (rR (x := 0)) rfl) (rW (c := 0) (d := 20) (rAdd (e := 1) (f := 20) h1358 (rR (x := 1)) rfl) rfl) (vc_X12_same_37 (nS h1105) h1356 h1374 h1379.2.1 h1379.2.2.1 h1379.2.2.2 h1382.2.1 h1382.2.2.1 h1382.2.2.2 h1383 hp1 hp2 h1358 h1376 h1379.1 h1382.1)
              refine mr_iconst (z := 1) dX12_same_153 ?_
              refine sv_goto (tgt := 158) dX12_same_154 (by decide) ?_
              refine mr_istore_n (lv' := [(3, iv 1), (0, .ref 106), (1, iv p1), (2, iv p2), (4, iv z1097)]) dX12_same_158 rfl (by decide) rfl ?_
              refine mr_iinc (lv' := [(4, iv (z1097 + 1)), (3, iv 1), (0, .ref 106), (1, iv p1), (2, iv p2)]) dX12_same_159 rfl (by decide) rfl ?_
              refine sv_goto (tgt := 93) dX12_same_162 (by decide) ?_
              refine mr_lvS (lv' := [(0, .ref 106), (1, iv p1), (2, iv p2), (3, iv 1), (4, iv (z1097 + 1))]) (List.forall_mem_cons.mpr ⟨rfl, List.forall_mem_cons.mpr ⟨rfl, List.forall_mem_cons.mpr ⟨rfl, List.forall_mem_cons.mpr ⟨rfl, List.forall_mem_cons.mpr ⟨rfl, fun _ h => absurd h List.not_mem_nil⟩⟩⟩⟩⟩) ?_
              exact ih1106 1 (z1097 + 1) trivial (rW (c := 0) (d := 1) (rR (x := 1)) rfl) (rW (c := 0) (d := 20) (rAdd (e := 1) (f := 20) h1358 (rR (x := 1)) rfl) rfl) (vc_X12_same_38 (nS h1105) h1356 h1374 h1379.2.1 h1379.2.2.1 h1379.2.2.2 h1382.2.1 h1382.2.2.1 h1382.2.2.2 h1383 hp1 hp2 h1358 h1376 h1379.1 h1382.1)
          refine mr_lvS (lv' := [(0, .ref 106), (1, iv p1), (2, iv p2), (3, iv z344), (4, iv 0)]) (List.forall_mem_cons.mpr ⟨rfl, List.forall_mem_cons.mpr ⟨rfl, List.forall_mem_cons.mpr ⟨rfl, List.forall_mem_cons.mpr ⟨rfl, List.forall_mem_cons.mpr ⟨rfl, fun _ h => absurd h List.not_mem_nil⟩⟩⟩⟩⟩) ?_
          exact L1099 22 z344 0 trivial h346 (rW (c := 0) (d := 20) (rR (x := 0)) rfl) vc_X12_same_39
        have h1384 : 0 ≤ z343 ∧ z343 ≤ 5 := (vc_X12_same_40 h363 h347)
        refine mr_iload_n (z := z344) dX12_same_47 rfl rfl ?_
        refine mr_if_eq (tgt := 82) dX12_same_48 (by decide) (r32 h346 rfl) (fun h1393 => ?_) (fun h1393 => ?_)
        · have h1394 : 0 ≤ z344 ∧ z344 ≤ 0 := (vc_X12_same_41 h1393 h346)
          refine mr_iconst (z := 0) dX12_same_82 ?_
          refine mr_istore_n (lv' := [(3, iv 0), (0, .ref 106), (1, iv p1), (2, iv p2), (4, iv z343)]) dX12_same_83 rfl (by decide) rfl ?_
          refine mr_iinc (lv' := [(4, iv (z343 + 1)), (3, iv 0), (0, .ref 106), (1, iv p1), (2, iv p2)]) dX12_same_84 rfl (by decide) rfl ?_
          refine sv_goto (tgt := 40) dX12_same_87 (by decide) ?_
          refine mr_lvS (lv' := [(0, .ref 106), (1, iv p1), (2, iv p2), (3, iv 0), (4, iv (z343 + 1))]) (List.forall_mem_cons.mpr ⟨rfl, List.forall_mem_cons.mpr ⟨rfl, List.forall_mem_cons.mpr ⟨rfl, List.forall_mem_cons.mpr ⟨rfl, List.forall_mem_cons.mpr ⟨rfl, fun _ h => absurd h List.not_mem_nil⟩⟩⟩⟩⟩) ?_
          exact ih352 0 (z343 + 1) trivial (rW (c := 0) (d := 1) (rR (x := 0)) rfl) (rW (c := 0) (d := 6) (rAdd (e := 1) (f := 6) h1384 (rR (x := 1)) rfl) rfl) (vc_X12_same_42 (nS h351) h363 h1384)
        have h1395 : 1 ≤ z344 ∧ z344 ≤ 1 := (vc_X12_same_43 h1393 h346)
        refine sv_aload_n dX12_same_51 rfl rfl ?_
        refine gf_X12_32 dX12_same_52 wF_X12_148 (A_106 hw) hT ?_
        refine mr_bipush (z := 40) dX12_same_55 (by decide) ?_
        refine mr_iload_n (z := p1) dX12_same_57 rfl rfl ?_
        refine mr_imul (x := 40) (y := p1) dX12_same_58 ?_
        refine mr_iload (z := z343) dX12_same_59 rfl ?_
        refine mr_iadd (x := (40 * p1)) (y := z343) dX12_same_61 ?_
        refine la_126 dX12_same_62 (A_126 hw) hT (rIx (n := 84000) (rAdd (e := 0) (f := 83965) (rMulL (n := 40) (e := 0) (f := 83960) hp1 rfl) h1384 rfl) rfl) fun z1396 q1397 h1398 => ?_
        refine sv_aload_n dX12_same_63 rfl rfl ?_
        refine gf_X12_32 dX12_same_64 wF_X12_148 (A_106 hw) hT ?_
        refine mr_bipush (z := 40) dX12_same_67 (by decide) ?_
        refine mr_iload_n (z := p2) dX12_same_69 rfl rfl ?_
        refine mr_imul (x := 40) (y := p2) dX12_same_70 ?_
        refine mr_iload (z := z343) dX12_same_71 rfl ?_
        refine mr_iadd (x := (40 * p2)) (y := z343) dX12_same_73 ?_
        refine la_126 dX12_same_74 (A_126 hw) hT (rIx (n := 84000) (rAdd (e := 0) (f := 83965) (rMulL (n := 40) (e := 0) (f := 83960) hp2 rfl) h1384 rfl) rfl) fun z1399 q1400 h1401 => ?_
        refine mr_icmp_ne (tgt := 82) dX12_same_75 (by decide) h1398.1 h1401.1 (fun h1402 => ?_) (fun h1402 => ?_)
        · refine mr_iconst (z := 0) dX12_same_82 ?_
          refine mr_istore_n (lv' := [(3, iv 0), (0, .ref 106), (1, iv p1), (2, iv p2), (4, iv z343)]) dX12_same_83 rfl (by decide) rfl ?_
          refine mr_iinc (lv' := [(4, iv (z343 + 1)), (3, iv 0), (0, .ref 106), (1, iv p1), (2, iv p2)]) dX12_same_84 rfl (by decide) rfl ?_
          refine sv_goto (tgt := 40) dX12_same_87 (by decide) ?_
          refine mr_lvS (lv' := [(0, .ref 106), (1, iv p1), (2, iv p2), (3, iv 0), (4, iv (z343 + 1))]) (List.forall_mem_cons.mpr ⟨rfl, List.forall_mem_cons.mpr ⟨rfl, List.forall_mem_cons.mpr ⟨rfl, List.forall_mem_cons.mpr ⟨rfl, List.forall_mem_cons.mpr ⟨rfl, fun _ h => absurd h List.not_mem_nil⟩⟩⟩⟩⟩) ?_
          exact ih352 0 (z343 + 1) trivial (rW (c := 0) (d := 1) (rR (x := 0)) rfl) (rW (c := 0) (d := 6) (rAdd (e := 1) (f := 6) h1384 (rR (x := 1)) rfl) rfl) (vc_X12_same_44 (nS h351) h363 h1398.2.1 h1398.2.2.1 h1398.2.2.2 h1401.2.1 h1401.2.2.1 h1401.2.2.2 h1402 hp1 hp2 h1398.1 h1401.1 h1384)
        refine mr_iconst (z := 1) dX12_same_78 ?_
        refine sv_goto (tgt := 83) dX12_same_79 (by decide) ?_
        refine mr_istore_n (lv' := [(3, iv 1), (0, .ref 106), (1, iv p1), (2, iv p2), (4, iv z343)]) dX12_same_83 rfl (by decide) rfl ?_
        refine mr_iinc (lv' := [(4, iv (z343 + 1)), (3, iv 1), (0, .ref 106), (1, iv p1), (2, iv p2)]) dX12_same_84 rfl (by decide) rfl ?_
        refine sv_goto (tgt := 40) dX12_same_87 (by decide) ?_
        refine mr_lvS (lv' := [(0, .ref 106), (1, iv p1), (2, iv p2), (3, iv 1), (4, iv (z343 + 1))]) (List.forall_mem_cons.mpr ⟨rfl, List.forall_mem_cons.mpr ⟨rfl, List.forall_mem_cons.mpr ⟨rfl, List.forall_mem_cons.mpr ⟨rfl, List.forall_mem_cons.mpr ⟨rfl, fun _ h => absurd h List.not_mem_nil⟩⟩⟩⟩⟩) ?_
        exact ih352 1 (z343 + 1) trivial (rW (c := 0) (d := 1) (rR (x := 1)) rfl) (rW (c := 0) (d := 6) (rAdd (e := 1) (f := 6) h1384 (rR (x := 1)) rfl) rfl) (vc_X12_same_45 (nS h351) h363 h1398.2.1 h1398.2.2.1 h1398.2.2.2 h1401.2.1 h1401.2.2.1 h1401.2.2.2 h1402 hp1 hp2 h1398.1 h1401.1 h1384)
    refine mr_lvS (lv' := [(0, .ref 106), (1, iv p1), (2, iv p2), (3, iv 1), (4, iv 0)]) (List.forall_mem_cons.mpr ⟨rfl, List.forall_mem_cons.mpr ⟨rfl, List.forall_mem_cons.mpr ⟨rfl, List.forall_mem_cons.mpr ⟨rfl, List.forall_mem_cons.mpr ⟨rfl, fun _ h => absurd h List.not_mem_nil⟩⟩⟩⟩⟩) ?_
    exact L345 8 1 0 trivial (rW (c := 0) (d := 1) (rR (x := 1)) rfl) (rW (c := 0) (d := 6) (rR (x := 0)) rfl) vc_X12_same_46
  have h1403 : 0 ≤ z40 ∧ z40 ≤ 0 := (vc_X12_same_47 h41 h39.2.1 h39.2.2.1 h35 h39.1)
  have h1404 : z32 < 0 := (h39.2.2.1 (vc_X12_same_48 h39.2.1 h39.2.2.1 h41 h35 h1403))
  have h1405 : (-1) ≤ z32 ∧ z32 ≤ (-1) := (vc_X12_same_49 h1404 h39.2.1 h39.2.2.1 h35 h1403)
  refine sv_aload_n dX12_same_16 rfl rfl ?_
  refine mr_iload_n (z := p1) dX12_same_17 rfl rfl ?_
  refine mr_cVP (c_X12_isThere hw hT hp1 q2) (gOk _ _ _ _ _) dX12_same_18 (tX12_isThere _ _ _ _ _) ⟨wV_X12_isThere, wL_X12_isThere⟩ wM_X12_151 (gCX12 _ _ _ _ _) rfl (A_106 hw) rfl ⟨le_t rfl, le_t rfl⟩ ⟨le_t rfl, le_t rfl⟩ rfl (le_t rfl) fun z1410 h1409 => ?_
  refine sv_aload_n dX12_same_21 rfl rfl ?_
  refine mr_iload_n (z := p2) dX12_same_22 rfl rfl ?_
  refine mr_cVP (c_X12_isThere hw hT hp2 q33) (gOk _ _ _ _ _) dX12_same_23 (tX12_isThere _ _ _ _ _) ⟨wV_X12_isThere, wL_X12_isThere⟩ wM_X12_151 (gCX12 _ _ _ _ _) rfl (A_106 hw) rfl ⟨le_t rfl, le_t rfl⟩ ⟨le_t rfl, le_t rfl⟩ rfl (le_t rfl) fun z1415 h1414 => ?_
  refine mr_icmp_ne (tgt := 33) dX12_same_26 (by decide) (r32 h1409.1 rfl) (r32 h1414.1 rfl) (fun h1416 => ?_) (fun h1416 => ?_)
  · refine mr_iconst (z := 0) dX12_same_33 ?_
    exact mr_zretP dX12_same_34 rfl (rW (c := 0) (d := 1) (rR (x := 0)) rfl) (le_t rfl) (le_t rfl) ⟨(rW (c := 0) (d := 1) (rR (x := 0)) rfl), trivial⟩
  refine mr_iconst (z := 1) dX12_same_29 ?_
  refine sv_goto (tgt := 34) dX12_same_30 (by decide) ?_
  exact mr_zretP dX12_same_34 rfl (rW (c := 0) (d := 1) (rR (x := 1)) rfl) (le_t rfl) (le_t rfl) ⟨(rW (c := 0) (d := 1) (rR (x := 1)) rfl), trivial⟩
theorem vc_X12_marked_1 {z103 : Int} (h0 : (9 - z103) < ((0 : Nat) : Int)) (h1 : 0 ≤ z103 ∧ z103 ≤ 8) : False := by omega
theorem vc_X12_marked_2 {p1 : Int} (h0 : 0 ≤ p1 ∧ p1 ≤ 2099) : ((40 * p1) + 5) % 40 = 5 := by omega
theorem vc_X12_marked_3 {z103 z113 : Int} (h0 : z103 < z113) (h1 : 0 ≤ z103 ∧ z103 ≤ 8) (h2 : 0 ≤ z113 ∧ z113 ≤ 8) : 0 ≤ z103 ∧ z103 ≤ 7 := by omega
theorem vc_X12_marked_4 {z103 z113 : Int} (h0 : z103 < z113) (h1 : 0 ≤ z103 ∧ z103 ≤ 7) (h2 : 0 ≤ z113 ∧ z113 ≤ 8) : 1 ≤ z113 ∧ z113 ≤ 8 := by omega
theorem vc_X12_marked_5 {z104 : Int} (h0 : ¬ z104 = 0) (h1 : 0 ≤ z104 ∧ z104 ≤ 1) : 1 ≤ z104 ∧ z104 ≤ 1 := by omega
theorem vc_X12_marked_6 {N z103 z113 : Int} (h0 : (9 - z103) < N + 1) (h1 : z103 < z113) (h2 : 0 ≤ z103 ∧ z103 ≤ 7) (h3 : 1 ≤ z113 ∧ z113 ≤ 8) : (9 - (z103 + 1)) < N := by omega
theorem vc_X12_marked_7 {z104 : Int} (h0 : z104 = 0) (h1 : 0 ≤ z104 ∧ z104 ≤ 1) : 0 ≤ z104 ∧ z104 ≤ 0 := by omega
theorem vc_X12_marked_8 {N p1 p2 z103 z113 z135 : Int} (h0 : (9 - z103) < N + 1) (h1 : z103 < z113) (h2 : ((((40 * p1) + 26) + z103) % 40 = 0 → -1 ≤ z135 ∧ z135 ≤ 9)) (h3 : ((((40 * p1) + 26) + z103) % 40 = 4 → 0 ≤ z135 ∧ z135 ≤ 20)) (h4 : ((((40 * p1) + 26) + z103) % 40 = 5 → 0 ≤ z135 ∧ z135 ≤ 8)) (h5 : ¬ z135 = p2) (h6 : 0 ≤ p1 ∧ p1 ≤ 2099) (h7 : (-2147483648) ≤ p2 ∧ p2 ≤ 2147483647) (h8 : 0 ≤ z103 ∧ z103 ≤ 7) (h9 : 1 ≤ z113 ∧ z113 ≤ 8) (h10 : (-2147483648) ≤ z135 ∧ z135 ≤ 2147483647) : (9 - (z103 + 1)) < N := by omega
theorem vc_X12_marked_9 {N p1 p2 z103 z113 z135 : Int} (h0 : (9 - z103) < N + 1) (h1 : z103 < z113) (h2 : ((((40 * p1) + 26) + z103) % 40 = 0 → -1 ≤ z135 ∧ z135 ≤ 9)) (h3 : ((((40 * p1) + 26) + z103) % 40 = 4 → 0 ≤ z135 ∧ z135 ≤ 20)) (h4 : ((((40 * p1) + 26) + z103) % 40 = 5 → 0 ≤ z135 ∧ z135 ≤ 8)) (h5 : z135 = p2) (h6 : 0 ≤ p1 ∧ p1 ≤ 2099) (h7 : (-2147483648) ≤ p2 ∧ p2 ≤ 2147483647) (h8 : 0 ≤ z103 ∧ z103 ≤ 7) (h9 : 1 ≤ z113 ∧ z113 ≤ 8) (h10 : (-2147483648) ≤ z135 ∧ z135 ≤ 2147483647) : (9 - (z103 + 1)) < N := by omega
theorem vc_X12_marked_10  : (9 - 0) < ((10 : Nat) : Int) := by omega
set_option maxRecDepth 4000 in
set_option maxHeartbeats 4000000 in
theorem c_X12_marked {l : Launch} {D : va_G} {c : Nat → ClassId} {H0 : Heap} {sa : Nat × Nat × (Nat → Int32)} {w : mW} {μ : mM} (hw : mWF w) (hT : mT w μ) {p1 : Int} (hp1 : 0 ≤ p1 ∧ p1 ≤ 2099) {p2 : Int} (hp2 : (-2147483648) ≤ p2 ∧ p2 ≤ 2147483647) : sC (gG l D c H0 sa) mX12_marked 1 0 0 [.ref 106, iv p1, iv p2] (mk w μ) (qP w μ (fun z => (0 ≤ z ∧ z ≤ 1) ∧ True)) := by
  refine sC.of rfl (by decide) (le_t rfl) ?_
  refine mr_lvE (lv' := [(0, .ref 106), (1, iv p1), (2, iv p2)]) rfl ?_
  refine mr_iconst (z := 0) dX12_marked_0 ?_
  refine mr_istore_n (lv' := [(3, iv 0), (0, .ref 106), (1, iv p1), (2, iv p2)]) dX12_marked_1 rfl (by decide) rfl ?_
  refine mr_iconst (z := 0) dX12_marked_2 ?_
  refine mr_istore (lv' := [(4, iv 0), (3, iv 0), (0, .ref 106), (1, iv p1), (2, iv p2)]) dX12_marked_3 (by decide) rfl ?_
  have L105 : ∀ (nL105 : Nat) (z104 z103 : Int), True → (0 ≤ z104 ∧ z104 ≤ 1) → (0 ≤ z103 ∧ z103 ≤ 8) → (9 - z103) < (nL105 : Int) → sV (gG l D c H0 sa) mX12_marked (sRm 1 0 0) (sZ (gG l D c H0 sa) 0 0 (qP w μ (fun z => (0 ≤ z ∧ z ≤ 1) ∧ True))) 5 [(0, .ref 106), (1, iv p1), (2, iv p2), (3, iv z104), (4, iv z103)] [] (mk w μ) 0 0 := by
    intro nL105
    induction nL105 with
    | zero => intro z104 z103 _ h106 h107 h111; exact ((vc_X12_marked_1 h111 h107)).elim
    | succ nL105 ih112 =>
      intro z104 z103 _ h106 h107 h111
      refine mr_iload (z := z103) dX12_marked_5 rfl ?_
      refine sv_aload_n dX12_marked_7 rfl rfl ?_
      refine gf_X12_32 dX12_marked_8 wF_X12_148 (A_106 hw) hT ?_
      refine mr_bipush (z := 40) dX12_marked_11 (by decide) ?_
      refine mr_iload_n (z := p1) dX12_marked_13 rfl rfl ?_
      refine mr_imul (x := 40) (y := p1) dX12_marked_14 ?_
      refine mr_iconst (z := 5) dX12_marked_15 ?_
      refine mr_iadd (x := (40 * p1)) (y := 5) dX12_marked_16 ?_
      refine la_126 dX12_marked_17 (A_126 hw) hT (rIx (n := 84000) (rAdd (e := 5) (f := 83965) (rMulL (n := 40) (e := 0) (f := 83960) hp1 rfl) (rR (x := 5)) rfl) rfl) fun z113 q114 h115 => ?_
      have h116 : 0 ≤ z113 ∧ z113 ≤ 8 := h115.2.2.2 (vc_X12_marked_2 hp1)
      refine mr_icmp_ge (tgt := 56) dX12_marked_18 (by decide) (r32 h107 rfl) (r32 h116 rfl) (fun h124 => ?_) (fun h124 => ?_)
      · refine mr_iload_n (z := z104) dX12_marked_56 rfl rfl ?_
        exact mr_zretP dX12_marked_57 rfl h106 (le_t rfl) (le_t rfl) ⟨h106, trivial⟩
      have h125 : 0 ≤ z103 ∧ z103 ≤ 7 := (vc_X12_marked_3 h124 h107 h116)
      have h126 : 1 ≤ z113 ∧ z113 ≤ 8 := (vc_X12_marked_4 h124 h125 h116)
      refine mr_iload_n (z := z104) dX12_marked_21 rfl rfl ?_
      refine mr_if_ne (tgt := 44) dX12_marked_22 (by decide) (r32 h106 rfl) (fun h132 => ?_) (fun h132 => ?_)
      · have h133 : 1 ≤ z104 ∧ z104 ≤ 1 := (vc_X12_marked_5 h132 h106)
        refine mr_iconst (z := 1) dX12_marked_44 ?_
        refine sv_goto (tgt := 49) dX12_marked_45 (by decide) ?_
        refine mr_istore_n (lv' := [(3, iv 1), (0, .ref 106), (1, iv p1), (2, iv p2), (4, iv z103)]) dX12_marked_49 rfl (by decide) rfl ?_
        refine mr_iinc (lv' := [(4, iv (z103 + 1)), (3, iv 1), (0, .ref 106), (1, iv p1), (2, iv p2)]) dX12_marked_50 rfl (by decide) rfl ?_
        refine sv_goto (tgt := 5) dX12_marked_53 (by decide) ?_
        refine mr_lvS (lv' := [(0, .ref 106), (1, iv p1), (2, iv p2), (3, iv 1), (4, iv (z103 + 1))]) (List.forall_mem_cons.mpr ⟨rfl, List.forall_mem_cons.mpr ⟨rfl, List.forall_mem_cons.mpr ⟨rfl, List.forall_mem_cons.mpr ⟨rfl, List.forall_mem_cons.mpr ⟨rfl, fun _ h => absurd h List.not_mem_nil⟩⟩⟩⟩⟩) ?_
        exact ih112 1 (z103 + 1) trivial (rW (c := 0) (d := 1) (rR (x := 1)) rfl) (rW (c := 0) (d := 8) (rAdd (e := 1) (f := 8) h125 (rR (x := 1)) rfl) rfl) (vc_X12_marked_6 (nS h111) h124 h125 h126)
      have h134 : 0 ≤ z104 ∧ z104 ≤ 0 := (vc_X12_marked_7 h132 h106)
      refine sv_aload_n dX12_marked_25 rfl rfl ?_
      refine gf_X12_32 dX12_marked_26 wF_X12_148 (A_106 hw) hT ?_
      refine mr_bipush (z := 40) dX12_marked_29 (by decide) ?_
      refine mr_iload_n (z := p1) dX12_marked_31 rfl rfl ?_
      refine mr_imul (x := 40) (y := p1) dX12_marked_32 ?_
      refine mr_bipush (z := 26) dX12_marked_33 (by decide) ?_
      refine mr_iadd (x := (40 * p1)) (y := 26) dX12_marked_35 ?_
      refine mr_iload (z := z103) dX12_marked_36 rfl ?_
      refine mr_iadd (x := ((40 * p1) + 26)) (y := z103) dX12_marked_38 ?_
      refine la_126 dX12_marked_39 (A_126 hw) hT (rIx (n := 84000) (rAdd (e := 26) (f := 83993) (rAdd (e := 26) (f := 83986) (rMulL (n := 40) (e := 0) (f := 83960) hp1 rfl) (rR (x := 26)) rfl) h125 rfl) rfl) fun z135 q136 h137 => ?_
      refine mr_iload_n (z := p2) dX12_marked_40 rfl rfl ?_
      refine mr_icmp_ne (tgt := 48) dX12_marked_41 (by decide) h137.1 hp2 (fun h138 => ?_) (fun h138 => ?_)
      · refine mr_iconst (z := 0) dX12_marked_48 ?_
        refine mr_istore_n (lv' := [(3, iv 0), (0, .ref 106), (1, iv p1), (2, iv p2), (4, iv z103)]) dX12_marked_49 rfl (by decide) rfl ?_
        refine mr_iinc (lv' := [(4, iv (z103 + 1)), (3, iv 0), (0, .ref 106), (1, iv p1), (2, iv p2)]) dX12_marked_50 rfl (by decide) rfl ?_
        refine sv_goto (tgt := 5) dX12_marked_53 (by decide) ?_
        refine mr_lvS (lv' := [(0, .ref 106), (1, iv p1), (2, iv p2), (3, iv 0), (4, iv (z103 + 1))]) (List.forall_mem_cons.mpr ⟨rfl, List.forall_mem_cons.mpr ⟨rfl, List.forall_mem_cons.mpr ⟨rfl, List.forall_mem_cons.mpr ⟨rfl, List.forall_mem_cons.mpr ⟨rfl, fun _ h => absurd h List.not_mem_nil⟩⟩⟩⟩⟩) ?_
        exact ih112 0 (z103 + 1) trivial (rW (c := 0) (d := 1) (rR (x := 0)) rfl) (rW (c := 0) (d := 8) (rAdd (e := 1) (f := 8) h125 (rR (x := 1)) rfl) rfl) (vc_X12_marked_8 (nS h111) h124 h137.2.1 h137.2.2.1 h137.2.2.2 h138 hp1 hp2 h125 h126 h137.1)
      refine mr_iconst (z := 1) dX12_marked_44 ?_
      refine sv_goto (tgt := 49) dX12_marked_45 (by decide) ?_
      refine mr_istore_n (lv' := [(3, iv 1), (0, .ref 106), (1, iv p1), (2, iv p2), (4, iv z103)]) dX12_marked_49 rfl (by decide) rfl ?_
      refine mr_iinc (lv' := [(4, iv (z103 + 1)), (3, iv 1), (0, .ref 106), (1, iv p1), (2, iv p2)]) dX12_marked_50 rfl (by decide) rfl ?_
      refine sv_goto (tgt := 5) dX12_marked_53 (by decide) ?_
      refine mr_lvS (lv' := [(0, .ref 106), (1, iv p1), (2, iv p2), (3, iv 1), (4, iv (z103 + 1))]) (List.forall_mem_cons.mpr ⟨rfl, List.forall_mem_cons.mpr ⟨rfl, List.forall_mem_cons.mpr ⟨rfl, List.forall_mem_cons.mpr ⟨rfl, List.forall_mem_cons.mpr ⟨rfl, fun _ h => absurd h List.not_mem_nil⟩⟩⟩⟩⟩) ?_
      exact ih112 1 (z103 + 1) trivial (rW (c := 0) (d := 1) (rR (x := 1)) rfl) (rW (c := 0) (d := 8) (rAdd (e := 1) (f := 8) h125 (rR (x := 1)) rfl) rfl) (vc_X12_marked_9 (nS h111) h124 h137.2.1 h137.2.2.1 h137.2.2.2 h138 hp1 hp2 h125 h126 h137.1)
  refine mr_lvS (lv' := [(0, .ref 106), (1, iv p1), (2, iv p2), (3, iv 0), (4, iv 0)]) (List.forall_mem_cons.mpr ⟨rfl, List.forall_mem_cons.mpr ⟨rfl, List.forall_mem_cons.mpr ⟨rfl, List.forall_mem_cons.mpr ⟨rfl, List.forall_mem_cons.mpr ⟨rfl, fun _ h => absurd h List.not_mem_nil⟩⟩⟩⟩⟩) ?_
  exact L105 10 0 0 trivial (rW (c := 0) (d := 1) (rR (x := 0)) rfl) (rW (c := 0) (d := 8) (rR (x := 0)) rfl) vc_X12_marked_10
theorem vc_X12_addMark_1 {p1 : Int} (h0 : 0 ≤ p1 ∧ p1 ≤ 2099) : ((40 * p1) + 5) % 40 = 5 := by omega
theorem vc_X12_addMark_2 {z1 : Int} (h0 : z1 = 8) (h1 : 0 ≤ z1 ∧ z1 ≤ 8) : 8 ≤ z1 ∧ z1 ≤ 8 := by omega
theorem vc_X12_addMark_3 {z1 : Int} (h0 : ¬ z1 = 8) (h1 : 0 ≤ z1 ∧ z1 ≤ 8) : 0 ≤ z1 ∧ z1 ≤ 7 := by omega
theorem vc_X12_addMark_4 {z12 : Int} (h0 : z12 = 0) (h1 : 0 ≤ z12 ∧ z12 ≤ 1) : 0 ≤ z12 ∧ z12 ≤ 0 := by omega
theorem vc_X12_addMark_5 {p1 z61 : Int} (h0 : (z61 - 25) < ((0 : Nat) : Int)) (h1 : 40 * p1 + 26 ≤ z61) (h2 : z61 ≤ 40 * p1 + 33) (h3 : 0 ≤ p1 ∧ p1 ≤ 2099) (h4 : 26 ≤ z61 ∧ z61 ≤ 83993) : False := by omega
theorem vc_X12_addMark_6 {p1 z61 : Int} (h0 : 40 * p1 + 26 ≤ z61) (h1 : z61 ≤ 40 * p1 + 33) (h2 : 0 ≤ p1 ∧ p1 ≤ 2099) (h3 : 26 ≤ z61 ∧ z61 ≤ 83993) : 0 ≤ ((40 * p1) + 5) := by omega
theorem vc_X12_addMark_7 {p1 z61 : Int} (h0 : 40 * p1 + 26 ≤ z61) (h1 : z61 ≤ 40 * p1 + 33) (h2 : 0 ≤ p1 ∧ p1 ≤ 2099) (h3 : 26 ≤ z61 ∧ z61 ≤ 83993) : ((40 * p1) + 5) % 40 = 5 := by omega
theorem vc_X12_addMark_8 {p1 p2 z61 : Int} (h0 : 40 * p1 + 26 ≤ z61) (h1 : z61 ≤ 40 * p1 + 33) (h2 : 0 ≤ p1 ∧ p1 ≤ 2099) (h3 : (-2147483648) ≤ p2 ∧ p2 ≤ 2147483647) (h4 : 26 ≤ z61 ∧ z61 ≤ 83993) : (-2147483648 ≤ p2 ∧ p2 ≤ 2147483647) ∧ (z61 % 40 = 0 → -1 ≤ p2 ∧ p2 ≤ 9) ∧ (z61 % 40 = 4 → 0 ≤ p2 ∧ p2 ≤ 20) ∧ (z61 % 40 = 5 → 0 ≤ p2 ∧ p2 ≤ 8) := by omega
theorem vc_X12_addMark_9 {p1 z61 : Int} (h0 : 40 * p1 + 26 ≤ z61) (h1 : z61 ≤ 40 * p1 + 33) (h2 : 0 ≤ p1 ∧ p1 ≤ 2099) (h3 : 26 ≤ z61 ∧ z61 ≤ 83993) : (((40 * p1) + 5)).toNat ≠ (z61).toNat := by omega
theorem vc_X12_addMark_10 {f_n p1 z61 : Int} (h0 : 40 * p1 + 26 ≤ z61) (h1 : z61 ≤ 40 * p1 + 33) (h2 : f_n ≤ 7) (h3 : 0 ≤ f_n ∧ f_n ≤ 8) (h4 : 0 ≤ p1 ∧ p1 ≤ 2099) (h5 : 26 ≤ z61 ∧ z61 ≤ 83993) : (-2147483648 ≤ (f_n + 1) ∧ (f_n + 1) ≤ 2147483647) ∧ (((40 * p1) + 5) % 40 = 0 → -1 ≤ (f_n + 1) ∧ (f_n + 1) ≤ 9) ∧ (((40 * p1) + 5) % 40 = 4 → 0 ≤ (f_n + 1) ∧ (f_n + 1) ≤ 20) ∧ (((40 * p1) + 5) % 40 = 5 → 0 ≤ (f_n + 1) ∧ (f_n + 1) ≤ 8) := by omega
theorem vc_X12_addMark_11 {p1 z61 : Int} (h0 : 40 * p1 + 26 ≤ z61) (h1 : z61 ≤ 40 * p1 + 33) (h2 : 0 ≤ p1 ∧ p1 ≤ 2099) (h3 : 26 ≤ z61 ∧ z61 ≤ 83993) : ((40 * p1) + 1) ≤ ((40 * p1) + 1) ∧ ((40 * p1) + 40) ≤ ((40 * p1) + 40) := by omega
theorem vc_X12_addMark_12 {p1 z61 : Int} (h0 : 40 * p1 + 26 ≤ z61) (h1 : z61 ≤ 40 * p1 + 33) (h2 : 0 ≤ p1 ∧ p1 ≤ 2099) (h3 : 26 ≤ z61 ∧ z61 ≤ 83993) : 0 ≤ z61 ∧ ((40 * p1) + 1) ≤ z61 ∧ z61 < ((40 * p1) + 40) := by omega
theorem vc_X12_addMark_13 {p1 z61 : Int} (h0 : 40 * p1 + 26 ≤ z61) (h1 : z61 ≤ 40 * p1 + 33) (h2 : 0 ≤ p1 ∧ p1 ≤ 2099) (h3 : 26 ≤ z61 ∧ z61 ≤ 83993) : 0 ≤ ((40 * p1) + 5) ∧ ((40 * p1) + 1) ≤ ((40 * p1) + 5) ∧ ((40 * p1) + 5) < ((40 * p1) + 40) := by omega
theorem vc_X12_addMark_14 {p1 z61 : Int} (h0 : z61 ≤ ((40 * p1) + 26)) (h1 : 40 * p1 + 26 ≤ z61) (h2 : z61 ≤ 40 * p1 + 33) (h3 : 0 ≤ p1 ∧ p1 ≤ 2099) (h4 : 26 ≤ z61 ∧ z61 ≤ 83993) : 26 ≤ z61 ∧ z61 ≤ 83986 := by omega
theorem vc_X12_addMark_15 {p1 z61 : Int} (h0 : ((40 * p1) + 26) < z61) (h1 : 40 * p1 + 26 ≤ z61) (h2 : z61 ≤ 40 * p1 + 33) (h3 : 0 ≤ p1 ∧ p1 ≤ 2099) (h4 : 26 ≤ z61 ∧ z61 ≤ 83993) : 27 ≤ z61 ∧ z61 ≤ 83993 := by omega
theorem vc_X12_addMark_16 {p2 z61 z96 : Int} (h0 : p2 < z96) (h1 : ((z61 - 1) % 40 = 0 → -1 ≤ z96 ∧ z96 ≤ 9)) (h2 : ((z61 - 1) % 40 = 4 → 0 ≤ z96 ∧ z96 ≤ 20)) (h3 : ((z61 - 1) % 40 = 5 → 0 ≤ z96 ∧ z96 ≤ 8)) (h4 : (-2147483648) ≤ p2 ∧ p2 ≤ 2147483647) (h5 : 27 ≤ z61 ∧ z61 ≤ 83993) (h6 : (-2147483648) ≤ z96 ∧ z96 ≤ 2147483647) : (-2147483647) ≤ z96 ∧ z96 ≤ 2147483647 := by omega
theorem vc_X12_addMark_17 {p2 z61 z96 : Int} (h0 : p2 < z96) (h1 : ((z61 - 1) % 40 = 0 → -1 ≤ z96 ∧ z96 ≤ 9)) (h2 : ((z61 - 1) % 40 = 4 → 0 ≤ z96 ∧ z96 ≤ 20)) (h3 : ((z61 - 1) % 40 = 5 → 0 ≤ z96 ∧ z96 ≤ 8)) (h4 : (-2147483648) ≤ p2 ∧ p2 ≤ 2147483647) (h5 : 27 ≤ z61 ∧ z61 ≤ 83993) (h6 : (-2147483647) ≤ z96 ∧ z96 ≤ 2147483647) : (-2147483648) ≤ p2 ∧ p2 ≤ 2147483646 := by omega
theorem vc_X12_addMark_18 {p1 p2 z61 z96 : Int} (h0 : 40 * p1 + 26 ≤ z61) (h1 : z61 ≤ 40 * p1 + 33) (h2 : ((40 * p1) + 26) < z61) (h3 : ((z61 - 1) % 40 = 0 → -1 ≤ z96 ∧ z96 ≤ 9)) (h4 : ((z61 - 1) % 40 = 4 → 0 ≤ z96 ∧ z96 ≤ 20)) (h5 : ((z61 - 1) % 40 = 5 → 0 ≤ z96 ∧ z96 ≤ 8)) (h6 : p2 < z96) (h7 : 0 ≤ p1 ∧ p1 ≤ 2099) (h8 : (-2147483648) ≤ p2 ∧ p2 ≤ 2147483646) (h9 : 27 ≤ z61 ∧ z61 ≤ 83993) (h10 : (-2147483647) ≤ z96 ∧ z96 ≤ 2147483647) : (-2147483648 ≤ z96 ∧ z96 ≤ 2147483647) ∧ (z61 % 40 = 0 → -1 ≤ z96 ∧ z96 ≤ 9) ∧ (z61 % 40 = 4 → 0 ≤ z96 ∧ z96 ≤ 20) ∧ (z61 % 40 = 5 → 0 ≤ z96 ∧ z96 ≤ 8) := by omega
theorem vc_X12_addMark_19 {p1 p2 z61 z96 : Int} (h0 : 40 * p1 + 26 ≤ z61) (h1 : z61 ≤ 40 * p1 + 33) (h2 : ((40 * p1) + 26) < z61) (h3 : ((z61 - 1) % 40 = 0 → -1 ≤ z96 ∧ z96 ≤ 9)) (h4 : ((z61 - 1) % 40 = 4 → 0 ≤ z96 ∧ z96 ≤ 20)) (h5 : ((z61 - 1) % 40 = 5 → 0 ≤ z96 ∧ z96 ≤ 8)) (h6 : p2 < z96) (h7 : 0 ≤ p1 ∧ p1 ≤ 2099) (h8 : (-2147483648) ≤ p2 ∧ p2 ≤ 2147483646) (h9 : 27 ≤ z61 ∧ z61 ≤ 83993) (h10 : (-2147483647) ≤ z96 ∧ z96 ≤ 2147483647) : (((40 * p1) + 5)).toNat ≠ (z61).toNat := by omega
theorem vc_X12_addMark_20 {p1 p2 z61 z96 : Int} (h0 : 40 * p1 + 26 ≤ z61) (h1 : z61 ≤ 40 * p1 + 33) (h2 : ((40 * p1) + 26) < z61) (h3 : ((z61 - 1) % 40 = 0 → -1 ≤ z96 ∧ z96 ≤ 9)) (h4 : ((z61 - 1) % 40 = 4 → 0 ≤ z96 ∧ z96 ≤ 20)) (h5 : ((z61 - 1) % 40 = 5 → 0 ≤ z96 ∧ z96 ≤ 8)) (h6 : p2 < z96) (h7 : 0 ≤ p1 ∧ p1 ≤ 2099) (h8 : (-2147483648) ≤ p2 ∧ p2 ≤ 2147483646) (h9 : 27 ≤ z61 ∧ z61 ≤ 83993) (h10 : (-2147483647) ≤ z96 ∧ z96 ≤ 2147483647) : 40 * p1 + 26 ≤ (z61 + (-1)) := by omega
theorem vc_X12_addMark_21 {p1 p2 z61 z96 : Int} (h0 : 40 * p1 + 26 ≤ z61) (h1 : z61 ≤ 40 * p1 + 33) (h2 : ((40 * p1) + 26) < z61) (h3 : ((z61 - 1) % 40 = 0 → -1 ≤ z96 ∧ z96 ≤ 9)) (h4 : ((z61 - 1) % 40 = 4 → 0 ≤ z96 ∧ z96 ≤ 20)) (h5 : ((z61 - 1) % 40 = 5 → 0 ≤ z96 ∧ z96 ≤ 8)) (h6 : p2 < z96) (h7 : 0 ≤ p1 ∧ p1 ≤ 2099) (h8 : (-2147483648) ≤ p2 ∧ p2 ≤ 2147483646) (h9 : 27 ≤ z61 ∧ z61 ≤ 83993) (h10 : (-2147483647) ≤ z96 ∧ z96 ≤ 2147483647) : (z61 + (-1)) ≤ 40 * p1 + 33 := by omega
theorem vc_X12_addMark_22 {f_n : Int} (h0 : f_n ≤ 7) (h1 : 0 ≤ f_n ∧ f_n ≤ 8) : f_n ≤ 7 := by omega
theorem vc_X12_addMark_23 {N p1 p2 z61 z96 : Int} (h0 : (z61 - 25) < N + 1) (h1 : 40 * p1 + 26 ≤ z61) (h2 : z61 ≤ 40 * p1 + 33) (h3 : ((40 * p1) + 26) < z61) (h4 : ((z61 - 1) % 40 = 0 → -1 ≤ z96 ∧ z96 ≤ 9)) (h5 : ((z61 - 1) % 40 = 4 → 0 ≤ z96 ∧ z96 ≤ 20)) (h6 : ((z61 - 1) % 40 = 5 → 0 ≤ z96 ∧ z96 ≤ 8)) (h7 : p2 < z96) (h8 : 0 ≤ p1 ∧ p1 ≤ 2099) (h9 : (-2147483648) ≤ p2 ∧ p2 ≤ 2147483646) (h10 : 27 ≤ z61 ∧ z61 ≤ 83993) (h11 : (-2147483647) ≤ z96 ∧ z96 ≤ 2147483647) : ((z61 + (-1)) - 25) < N := by omega
theorem vc_X12_addMark_24 {p1 z61 z96 : Int} (h0 : 40 * p1 + 26 ≤ z61) (h1 : z61 ≤ 40 * p1 + 33) (h2 : ((40 * p1) + 26) < z61) (h3 : ((z61 - 1) % 40 = 0 → -1 ≤ z96 ∧ z96 ≤ 9)) (h4 : ((z61 - 1) % 40 = 4 → 0 ≤ z96 ∧ z96 ≤ 20)) (h5 : ((z61 - 1) % 40 = 5 → 0 ≤ z96 ∧ z96 ≤ 8)) (h6 : 0 ≤ p1 ∧ p1 ≤ 2099) (h7 : 27 ≤ z61 ∧ z61 ≤ 83993) (h8 : (-2147483647) ≤ z96 ∧ z96 ≤ 2147483647) : ((40 * p1) + 1) ≤ ((40 * p1) + 1) ∧ ((40 * p1) + 40) ≤ ((40 * p1) + 40) := by omega
theorem vc_X12_addMark_25 {p1 p2 z61 z96 : Int} (h0 : 40 * p1 + 26 ≤ z61) (h1 : z61 ≤ 40 * p1 + 33) (h2 : ((40 * p1) + 26) < z61) (h3 : ((z61 - 1) % 40 = 0 → -1 ≤ z96 ∧ z96 ≤ 9)) (h4 : ((z61 - 1) % 40 = 4 → 0 ≤ z96 ∧ z96 ≤ 20)) (h5 : ((z61 - 1) % 40 = 5 → 0 ≤ z96 ∧ z96 ≤ 8)) (h6 : p2 < z96) (h7 : 0 ≤ p1 ∧ p1 ≤ 2099) (h8 : (-2147483648) ≤ p2 ∧ p2 ≤ 2147483646) (h9 : 27 ≤ z61 ∧ z61 ≤ 83993) (h10 : (-2147483647) ≤ z96 ∧ z96 ≤ 2147483647) : 0 ≤ z61 ∧ ((40 * p1) + 1) ≤ z61 ∧ z61 < ((40 * p1) + 40) := by omega
theorem vc_X12_addMark_26 {p1 z1 : Int} (h0 : ¬ z1 = 8) (h1 : 0 ≤ p1 ∧ p1 ≤ 2099) (h2 : 0 ≤ z1 ∧ z1 ≤ 7) : 40 * p1 + 26 ≤ (((40 * p1) + 26) + z1) := by omega
theorem vc_X12_addMark_27 {p1 z1 : Int} (h0 : ¬ z1 = 8) (h1 : 0 ≤ p1 ∧ p1 ≤ 2099) (h2 : 0 ≤ z1 ∧ z1 ≤ 7) : (((40 * p1) + 26) + z1) ≤ 40 * p1 + 33 := by omega
theorem vc_X12_addMark_28 {z1 : Int} (h0 : ¬ z1 = 8) (h1 : 0 ≤ z1 ∧ z1 ≤ 7) : z1 ≤ 7 := by omega
theorem vc_X12_addMark_29 {p1 z1 : Int} (h0 : ¬ z1 = 8) (h1 : 0 ≤ p1 ∧ p1 ≤ 2099) (h2 : 0 ≤ z1 ∧ z1 ≤ 7) : ((((40 * p1) + 26) + z1) - 25) < ((83969 : Nat) : Int) := by omega
theorem vc_X12_addMark_30 {z12 : Int} (h0 : ¬ z12 = 0) (h1 : 0 ≤ z12 ∧ z12 ≤ 1) : 1 ≤ z12 ∧ z12 ≤ 1 := by omega
set_option maxRecDepth 4000 in
set_option maxHeartbeats 4000000 in
theorem c_X12_addMark {l : Launch} {D : va_G} {c : Nat → ClassId} {H0 : Heap} {sa : Nat × Nat × (Nat → Int32)} {w : mW} {μ : mM} (hw : mWF w) (hT : mT w μ) {p1 : Int} (hp1 : 0 ≤ p1 ∧ p1 ≤ 2099) {p2 : Int} (hp2 : (-2147483648) ≤ p2 ∧ p2 ≤ 2147483647) : sC (gG l D c H0 sa) mX12_addMark 2 0 0 [.ref 106, iv p1, iv p2] (mk w μ) (qV w [126999] μ (fun μ1 => mG [(((40 * p1) + 1), ((40 * p1) + 40))] μ μ1 ∧ True)) := by
  refine sC.of rfl (by decide) (le_t rfl) ?_
  refine mr_lvE (lv' := [(0, .ref 106), (1, iv p1), (2, iv p2)]) rfl ?_
  refine sv_aload_n dX12_addMark_0 rfl rfl ?_
  refine gf_X12_32 dX12_addMark_1 wF_X12_148 (A_106 hw) hT ?_
  refine mr_bipush (z := 40) dX12_addMark_4 (by decide) ?_
  refine mr_iload_n (z := p1) dX12_addMark_6 rfl rfl ?_
  refine mr_imul (x := 40) (y := p1) dX12_addMark_7 ?_
  refine mr_iconst (z := 5) dX12_addMark_8 ?_
  refine mr_iadd (x := (40 * p1)) (y := 5) dX12_addMark_9 ?_
  refine la_126 dX12_addMark_10 (A_126 hw) hT (rIx (n := 84000) (rAdd (e := 5) (f := 83965) (rMulL (n := 40) (e := 0) (f := 83960) hp1 rfl) (rR (x := 5)) rfl) rfl) fun z1 q2 h3 => ?_
  have h4 : 0 ≤ z1 ∧ z1 ≤ 8 := h3.2.2.2 (vc_X12_addMark_1 hp1)
  refine mr_istore_n (lv' := [(3, iv z1), (0, .ref 106), (1, iv p1), (2, iv p2)]) dX12_addMark_11 rfl (by decide) rfl ?_
  refine mr_iload_n (z := z1) dX12_addMark_12 rfl rfl ?_
  refine mr_bipush (z := 8) dX12_addMark_13 (by decide) ?_
  refine mr_icmp_eq (tgt := 27) dX12_addMark_15 (by decide) (r32 h4 rfl) (r32 (rR (x := 8)) rfl) (fun h5 => ?_) (fun h5 => ?_)
  · have h6 : 8 ≤ z1 ∧ z1 ≤ 8 := (vc_X12_addMark_2 h5 h4)
    exact mr_vret dX12_addMark_27 rfl (le_t rfl) (le_t rfl) hT mF.refl ⟨mG.refl, trivial⟩
  have h7 : 0 ≤ z1 ∧ z1 ≤ 7 := (vc_X12_addMark_3 h5 h4)
  refine sv_aload_n dX12_addMark_18 rfl rfl ?_
  refine mr_iload_n (z := p1) dX12_addMark_19 rfl rfl ?_
  refine mr_iload_n (z := p2) dX12_addMark_20 rfl rfl ?_
  refine mr_cVP (c_X12_marked hw hT hp1 hp2) (gOk _ _ _ _ _) dX12_addMark_21 (tX12_marked _ _ _ _ _) ⟨wV_X12_marked, wL_X12_marked⟩ wM_X12_154 (gCX12 _ _ _ _ _) rfl (A_106 hw) rfl ⟨le_t rfl, le_t rfl⟩ ⟨le_t rfl, le_t rfl⟩ rfl (le_t rfl) fun z12 h11 => ?_
  refine mr_if_eq (tgt := 28) dX12_addMark_24 (by decide) (r32 h11.1 rfl) (fun h13 => ?_) (fun h13 => ?_)
  · have h14 : 0 ≤ z12 ∧ z12 ≤ 0 := (vc_X12_addMark_4 h13 h11.1)
    refine mr_bipush (z := 40) dX12_addMark_28 (by decide) ?_
    refine mr_iload_n (z := p1) dX12_addMark_30 rfl rfl ?_
    refine mr_imul (x := 40) (y := p1) dX12_addMark_31 ?_
    refine mr_bipush (z := 26) dX12_addMark_32 (by decide) ?_
    refine mr_iadd (x := (40 * p1)) (y := 26) dX12_addMark_34 ?_
    refine mr_iload_n (z := z1) dX12_addMark_35 rfl rfl ?_
    refine mr_iadd (x := ((40 * p1) + 26)) (y := z1) dX12_addMark_36 ?_
    refine mr_istore (lv' := [(4, iv (((40 * p1) + 26) + z1)), (3, iv z1), (0, .ref 106), (1, iv p1), (2, iv p2)]) dX12_addMark_37 (by decide) rfl ?_
    have L63 : ∀ (nL63 : Nat) (z61 : Int) (μ62 : mM) (f_n : Int), mT w μ62 → mF [126999] w μ μ62 → mG [(((40 * p1) + 1), ((40 * p1) + 40))] μ μ62 → μ62 126 ((40 * p1) + 5).toNat = f_n → (26 ≤ z61 ∧ z61 ≤ 83993) → 40 * p1 + 26 ≤ z61 → z61 ≤ 40 * p1 + 33 → f_n ≤ 7 → (z61 - 25) < (nL63 : Int) → sV (gG l D c H0 sa) mX12_addMark (sRm 2 0 0) (sZ (gG l D c H0 sa) 0 0 (qV w [126999] μ (fun μ1 => mG [(((40 * p1) + 1), ((40 * p1) + 40))] μ μ1 ∧ True))) 39 [(0, .ref 106), (1, iv p1), (2, iv p2), (4, iv z61)] [] (mk w μ62) 0 0 := by
      intro nL63
      induction nL63 with
      | zero => intro z61 μ62 f_n T65 F66 G67 q72 h64 h68 h69 h70 h71; exact ((vc_X12_addMark_5 h71 h68 h69 hp1 h64)).elim
      | succ nL63 ih73 =>
        intro z61 μ62 f_n T65 F66 G67 q72 h64 h68 h69 h70 h71
        have h74 := rt7 T65 (A_126 hw) (vc_X12_addMark_6 h68 h69 hp1 h64) q72
        have h75 : 0 ≤ f_n ∧ f_n ≤ 8 := h74.2.2.2 (vc_X12_addMark_7 h68 h69 hp1 h64)
        refine mr_iload (z := z61) dX12_addMark_39 rfl ?_
        refine mr_bipush (z := 40) dX12_addMark_41 (by decide) ?_
        refine mr_iload_n (z := p1) dX12_addMark_43 rfl rfl ?_
        refine mr_imul (x := 40) (y := p1) dX12_addMark_44 ?_
        refine mr_bipush (z := 26) dX12_addMark_45 (by decide) ?_
        refine mr_iadd (x := (40 * p1)) (y := 26) dX12_addMark_47 ?_
        have J86 : sV (gG l D c H0 sa) mX12_addMark (sRm 2 0 0) (sZ (gG l D c H0 sa) 0 0 (qV w [126999] μ (fun μ1 => mG [(((40 * p1) + 1), ((40 * p1) + 40))] μ μ1 ∧ True))) 86 [(0, .ref 106), (1, iv p1), (2, iv p2), (4, iv z61)] [] (mk w μ62) 0 0 := by
          refine sv_aload_n dX12_addMark_86 rfl rfl ?_
          refine gf_X12_32 dX12_addMark_87 wF_X12_148 (A_106 hw) T65 ?_
          refine mr_iload (z := z61) dX12_addMark_90 rfl ?_
          refine mr_iload_n (z := p2) dX12_addMark_92 rfl rfl ?_
          refine ss_126 dX12_addMark_93 (A_126 hw) T65 (rIx (n := 84000) h64 rfl) (vc_X12_addMark_8 h68 h69 hp1 hp2 h64) fun μ87 u88 T89 => ?_
          refine sv_aload_n dX12_addMark_94 rfl rfl ?_
          refine gf_X12_32 dX12_addMark_95 wF_X12_148 (A_106 hw) T89 ?_
          refine mr_bipush (z := 40) dX12_addMark_98 (by decide) ?_
          refine mr_iload_n (z := p1) dX12_addMark_100 rfl rfl ?_
          refine mr_imul (x := 40) (y := p1) dX12_addMark_101 ?_
          refine mr_iconst (z := 5) dX12_addMark_102 ?_
          refine mr_iadd (x := (40 * p1)) (y := 5) dX12_addMark_103 ?_
          refine sv_dup2 dX12_addMark_104 rfl rfl ?_
          refine lk_126 dX12_addMark_105 (A_126 hw) (rIx (n := 84000) (rAdd (e := 5) (f := 83965) (rMulL (n := 40) (e := 0) (f := 83960) hp1 rfl) (rR (x := 5)) rfl) rfl) (u88.f (Or.inr (vc_X12_addMark_9 h68 h69 hp1 h64)) q72) ?_
          refine mr_iconst (z := 1) dX12_addMark_106 ?_
          refine mr_iadd (x := f_n) (y := 1) dX12_addMark_107 ?_
          refine ss_126 dX12_addMark_108 (A_126 hw) T89 (rIx (n := 84000) (rAdd (e := 5) (f := 83965) (rMulL (n := 40) (e := 0) (f := 83960) hp1 rfl) (rR (x := 5)) rfl) rfl) (vc_X12_addMark_10 h68 h69 h70 h75 hp1 h64) fun μ90 u91 T92 => ?_
          exact mr_vret dX12_addMark_109 rfl (le_t rfl) (le_t rfl) T92 (mF.up (mF.up (mF.call mF.refl F66 rfl) (A_126 hw) u88 rfl) (A_126 hw) u91 rfl) ⟨(mG.up (mG.up (mG.call mG.refl G67 (List.forall_mem_cons.mpr ⟨⟨_, List.mem_cons_self, (vc_X12_addMark_11 h68 h69 hp1 h64)⟩, (fun _ h => absurd h List.not_mem_nil)⟩)) u88 List.mem_cons_self (vc_X12_addMark_12 h68 h69 hp1 h64)) u91 List.mem_cons_self (vc_X12_addMark_13 h68 h69 hp1 h64)), trivial⟩
        refine mr_icmp_le (tgt := 86) dX12_addMark_48 (by decide) (r32 h64 rfl) (r32 (rAdd (e := 26) (f := 83986) (rMulL (n := 40) (e := 0) (f := 83960) hp1 rfl) (rR (x := 26)) rfl) rfl) (fun h93 => ?_) (fun h93 => ?_)
        · have h94 : 26 ≤ z61 ∧ z61 ≤ 83986 := (vc_X12_addMark_14 h93 h68 h69 hp1 h64)
          exact J86 
        have h95 : 27 ≤ z61 ∧ z61 ≤ 83993 := (vc_X12_addMark_15 h93 h68 h69 hp1 h64)
        refine sv_aload_n dX12_addMark_51 rfl rfl ?_
        refine gf_X12_32 dX12_addMark_52 wF_X12_148 (A_106 hw) T65 ?_
        refine mr_iload (z := z61) dX12_addMark_55 rfl ?_
        refine mr_iconst (z := 1) dX12_addMark_57 ?_
        refine mr_isub (x := z61) (y := 1) dX12_addMark_58 ?_
        refine la_126 dX12_addMark_59 (A_126 hw) T65 (rIx (n := 84000) (rSub (e := 26) (f := 83992) h95 (rR (x := 1)) rfl) rfl) fun z96 q97 h98 => ?_
        refine mr_iload_n (z := p2) dX12_addMark_60 rfl rfl ?_
        refine mr_icmp_le (tgt := 86) dX12_addMark_61 (by decide) h98.1 hp2 (fun h99 => ?_) (fun h99 => ?_)
        · exact J86 
        have h100 : (-2147483647) ≤ z96 ∧ z96 ≤ 2147483647 := (vc_X12_addMark_16 h99 h98.2.1 h98.2.2.1 h98.2.2.2 hp2 h95 h98.1)
        have h101 : (-2147483648) ≤ p2 ∧ p2 ≤ 2147483646 := (vc_X12_addMark_17 h99 h98.2.1 h98.2.2.1 h98.2.2.2 hp2 h95 h100)
        refine sv_aload_n dX12_addMark_64 rfl rfl ?_
        refine gf_X12_32 dX12_addMark_65 wF_X12_148 (A_106 hw) T65 ?_
        refine mr_iload (z := z61) dX12_addMark_68 rfl ?_
        refine sv_aload_n dX12_addMark_70 rfl rfl ?_
        refine gf_X12_32 dX12_addMark_71 wF_X12_148 (A_106 hw) T65 ?_
        refine mr_iload (z := z61) dX12_addMark_74 rfl ?_
        refine mr_iconst (z := 1) dX12_addMark_76 ?_
        refine mr_isub (x := z61) (y := 1) dX12_addMark_77 ?_
        refine lk_126 dX12_addMark_78 (A_126 hw) (rIx (n := 84000) (rSub (e := 26) (f := 83992) h95 (rR (x := 1)) rfl) rfl) q97 ?_
        refine ss_126 dX12_addMark_79 (A_126 hw) T65 (rIx (n := 84000) h95 rfl) (vc_X12_addMark_18 h68 h69 h93 h98.2.1 h98.2.2.1 h98.2.2.2 h99 hp1 h101 h95 h100) fun μ102 u103 T104 => ?_
        refine mr_iinc (lv' := [(4, iv (z61 + (-1))), (0, .ref 106), (1, iv p1), (2, iv p2)]) dX12_addMark_80 rfl (by decide) rfl ?_
        refine sv_goto (tgt := 39) dX12_addMark_83 (by decide) ?_
        refine mr_lvS (lv' := [(0, .ref 106), (1, iv p1), (2, iv p2), (4, iv (z61 + (-1)))]) (List.forall_mem_cons.mpr ⟨rfl, List.forall_mem_cons.mpr ⟨rfl, List.forall_mem_cons.mpr ⟨rfl, List.forall_mem_cons.mpr ⟨rfl, fun _ h => absurd h List.not_mem_nil⟩⟩⟩⟩) ?_
        exact ih73 (z61 + (-1)) μ102 f_n T104 (mF.up (mF.call mF.refl F66 rfl) (A_126 hw) u103 rfl) (mG.up (mG.call mG.refl G67 (List.forall_mem_cons.mpr ⟨⟨_, List.mem_cons_self, (vc_X12_addMark_24 h68 h69 h93 h98.2.1 h98.2.2.1 h98.2.2.2 hp1 h95 h100)⟩, (fun _ h => absurd h List.not_mem_nil)⟩)) u103 List.mem_cons_self (vc_X12_addMark_25 h68 h69 h93 h98.2.1 h98.2.2.1 h98.2.2.2 h99 hp1 h101 h95 h100)) (u103.f (Or.inr (vc_X12_addMark_19 h68 h69 h93 h98.2.1 h98.2.2.1 h98.2.2.2 h99 hp1 h101 h95 h100)) q72) (rW (c := 26) (d := 83993) (rAdd (e := 26) (f := 83992) h95 (rR (x := (-1))) rfl) rfl) (vc_X12_addMark_20 h68 h69 h93 h98.2.1 h98.2.2.1 h98.2.2.2 h99 hp1 h101 h95 h100) (vc_X12_addMark_21 h68 h69 h93 h98.2.1 h98.2.2.1 h98.2.2.2 h99 hp1 h101 h95 h100) (vc_X12_addMark_22 h70 h75) (vc_X12_addMark_23 (nS h71) h68 h69 h93 h98.2.1 h98.2.2.1 h98.2.2.2 h99 hp1 h101 h95 h100)
    refine mr_lvS (lv' := [(0, .ref 106), (1, iv p1), (2, iv p2), (4, iv (((40 * p1) + 26) + z1))]) (List.forall_mem_cons.mpr ⟨rfl, List.forall_mem_cons.mpr ⟨rfl, List.forall_mem_cons.mpr ⟨rfl, List.forall_mem_cons.mpr ⟨rfl, fun _ h => absurd h List.not_mem_nil⟩⟩⟩⟩) ?_
    exact L63 83969 (((40 * p1) + 26) + z1) μ z1 hT mF.refl mG.refl q2 (rAdd (e := 26) (f := 83993) (rAdd (e := 26) (f := 83986) (rMulL (n := 40) (e := 0) (f := 83960) hp1 rfl) (rR (x := 26)) rfl) h7 rfl) (vc_X12_addMark_26 h5 hp1 h7) (vc_X12_addMark_27 h5 hp1 h7) (vc_X12_addMark_28 h5 h7) (vc_X12_addMark_29 h5 hp1 h7)
  have h105 : 1 ≤ z12 ∧ z12 ≤ 1 := (vc_X12_addMark_30 h13 h11.1)
  exact mr_vret dX12_addMark_27 rfl (le_t rfl) (le_t rfl) hT mF.refl ⟨mG.refl, trivial⟩
theorem vc_X12_dropMark_1 {z5 : Int} (h0 : ¬ z5 = 0) (h1 : 0 ≤ z5 ∧ z5 ≤ 1) : 1 ≤ z5 ∧ z5 ≤ 1 := by omega
theorem vc_X12_dropMark_2 {z148 z149 : Int} (h0 : (9 - z148) < ((0 : Nat) : Int)) (h1 : z149 ≤ z148) (h2 : z148 ≤ 8) (h3 : 0 ≤ z148 ∧ z148 ≤ 8) (h4 : 0 ≤ z149 ∧ z149 ≤ 8) : False := by omega
theorem vc_X12_dropMark_3 {p1 : Int} (h0 : 0 ≤ p1 ∧ p1 ≤ 2099) : ((40 * p1) + 5) % 40 = 5 := by omega
theorem vc_X12_dropMark_4 {p1 z148 z149 z161 : Int} (h0 : z149 ≤ z148) (h1 : z148 ≤ 8) (h2 : z161 ≤ z148) (h3 : 0 ≤ p1 ∧ p1 ≤ 2099) (h4 : 0 ≤ z148 ∧ z148 ≤ 8) (h5 : 0 ≤ z149 ∧ z149 ≤ 8) (h6 : 0 ≤ z161 ∧ z161 ≤ 8) : (-2147483648 ≤ z149 ∧ z149 ≤ 2147483647) ∧ (((40 * p1) + 5) % 40 = 0 → -1 ≤ z149 ∧ z149 ≤ 9) ∧ (((40 * p1) + 5) % 40 = 4 → 0 ≤ z149 ∧ z149 ≤ 20) ∧ (((40 * p1) + 5) % 40 = 5 → 0 ≤ z149 ∧ z149 ≤ 8) := by omega
theorem vc_X12_dropMark_5 {p1 : Int} (h0 : 0 ≤ p1 ∧ p1 ≤ 2099) : ((40 * p1) + 1) ≤ ((40 * p1) + 1) ∧ ((40 * p1) + 40) ≤ ((40 * p1) + 40) := by omega
theorem vc_X12_dropMark_6 {p1 : Int} (h0 : 0 ≤ p1 ∧ p1 ≤ 2099) : 0 ≤ ((40 * p1) + 5) ∧ ((40 * p1) + 1) ≤ ((40 * p1) + 5) ∧ ((40 * p1) + 5) < ((40 * p1) + 40) := by omega
theorem vc_X12_dropMark_7 {z148 z149 z161 : Int} (h0 : z148 < z161) (h1 : z149 ≤ z148) (h2 : z148 ≤ 8) (h3 : 0 ≤ z148 ∧ z148 ≤ 8) (h4 : 0 ≤ z149 ∧ z149 ≤ 8) (h5 : 0 ≤ z161 ∧ z161 ≤ 8) : 0 ≤ z148 ∧ z148 ≤ 7 := by omega
theorem vc_X12_dropMark_8 {z148 z149 z161 : Int} (h0 : z148 < z161) (h1 : z149 ≤ z148) (h2 : z148 ≤ 8) (h3 : 0 ≤ z148 ∧ z148 ≤ 7) (h4 : 0 ≤ z149 ∧ z149 ≤ 8) (h5 : 0 ≤ z161 ∧ z161 ≤ 8) : 1 ≤ z161 ∧ z161 ≤ 8 := by omega
theorem vc_X12_dropMark_9 {p1 p2 z148 z149 z161 z179 : Int} (h0 : z149 ≤ z148) (h1 : z148 ≤ 8) (h2 : z148 < z161) (h3 : ((((40 * p1) + 26) + z148) % 40 = 0 → -1 ≤ z179 ∧ z179 ≤ 9)) (h4 : ((((40 * p1) + 26) + z148) % 40 = 4 → 0 ≤ z179 ∧ z179 ≤ 20)) (h5 : ((((40 * p1) + 26) + z148) % 40 = 5 → 0 ≤ z179 ∧ z179 ≤ 8)) (h6 : z179 = p2) (h7 : 0 ≤ p1 ∧ p1 ≤ 2099) (h8 : (-2147483648) ≤ p2 ∧ p2 ≤ 2147483647) (h9 : 0 ≤ z148 ∧ z148 ≤ 7) (h10 : 0 ≤ z149 ∧ z149 ≤ 8) (h11 : 1 ≤ z161 ∧ z161 ≤ 8) (h12 : (-2147483648) ≤ z179 ∧ z179 ≤ 2147483647) : z149 ≤ (z148 + 1) := by omega
theorem vc_X12_dropMark_10 {p1 p2 z148 z149 z161 z179 : Int} (h0 : z149 ≤ z148) (h1 : z148 ≤ 8) (h2 : z148 < z161) (h3 : ((((40 * p1) + 26) + z148) % 40 = 0 → -1 ≤ z179 ∧ z179 ≤ 9)) (h4 : ((((40 * p1) + 26) + z148) % 40 = 4 → 0 ≤ z179 ∧ z179 ≤ 20)) (h5 : ((((40 * p1) + 26) + z148) % 40 = 5 → 0 ≤ z179 ∧ z179 ≤ 8)) (h6 : z179 = p2) (h7 : 0 ≤ p1 ∧ p1 ≤ 2099) (h8 : (-2147483648) ≤ p2 ∧ p2 ≤ 2147483647) (h9 : 0 ≤ z148 ∧ z148 ≤ 7) (h10 : 0 ≤ z149 ∧ z149 ≤ 8) (h11 : 1 ≤ z161 ∧ z161 ≤ 8) (h12 : (-2147483648) ≤ z179 ∧ z179 ≤ 2147483647) : (z148 + 1) ≤ 8 := by omega
theorem vc_X12_dropMark_11 {N p1 p2 z148 z149 z161 z179 : Int} (h0 : (9 - z148) < N + 1) (h1 : z149 ≤ z148) (h2 : z148 ≤ 8) (h3 : z148 < z161) (h4 : ((((40 * p1) + 26) + z148) % 40 = 0 → -1 ≤ z179 ∧ z179 ≤ 9)) (h5 : ((((40 * p1) + 26) + z148) % 40 = 4 → 0 ≤ z179 ∧ z179 ≤ 20)) (h6 : ((((40 * p1) + 26) + z148) % 40 = 5 → 0 ≤ z179 ∧ z179 ≤ 8)) (h7 : z179 = p2) (h8 : 0 ≤ p1 ∧ p1 ≤ 2099) (h9 : (-2147483648) ≤ p2 ∧ p2 ≤ 2147483647) (h10 : 0 ≤ z148 ∧ z148 ≤ 7) (h11 : 0 ≤ z149 ∧ z149 ≤ 8) (h12 : 1 ≤ z161 ∧ z161 ≤ 8) (h13 : (-2147483648) ≤ z179 ∧ z179 ≤ 2147483647) : (9 - (z148 + 1)) < N := by omega
theorem vc_X12_dropMark_12 {p1 p2 z148 z149 z161 z179 : Int} (h0 : ((((40 * p1) + 26) + z148) % 40 = 0 → -1 ≤ z179 ∧ z179 ≤ 9)) (h1 : ((((40 * p1) + 26) + z148) % 40 = 4 → 0 ≤ z179 ∧ z179 ≤ 20)) (h2 : ((((40 * p1) + 26) + z148) % 40 = 5 → 0 ≤ z179 ∧ z179 ≤ 8)) (h3 : z149 ≤ z148) (h4 : z148 ≤ 8) (h5 : z148 < z161) (h6 : z179 = p2) (h7 : 0 ≤ p1 ∧ p1 ≤ 2099) (h8 : (-2147483648) ≤ p2 ∧ p2 ≤ 2147483647) (h9 : 0 ≤ z148 ∧ z148 ≤ 7) (h10 : 0 ≤ z149 ∧ z149 ≤ 8) (h11 : 1 ≤ z161 ∧ z161 ≤ 8) (h12 : (-2147483648) ≤ z179 ∧ z179 ≤ 2147483647) : ((40 * p1) + 1) ≤ ((40 * p1) + 1) ∧ ((40 * p1) + 40) ≤ ((40 * p1) + 40) := by omega
theorem vc_X12_dropMark_13 {p1 p2 z148 z149 z161 z179 : Int} (h0 : z149 ≤ z148) (h1 : ((((40 * p1) + 26) + z148) % 40 = 0 → -1 ≤ z179 ∧ z179 ≤ 9)) (h2 : ((((40 * p1) + 26) + z148) % 40 = 4 → 0 ≤ z179 ∧ z179 ≤ 20)) (h3 : ((((40 * p1) + 26) + z148) % 40 = 5 → 0 ≤ z179 ∧ z179 ≤ 8)) (h4 : ¬ z179 = p2) (h5 : z148 ≤ 8) (h6 : z148 < z161) (h7 : 0 ≤ p1 ∧ p1 ≤ 2099) (h8 : (-2147483648) ≤ p2 ∧ p2 ≤ 2147483647) (h9 : 0 ≤ z148 ∧ z148 ≤ 7) (h10 : 0 ≤ z149 ∧ z149 ≤ 8) (h11 : 1 ≤ z161 ∧ z161 ≤ 8) (h12 : (-2147483648) ≤ z179 ∧ z179 ≤ 2147483647) : (-2147483648 ≤ z179 ∧ z179 ≤ 2147483647) ∧ ((((40 * p1) + 26) + z149) % 40 = 0 → -1 ≤ z179 ∧ z179 ≤ 9) ∧ ((((40 * p1) + 26) + z149) % 40 = 4 → 0 ≤ z179 ∧ z179 ≤ 20) ∧ ((((40 * p1) + 26) + z149) % 40 = 5 → 0 ≤ z179 ∧ z179 ≤ 8) := by omega
theorem vc_X12_dropMark_14 {p1 z148 z149 z161 z179 : Int} (h0 : z149 ≤ z148) (h1 : z148 ≤ 8) (h2 : z148 < z161) (h3 : ((((40 * p1) + 26) + z148) % 40 = 0 → -1 ≤ z179 ∧ z179 ≤ 9)) (h4 : ((((40 * p1) + 26) + z148) % 40 = 4 → 0 ≤ z179 ∧ z179 ≤ 20)) (h5 : ((((40 * p1) + 26) + z148) % 40 = 5 → 0 ≤ z179 ∧ z179 ≤ 8)) (h6 : 0 ≤ p1 ∧ p1 ≤ 2099) (h7 : 0 ≤ z148 ∧ z148 ≤ 7) (h8 : 0 ≤ z149 ∧ z149 ≤ 8) (h9 : 1 ≤ z161 ∧ z161 ≤ 8) (h10 : (-2147483648) ≤ z179 ∧ z179 ≤ 2147483647) : 0 ≤ (z149 + 1) ∧ (z149 + 1) ≤ 8 := by omega
theorem vc_X12_dropMark_15 {p1 p2 z148 z149 z161 z179 : Int} (h0 : z149 ≤ z148) (h1 : z148 ≤ 8) (h2 : z148 < z161) (h3 : ((((40 * p1) + 26) + z148) % 40 = 0 → -1 ≤ z179 ∧ z179 ≤ 9)) (h4 : ((((40 * p1) + 26) + z148) % 40 = 4 → 0 ≤ z179 ∧ z179 ≤ 20)) (h5 : ((((40 * p1) + 26) + z148) % 40 = 5 → 0 ≤ z179 ∧ z179 ≤ 8)) (h6 : ¬ z179 = p2) (h7 : 0 ≤ p1 ∧ p1 ≤ 2099) (h8 : (-2147483648) ≤ p2 ∧ p2 ≤ 2147483647) (h9 : 0 ≤ z148 ∧ z148 ≤ 7) (h10 : 0 ≤ z149 ∧ z149 ≤ 8) (h11 : 1 ≤ z161 ∧ z161 ≤ 8) (h12 : (-2147483648) ≤ z179 ∧ z179 ≤ 2147483647) : (z149 + 1) ≤ (z148 + 1) := by omega
theorem vc_X12_dropMark_16 {p1 p2 z148 z149 z161 z179 : Int} (h0 : z149 ≤ z148) (h1 : z148 ≤ 8) (h2 : z148 < z161) (h3 : ((((40 * p1) + 26) + z148) % 40 = 0 → -1 ≤ z179 ∧ z179 ≤ 9)) (h4 : ((((40 * p1) + 26) + z148) % 40 = 4 → 0 ≤ z179 ∧ z179 ≤ 20)) (h5 : ((((40 * p1) + 26) + z148) % 40 = 5 → 0 ≤ z179 ∧ z179 ≤ 8)) (h6 : ¬ z179 = p2) (h7 : 0 ≤ p1 ∧ p1 ≤ 2099) (h8 : (-2147483648) ≤ p2 ∧ p2 ≤ 2147483647) (h9 : 0 ≤ z148 ∧ z148 ≤ 7) (h10 : 0 ≤ z149 ∧ z149 ≤ 8) (h11 : 1 ≤ z161 ∧ z161 ≤ 8) (h12 : (-2147483648) ≤ z179 ∧ z179 ≤ 2147483647) : (z148 + 1) ≤ 8 := by omega
theorem vc_X12_dropMark_17 {N p1 p2 z148 z149 z161 z179 : Int} (h0 : (9 - z148) < N + 1) (h1 : z149 ≤ z148) (h2 : z148 ≤ 8) (h3 : z148 < z161) (h4 : ((((40 * p1) + 26) + z148) % 40 = 0 → -1 ≤ z179 ∧ z179 ≤ 9)) (h5 : ((((40 * p1) + 26) + z148) % 40 = 4 → 0 ≤ z179 ∧ z179 ≤ 20)) (h6 : ((((40 * p1) + 26) + z148) % 40 = 5 → 0 ≤ z179 ∧ z179 ≤ 8)) (h7 : ¬ z179 = p2) (h8 : 0 ≤ p1 ∧ p1 ≤ 2099) (h9 : (-2147483648) ≤ p2 ∧ p2 ≤ 2147483647) (h10 : 0 ≤ z148 ∧ z148 ≤ 7) (h11 : 0 ≤ z149 ∧ z149 ≤ 8) (h12 : 1 ≤ z161 ∧ z161 ≤ 8) (h13 : (-2147483648) ≤ z179 ∧ z179 ≤ 2147483647) : (9 - (z148 + 1)) < N := by omega
theorem vc_X12_dropMark_18 {p1 p2 z148 z149 z161 z179 : Int} (h0 : ((((40 * p1) + 26) + z148) % 40 = 0 → -1 ≤ z179 ∧ z179 ≤ 9)) (h1 : ((((40 * p1) + 26) + z148) % 40 = 4 → 0 ≤ z179 ∧ z179 ≤ 20)) (h2 : ((((40 * p1) + 26) + z148) % 40 = 5 → 0 ≤ z179 ∧ z179 ≤ 8)) (h3 : z149 ≤ z148) (h4 : z148 ≤ 8) (h5 : z148 < z161) (h6 : ¬ z179 = p2) (h7 : 0 ≤ p1 ∧ p1 ≤ 2099) (h8 : (-2147483648) ≤ p2 ∧ p2 ≤ 2147483647) (h9 : 0 ≤ z148 ∧ z148 ≤ 7) (h10 : 0 ≤ z149 ∧ z149 ≤ 8) (h11 : 1 ≤ z161 ∧ z161 ≤ 8) (h12 : (-2147483648) ≤ z179 ∧ z179 ≤ 2147483647) : ((40 * p1) + 1) ≤ ((40 * p1) + 1) ∧ ((40 * p1) + 40) ≤ ((40 * p1) + 40) := by omega
theorem vc_X12_dropMark_19 {p1 p2 z148 z149 z161 z179 : Int} (h0 : z149 ≤ z148) (h1 : ((((40 * p1) + 26) + z148) % 40 = 0 → -1 ≤ z179 ∧ z179 ≤ 9)) (h2 : ((((40 * p1) + 26) + z148) % 40 = 4 → 0 ≤ z179 ∧ z179 ≤ 20)) (h3 : ((((40 * p1) + 26) + z148) % 40 = 5 → 0 ≤ z179 ∧ z179 ≤ 8)) (h4 : z148 ≤ 8) (h5 : z148 < z161) (h6 : ¬ z179 = p2) (h7 : 0 ≤ p1 ∧ p1 ≤ 2099) (h8 : (-2147483648) ≤ p2 ∧ p2 ≤ 2147483647) (h9 : 0 ≤ z148 ∧ z148 ≤ 7) (h10 : 0 ≤ z149 ∧ z149 ≤ 8) (h11 : 1 ≤ z161 ∧ z161 ≤ 8) (h12 : (-2147483648) ≤ z179 ∧ z179 ≤ 2147483647) : 0 ≤ (((40 * p1) + 26) + z149) ∧ ((40 * p1) + 1) ≤ (((40 * p1) + 26) + z149) ∧ (((40 * p1) + 26) + z149) < ((40 * p1) + 40) := by omega
theorem vc_X12_dropMark_20  : (0 : Int) ≤ (0 : Int) := by omega
theorem vc_X12_dropMark_21  : (0 : Int) ≤ (8 : Int) := by omega
theorem vc_X12_dropMark_22  : (9 - 0) < ((10 : Nat) : Int) := by omega
theorem vc_X12_dropMark_23 {z5 : Int} (h0 : z5 = 0) (h1 : 0 ≤ z5 ∧ z5 ≤ 1) : 0 ≤ z5 ∧ z5 ≤ 0 := by omega
set_option maxRecDepth 4000 in
set_option maxHeartbeats 4000000 in
theorem c_X12_dropMark {l : Launch} {D : va_G} {c : Nat → ClassId} {H0 : Heap} {sa : Nat × Nat × (Nat → Int32)} {w : mW} {μ : mM} (hw : mWF w) (hT : mT w μ) {p1 : Int} (hp1 : 0 ≤ p1 ∧ p1 ≤ 2099) {p2 : Int} (hp2 : (-2147483648) ≤ p2 ∧ p2 ≤ 2147483647) : sC (gG l D c H0 sa) mX12_dropMark 2 0 0 [.ref 106, iv p1, iv p2] (mk w μ) (qV w [126999] μ (fun μ1 => mG [(((40 * p1) + 1), ((40 * p1) + 40))] μ μ1 ∧ True)) := by
  refine sC.of rfl (by decide) (le_t rfl) ?_
  refine mr_lvE (lv' := [(0, .ref 106), (1, iv p1), (2, iv p2)]) rfl ?_
  refine sv_aload_n dX12_dropMark_0 rfl rfl ?_
  refine mr_iload_n (z := p1) dX12_dropMark_1 rfl rfl ?_
  refine mr_iload_n (z := p2) dX12_dropMark_2 rfl rfl ?_
  refine mr_cVP (c_X12_marked hw hT hp1 hp2) (gOk _ _ _ _ _) dX12_dropMark_3 (tX12_marked _ _ _ _ _) ⟨wV_X12_marked, wL_X12_marked⟩ wM_X12_154 (gCX12 _ _ _ _ _) rfl (A_106 hw) rfl ⟨le_t rfl, le_t rfl⟩ ⟨le_t rfl, le_t rfl⟩ rfl (le_t rfl) fun z5 h4 => ?_
  refine mr_if_ne (tgt := 10) dX12_dropMark_6 (by decide) (r32 h4.1 rfl) (fun h6 => ?_) (fun h6 => ?_)
  · have h7 : 1 ≤ z5 ∧ z5 ≤ 1 := (vc_X12_dropMark_1 h6 h4.1)
    refine mr_iconst (z := 0) dX12_dropMark_10 ?_
    refine mr_istore_n (lv' := [(3, iv 0), (0, .ref 106), (1, iv p1), (2, iv p2)]) dX12_dropMark_11 rfl (by decide) rfl ?_
    refine mr_iconst (z := 0) dX12_dropMark_12 ?_
    refine mr_istore (lv' := [(4, iv 0), (3, iv 0), (0, .ref 106), (1, iv p1), (2, iv p2)]) dX12_dropMark_13 (by decide) rfl ?_
    have L151 : ∀ (nL151 : Nat) (z149 z148 : Int) (μ150 : mM), mT w μ150 → mF [126999] w μ μ150 → mG [(((40 * p1) + 1), ((40 * p1) + 40))] μ μ150 → (0 ≤ z149 ∧ z149 ≤ 8) → (0 ≤ z148 ∧ z148 ≤ 8) → z149 ≤ z148 → z148 ≤ 8 → (9 - z148) < (nL151 : Int) → sV (gG l D c H0 sa) mX12_dropMark (sRm 2 0 0) (sZ (gG l D c H0 sa) 0 0 (qV w [126999] μ (fun μ1 => mG [(((40 * p1) + 1), ((40 * p1) + 40))] μ μ1 ∧ True))) 15 [(0, .ref 106), (1, iv p1), (2, iv p2), (3, iv z149), (4, iv z148)] [] (mk w μ150) 0 0 := by
      intro nL151
      induction nL151 with
      | zero => intro z149 z148 μ150 T154 F155 G156 h152 h153 h157 h158 h159; exact ((vc_X12_dropMark_2 h159 h157 h158 h153 h152)).elim
      | succ nL151 ih160 =>
        intro z149 z148 μ150 T154 F155 G156 h152 h153 h157 h158 h159
        refine mr_iload (z := z148) dX12_dropMark_15 rfl ?_
        refine sv_aload_n dX12_dropMark_17 rfl rfl ?_
        refine gf_X12_32 dX12_dropMark_18 wF_X12_148 (A_106 hw) T154 ?_
        refine mr_bipush (z := 40) dX12_dropMark_21 (by decide) ?_
        refine mr_iload_n (z := p1) dX12_dropMark_23 rfl rfl ?_
        refine mr_imul (x := 40) (y := p1) dX12_dropMark_24 ?_
        refine mr_iconst (z := 5) dX12_dropMark_25 ?_
        refine mr_iadd (x := (40 * p1)) (y := 5) dX12_dropMark_26 ?_
        refine la_126 dX12_dropMark_27 (A_126 hw) T154 (rIx (n := 84000) (rAdd (e := 5) (f := 83965) (rMulL (n := 40) (e := 0) (f := 83960) hp1 rfl) (rR (x := 5)) rfl) rfl) fun z161 q162 h163 => ?_
        have h164 : 0 ≤ z161 ∧ z161 ≤ 8 := h163.2.2.2 (vc_X12_dropMark_3 hp1)
        refine mr_icmp_ge (tgt := 79) dX12_dropMark_28 (by decide) (r32 h153 rfl) (r32 h164 rfl) (fun h173 => ?_) (fun h173 => ?_)
        · refine sv_aload_n dX12_dropMark_79 rfl rfl ?_
          refine gf_X12_32 dX12_dropMark_80 wF_X12_148 (A_106 hw) T154 ?_
          refine mr_bipush (z := 40) dX12_dropMark_83 (by decide) ?_
          refine mr_iload_n (z := p1) dX12_dropMark_85 rfl rfl ?_
          refine mr_imul (x := 40) (y := p1) dX12_dropMark_86 ?_
          refine mr_iconst (z := 5) dX12_dropMark_87 ?_
          refine mr_iadd (x := (40 * p1)) (y := 5) dX12_dropMark_88 ?_
          refine mr_iload_n (z := z149) dX12_dropMark_89 rfl rfl ?_
          refine ss_126 dX12_dropMark_90 (A_126 hw) T154 (rIx (n := 84000) (rAdd (e := 5) (f := 83965) (rMulL (n := 40) (e := 0) (f := 83960) hp1 rfl) (rR (x := 5)) rfl) rfl) (vc_X12_dropMark_4 h157 h158 h173 hp1 h153 h152 h164) fun μ174 u175 T176 => ?_
          exact mr_vret dX12_dropMark_91 rfl (le_t rfl) (le_t rfl) T176 (mF.up (mF.call mF.refl F155 rfl) (A_126 hw) u175 rfl) ⟨(mG.up (mG.call mG.refl G156 (List.forall_mem_cons.mpr ⟨⟨_, List.mem_cons_self, (vc_X12_dropMark_5 hp1)⟩, (fun _ h => absurd h List.not_mem_nil)⟩)) u175 List.mem_cons_self (vc_X12_dropMark_6 hp1)), trivial⟩
        have h177 : 0 ≤ z148 ∧ z148 ≤ 7 := (vc_X12_dropMark_7 h173 h157 h158 h153 h152 h164)
        have h178 : 1 ≤ z161 ∧ z161 ≤ 8 := (vc_X12_dropMark_8 h173 h157 h158 h177 h152 h164)
        refine sv_aload_n dX12_dropMark_31 rfl rfl ?_
        refine gf_X12_32 dX12_dropMark_32 wF_X12_148 (A_106 hw) T154 ?_
        refine mr_bipush (z := 40) dX12_dropMark_35 (by decide) ?_
        refine mr_iload_n (z := p1) dX12_dropMark_37 rfl rfl ?_
        refine mr_imul (x := 40) (y := p1) dX12_dropMark_38 ?_
        refine mr_bipush (z := 26) dX12_dropMark_39 (by decide) ?_
        refine mr_iadd (x := (40 * p1)) (y := 26) dX12_dropMark_41 ?_
        refine mr_iload (z := z148) dX12_dropMark_42 rfl ?_
        refine mr_iadd (x := ((40 * p1) + 26)) (y := z148) dX12_dropMark_44 ?_
        refine la_126 dX12_dropMark_45 (A_126 hw) T154 (rIx (n := 84000) (rAdd (e := 26) (f := 83993) (rAdd (e := 26) (f := 83986) (rMulL (n := 40) (e := 0) (f := 83960) hp1 rfl) (rR (x := 26)) rfl) h177 rfl) rfl) fun z179 q180 h181 => ?_
        refine mr_istore (lv' := [(5, iv z179), (0, .ref 106), (1, iv p1), (2, iv p2), (3, iv z149), (4, iv z148)]) dX12_dropMark_46 (by decide) rfl ?_
        refine mr_iload (z := z179) dX12_dropMark_48 rfl ?_
        refine mr_iload_n (z := p2) dX12_dropMark_50 rfl rfl ?_
        refine mr_icmp_eq (tgt := 73) dX12_dropMark_51 (by decide) h181.1 hp2 (fun h185 => ?_) (fun h185 => ?_)
        · refine mr_iinc (lv' := [(4, iv (z148 + 1)), (5, iv z179), (0, .ref 106), (1, iv p1), (2, iv p2), (3, iv z149)]) dX12_dropMark_73 rfl (by decide) rfl ?_
          refine sv_goto (tgt := 15) dX12_dropMark_76 (by decide) ?_
          refine mr_lvS (lv' := [(0, .ref 106), (1, iv p1), (2, iv p2), (3, iv z149), (4, iv (z148 + 1))]) (List.forall_mem_cons.mpr ⟨rfl, List.forall_mem_cons.mpr ⟨rfl, List.forall_mem_cons.mpr ⟨rfl, List.forall_mem_cons.mpr ⟨rfl, List.forall_mem_cons.mpr ⟨rfl, fun _ h => absurd h List.not_mem_nil⟩⟩⟩⟩⟩) ?_
          exact ih160 z149 (z148 + 1) μ150 T154 (mF.call mF.refl F155 rfl) (mG.call mG.refl G156 (List.forall_mem_cons.mpr ⟨⟨_, List.mem_cons_self, (vc_X12_dropMark_12 h181.2.1 h181.2.2.1 h181.2.2.2 h157 h158 h173 h185 hp1 hp2 h177 h152 h178 h181.1)⟩, (fun _ h => absurd h List.not_mem_nil)⟩)) h152 (rW (c := 0) (d := 8) (rAdd (e := 1) (f := 8) h177 (rR (x := 1)) rfl) rfl) (vc_X12_dropMark_9 h157 h158 h173 h181.2.1 h181.2.2.1 h181.2.2.2 h185 hp1 hp2 h177 h152 h178 h181.1) (vc_X12_dropMark_10 h157 h158 h173 h181.2.1 h181.2.2.1 h181.2.2.2 h185 hp1 hp2 h177 h152 h178 h181.1) (vc_X12_dropMark_11 (nS h159) h157 h158 h173 h181.2.1 h181.2.2.1 h181.2.2.2 h185 hp1 hp2 h177 h152 h178 h181.1)
        refine sv_aload_n dX12_dropMark_54 rfl rfl ?_
        refine gf_X12_32 dX12_dropMark_55 wF_X12_148 (A_106 hw) T154 ?_
        refine mr_bipush (z := 40) dX12_dropMark_58 (by decide) ?_
        refine mr_iload_n (z := p1) dX12_dropMark_60 rfl rfl ?_
        refine mr_imul (x := 40) (y := p1) dX12_dropMark_61 ?_
        refine mr_bipush (z := 26) dX12_dropMark_62 (by decide) ?_
        refine mr_iadd (x := (40 * p1)) (y := 26) dX12_dropMark_64 ?_
        refine mr_iload_n (z := z149) dX12_dropMark_65 rfl rfl ?_
        refine mr_iadd (x := ((40 * p1) + 26)) (y := z149) dX12_dropMark_66 ?_
        refine mr_iload (z := z179) dX12_dropMark_67 rfl ?_
        refine ss_126 dX12_dropMark_69 (A_126 hw) T154 (rIx (n := 84000) (rAdd (e := 26) (f := 83994) (rAdd (e := 26) (f := 83986) (rMulL (n := 40) (e := 0) (f := 83960) hp1 rfl) (rR (x := 26)) rfl) h152 rfl) rfl) (vc_X12_dropMark_13 h157 h181.2.1 h181.2.2.1 h181.2.2.2 h185 h158 h173 hp1 hp2 h177 h152 h178 h181.1) fun μ186 u187 T188 => ?_
        refine mr_iinc (lv' := [(3, iv (z149 + 1)), (5, iv z179), (0, .ref 106), (1, iv p1), (2, iv p2), (4, iv z148)]) dX12_dropMark_70 rfl (by decide) rfl ?_
        refine mr_iinc (lv' := [(4, iv (z148 + 1)), (3, iv (z149 + 1)), (5, iv z179), (0, .ref 106), (1, iv p1), (2, iv p2)]) dX12_dropMark_73 rfl (by decide) rfl ?_
        refine sv_goto (tgt := 15) dX12_dropMark_76 (by decide) ?_
        refine mr_lvS (lv' := [(0, .ref 106), (1, iv p1), (2, iv p2), (3, iv (z149 + 1)), (4, iv (z148 + 1))]) (List.forall_mem_cons.mpr ⟨rfl, List.forall_mem_cons.mpr ⟨rfl, List.forall_mem_cons.mpr ⟨rfl, List.forall_mem_cons.mpr ⟨rfl, List.forall_mem_cons.mpr ⟨rfl, fun _ h => absurd h List.not_mem_nil⟩⟩⟩⟩⟩) ?_
        exact ih160 (z149 + 1) (z148 + 1) μ186 T188 (mF.up (mF.call mF.refl F155 rfl) (A_126 hw) u187 rfl) (mG.up (mG.call mG.refl G156 (List.forall_mem_cons.mpr ⟨⟨_, List.mem_cons_self, (vc_X12_dropMark_18 h181.2.1 h181.2.2.1 h181.2.2.2 h157 h158 h173 h185 hp1 hp2 h177 h152 h178 h181.1)⟩, (fun _ h => absurd h List.not_mem_nil)⟩)) u187 List.mem_cons_self (vc_X12_dropMark_19 h157 h181.2.1 h181.2.2.1 h181.2.2.2 h158 h173 h185 hp1 hp2 h177 h152 h178 h181.1)) (vc_X12_dropMark_14 h157 h158 h173 h181.2.1 h181.2.2.1 h181.2.2.2 hp1 h177 h152 h178 h181.1) (rW (c := 0) (d := 8) (rAdd (e := 1) (f := 8) h177 (rR (x := 1)) rfl) rfl) (vc_X12_dropMark_15 h157 h158 h173 h181.2.1 h181.2.2.1 h181.2.2.2 h185 hp1 hp2 h177 h152 h178 h181.1) (vc_X12_dropMark_16 h157 h158 h173 h181.2.1 h181.2.2.1 h181.2.2.2 h185 hp1 hp2 h177 h152 h178 h181.1) (vc_X12_dropMark_17 (nS h159) h157 h158 h173 h181.2.1 h181.2.2.1 h181.2.2.2 h185 hp1 hp2 h177 h152 h178 h181.1)
    refine mr_lvS (lv' := [(0, .ref 106), (1, iv p1), (2, iv p2), (3, iv 0), (4, iv 0)]) (List.forall_mem_cons.mpr ⟨rfl, List.forall_mem_cons.mpr ⟨rfl, List.forall_mem_cons.mpr ⟨rfl, List.forall_mem_cons.mpr ⟨rfl, List.forall_mem_cons.mpr ⟨rfl, fun _ h => absurd h List.not_mem_nil⟩⟩⟩⟩⟩) ?_
    exact L151 10 0 0 μ hT mF.refl mG.refl (rW (c := 0) (d := 8) (rR (x := 0)) rfl) (rW (c := 0) (d := 8) (rR (x := 0)) rfl) vc_X12_dropMark_20 vc_X12_dropMark_21 vc_X12_dropMark_22
  have h189 : 0 ≤ z5 ∧ z5 ≤ 0 := (vc_X12_dropMark_23 h6 h4.1)
  exact mr_vret dX12_dropMark_9 rfl (le_t rfl) (le_t rfl) hT mF.refl ⟨mG.refl, trivial⟩
theorem vc_X12_front_1 {p1 : Int} (h0 : 0 ≤ p1 ∧ p1 ≤ 2099) : ((40 * p1) + 4) % 40 = 4 := by omega
theorem vc_X12_front_2 {z1 : Int} (h0 : ¬ z1 = 20) (h1 : 0 ≤ z1 ∧ z1 ≤ 20) : 0 ≤ z1 ∧ z1 ≤ 19 := by omega
theorem vc_X12_front_3 {z45 : Int} (h0 : (z45 - (-1)) < ((0 : Nat) : Int)) (h1 : 0 ≤ z45 ∧ z45 ≤ 19) : False := by omega
theorem vc_X12_front_4 {p1 : Int} (h0 : 0 ≤ p1 ∧ p1 ≤ 2099) : 0 ≤ ((40 * p1) + 4) := by omega
theorem vc_X12_front_5 {z45 : Int} (h0 : z45 ≤ 0) (h1 : 0 ≤ z45 ∧ z45 ≤ 19) : 0 ≤ z45 ∧ z45 ≤ 0 := by omega
theorem vc_X12_front_6 {p1 p2 : Int} (h0 : 0 ≤ p1 ∧ p1 ≤ 2099) (h1 : (-2147483648) ≤ p2 ∧ p2 ≤ 2147483647) : (-2147483648 ≤ p2 ∧ p2 ≤ 2147483647) ∧ (((40 * p1) + 6) % 40 = 0 → -1 ≤ p2 ∧ p2 ≤ 9) ∧ (((40 * p1) + 6) % 40 = 4 → 0 ≤ p2 ∧ p2 ≤ 20) ∧ (((40 * p1) + 6) % 40 = 5 → 0 ≤ p2 ∧ p2 ≤ 8) := by omega
theorem vc_X12_front_7 {p1 : Int} (h0 : 0 ≤ p1 ∧ p1 ≤ 2099) : (((40 * p1) + 4)).toNat ≠ (((40 * p1) + 6)).toNat := by omega
theorem vc_X12_front_8 {f_n p1 : Int} (h0 : f_n ≤ 19) (h1 : 0 ≤ f_n ∧ f_n ≤ 20) (h2 : 0 ≤ p1 ∧ p1 ≤ 2099) : (-2147483648 ≤ (f_n + 1) ∧ (f_n + 1) ≤ 2147483647) ∧ (((40 * p1) + 4) % 40 = 0 → -1 ≤ (f_n + 1) ∧ (f_n + 1) ≤ 9) ∧ (((40 * p1) + 4) % 40 = 4 → 0 ≤ (f_n + 1) ∧ (f_n + 1) ≤ 20) ∧ (((40 * p1) + 4) % 40 = 5 → 0 ≤ (f_n + 1) ∧ (f_n + 1) ≤ 8) := by omega
theorem vc_X12_front_9 {p1 : Int} (h0 : 0 ≤ p1 ∧ p1 ≤ 2099) : ((40 * p1) + 1) ≤ ((40 * p1) + 1) ∧ ((40 * p1) + 40) ≤ ((40 * p1) + 40) := by omega
theorem vc_X12_front_10 {p1 : Int} (h0 : 0 ≤ p1 ∧ p1 ≤ 2099) : 0 ≤ ((40 * p1) + 6) ∧ ((40 * p1) + 1) ≤ ((40 * p1) + 6) ∧ ((40 * p1) + 6) < ((40 * p1) + 40) := by omega
theorem vc_X12_front_11 {p1 : Int} (h0 : 0 ≤ p1 ∧ p1 ≤ 2099) : 0 ≤ ((40 * p1) + 4) ∧ ((40 * p1) + 1) ≤ ((40 * p1) + 4) ∧ ((40 * p1) + 4) < ((40 * p1) + 40) := by omega
theorem vc_X12_front_12 {z45 : Int} (h0 : 0 < z45) (h1 : 0 ≤ z45 ∧ z45 ≤ 19) : 1 ≤ z45 ∧ z45 ≤ 19 := by omega
theorem vc_X12_front_13 {p1 z45 z75 : Int} (h0 : 0 < z45) (h1 : ((((40 * p1) + 5) + z45) % 40 = 0 → -1 ≤ z75 ∧ z75 ≤ 9)) (h2 : ((((40 * p1) + 5) + z45) % 40 = 4 → 0 ≤ z75 ∧ z75 ≤ 20)) (h3 : ((((40 * p1) + 5) + z45) % 40 = 5 → 0 ≤ z75 ∧ z75 ≤ 8)) (h4 : 0 ≤ p1 ∧ p1 ≤ 2099) (h5 : 1 ≤ z45 ∧ z45 ≤ 19) (h6 : (-2147483648) ≤ z75 ∧ z75 ≤ 2147483647) : (-2147483648 ≤ z75 ∧ z75 ≤ 2147483647) ∧ ((((40 * p1) + 6) + z45) % 40 = 0 → -1 ≤ z75 ∧ z75 ≤ 9) ∧ ((((40 * p1) + 6) + z45) % 40 = 4 → 0 ≤ z75 ∧ z75 ≤ 20) ∧ ((((40 * p1) + 6) + z45) % 40 = 5 → 0 ≤ z75 ∧ z75 ≤ 8) := by omega
theorem vc_X12_front_14 {p1 z45 z75 : Int} (h0 : 0 < z45) (h1 : ((((40 * p1) + 5) + z45) % 40 = 0 → -1 ≤ z75 ∧ z75 ≤ 9)) (h2 : ((((40 * p1) + 5) + z45) % 40 = 4 → 0 ≤ z75 ∧ z75 ≤ 20)) (h3 : ((((40 * p1) + 5) + z45) % 40 = 5 → 0 ≤ z75 ∧ z75 ≤ 8)) (h4 : 0 ≤ p1 ∧ p1 ≤ 2099) (h5 : 1 ≤ z45 ∧ z45 ≤ 19) (h6 : (-2147483648) ≤ z75 ∧ z75 ≤ 2147483647) : (((40 * p1) + 4)).toNat ≠ ((((40 * p1) + 6) + z45)).toNat := by omega
theorem vc_X12_front_15 {f_n : Int} (h0 : f_n ≤ 19) (h1 : 0 ≤ f_n ∧ f_n ≤ 20) : f_n ≤ 19 := by omega
theorem vc_X12_front_16 {N p1 z45 z75 : Int} (h0 : (z45 - (-1)) < N + 1) (h1 : 0 < z45) (h2 : ((((40 * p1) + 5) + z45) % 40 = 0 → -1 ≤ z75 ∧ z75 ≤ 9)) (h3 : ((((40 * p1) + 5) + z45) % 40 = 4 → 0 ≤ z75 ∧ z75 ≤ 20)) (h4 : ((((40 * p1) + 5) + z45) % 40 = 5 → 0 ≤ z75 ∧ z75 ≤ 8)) (h5 : 0 ≤ p1 ∧ p1 ≤ 2099) (h6 : 1 ≤ z45 ∧ z45 ≤ 19) (h7 : (-2147483648) ≤ z75 ∧ z75 ≤ 2147483647) : ((z45 + (-1)) - (-1)) < N := by omega
theorem vc_X12_front_17 {p1 z45 z75 : Int} (h0 : ((((40 * p1) + 5) + z45) % 40 = 0 → -1 ≤ z75 ∧ z75 ≤ 9)) (h1 : ((((40 * p1) + 5) + z45) % 40 = 4 → 0 ≤ z75 ∧ z75 ≤ 20)) (h2 : ((((40 * p1) + 5) + z45) % 40 = 5 → 0 ≤ z75 ∧ z75 ≤ 8)) (h3 : 0 < z45) (h4 : 0 ≤ p1 ∧ p1 ≤ 2099) (h5 : 1 ≤ z45 ∧ z45 ≤ 19) (h6 : (-2147483648) ≤ z75 ∧ z75 ≤ 2147483647) : ((40 * p1) + 1) ≤ ((40 * p1) + 1) ∧ ((40 * p1) + 40) ≤ ((40 * p1) + 40) := by omega
theorem vc_X12_front_18 {p1 z45 z75 : Int} (h0 : 0 < z45) (h1 : ((((40 * p1) + 5) + z45) % 40 = 0 → -1 ≤ z75 ∧ z75 ≤ 9)) (h2 : ((((40 * p1) + 5) + z45) % 40 = 4 → 0 ≤ z75 ∧ z75 ≤ 20)) (h3 : ((((40 * p1) + 5) + z45) % 40 = 5 → 0 ≤ z75 ∧ z75 ≤ 8)) (h4 : 0 ≤ p1 ∧ p1 ≤ 2099) (h5 : 1 ≤ z45 ∧ z45 ≤ 19) (h6 : (-2147483648) ≤ z75 ∧ z75 ≤ 2147483647) : 0 ≤ (((40 * p1) + 6) + z45) ∧ ((40 * p1) + 1) ≤ (((40 * p1) + 6) + z45) ∧ (((40 * p1) + 6) + z45) < ((40 * p1) + 40) := by omega
theorem vc_X12_front_19 {z1 : Int} (h0 : ¬ z1 = 20) (h1 : 0 ≤ z1 ∧ z1 ≤ 19) : z1 ≤ 19 := by omega
theorem vc_X12_front_20 {z1 : Int} (h0 : ¬ z1 = 20) (h1 : 0 ≤ z1 ∧ z1 ≤ 19) : (z1 - (-1)) < ((21 : Nat) : Int) := by omega
theorem vc_X12_front_21 {z1 : Int} (h0 : z1 = 20) (h1 : 0 ≤ z1 ∧ z1 ≤ 20) : 20 ≤ z1 ∧ z1 ≤ 20 := by omega
set_option maxRecDepth 4000 in
set_option maxHeartbeats 4000000 in
theorem c_X12_front {l : Launch} {D : va_G} {c : Nat → ClassId} {H0 : Heap} {sa : Nat × Nat × (Nat → Int32)} {w : mW} {μ : mM} (hw : mWF w) (hT : mT w μ) {p1 : Int} (hp1 : 0 ≤ p1 ∧ p1 ≤ 2099) {p2 : Int} (hp2 : (-2147483648) ≤ p2 ∧ p2 ≤ 2147483647) : sC (gG l D c H0 sa) mX12_front 1 0 0 [.ref 106, iv p1, iv p2] (mk w μ) (qI w [126999] μ (fun z μ1 => (0 ≤ z ∧ z ≤ 1) ∧ mG [(((40 * p1) + 1), ((40 * p1) + 40))] μ μ1 ∧ True)) := by
  refine sC.of rfl (by decide) (le_t rfl) ?_
  refine mr_lvE (lv' := [(0, .ref 106), (1, iv p1), (2, iv p2)]) rfl ?_
  refine sv_aload_n dX12_front_0 rfl rfl ?_
  refine gf_X12_32 dX12_front_1 wF_X12_148 (A_106 hw) hT ?_
  refine mr_bipush (z := 40) dX12_front_4 (by decide) ?_
  refine mr_iload_n (z := p1) dX12_front_6 rfl rfl ?_
  refine mr_imul (x := 40) (y := p1) dX12_front_7 ?_
  refine mr_iconst (z := 4) dX12_front_8 ?_
  refine mr_iadd (x := (40 * p1)) (y := 4) dX12_front_9 ?_
  refine la_126 dX12_front_10 (A_126 hw) hT (rIx (n := 84000) (rAdd (e := 4) (f := 83964) (rMulL (n := 40) (e := 0) (f := 83960) hp1 rfl) (rR (x := 4)) rfl) rfl) fun z1 q2 h3 => ?_
  have h4 : 0 ≤ z1 ∧ z1 ≤ 20 := h3.2.2.1 (vc_X12_front_1 hp1)
  refine mr_istore_n (lv' := [(3, iv z1), (0, .ref 106), (1, iv p1), (2, iv p2)]) dX12_front_11 rfl (by decide) rfl ?_
  refine mr_iload_n (z := z1) dX12_front_12 rfl rfl ?_
  refine mr_bipush (z := 20) dX12_front_13 (by decide) ?_
  refine mr_icmp_ne (tgt := 20) dX12_front_15 (by decide) (r32 h4 rfl) (r32 (rR (x := 20)) rfl) (fun h5 => ?_) (fun h5 => ?_)
  · have h6 : 0 ≤ z1 ∧ z1 ≤ 19 := (vc_X12_front_2 h5 h4)
    refine mr_iload_n (z := z1) dX12_front_20 rfl rfl ?_
    refine mr_istore (lv' := [(4, iv z1), (3, iv z1), (0, .ref 106), (1, iv p1), (2, iv p2)]) dX12_front_21 (by decide) rfl ?_
    have L47 : ∀ (nL47 : Nat) (z45 : Int) (μ46 : mM) (f_n : Int), mT w μ46 → mF [126999] w μ μ46 → mG [(((40 * p1) + 1), ((40 * p1) + 40))] μ μ46 → μ46 126 ((40 * p1) + 4).toNat = f_n → (0 ≤ z45 ∧ z45 ≤ 19) → f_n ≤ 19 → (z45 - (-1)) < (nL47 : Int) → sV (gG l D c H0 sa) mX12_front (sRm 1 0 0) (sZ (gG l D c H0 sa) 0 0 (qI w [126999] μ (fun z μ1 => (0 ≤ z ∧ z ≤ 1) ∧ mG [(((40 * p1) + 1), ((40 * p1) + 40))] μ μ1 ∧ True))) 23 [(0, .ref 106), (1, iv p1), (2, iv p2), (4, iv z45)] [] (mk w μ46) 0 0 := by
      intro nL47
      induction nL47 with
      | zero => intro z45 μ46 f_n T49 F50 G51 q54 h48 h52 h53; exact ((vc_X12_front_3 h53 h48)).elim
      | succ nL47 ih55 =>
        intro z45 μ46 f_n T49 F50 G51 q54 h48 h52 h53
        have h56 := rt7 T49 (A_126 hw) (vc_X12_front_4 hp1) q54
        have h57 : 0 ≤ f_n ∧ f_n ≤ 20 := h56.2.2.1 (vc_X12_front_1 hp1)
        refine mr_iload (z := z45) dX12_front_23 rfl ?_
        refine mr_if_le (tgt := 63) dX12_front_25 (by decide) (r32 h48 rfl) (fun h66 => ?_) (fun h66 => ?_)
        · have h67 : 0 ≤ z45 ∧ z45 ≤ 0 := (vc_X12_front_5 h66 h48)
          refine sv_aload_n dX12_front_63 rfl rfl ?_
          refine gf_X12_32 dX12_front_64 wF_X12_148 (A_106 hw) T49 ?_
          refine mr_bipush (z := 40) dX12_front_67 (by decide) ?_
          refine mr_iload_n (z := p1) dX12_front_69 rfl rfl ?_
          refine mr_imul (x := 40) (y := p1) dX12_front_70 ?_
          refine mr_bipush (z := 6) dX12_front_71 (by decide) ?_
          refine mr_iadd (x := (40 * p1)) (y := 6) dX12_front_73 ?_
          refine mr_iload_n (z := p2) dX12_front_74 rfl rfl ?_
          refine ss_126 dX12_front_75 (A_126 hw) T49 (rIx (n := 84000) (rAdd (e := 6) (f := 83966) (rMulL (n := 40) (e := 0) (f := 83960) hp1 rfl) (rR (x := 6)) rfl) rfl) (vc_X12_front_6 hp1 hp2) fun μ68 u69 T70 => ?_
          refine sv_aload_n dX12_front_76 rfl rfl ?_
          refine gf_X12_32 dX12_front_77 wF_X12_148 (A_106 hw) T70 ?_
          refine mr_bipush (z := 40) dX12_front_80 (by decide) ?_
          refine mr_iload_n (z := p1) dX12_front_82 rfl rfl ?_
          refine mr_imul (x := 40) (y := p1) dX12_front_83 ?_
          refine mr_iconst (z := 4) dX12_front_84 ?_
          refine mr_iadd (x := (40 * p1)) (y := 4) dX12_front_85 ?_
          refine sv_dup2 dX12_front_86 rfl rfl ?_
          refine lk_126 dX12_front_87 (A_126 hw) (rIx (n := 84000) (rAdd (e := 4) (f := 83964) (rMulL (n := 40) (e := 0) (f := 83960) hp1 rfl) (rR (x := 4)) rfl) rfl) (u69.f (Or.inr (vc_X12_front_7 hp1)) q54) ?_
          refine mr_iconst (z := 1) dX12_front_88 ?_
          refine mr_iadd (x := f_n) (y := 1) dX12_front_89 ?_
          refine ss_126 dX12_front_90 (A_126 hw) T70 (rIx (n := 84000) (rAdd (e := 4) (f := 83964) (rMulL (n := 40) (e := 0) (f := 83960) hp1 rfl) (rR (x := 4)) rfl) rfl) (vc_X12_front_8 h52 h57 hp1) fun μ71 u72 T73 => ?_
          refine mr_iconst (z := 1) dX12_front_91 ?_
          exact mr_zret dX12_front_92 rfl (rW (c := 0) (d := 1) (rR (x := 1)) rfl) (le_t rfl) (le_t rfl) T73 (mF.up (mF.up (mF.call mF.refl F50 rfl) (A_126 hw) u69 rfl) (A_126 hw) u72 rfl) ⟨(rW (c := 0) (d := 1) (rR (x := 1)) rfl), (mG.up (mG.up (mG.call mG.refl G51 (List.forall_mem_cons.mpr ⟨⟨_, List.mem_cons_self, (vc_X12_front_9 hp1)⟩, (fun _ h => absurd h List.not_mem_nil)⟩)) u69 List.mem_cons_self (vc_X12_front_10 hp1)) u72 List.mem_cons_self (vc_X12_front_11 hp1)), trivial⟩
        have h74 : 1 ≤ z45 ∧ z45 ≤ 19 := (vc_X12_front_12 h66 h48)
        refine sv_aload_n dX12_front_28 rfl rfl ?_
        refine gf_X12_32 dX12_front_29 wF_X12_148 (A_106 hw) T49 ?_
        refine mr_bipush (z := 40) dX12_front_32 (by decide) ?_
        refine mr_iload_n (z := p1) dX12_front_34 rfl rfl ?_
        refine mr_imul (x := 40) (y := p1) dX12_front_35 ?_
        refine mr_bipush (z := 6) dX12_front_36 (by decide) ?_
        refine mr_iadd (x := (40 * p1)) (y := 6) dX12_front_38 ?_
        refine mr_iload (z := z45) dX12_front_39 rfl ?_
        refine mr_iadd (x := ((40 * p1) + 6)) (y := z45) dX12_front_41 ?_
        refine sv_aload_n dX12_front_42 rfl rfl ?_
        refine gf_X12_32 dX12_front_43 wF_X12_148 (A_106 hw) T49 ?_
        refine mr_bipush (z := 40) dX12_front_46 (by decide) ?_
        refine mr_iload_n (z := p1) dX12_front_48 rfl rfl ?_
        refine mr_imul (x := 40) (y := p1) dX12_front_49 ?_
        refine mr_iconst (z := 5) dX12_front_50 ?_
        refine mr_iadd (x := (40 * p1)) (y := 5) dX12_front_51 ?_
        refine mr_iload (z := z45) dX12_front_52 rfl ?_
        refine mr_iadd (x := ((40 * p1) + 5)) (y := z45) dX12_front_54 ?_
        refine la_126 dX12_front_55 (A_126 hw) T49 (rIx (n := 84000) (rAdd (e := 6) (f := 83984) (rAdd (e := 5) (f := 83965) (rMulL (n := 40) (e := 0) (f := 83960) hp1 rfl) (rR (x := 5)) rfl) h74 rfl) rfl) fun z75 q76 h77 => ?_
        refine ss_126 dX12_front_56 (A_126 hw) T49 (rIx (n := 84000) (rAdd (e := 7) (f := 83985) (rAdd (e := 6) (f := 83966) (rMulL (n := 40) (e := 0) (f := 83960) hp1 rfl) (rR (x := 6)) rfl) h74 rfl) rfl) (vc_X12_front_13 h66 h77.2.1 h77.2.2.1 h77.2.2.2 hp1 h74 h77.1) fun μ78 u79 T80 => ?_
        refine mr_iinc (lv' := [(4, iv (z45 + (-1))), (0, .ref 106), (1, iv p1), (2, iv p2)]) dX12_front_57 rfl (by decide) rfl ?_
        refine sv_goto (tgt := 23) dX12_front_60 (by decide) ?_
        refine mr_lvS (lv' := [(0, .ref 106), (1, iv p1), (2, iv p2), (4, iv (z45 + (-1)))]) (List.forall_mem_cons.mpr ⟨rfl, List.forall_mem_cons.mpr ⟨rfl, List.forall_mem_cons.mpr ⟨rfl, List.forall_mem_cons.mpr ⟨rfl, fun _ h => absurd h List.not_mem_nil⟩⟩⟩⟩) ?_
        exact ih55 (z45 + (-1)) μ78 f_n T80 (mF.up (mF.call mF.refl F50 rfl) (A_126 hw) u79 rfl) (mG.up (mG.call mG.refl G51 (List.forall_mem_cons.mpr ⟨⟨_, List.mem_cons_self, (vc_X12_front_17 h77.2.1 h77.2.2.1 h77.2.2.2 h66 hp1 h74 h77.1)⟩, (fun _ h => absurd h List.not_mem_nil)⟩)) u79 List.mem_cons_self (vc_X12_front_18 h66 h77.2.1 h77.2.2.1 h77.2.2.2 hp1 h74 h77.1)) (u79.f (Or.inr (vc_X12_front_14 h66 h77.2.1 h77.2.2.1 h77.2.2.2 hp1 h74 h77.1)) q54) (rW (c := 0) (d := 19) (rAdd (e := 0) (f := 18) h74 (rR (x := (-1))) rfl) rfl) (vc_X12_front_15 h52 h57) (vc_X12_front_16 (nS h53) h66 h77.2.1 h77.2.2.1 h77.2.2.2 hp1 h74 h77.1)
    refine mr_lvS (lv' := [(0, .ref 106), (1, iv p1), (2, iv p2), (4, iv z1)]) (List.forall_mem_cons.mpr ⟨rfl, List.forall_mem_cons.mpr ⟨rfl, List.forall_mem_cons.mpr ⟨rfl, List.forall_mem_cons.mpr ⟨rfl, fun _ h => absurd h List.not_mem_nil⟩⟩⟩⟩) ?_
    exact L47 21 z1 μ z1 hT mF.refl mG.refl q2 h6 (vc_X12_front_19 h5 h6) (vc_X12_front_20 h5 h6)
  have h81 : 20 ≤ z1 ∧ z1 ≤ 20 := (vc_X12_front_21 h5 h4)
  refine mr_iconst (z := 0) dX12_front_18 ?_
  exact mr_zret dX12_front_19 rfl (rW (c := 0) (d := 1) (rR (x := 0)) rfl) (le_t rfl) (le_t rfl) hT mF.refl ⟨(rW (c := 0) (d := 1) (rR (x := 0)) rfl), mG.refl, trivial⟩
theorem vc_X12_isIn_1 {z181 : Int} (h0 : (21 - z181) < ((0 : Nat) : Int)) (h1 : 0 ≤ z181 ∧ z181 ≤ 20) : False := by omega
theorem vc_X12_isIn_2 {p1 : Int} (h0 : 0 ≤ p1 ∧ p1 ≤ 2099) : ((40 * p1) + 4) % 40 = 4 := by omega
theorem vc_X12_isIn_3 {z181 z191 : Int} (h0 : z181 < z191) (h1 : 0 ≤ z181 ∧ z181 ≤ 20) (h2 : 0 ≤ z191 ∧ z191 ≤ 20) : 0 ≤ z181 ∧ z181 ≤ 19 := by omega
theorem vc_X12_isIn_4 {z181 z191 : Int} (h0 : z181 < z191) (h1 : 0 ≤ z181 ∧ z181 ≤ 19) (h2 : 0 ≤ z191 ∧ z191 ≤ 20) : 1 ≤ z191 ∧ z191 ≤ 20 := by omega
theorem vc_X12_isIn_5 {z182 : Int} (h0 : ¬ z182 = 0) (h1 : 0 ≤ z182 ∧ z182 ≤ 1) : 1 ≤ z182 ∧ z182 ≤ 1 := by omega
theorem vc_X12_isIn_6 {N z181 z191 : Int} (h0 : (21 - z181) < N + 1) (h1 : z181 < z191) (h2 : 0 ≤ z181 ∧ z181 ≤ 19) (h3 : 1 ≤ z191 ∧ z191 ≤ 20) : (21 - (z181 + 1)) < N := by omega
theorem vc_X12_isIn_7 {z182 : Int} (h0 : z182 = 0) (h1 : 0 ≤ z182 ∧ z182 ≤ 1) : 0 ≤ z182 ∧ z182 ≤ 0 := by omega
theorem vc_X12_isIn_8 {N p1 p2 z181 z191 z213 : Int} (h0 : (21 - z181) < N + 1) (h1 : z181 < z191) (h2 : ((((40 * p1) + 6) + z181) % 40 = 0 → -1 ≤ z213 ∧ z213 ≤ 9)) (h3 : ((((40 * p1) + 6) + z181) % 40 = 4 → 0 ≤ z213 ∧ z213 ≤ 20)) (h4 : ((((40 * p1) + 6) + z181) % 40 = 5 → 0 ≤ z213 ∧ z213 ≤ 8)) (h5 : ¬ z213 = p2) (h6 : 0 ≤ p1 ∧ p1 ≤ 2099) (h7 : (-2147483648) ≤ p2 ∧ p2 ≤ 2147483647) (h8 : 0 ≤ z181 ∧ z181 ≤ 19) (h9 : 1 ≤ z191 ∧ z191 ≤ 20) (h10 : (-2147483648) ≤ z213 ∧ z213 ≤ 2147483647) : (21 - (z181 + 1)) < N := by omega
theorem vc_X12_isIn_9 {N p1 p2 z181 z191 z213 : Int} (h0 : (21 - z181) < N + 1) (h1 : z181 < z191) (h2 : ((((40 * p1) + 6) + z181) % 40 = 0 → -1 ≤ z213 ∧ z213 ≤ 9)) (h3 : ((((40 * p1) + 6) + z181) % 40 = 4 → 0 ≤ z213 ∧ z213 ≤ 20)) (h4 : ((((40 * p1) + 6) + z181) % 40 = 5 → 0 ≤ z213 ∧ z213 ≤ 8)) (h5 : z213 = p2) (h6 : 0 ≤ p1 ∧ p1 ≤ 2099) (h7 : (-2147483648) ≤ p2 ∧ p2 ≤ 2147483647) (h8 : 0 ≤ z181 ∧ z181 ≤ 19) (h9 : 1 ≤ z191 ∧ z191 ≤ 20) (h10 : (-2147483648) ≤ z213 ∧ z213 ≤ 2147483647) : (21 - (z181 + 1)) < N := by omega
theorem vc_X12_isIn_10  : (21 - 0) < ((22 : Nat) : Int) := by omega
set_option maxRecDepth 4000 in
set_option maxHeartbeats 4000000 in
theorem c_X12_isIn {l : Launch} {D : va_G} {c : Nat → ClassId} {H0 : Heap} {sa : Nat × Nat × (Nat → Int32)} {w : mW} {μ : mM} (hw : mWF w) (hT : mT w μ) {p1 : Int} (hp1 : 0 ≤ p1 ∧ p1 ≤ 2099) {p2 : Int} (hp2 : (-2147483648) ≤ p2 ∧ p2 ≤ 2147483647) : sC (gG l D c H0 sa) mX12_isIn 1 0 0 [.ref 106, iv p1, iv p2] (mk w μ) (qP w μ (fun z => (0 ≤ z ∧ z ≤ 1) ∧ True)) := by
  refine sC.of rfl (by decide) (le_t rfl) ?_
  refine mr_lvE (lv' := [(0, .ref 106), (1, iv p1), (2, iv p2)]) rfl ?_
  refine mr_iconst (z := 0) dX12_isIn_0 ?_
  refine mr_istore_n (lv' := [(3, iv 0), (0, .ref 106), (1, iv p1), (2, iv p2)]) dX12_isIn_1 rfl (by decide) rfl ?_
  refine mr_iconst (z := 0) dX12_isIn_2 ?_
  refine mr_istore (lv' := [(4, iv 0), (3, iv 0), (0, .ref 106), (1, iv p1), (2, iv p2)]) dX12_isIn_3 (by decide) rfl ?_
  have L183 : ∀ (nL183 : Nat) (z182 z181 : Int), True → (0 ≤ z182 ∧ z182 ≤ 1) → (0 ≤ z181 ∧ z181 ≤ 20) → (21 - z181) < (nL183 : Int) → sV (gG l D c H0 sa) mX12_isIn (sRm 1 0 0) (sZ (gG l D c H0 sa) 0 0 (qP w μ (fun z => (0 ≤ z ∧ z ≤ 1) ∧ True))) 5 [(0, .ref 106), (1, iv p1), (2, iv p2), (3, iv z182), (4, iv z181)] [] (mk w μ) 0 0 := by
    intro nL183
    induction nL183 with
    | zero => intro z182 z181 _ h184 h185 h189; exact ((vc_X12_isIn_1 h189 h185)).elim
    | succ nL183 ih190 =>
      intro z182 z181 _ h184 h185 h189
      refine mr_iload (z := z181) dX12_isIn_5 rfl ?_
      refine sv_aload_n dX12_isIn_7 rfl rfl ?_
      refine gf_X12_32 dX12_isIn_8 wF_X12_148 (A_106 hw) hT ?_
      refine mr_bipush (z := 40) dX12_isIn_11 (by decide) ?_
      refine mr_iload_n (z := p1) dX12_isIn_13 rfl rfl ?_
      refine mr_imul (x := 40) (y := p1) dX12_isIn_14 ?_
      refine mr_iconst (z := 4) dX12_isIn_15 ?_
      refine mr_iadd (x := (40 * p1)) (y := 4) dX12_isIn_16 ?_
      refine la_126 dX12_isIn_17 (A_126 hw) hT (rIx (n := 84000) (rAdd (e := 4) (f := 83964) (rMulL (n := 40) (e := 0) (f := 83960) hp1 rfl) (rR (x := 4)) rfl) rfl) fun z191 q192 h193 => ?_
      have h194 : 0 ≤ z191 ∧ z191 ≤ 20 := h193.2.2.1 (vc_X12_isIn_2 hp1)
      refine mr_icmp_ge (tgt := 56) dX12_isIn_18 (by decide) (r32 h185 rfl) (r32 h194 rfl) (fun h202 => ?_) (fun h202 => ?_)
      · refine mr_iload_n (z := z182) dX12_isIn_56 rfl rfl ?_
        exact mr_zretP dX12_isIn_57 rfl h184 (le_t rfl) (le_t rfl) ⟨h184, trivial⟩
      have h203 : 0 ≤ z181 ∧ z181 ≤ 19 := (vc_X12_isIn_3 h202 h185 h194)
      have h204 : 1 ≤ z191 ∧ z191 ≤ 20 := (vc_X12_isIn_4 h202 h203 h194)
      refine mr_iload_n (z := z182) dX12_isIn_21 rfl rfl ?_
      refine mr_if_ne (tgt := 44) dX12_isIn_22 (by decide) (r32 h184 rfl) (fun h210 => ?_) (fun h210 => ?_)
      · have h211 : 1 ≤ z182 ∧ z182 ≤ 1 := (vc_X12_isIn_5 h210 h184)
        refine mr_iconst (z := 1) dX12_isIn_44 ?_
        refine sv_goto (tgt := 49) dX12_isIn_45 (by decide) ?_
        refine mr_istore_n (lv' := [(3, iv 1), (0, .ref 106), (1, iv p1), (2, iv p2), (4, iv z181)]) dX12_isIn_49 rfl (by decide) rfl ?_
        refine mr_iinc (lv' := [(4, iv (z181 + 1)), (3, iv 1), (0, .ref 106), (1, iv p1), (2, iv p2)]) dX12_isIn_50 rfl (by decide) rfl ?_
        refine sv_goto (tgt := 5) dX12_isIn_53 (by decide) ?_
        refine mr_lvS (lv' := [(0, .ref 106), (1, iv p1), (2, iv p2), (3, iv 1), (4, iv (z181 + 1))]) (List.forall_mem_cons.mpr ⟨rfl, List.forall_mem_cons.mpr ⟨rfl, List.forall_mem_cons.mpr ⟨rfl, List.forall_mem_cons.mpr ⟨rfl, List.forall_mem_cons.mpr ⟨rfl, fun _ h => absurd h List.not_mem_nil⟩⟩⟩⟩⟩) ?_
        exact ih190 1 (z181 + 1) trivial (rW (c := 0) (d := 1) (rR (x := 1)) rfl) (rW (c := 0) (d := 20) (rAdd (e := 1) (f := 20) h203 (rR (x := 1)) rfl) rfl) (vc_X12_isIn_6 (nS h189) h202 h203 h204)
      have h212 : 0 ≤ z182 ∧ z182 ≤ 0 := (vc_X12_isIn_7 h210 h184)
      refine sv_aload_n dX12_isIn_25 rfl rfl ?_
      refine gf_X12_32 dX12_isIn_26 wF_X12_148 (A_106 hw) hT ?_
      refine mr_bipush (z := 40) dX12_isIn_29 (by decide) ?_
      refine mr_iload_n (z := p1) dX12_isIn_31 rfl rfl ?_
      refine mr_imul (x := 40) (y := p1) dX12_isIn_32 ?_
      refine mr_bipush (z := 6) dX12_isIn_33 (by decide) ?_
      refine mr_iadd (x := (40 * p1)) (y := 6) dX12_isIn_35 ?_
      refine mr_iload (z := z181) dX12_isIn_36 rfl ?_
      refine mr_iadd (x := ((40 * p1) + 6)) (y := z181) dX12_isIn_38 ?_
      refine la_126 dX12_isIn_39 (A_126 hw) hT (rIx (n := 84000) (rAdd (e := 6) (f := 83985) (rAdd (e := 6) (f := 83966) (rMulL (n := 40) (e := 0) (f := 83960) hp1 rfl) (rR (x := 6)) rfl) h203 rfl) rfl) fun z213 q214 h215 => ?_
      refine mr_iload_n (z := p2) dX12_isIn_40 rfl rfl ?_
      refine mr_icmp_ne (tgt := 48) dX12_isIn_41 (by decide) h215.1 hp2 (fun h216 => ?_) (fun h216 => ?_)
      · refine mr_iconst (z := 0) dX12_isIn_48 ?_
        refine mr_istore_n (lv' := [(3, iv 0), (0, .ref 106), (1, iv p1), (2, iv p2), (4, iv z181)]) dX12_isIn_49 rfl (by decide) rfl ?_
        refine mr_iinc (lv' := [(4, iv (z181 + 1)), (3, iv 0), (0, .ref 106), (1, iv p1), (2, iv p2)]) dX12_isIn_50 rfl (by decide) rfl ?_
        refine sv_goto (tgt := 5) dX12_isIn_53 (by decide) ?_
        refine mr_lvS (lv' := [(0, .ref 106), (1, iv p1), (2, iv p2), (3, iv 0), (4, iv (z181 + 1))]) (List.forall_mem_cons.mpr ⟨rfl, List.forall_mem_cons.mpr ⟨rfl, List.forall_mem_cons.mpr ⟨rfl, List.forall_mem_cons.mpr ⟨rfl, List.forall_mem_cons.mpr ⟨rfl, fun _ h => absurd h List.not_mem_nil⟩⟩⟩⟩⟩) ?_
        exact ih190 0 (z181 + 1) trivial (rW (c := 0) (d := 1) (rR (x := 0)) rfl) (rW (c := 0) (d := 20) (rAdd (e := 1) (f := 20) h203 (rR (x := 1)) rfl) rfl) (vc_X12_isIn_8 (nS h189) h202 h215.2.1 h215.2.2.1 h215.2.2.2 h216 hp1 hp2 h203 h204 h215.1)
      refine mr_iconst (z := 1) dX12_isIn_44 ?_
      refine sv_goto (tgt := 49) dX12_isIn_45 (by decide) ?_
      refine mr_istore_n (lv' := [(3, iv 1), (0, .ref 106), (1, iv p1), (2, iv p2), (4, iv z181)]) dX12_isIn_49 rfl (by decide) rfl ?_
      refine mr_iinc (lv' := [(4, iv (z181 + 1)), (3, iv 1), (0, .ref 106), (1, iv p1), (2, iv p2)]) dX12_isIn_50 rfl (by decide) rfl ?_
      refine sv_goto (tgt := 5) dX12_isIn_53 (by decide) ?_
      refine mr_lvS (lv' := [(0, .ref 106), (1, iv p1), (2, iv p2), (3, iv 1), (4, iv (z181 + 1))]) (List.forall_mem_cons.mpr ⟨rfl, List.forall_mem_cons.mpr ⟨rfl, List.forall_mem_cons.mpr ⟨rfl, List.forall_mem_cons.mpr ⟨rfl, List.forall_mem_cons.mpr ⟨rfl, fun _ h => absurd h List.not_mem_nil⟩⟩⟩⟩⟩) ?_
      exact ih190 1 (z181 + 1) trivial (rW (c := 0) (d := 1) (rR (x := 1)) rfl) (rW (c := 0) (d := 20) (rAdd (e := 1) (f := 20) h203 (rR (x := 1)) rfl) rfl) (vc_X12_isIn_9 (nS h189) h202 h215.2.1 h215.2.2.1 h215.2.2.2 h216 hp1 hp2 h203 h204 h215.1)
  refine mr_lvS (lv' := [(0, .ref 106), (1, iv p1), (2, iv p2), (3, iv 0), (4, iv 0)]) (List.forall_mem_cons.mpr ⟨rfl, List.forall_mem_cons.mpr ⟨rfl, List.forall_mem_cons.mpr ⟨rfl, List.forall_mem_cons.mpr ⟨rfl, List.forall_mem_cons.mpr ⟨rfl, fun _ h => absurd h List.not_mem_nil⟩⟩⟩⟩⟩) ?_
  exact L183 22 0 0 trivial (rW (c := 0) (d := 1) (rR (x := 0)) rfl) (rW (c := 0) (d := 20) (rR (x := 0)) rfl) vc_X12_isIn_10
