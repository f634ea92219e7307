theorem vc_X12_in_1 {p1 p2 : Int} (h0 : p1 < p2) (h1 : (-2147483648) ≤ p1 ∧ p1 ≤ 2147483647) (h2 : (-2147483648) ≤ p2 ∧ p2 ≤ 2147483647) : (-2147483648) ≤ p1 ∧ p1 ≤ 2147483646 := by omega
theorem vc_X12_in_2 {p1 p2 : Int} (h0 : p1 < p2) (h1 : (-2147483648) ≤ p1 ∧ p1 ≤ 2147483646) (h2 : (-2147483648) ≤ p2 ∧ p2 ≤ 2147483647) : (-2147483647) ≤ p2 ∧ p2 ≤ 2147483647 := by omega
theorem vc_X12_in_3 {p1 p2 p3 : Int} (h0 : p1 < p2) (h1 : (-2147483648) ≤ p1 ∧ p1 ≤ 2147483646) (h2 : (-2147483647) ≤ p2 ∧ p2 ≤ 2147483647) (h3 : (-2147483648) ≤ p3 ∧ p3 ≤ 2147483647) : (0 : Int) = 1 → p2 ≤ p1 ∧ p1 ≤ p3 := by omega
theorem vc_X12_in_4 {p1 p2 p3 : Int} (h0 : p1 < p2) (h1 : (-2147483648) ≤ p1 ∧ p1 ≤ 2147483646) (h2 : (-2147483647) ≤ p2 ∧ p2 ≤ 2147483647) (h3 : (-2147483648) ≤ p3 ∧ p3 ≤ 2147483647) : (0 : Int) = 0 → p1 < p2 ∨ p3 < p1 := by omega
theorem vc_X12_in_5 {p1 p2 p3 : Int} (h0 : p3 < p1) (h1 : p2 ≤ p1) (h2 : (-2147483648) ≤ p1 ∧ p1 ≤ 2147483647) (h3 : (-2147483648) ≤ p2 ∧ p2 ≤ 2147483647) (h4 : (-2147483648) ≤ p3 ∧ p3 ≤ 2147483647) : (-2147483647) ≤ p1 ∧ p1 ≤ 2147483647 := by omega
theorem vc_X12_in_6 {p1 p2 p3 : Int} (h0 : p3 < p1) (h1 : p2 ≤ p1) (h2 : (-2147483647) ≤ p1 ∧ p1 ≤ 2147483647) (h3 : (-2147483648) ≤ p2 ∧ p2 ≤ 2147483647) (h4 : (-2147483648) ≤ p3 ∧ p3 ≤ 2147483647) : (-2147483648) ≤ p3 ∧ p3 ≤ 2147483646 := by omega
theorem vc_X12_in_7 {p1 p2 p3 : Int} (h0 : p2 ≤ p1) (h1 : p3 < p1) (h2 : (-2147483647) ≤ p1 ∧ p1 ≤ 2147483647) (h3 : (-2147483648) ≤ p2 ∧ p2 ≤ 2147483647) (h4 : (-2147483648) ≤ p3 ∧ p3 ≤ 2147483646) : (0 : Int) = 1 → p2 ≤ p1 ∧ p1 ≤ p3 := by omega
theorem vc_X12_in_8 {p1 p2 p3 : Int} (h0 : p2 ≤ p1) (h1 : p3 < p1) (h2 : (-2147483647) ≤ p1 ∧ p1 ≤ 2147483647) (h3 : (-2147483648) ≤ p2 ∧ p2 ≤ 2147483647) (h4 : (-2147483648) ≤ p3 ∧ p3 ≤ 2147483646) : (0 : Int) = 0 → p1 < p2 ∨ p3 < p1 := by omega
theorem vc_X12_in_9 {p1 p2 p3 : Int} (h0 : p2 ≤ p1) (h1 : p1 ≤ p3) (h2 : (-2147483648) ≤ p1 ∧ p1 ≤ 2147483647) (h3 : (-2147483648) ≤ p2 ∧ p2 ≤ 2147483647) (h4 : (-2147483648) ≤ p3 ∧ p3 ≤ 2147483647) : (1 : Int) = 1 → p2 ≤ p1 ∧ p1 ≤ p3 := by omega
theorem vc_X12_in_10 {p1 p2 p3 : Int} (h0 : p2 ≤ p1) (h1 : p1 ≤ p3) (h2 : (-2147483648) ≤ p1 ∧ p1 ≤ 2147483647) (h3 : (-2147483648) ≤ p2 ∧ p2 ≤ 2147483647) (h4 : (-2147483648) ≤ p3 ∧ p3 ≤ 2147483647) : (1 : Int) = 0 → p1 < p2 ∨ p3 < p1 := by omega
set_option maxRecDepth 4000 in
set_option maxHeartbeats 4000000 in
theorem c_X12_in {l : Launch} {D : va_G} {c : Nat → ClassId} {H0 : Heap} {sa : Nat × Nat × (Nat → Int32)} {w : mW} {μ : mM} (hw : mWF w) (hT : mT w μ) {p1 : Int} (hp1 : (-2147483648) ≤ p1 ∧ p1 ≤ 2147483647) {p2 : Int} (hp2 : (-2147483648) ≤ p2 ∧ p2 ≤ 2147483647) {p3 : Int} (hp3 : (-2147483648) ≤ p3 ∧ p3 ≤ 2147483647) : sC (gG l D c H0 sa) mX12_in 1 0 0 [iv p1, iv p2, iv p3] (mk w μ) (qP w μ (fun z => (0 ≤ z ∧ z ≤ 1) ∧ (z = 1 → p2 ≤ p1 ∧ p1 ≤ p3) ∧ (z = 0 → p1 < p2 ∨ p3 < p1) ∧ True)) := by
  refine sC.of rfl (by decide) (le_t rfl) ?_
  refine mr_lvE (lv' := [(0, iv p1), (1, iv p2), (2, iv p3)]) rfl ?_
  refine mr_iload_n (pc := 0) (z := p1) dX12_in_0 rfl rfl ?_
  refine mr_iload_n (pc := 1) (z := p2) dX12_in_1 rfl rfl ?_
  refine mr_icmp_lt (pc := 2) (tgt := 14) dX12_in_2 (by decide) hp1 hp2 (fun h5 => ?_) (fun h5 => ?_)
  · have h6 : (-2147483648) ≤ p1 ∧ p1 ≤ 2147483646 := (vc_X12_in_1 h5 hp1 hp2)
    have h7 : (-2147483647) ≤ p2 ∧ p2 ≤ 2147483647 := (vc_X12_in_2 h5 h6 hp2)
    refine mr_iconst (pc := 14) (z := 0) dX12_in_14 ?_
    exact mr_zretP dX12_in_15 rfl (rW (c := 0) (d := 1) (rR (x := 0)) rfl) (le_t rfl) (le_t rfl) ⟨(rW (c := 0) (d := 1) (rR (x := 0)) rfl), (vc_X12_in_3 h5 h6 h7 hp3), (vc_X12_in_4 h5 h6 h7 hp3), trivial⟩
  refine mr_iload_n (pc := 5) (z := p1) dX12_in_5 rfl rfl ?_
  refine mr_iload_n (pc := 6) (z := p3) dX12_in_6 rfl rfl ?_
  refine mr_icmp_gt (pc := 7) (tgt := 14) dX12_in_7 (by decide) hp1 hp3 (fun h10 => ?_) (fun h10 => ?_)
  · have h11 : (-2147483647) ≤ p1 ∧ p1 ≤ 2147483647 := (vc_X12_in_5 h10 h5 hp1 hp2 hp3)
    have h12 : (-2147483648) ≤ p3 ∧ p3 ≤ 2147483646 := (vc_X12_in_6 h10 h5 h11 hp2 hp3)
    refine mr_iconst (pc := 14) (z := 0) dX12_in_14 ?_
    exact mr_zretP dX12_in_15 rfl (rW (c := 0) (d := 1) (rR (x := 0)) rfl) (le_t rfl) (le_t rfl) ⟨(rW (c := 0) (d := 1) (rR (x := 0)) rfl), (vc_X12_in_7 h5 h10 h11 hp2 h12), (vc_X12_in_8 h5 h10 h11 hp2 h12), trivial⟩
  refine mr_iconst (pc := 10) (z := 1) dX12_in_10 ?_
  refine sv_goto (pc := 11) (tgt := 15) dX12_in_11 (by decide) ?_
  exact mr_zretP dX12_in_15 rfl (rW (c := 0) (d := 1) (rR (x := 1)) rfl) (le_t rfl) (le_t rfl) ⟨(rW (c := 0) (d := 1) (rR (x := 1)) rfl), (vc_X12_in_9 h5 h10 hp1 hp2 hp3), (vc_X12_in_10 h5 h10 hp1 hp2 hp3), trivial⟩
theorem vc_X12_mask_1 {p1 : Int} (h0 : p1 = 0) (h1 : (-2147483648) ≤ p1 ∧ p1 ≤ 2147483647) : 0 ≤ p1 ∧ p1 ≤ 0 := by omega
set_option maxRecDepth 4000 in
set_option maxHeartbeats 4000000 in
theorem c_X12_mask {l : Launch} {D : va_G} {c : Nat → ClassId} {H0 : Heap} {sa : Nat × Nat × (Nat → Int32)} {w : mW} {μ : mM} (hw : mWF w) (hT : mT w μ) {p1 : Int} (hp1 : (-2147483648) ≤ p1 ∧ p1 ≤ 2147483647) : sC (gG l D c H0 sa) mX12_mask 1 0 0 [iv p1] (mk w μ) (qP w μ (fun z => ((-2147483648) ≤ z ∧ z ≤ 2147483647) ∧ True)) := by
  refine sC.of rfl (by decide) (le_t rfl) ?_
  refine mr_lvE (lv' := [(0, iv p1)]) rfl ?_
  refine mr_iload_n (pc := 0) (z := p1) dX12_mask_0 rfl rfl ?_
  refine mr_if_ne (pc := 1) (tgt := 8) dX12_mask_1 (by decide) hp1 (fun h7 => ?_) (fun h7 => ?_)
  · refine mr_iconst (pc := 8) (z := (-1)) dX12_mask_8 ?_
    refine mr_bipush (pc := 9) (z := 32) dX12_mask_9 (by decide) ?_
    refine mr_iload_n (pc := 11) (z := p1) dX12_mask_11 rfl rfl ?_
    refine mr_isub (pc := 12) (x := 32) (y := p1) dX12_mask_12 ?_
    refine mr_wrap fun z8 h9 => ?_
    refine mr_ishl (pc := 13) (x := (-1)) (y := z8) dX12_mask_13 ?_
    refine mr_gen (P := fun z => (-2147483648) ≤ z ∧ z ≤ 2147483647) (r32i _) fun z10 q11 h12 => ?_
    exact mr_iretP dX12_mask_14 rfl (le_t rfl) (le_t rfl) ⟨h12, trivial⟩
  have h13 : 0 ≤ p1 ∧ p1 ≤ 0 := (vc_X12_mask_1 h7 hp1)
  refine mr_iconst (pc := 4) (z := 0) dX12_mask_4 ?_
  refine sv_goto (pc := 5) (tgt := 14) dX12_mask_5 (by decide) ?_
  exact mr_iretP dX12_mask_14 rfl (le_t rfl) (le_t rfl) ⟨(rW (c := (-2147483648)) (d := 2147483647) (rR (x := 0)) rfl), trivial⟩
theorem vc_X12_holds_1 {z9 : Int} (h0 : z9 = 0) (h1 : (-2147483648) ≤ z9 ∧ z9 ≤ 2147483647) : 0 ≤ z9 ∧ z9 ≤ 0 := by omega
set_option maxRecDepth 4000 in
set_option maxHeartbeats 4000000 in
theorem c_X12_holds {l : Launch} {D : va_G} {c : Nat → ClassId} {H0 : Heap} {sa : Nat × Nat × (Nat → Int32)} {w : mW} {μ : mM} (hw : mWF w) (hT : mT w μ) {p1 : Int} (hp1 : (-2147483648) ≤ p1 ∧ p1 ≤ 2147483647) {p2 : Int} (hp2 : (-2147483648) ≤ p2 ∧ p2 ≤ 2147483647) {p3 : Int} (hp3 : (-2147483648) ≤ p3 ∧ p3 ≤ 2147483647) : sC (gG l D c H0 sa) mX12_holds 2 0 0 [iv p1, iv p2, iv p3] (mk w μ) (qP w μ (fun z => (0 ≤ z ∧ z ≤ 1) ∧ True)) := by
  refine sC.of rfl (by decide) (le_t rfl) ?_
  refine mr_lvE (lv' := [(0, iv p1), (1, iv p2), (2, iv p3)]) rfl ?_
  refine mr_iload_n (pc := 0) (z := p1) dX12_holds_0 rfl rfl ?_
  refine mr_iload_n (pc := 1) (z := p3) dX12_holds_1 rfl rfl ?_
  refine mr_ixor (pc := 2) (x := p1) (y := p3) dX12_holds_2 ?_
  refine mr_gen (P := fun z => (-2147483648) ≤ z ∧ z ≤ 2147483647) (r32i _) fun z1 q2 h3 => ?_
  refine mr_iload_n (pc := 3) (z := p2) dX12_holds_3 rfl rfl ?_
  refine mr_cSP (pc := 4) (c_X12_mask hw hT hp2) (gOk _ _ _ _ _) dX12_holds_4 (tX12_mask _ _ _ _ _) wS_X12_mask wM_X12_11 ⟨le_t rfl, le_t rfl⟩ ⟨le_t rfl, le_t rfl⟩ rfl (le_t rfl) fun z8 h7 => ?_
  refine mr_iand (pc := 7) (x := z1) (y := z8) dX12_holds_7 ?_
  refine mr_gen (P := fun z => (-2147483648) ≤ z ∧ z ≤ 2147483647) (r32i _) fun z9 q10 h11 => ?_
  refine mr_if_ne (pc := 8) (tgt := 15) dX12_holds_8 (by decide) h11 (fun h13 => ?_) (fun h13 => ?_)
  · refine mr_iconst (pc := 15) (z := 0) dX12_holds_15 ?_
    exact mr_zretP dX12_holds_16 rfl (rW (c := 0) (d := 1) (rR (x := 0)) rfl) (le_t rfl) (le_t rfl) ⟨(rW (c := 0) (d := 1) (rR (x := 0)) rfl), trivial⟩
  have h14 : 0 ≤ z9 ∧ z9 ≤ 0 := (vc_X12_holds_1 h13 h11)
  refine mr_iconst (pc := 11) (z := 1) dX12_holds_11 ?_
  refine sv_goto (pc := 12) (tgt := 16) dX12_holds_12 (by decide) ?_
  exact mr_zretP dX12_holds_16 rfl (rW (c := 0) (d := 1) (rR (x := 1)) rfl) (le_t rfl) (le_t rfl) ⟨(rW (c := 0) (d := 1) (rR (x := 1)) rfl), trivial⟩
theorem vc_X12_isPrefix_1 {f_prefixes p1 z20 : Int} (h0 : (z20 = 1 → (0 : Int) ≤ p1 ∧ p1 ≤ (f_prefixes - 1))) (h1 : (z20 = 0 → p1 < (0 : Int) ∨ (f_prefixes - 1) < p1)) (h2 : 0 ≤ f_prefixes ∧ f_prefixes ≤ 10) (h3 : (-2147483648) ≤ p1 ∧ p1 ≤ 2147483647) (h4 : 0 ≤ z20 ∧ z20 ≤ 1) : z20 = 1 → 0 ≤ p1 ∧ p1 < f_prefixes := by omega
theorem vc_X12_isPrefix_2 {f_prefixes p1 z20 : Int} (h0 : (z20 = 1 → (0 : Int) ≤ p1 ∧ p1 ≤ (f_prefixes - 1))) (h1 : (z20 = 0 → p1 < (0 : Int) ∨ (f_prefixes - 1) < p1)) (h2 : 0 ≤ f_prefixes ∧ f_prefixes ≤ 10) (h3 : (-2147483648) ≤ p1 ∧ p1 ≤ 2147483647) (h4 : 0 ≤ z20 ∧ z20 ≤ 1) : z20 = 0 → p1 < 0 ∨ f_prefixes ≤ p1 := by omega
set_option maxRecDepth 4000 in
set_option maxHeartbeats 4000000 in
theorem c_X12_isPrefix {l : Launch} {D : va_G} {c : Nat → ClassId} {H0 : Heap} {sa : Nat × Nat × (Nat → Int32)} {w : mW} {μ : mM} (hw : mWF w) (hT : mT w μ) {p1 : Int} (hp1 : (-2147483648) ≤ p1 ∧ p1 ≤ 2147483647) {f_prefixes : Int} (q_f_prefixes : μ 106 2 = f_prefixes) : sC (gG l D c H0 sa) mX12_isPrefix 2 0 0 [.ref 106, iv p1] (mk w μ) (qP w μ (fun z => (0 ≤ z ∧ z ≤ 1) ∧ (z = 1 → 0 ≤ p1 ∧ p1 < f_prefixes) ∧ (z = 0 → p1 < 0 ∨ f_prefixes ≤ p1) ∧ True)) := by
  refine sC.of rfl (by decide) (le_t rfl) ?_
  have ht_f_prefixes : (0 ≤ f_prefixes ∧ f_prefixes ≤ 10) := by rw [← q_f_prefixes]; exact hT 106 106 (A_106 hw) 2
  refine mr_lvE (lv' := [(0, .ref 106), (1, iv p1)]) rfl ?_
  refine mr_iload_n (pc := 0) (z := p1) dX12_isPrefix_0 rfl rfl ?_
  refine mr_iconst (pc := 1) (z := 0) dX12_isPrefix_1 ?_
  refine sv_aload_n (pc := 2) dX12_isPrefix_2 rfl rfl ?_
  refine gk_X12_2 (pc := 3) dX12_isPrefix_3 wF_X12_15 (A_106 hw) q_f_prefixes ?_
  refine mr_iconst (pc := 6) (z := 1) dX12_isPrefix_6 ?_
  refine mr_isub (pc := 7) (x := f_prefixes) (y := 1) dX12_isPrefix_7 ?_
  refine mr_cSP (pc := 8) (c_X12_in hw hT hp1 (rW (c := (-2147483648)) (d := 2147483647) (rR (x := 0)) rfl) (rW (c := (-2147483648)) (d := 2147483647) (rSub (e := (-1)) (f := 9) ht_f_prefixes (rR (x := 1)) rfl) rfl)) (gOk _ _ _ _ _) dX12_isPrefix_8 (tX12_in _ _ _ _ _) wS_X12_in wM_X12_18 ⟨le_t rfl, le_t rfl⟩ ⟨le_t rfl, le_t rfl⟩ rfl (le_t rfl) fun z20 h19 => ?_
  exact mr_zretP dX12_isPrefix_11 rfl h19.1 (le_t rfl) (le_t rfl) ⟨h19.1, (vc_X12_isPrefix_1 h19.2.1 h19.2.2.1 ht_f_prefixes hp1 h19.1), (vc_X12_isPrefix_2 h19.2.1 h19.2.2.1 ht_f_prefixes hp1 h19.1), trivial⟩
theorem vc_X12_isDomain_1 {f_domains p1 z20 : Int} (h0 : (z20 = 1 → (0 : Int) ≤ p1 ∧ p1 ≤ (f_domains - 1))) (h1 : (z20 = 0 → p1 < (0 : Int) ∨ (f_domains - 1) < p1)) (h2 : 0 ≤ f_domains ∧ f_domains ≤ 10) (h3 : (-2147483648) ≤ p1 ∧ p1 ≤ 2147483647) (h4 : 0 ≤ z20 ∧ z20 ≤ 1) : z20 = 1 → 0 ≤ p1 ∧ p1 < f_domains := by omega
theorem vc_X12_isDomain_2 {f_domains p1 z20 : Int} (h0 : (z20 = 1 → (0 : Int) ≤ p1 ∧ p1 ≤ (f_domains - 1))) (h1 : (z20 = 0 → p1 < (0 : Int) ∨ (f_domains - 1) < p1)) (h2 : 0 ≤ f_domains ∧ f_domains ≤ 10) (h3 : (-2147483648) ≤ p1 ∧ p1 ≤ 2147483647) (h4 : 0 ≤ z20 ∧ z20 ≤ 1) : z20 = 0 → p1 < 0 ∨ f_domains ≤ p1 := by omega
set_option maxRecDepth 4000 in
set_option maxHeartbeats 4000000 in
theorem c_X12_isDomain {l : Launch} {D : va_G} {c : Nat → ClassId} {H0 : Heap} {sa : Nat × Nat × (Nat → Int32)} {w : mW} {μ : mM} (hw : mWF w) (hT : mT w μ) {p1 : Int} (hp1 : (-2147483648) ≤ p1 ∧ p1 ≤ 2147483647) {f_domains : Int} (q_f_domains : μ 106 5 = f_domains) : sC (gG l D c H0 sa) mX12_isDomain 2 0 0 [.ref 106, iv p1] (mk w μ) (qP w μ (fun z => (0 ≤ z ∧ z ≤ 1) ∧ (z = 1 → 0 ≤ p1 ∧ p1 < f_domains) ∧ (z = 0 → p1 < 0 ∨ f_domains ≤ p1) ∧ True)) := by
  refine sC.of rfl (by decide) (le_t rfl) ?_
  have ht_f_domains : (0 ≤ f_domains ∧ f_domains ≤ 10) := by rw [← q_f_domains]; exact hT 106 106 (A_106 hw) 5
  refine mr_lvE (lv' := [(0, .ref 106), (1, iv p1)]) rfl ?_
  refine mr_iload_n (pc := 0) (z := p1) dX12_isDomain_0 rfl rfl ?_
  refine mr_iconst (pc := 1) (z := 0) dX12_isDomain_1 ?_
  refine sv_aload_n (pc := 2) dX12_isDomain_2 rfl rfl ?_
  refine gk_X12_5 (pc := 3) dX12_isDomain_3 wF_X12_34 (A_106 hw) q_f_domains ?_
  refine mr_iconst (pc := 6) (z := 1) dX12_isDomain_6 ?_
  refine mr_isub (pc := 7) (x := f_domains) (y := 1) dX12_isDomain_7 ?_
  refine mr_cSP (pc := 8) (c_X12_in hw hT hp1 (rW (c := (-2147483648)) (d := 2147483647) (rR (x := 0)) rfl) (rW (c := (-2147483648)) (d := 2147483647) (rSub (e := (-1)) (f := 9) ht_f_domains (rR (x := 1)) rfl) rfl)) (gOk _ _ _ _ _) dX12_isDomain_8 (tX12_in _ _ _ _ _) wS_X12_in wM_X12_18 ⟨le_t rfl, le_t rfl⟩ ⟨le_t rfl, le_t rfl⟩ rfl (le_t rfl) fun z20 h19 => ?_
  exact mr_zretP dX12_isDomain_11 rfl h19.1 (le_t rfl) (le_t rfl) ⟨h19.1, (vc_X12_isDomain_1 h19.2.1 h19.2.2.1 ht_f_domains hp1 h19.1), (vc_X12_isDomain_2 h19.2.1 h19.2.2.1 ht_f_domains hp1 h19.1), trivial⟩
theorem vc_X12_isTie_1 {f_ties p1 z20 : Int} (h0 : (z20 = 1 → (0 : Int) ≤ p1 ∧ p1 ≤ (f_ties - 1))) (h1 : (z20 = 0 → p1 < (0 : Int) ∨ (f_ties - 1) < p1)) (h2 : 0 ≤ f_ties ∧ f_ties ≤ 20) (h3 : (-2147483648) ≤ p1 ∧ p1 ≤ 2147483647) (h4 : 0 ≤ z20 ∧ z20 ≤ 1) : z20 = 1 → 0 ≤ p1 ∧ p1 < f_ties := by omega
theorem vc_X12_isTie_2 {f_ties p1 z20 : Int} (h0 : (z20 = 1 → (0 : Int) ≤ p1 ∧ p1 ≤ (f_ties - 1))) (h1 : (z20 = 0 → p1 < (0 : Int) ∨ (f_ties - 1) < p1)) (h2 : 0 ≤ f_ties ∧ f_ties ≤ 20) (h3 : (-2147483648) ≤ p1 ∧ p1 ≤ 2147483647) (h4 : 0 ≤ z20 ∧ z20 ≤ 1) : z20 = 0 → p1 < 0 ∨ f_ties ≤ p1 := by omega
set_option maxRecDepth 4000 in
set_option maxHeartbeats 4000000 in
theorem c_X12_isTie {l : Launch} {D : va_G} {c : Nat → ClassId} {H0 : Heap} {sa : Nat × Nat × (Nat → Int32)} {w : mW} {μ : mM} (hw : mWF w) (hT : mT w μ) {p1 : Int} (hp1 : (-2147483648) ≤ p1 ∧ p1 ≤ 2147483647) {f_ties : Int} (q_f_ties : μ 106 6 = f_ties) : sC (gG l D c H0 sa) mX12_isTie 2 0 0 [.ref 106, iv p1] (mk w μ) (qP w μ (fun z => (0 ≤ z ∧ z ≤ 1) ∧ (z = 1 → 0 ≤ p1 ∧ p1 < f_ties) ∧ (z = 0 → p1 < 0 ∨ f_ties ≤ p1) ∧ True)) := by
  refine sC.of rfl (by decide) (le_t rfl) ?_
  have ht_f_ties : (0 ≤ f_ties ∧ f_ties ≤ 20) := by rw [← q_f_ties]; exact hT 106 106 (A_106 hw) 6
  refine mr_lvE (lv' := [(0, .ref 106), (1, iv p1)]) rfl ?_
  refine mr_iload_n (pc := 0) (z := p1) dX12_isTie_0 rfl rfl ?_
  refine mr_iconst (pc := 1) (z := 0) dX12_isTie_1 ?_
  refine sv_aload_n (pc := 2) dX12_isTie_2 rfl rfl ?_
  refine gk_X12_6 (pc := 3) dX12_isTie_3 wF_X12_37 (A_106 hw) q_f_ties ?_
  refine mr_iconst (pc := 6) (z := 1) dX12_isTie_6 ?_
  refine mr_isub (pc := 7) (x := f_ties) (y := 1) dX12_isTie_7 ?_
  refine mr_cSP (pc := 8) (c_X12_in hw hT hp1 (rW (c := (-2147483648)) (d := 2147483647) (rR (x := 0)) rfl) (rW (c := (-2147483648)) (d := 2147483647) (rSub (e := (-1)) (f := 19) ht_f_ties (rR (x := 1)) rfl) rfl)) (gOk _ _ _ _ _) dX12_isTie_8 (tX12_in _ _ _ _ _) wS_X12_in wM_X12_18 ⟨le_t rfl, le_t rfl⟩ ⟨le_t rfl, le_t rfl⟩ rfl (le_t rfl) fun z20 h19 => ?_
  exact mr_zretP dX12_isTie_11 rfl h19.1 (le_t rfl) (le_t rfl) ⟨h19.1, (vc_X12_isTie_1 h19.2.1 h19.2.2.1 ht_f_ties hp1 h19.1), (vc_X12_isTie_2 h19.2.1 h19.2.2.1 ht_f_ties hp1 h19.1), trivial⟩
theorem vc_X12_feed_1 {z1 : Int} (h0 : (z1 + 20) ≤ 1000) (h1 : 0 ≤ z1 ∧ z1 ≤ 1000) : 0 ≤ z1 ∧ z1 ≤ 980 := by omega
theorem vc_X12_feed_2 {z378 : Int} (h0 : (21 - z378) < ((0 : Nat) : Int)) (h1 : 0 ≤ z378 ∧ z378 ≤ 20) : False := by omega
theorem vc_X12_feed_3 {z378 : Int} (h0 : 20 ≤ z378) (h1 : 0 ≤ z378 ∧ z378 ≤ 20) : 20 ≤ z378 ∧ z378 ≤ 20 := by omega
theorem vc_X12_feed_4 {z378 : Int} (h0 : z378 < 20) (h1 : 0 ≤ z378 ∧ z378 ≤ 20) : 0 ≤ z378 ∧ z378 ≤ 19 := by omega
theorem vc_X12_feed_5  : (0 : Int) < (4 : Int) ∧ (4 : Int) ≤ (2147483647 : Int) := by omega
theorem vc_X12_feed_6 {N z378 z428 : Int} (h0 : (21 - z378) < N + 1) (h1 : z378 < 20) (h2 : z378 % 4 = z428) (h3 : 0 ≤ z378 ∧ z378 ≤ 19) (h4 : 0 ≤ z428 ∧ z428 ≤ 3) : (21 - (z378 + 1)) < N := by omega
theorem vc_X12_feed_7 {z378 : Int} (h0 : 4 ≤ z378) (h1 : z378 < 20) (h2 : 0 ≤ z378 ∧ z378 ≤ 19) : 4 ≤ z378 ∧ z378 ≤ 19 := by omega
theorem vc_X12_feed_8 {z378 : Int} (h0 : 8 ≤ z378) (h1 : z378 < 20) (h2 : 4 ≤ z378) (h3 : 4 ≤ z378 ∧ z378 ≤ 19) : 8 ≤ z378 ∧ z378 ≤ 19 := by omega
theorem vc_X12_feed_9 {z378 : Int} (h0 : 12 ≤ z378) (h1 : z378 < 20) (h2 : 4 ≤ z378) (h3 : 8 ≤ z378) (h4 : 8 ≤ z378 ∧ z378 ≤ 19) : 12 ≤ z378 ∧ z378 ≤ 19 := by omega
theorem vc_X12_feed_10 {z378 : Int} (h0 : 16 ≤ z378) (h1 : z378 < 20) (h2 : 4 ≤ z378) (h3 : 8 ≤ z378) (h4 : 12 ≤ z378) (h5 : 12 ≤ z378 ∧ z378 ≤ 19) : 16 ≤ z378 ∧ z378 ≤ 19 := by omega
theorem vc_X12_feed_11 {z378 : Int} (h0 : z378 < 16) (h1 : z378 < 20) (h2 : 4 ≤ z378) (h3 : 8 ≤ z378) (h4 : 12 ≤ z378) (h5 : 12 ≤ z378 ∧ z378 ≤ 19) : 12 ≤ z378 ∧ z378 ≤ 15 := by omega
theorem vc_X12_feed_12 {z378 : Int} (h0 : z378 < 12) (h1 : z378 < 20) (h2 : 4 ≤ z378) (h3 : 8 ≤ z378) (h4 : 8 ≤ z378 ∧ z378 ≤ 19) : 8 ≤ z378 ∧ z378 ≤ 11 := by omega
theorem vc_X12_feed_13 {z378 : Int} (h0 : z378 < 8) (h1 : z378 < 20) (h2 : 4 ≤ z378) (h3 : 4 ≤ z378 ∧ z378 ≤ 19) : 4 ≤ z378 ∧ z378 ≤ 7 := by omega
theorem vc_X12_feed_14 {z378 : Int} (h0 : z378 < 4) (h1 : z378 < 20) (h2 : 0 ≤ z378 ∧ z378 ≤ 19) : 0 ≤ z378 ∧ z378 ≤ 3 := by omega
theorem vc_X12_feed_15  : (21 - 0) < ((22 : Nat) : Int) := by omega
theorem vc_X12_feed_16 {z1 : Int} (h0 : 1000 < (z1 + 20)) (h1 : 0 ≤ z1 ∧ z1 ≤ 1000) : 981 ≤ z1 ∧ z1 ≤ 1000 := by omega
set_option maxRecDepth 4000 in
set_option maxHeartbeats 4000000 in
theorem c_X12_feed {l : Launch} {D : va_G} {c : Nat → ClassId} {H0 : Heap} {sa : Nat × Nat × (Nat → Int32)} {w : mW} {μ : mM} (hw : mWF w) (hT : mT w μ) {p1 : Int} (hp1 : (-2147483648) ≤ p1 ∧ p1 ≤ 2147483647) {p2 : Int} (hp2 : (-2147483648) ≤ p2 ∧ p2 ≤ 2147483647) {p3 : Int} (hp3 : (-2147483648) ≤ p3 ∧ p3 ≤ 2147483647) {p4 : Int} (hp4 : (-2147483648) ≤ p4 ∧ p4 ≤ 2147483647) {p5 : Int} (hp5 : (-2147483648) ≤ p5 ∧ p5 ≤ 2147483647) : sC (gG l D c H0 sa) mX12_feed 1 0 0 [.ref 106, iv p1, iv p2, iv p3, iv p4, iv p5] (mk w μ) (qI w [106001, 107999] μ (fun z μ1 => ((-2147483648) ≤ z ∧ z ≤ 2147483647) ∧ True)) := by
  refine sC.of rfl (by decide) (le_t rfl) ?_
  refine mr_lvE (lv' := [(0, .ref 106), (1, iv p1), (2, iv p2), (3, iv p3), (4, iv p4), (5, iv p5)]) rfl ?_
  refine sv_aload_n (pc := 0) dX12_feed_0 rfl rfl ?_
  refine gf_X12_1 (pc := 1) dX12_feed_1 wF_X12_1 (A_106 hw) hT fun z1 q2 h3 => ?_
  refine mr_bipush (pc := 4) (z := 20) dX12_feed_4 (by decide) ?_
  refine mr_iadd (pc := 6) (x := z1) (y := 20) dX12_feed_6 ?_
  refine mr_sipush (pc := 7) (z := 1000) dX12_feed_7 (by decide) ?_
  refine mr_icmp_le (pc := 10) (tgt := 16) dX12_feed_10 (by decide) (r32 (rAdd (e := 20) (f := 1020) h3 (rR (x := 20)) rfl) rfl) (r32 (rR (x := 1000)) rfl) (fun h4 => ?_) (fun h4 => ?_)
  · have h5 : 0 ≤ z1 ∧ z1 ≤ 980 := (vc_X12_feed_1 h4 h3)
    refine mr_iconst (pc := 16) (z := 0) dX12_feed_16 ?_
    refine mr_istore (pc := 17) (lv' := [(6, iv 0), (0, .ref 106), (1, iv p1), (2, iv p2), (3, iv p3), (4, iv p4), (5, iv p5)]) dX12_feed_17 (by decide) rfl ?_
    have L380 : ∀ (nL380 : Nat) (z378 : Int) (μ379 : mM), mT w μ379 → mF [107999] w μ μ379 → (0 ≤ z378 ∧ z378 ≤ 20) → (21 - z378) < (nL380 : Int) → sV (gG l D c H0 sa) mX12_feed (sRm 1 0 0) (sZ (gG l D c H0 sa) 0 0 (qI w [106001, 107999] μ (fun z μ1 => ((-2147483648) ≤ z ∧ z ≤ 2147483647) ∧ True))) 19 [(0, .ref 106), (1, iv p1), (2, iv p2), (3, iv p3), (4, iv p4), (5, iv p5), (6, iv z378)] [] (mk w μ379) 0 0 := by
      intro nL380
      induction nL380 with
      | zero => intro z378 μ379 T382 F383 h381 h385; exact ((vc_X12_feed_2 h385 h381)).elim
      | succ nL380 ih386 =>
        intro z378 μ379 T382 F383 h381 h385
        refine mr_iload (pc := 19) (z := z378) dX12_feed_19 rfl ?_
        refine mr_bipush (pc := 21) (z := 20) dX12_feed_21 (by decide) ?_
        refine mr_icmp_ge (pc := 23) (tgt := 106) dX12_feed_23 (by decide) (r32 h381 rfl) (r32 (rR (x := 20)) rfl) (fun h411 => ?_) (fun h411 => ?_)
        · have h412 : 20 ≤ z378 ∧ z378 ≤ 20 := (vc_X12_feed_3 h411 h381)
          refine sv_aload_n (pc := 106) dX12_feed_106 rfl rfl ?_
          refine sv_dup (pc := 107) dX12_feed_107 rfl ?_
          refine gk_X12_1 (pc := 108) dX12_feed_108 wF_X12_1 (A_106 hw) (F383.f (A_106 hw) rfl q2) ?_
          refine mr_bipush (pc := 111) (z := 20) dX12_feed_111 (by decide) ?_
          refine mr_iadd (pc := 113) (x := z1) (y := 20) dX12_feed_113 ?_
          refine pf_X12_1 (pc := 114) dX12_feed_114 wF_X12_1 (A_106 hw) T382 (rW (c := 0) (d := 1000) (rAdd (e := 20) (f := 1000) h5 (rR (x := 20)) rfl) rfl) fun μ413 u414 T415 => ?_
          refine sv_aload_n (pc := 117) dX12_feed_117 rfl rfl ?_
          refine gk_X12_1 (pc := 118) dX12_feed_118 wF_X12_1 (A_106 hw) u414.1 ?_
          exact mr_iret dX12_feed_121 rfl (le_t rfl) (le_t rfl) T415 (mF.up (mF.call mF.refl F383 rfl) (A_106 hw) u414 rfl) ⟨(rW (c := (-2147483648)) (d := 2147483647) (rAdd (e := 20) (f := 1000) h5 (rR (x := 20)) rfl) rfl), trivial⟩
        have h416 : 0 ≤ z378 ∧ z378 ≤ 19 := (vc_X12_feed_4 h411 h381)
        refine mr_iload (pc := 26) (z := z378) dX12_feed_26 rfl ?_
        refine mr_iconst (pc := 28) (z := 4) dX12_feed_28 ?_
        have J427 : ∀ (z425 : Int), (((-2147483648) ≤ z425 ∧ z425 ≤ 2147483647)) → sV (gG l D c H0 sa) mX12_feed (sRm 1 0 0) (sZ (gG l D c H0 sa) 0 0 (qI w [106001, 107999] μ (fun z μ1 => ((-2147483648) ≤ z ∧ z ≤ 2147483647) ∧ True))) 72 [(0, .ref 106), (1, iv p1), (2, iv p2), (3, iv p3), (4, iv p4), (5, iv p5), (6, iv z378)] [iv z425] (mk w μ379) 0 0 := by
          intro z425 h426
          refine mr_istore (pc := 72) (lv' := [(7, iv z425), (0, .ref 106), (1, iv p1), (2, iv p2), (3, iv p3), (4, iv p4), (5, iv p5), (6, iv z378)]) dX12_feed_72 (by decide) rfl ?_
          refine sv_aload_n (pc := 74) dX12_feed_74 rfl rfl ?_
          refine gf_X12_0 (pc := 75) dX12_feed_75 wF_X12_7 (A_106 hw) T382 ?_
          refine sv_aload_n (pc := 78) dX12_feed_78 rfl rfl ?_
          refine gk_X12_1 (pc := 79) dX12_feed_79 wF_X12_1 (A_106 hw) (F383.f (A_106 hw) rfl q2) ?_
          refine mr_iload (pc := 82) (z := z378) dX12_feed_82 rfl ?_
          refine mr_iadd (pc := 84) (x := z1) (y := z378) dX12_feed_84 ?_
          refine mr_iload (pc := 85) (z := z425) dX12_feed_85 rfl ?_
          refine mr_bipush (pc := 87) (z := 24) dX12_feed_87 (by decide) ?_
          refine mr_bipush (pc := 89) (z := 8) dX12_feed_89 (by decide) ?_
          refine mr_iload (pc := 91) (z := z378) dX12_feed_91 rfl ?_
          refine mr_iconst (pc := 93) (z := 4) dX12_feed_93 ?_
          refine mr_irem (pc := 94) (x := z378) (y := 4) dX12_feed_94 (rW (c := 0) (d := 2147483647) h416 rfl) vc_X12_feed_5 ?_
          refine mr_gen (P := fun z => 0 ≤ z ∧ z ≤ 3) (rMod h416 rfl) fun z428 q429 h430 => ?_
          refine mr_imul (pc := 95) (x := 8) (y := z428) dX12_feed_95 ?_
          refine mr_isub (pc := 96) (x := 24) (y := (8 * z428)) dX12_feed_96 ?_
          refine mr_ishr (pc := 97) (x := z425) (y := (24 - (8 * z428))) dX12_feed_97 ?_
          refine mr_gen (P := fun z => (-2147483648) ≤ z ∧ z ≤ 2147483647) (r32i _) fun z431 q432 h433 => ?_
          refine mr_i2b (pc := 98) dX12_feed_98 ?_
          refine mr_gen (P := fun z => (-128) ≤ z ∧ z ≤ 127) (rByte _) fun z434 q435 h436 => ?_
          refine ss_107 (pc := 99) dX12_feed_99 (A_107 hw) T382 (rIx (n := 1000) (rAdd (e := 0) (f := 999) h5 h416 rfl) rfl) h436 fun μ437 u438 T439 => ?_
          refine mr_iinc (pc := 100) (lv' := [(6, iv (z378 + 1)), (7, iv z425), (0, .ref 106), (1, iv p1), (2, iv p2), (3, iv p3), (4, iv p4), (5, iv p5)]) dX12_feed_100 rfl (by decide) rfl ?_
          refine sv_goto (pc := 103) (tgt := 19) dX12_feed_103 (by decide) ?_
          refine mr_lvS (lv' := [(0, .ref 106), (1, iv p1), (2, iv p2), (3, iv p3), (4, iv p4), (5, iv p5), (6, iv (z378 + 1))]) (List.forall_mem_cons.mpr ⟨rfl, List.forall_mem_cons.mpr ⟨rfl, List.forall_mem_cons.mpr ⟨rfl, List.forall_mem_cons.mpr ⟨rfl, List.forall_mem_cons.mpr ⟨rfl, List.forall_mem_cons.mpr ⟨rfl, List.forall_mem_cons.mpr ⟨rfl, fun _ h => absurd h List.not_mem_nil⟩⟩⟩⟩⟩⟩⟩) ?_
          exact ih386 (z378 + 1) μ437 T439 (mF.up (mF.call mF.refl F383 rfl) (A_107 hw) u438 rfl) (rW (c := 0) (d := 20) (rAdd (e := 1) (f := 20) h416 (rR (x := 1)) rfl) rfl) (vc_X12_feed_6 (nS h385) h411 q429 h416 h430)
        refine mr_icmp_ge (pc := 29) (tgt := 36) dX12_feed_29 (by decide) (r32 h416 rfl) (r32 (rR (x := 4)) rfl) (fun h440 => ?_) (fun h440 => ?_)
        · have h441 : 4 ≤ z378 ∧ z378 ≤ 19 := (vc_X12_feed_7 h440 h411 h416)
          refine mr_iload (pc := 36) (z := z378) dX12_feed_36 rfl ?_
          refine mr_bipush (pc := 38) (z := 8) dX12_feed_38 (by decide) ?_
          refine mr_icmp_ge (pc := 40) (tgt := 47) dX12_feed_40 (by decide) (r32 h441 rfl) (r32 (rR (x := 8)) rfl) (fun h442 => ?_) (fun h442 => ?_)
          · have h443 : 8 ≤ z378 ∧ z378 ≤ 19 := (vc_X12_feed_8 h442 h411 h440 h441)
            refine mr_iload (pc := 47) (z := z378) dX12_feed_47 rfl ?_
            refine mr_bipush (pc := 49) (z := 12) dX12_feed_49 (by decide) ?_
            refine mr_icmp_ge (pc := 51) (tgt := 58) dX12_feed_51 (by decide) (r32 h443 rfl) (r32 (rR (x := 12)) rfl) (fun h444 => ?_) (fun h444 => ?_)
            · have h445 : 12 ≤ z378 ∧ z378 ≤ 19 := (vc_X12_feed_9 h444 h411 h440 h442 h443)
              refine mr_iload (pc := 58) (z := z378) dX12_feed_58 rfl ?_
              refine mr_bipush (pc := 60) (z := 16) dX12_feed_60 (by decide) ?_
              refine mr_icmp_ge (pc := 62) (tgt := 70) dX12_feed_62 (by decide) (r32 h445 rfl) (r32 (rR (x := 16)) rfl) (fun h446 => ?_) (fun h446 => ?_)
              · have h447 : 16 ≤ z378 ∧ z378 ≤ 19 := (vc_X12_feed_10 h446 h411 h440 h442 h444 h445)
                refine mr_iload (pc := 70) (z := p5) dX12_feed_70 rfl ?_
                exact J427 p5 hp5
              have h448 : 12 ≤ z378 ∧ z378 ≤ 15 := (vc_X12_feed_11 h446 h411 h440 h442 h444 h445)
              refine mr_iload (pc := 65) (z := p4) dX12_feed_65 rfl ?_
              refine sv_goto (pc := 67) (tgt := 72) dX12_feed_67 (by decide) ?_
              exact J427 p4 hp4
            have h449 : 8 ≤ z378 ∧ z378 ≤ 11 := (vc_X12_feed_12 h444 h411 h440 h442 h443)
            refine mr_iload_n (pc := 54) (z := p3) dX12_feed_54 rfl rfl ?_
            refine sv_goto (pc := 55) (tgt := 72) dX12_feed_55 (by decide) ?_
            exact J427 p3 hp3
          have h450 : 4 ≤ z378 ∧ z378 ≤ 7 := (vc_X12_feed_13 h442 h411 h440 h441)
          refine mr_iload_n (pc := 43) (z := p2) dX12_feed_43 rfl rfl ?_
          refine sv_goto (pc := 44) (tgt := 72) dX12_feed_44 (by decide) ?_
          exact J427 p2 hp2
        have h451 : 0 ≤ z378 ∧ z378 ≤ 3 := (vc_X12_feed_14 h440 h411 h416)
        refine mr_iload_n (pc := 32) (z := p1) dX12_feed_32 rfl rfl ?_
        refine sv_goto (pc := 33) (tgt := 72) dX12_feed_33 (by decide) ?_
        exact J427 p1 hp1
    refine mr_lvS (lv' := [(0, .ref 106), (1, iv p1), (2, iv p2), (3, iv p3), (4, iv p4), (5, iv p5), (6, iv 0)]) (List.forall_mem_cons.mpr ⟨rfl, List.forall_mem_cons.mpr ⟨rfl, List.forall_mem_cons.mpr ⟨rfl, List.forall_mem_cons.mpr ⟨rfl, List.forall_mem_cons.mpr ⟨rfl, List.forall_mem_cons.mpr ⟨rfl, List.forall_mem_cons.mpr ⟨rfl, fun _ h => absurd h List.not_mem_nil⟩⟩⟩⟩⟩⟩⟩) ?_
    exact L380 22 0 μ hT mF.refl (rW (c := 0) (d := 20) (rR (x := 0)) rfl) vc_X12_feed_15
  have h452 : 981 ≤ z1 ∧ z1 ≤ 1000 := (vc_X12_feed_16 h4 h3)
  refine mr_bipush (pc := 13) (z := (-3)) dX12_feed_13 (by decide) ?_
  exact mr_iret dX12_feed_15 rfl (le_t rfl) (le_t rfl) hT mF.refl ⟨(rW (c := (-2147483648)) (d := 2147483647) (rR (x := (-3))) rfl), trivial⟩
theorem vc_X12_cut_1 {p1 : Int} (h0 : p1 < 0) (h1 : (-2147483648) ≤ p1 ∧ p1 ≤ 2147483647) : (-2147483648) ≤ p1 ∧ p1 ≤ (-1) := by omega
theorem vc_X12_cut_2 {p1 : Int} (h0 : 0 ≤ p1) (h1 : (-2147483648) ≤ p1 ∧ p1 ≤ 2147483647) : 0 ≤ p1 ∧ p1 ≤ 2147483647 := by omega
theorem vc_X12_cut_3 {p1 z4 : Int} (h0 : p1 ≤ z4) (h1 : 0 ≤ p1) (h2 : 0 ≤ p1 ∧ p1 ≤ 2147483647) (h3 : 0 ≤ z4 ∧ z4 ≤ 1000) : 0 ≤ p1 ∧ p1 ≤ 1000 := by omega
theorem vc_X12_cut_4 {p1 z4 : Int} (h0 : z4 < p1) (h1 : 0 ≤ p1) (h2 : 0 ≤ p1 ∧ p1 ≤ 2147483647) (h3 : 0 ≤ z4 ∧ z4 ≤ 1000) : 1 ≤ p1 ∧ p1 ≤ 2147483647 := by omega
set_option maxRecDepth 4000 in
set_option maxHeartbeats 4000000 in
theorem c_X12_cut {l : Launch} {D : va_G} {c : Nat → ClassId} {H0 : Heap} {sa : Nat × Nat × (Nat → Int32)} {w : mW} {μ : mM} (hw : mWF w) (hT : mT w μ) {p1 : Int} (hp1 : (-2147483648) ≤ p1 ∧ p1 ≤ 2147483647) : sC (gG l D c H0 sa) mX12_cut 1 0 0 [.ref 106, iv p1] (mk w μ) (qI w [106001] μ (fun z μ1 => ((-2147483648) ≤ z ∧ z ≤ 2147483647) ∧ True)) := by
  refine sC.of rfl (by decide) (le_t rfl) ?_
  refine mr_lvE (lv' := [(0, .ref 106), (1, iv p1)]) rfl ?_
  refine mr_iload_n (pc := 0) (z := p1) dX12_cut_0 rfl rfl ?_
  refine mr_if_lt (pc := 1) (tgt := 12) dX12_cut_1 (by decide) hp1 (fun h1 => ?_) (fun h1 => ?_)
  · have h2 : (-2147483648) ≤ p1 ∧ p1 ≤ (-1) := (vc_X12_cut_1 h1 hp1)
    refine mr_iconst (pc := 12) (z := (-1)) dX12_cut_12 ?_
    exact mr_iret dX12_cut_13 rfl (le_t rfl) (le_t rfl) hT mF.refl ⟨(rW (c := (-2147483648)) (d := 2147483647) (rR (x := (-1))) rfl), trivial⟩
  have h3 : 0 ≤ p1 ∧ p1 ≤ 2147483647 := (vc_X12_cut_2 h1 hp1)
  refine mr_iload_n (pc := 4) (z := p1) dX12_cut_4 rfl rfl ?_
  refine sv_aload_n (pc := 5) dX12_cut_5 rfl rfl ?_
  refine gf_X12_1 (pc := 6) dX12_cut_6 wF_X12_1 (A_106 hw) hT fun z4 q5 h6 => ?_
  refine mr_icmp_le (pc := 9) (tgt := 14) dX12_cut_9 (by decide) (r32 h3 rfl) (r32 h6 rfl) (fun h7 => ?_) (fun h7 => ?_)
  · have h8 : 0 ≤ p1 ∧ p1 ≤ 1000 := (vc_X12_cut_3 h7 h1 h3 h6)
    refine sv_aload_n (pc := 14) dX12_cut_14 rfl rfl ?_
    refine gk_X12_1 (pc := 15) dX12_cut_15 wF_X12_1 (A_106 hw) q5 ?_
    refine mr_istore_n (pc := 18) (lv' := [(2, iv z4), (0, .ref 106), (1, iv p1)]) dX12_cut_18 rfl (by decide) rfl ?_
    refine sv_aload_n (pc := 19) dX12_cut_19 rfl rfl ?_
    refine mr_iload_n (pc := 20) (z := p1) dX12_cut_20 rfl rfl ?_
    refine pf_X12_1 (pc := 21) dX12_cut_21 wF_X12_1 (A_106 hw) hT h8 fun μ9 u10 T11 => ?_
    refine mr_iload_n (pc := 24) (z := z4) dX12_cut_24 rfl rfl ?_
    exact mr_iret dX12_cut_25 rfl (le_t rfl) (le_t rfl) T11 (mF.up mF.refl (A_106 hw) u10 rfl) ⟨(rW (c := (-2147483648)) (d := 2147483647) h6 rfl), trivial⟩
  have h12 : 1 ≤ p1 ∧ p1 ≤ 2147483647 := (vc_X12_cut_4 h7 h1 h3 h6)
  refine mr_iconst (pc := 12) (z := (-1)) dX12_cut_12 ?_
  exact mr_iret dX12_cut_13 rfl (le_t rfl) (le_t rfl) hT mF.refl ⟨(rW (c := (-2147483648)) (d := 2147483647) (rR (x := (-1))) rfl), trivial⟩
theorem vc_X12_tieOf_1 {z201 : Int} (h0 : (21 - z201) < ((0 : Nat) : Int)) (h1 : 0 ≤ z201 ∧ z201 ≤ 20) : False := by omega
theorem vc_X12_tieOf_2  : (-(99999999 : Int) : Int) = -(99999999 : Int) ∨ ((0 : Int) ≤ (-(99999999 : Int) : Int) ∧ (-(99999999 : Int) : Int) ≤ (19 : Int)) := by omega
theorem vc_X12_tieOf_3 {z201 z209 : Int} (h0 : z201 < z209) (h1 : 0 ≤ z201 ∧ z201 ≤ 20) (h2 : 0 ≤ z209 ∧ z209 ≤ 20) : 0 ≤ z201 ∧ z201 ≤ 19 := by omega
theorem vc_X12_tieOf_4 {z201 z209 : Int} (h0 : z201 < z209) (h1 : 0 ≤ z201 ∧ z201 ≤ 19) (h2 : 0 ≤ z209 ∧ z209 ≤ 20) : 1 ≤ z209 ∧ z209 ≤ 20 := by omega
theorem vc_X12_tieOf_5 {N z201 z209 : Int} (h0 : (21 - z201) < N + 1) (h1 : z201 < z209) (h2 : 0 ≤ z201 ∧ z201 ≤ 19) (h3 : 1 ≤ z209 ∧ z209 ≤ 20) : (21 - (z201 + 1)) < N := by omega
theorem vc_X12_tieOf_6 {p1 p2 z215 : Int} (h0 : z215 = p2) (h1 : ¬ z215 = p1) (h2 : (-2147483648) ≤ p1 ∧ p1 ≤ 2147483647) (h3 : (-2147483648) ≤ p2 ∧ p2 ≤ 2147483647) (h4 : 0 ≤ z215 ∧ z215 ≤ 9) : 0 ≤ p2 ∧ p2 ≤ 9 := by omega
theorem vc_X12_tieOf_7 {p1 z215 z221 : Int} (h0 : z221 = p1) (h1 : ¬ z215 = p1) (h2 : (-2147483648) ≤ p1 ∧ p1 ≤ 2147483647) (h3 : 0 ≤ z215 ∧ z215 ≤ 9) (h4 : 0 ≤ z221 ∧ z221 ≤ 9) : 0 ≤ p1 ∧ p1 ≤ 9 := by omega
theorem vc_X12_tieOf_8 {z201 z209 : Int} (h0 : z201 < z209) (h1 : 0 ≤ z201 ∧ z201 ≤ 19) (h2 : 1 ≤ z209 ∧ z209 ≤ 20) : z201 = -99999999 ∨ (0 ≤ z201 ∧ z201 ≤ 19) := by omega
theorem vc_X12_tieOf_9 {p1 z215 : Int} (h0 : z215 = p1) (h1 : (-2147483648) ≤ p1 ∧ p1 ≤ 2147483647) (h2 : 0 ≤ z215 ∧ z215 ≤ 9) : 0 ≤ p1 ∧ p1 ≤ 9 := by omega
theorem vc_X12_tieOf_10 {p2 z227 : Int} (h0 : z227 = p2) (h1 : (-2147483648) ≤ p2 ∧ p2 ≤ 2147483647) (h2 : 0 ≤ z227 ∧ z227 ≤ 9) : 0 ≤ p2 ∧ p2 ≤ 9 := by omega
theorem vc_X12_tieOf_11 {p1 p2 z215 z227 : Int} (h0 : z215 = p2) (h1 : z215 = p1) (h2 : ¬ z227 = p2) (h3 : 0 ≤ p1 ∧ p1 ≤ 9) (h4 : (-2147483648) ≤ p2 ∧ p2 ≤ 2147483647) (h5 : 0 ≤ z215 ∧ z215 ≤ 9) (h6 : 0 ≤ z227 ∧ z227 ≤ 9) : 0 ≤ p2 ∧ p2 ≤ 9 := by omega
theorem vc_X12_tieOf_12  : (21 - 0) < ((22 : Nat) : Int) := by omega
set_option maxRecDepth 4000 in
set_option maxHeartbeats 4000000 in
theorem c_X12_tieOf {l : Launch} {D : va_G} {c : Nat → ClassId} {H0 : Heap} {sa : Nat × Nat × (Nat → Int32)} {w : mW} {μ : mM} (hw : mWF w) (hT : mT w μ) {p1 : Int} (hp1 : (-2147483648) ≤ p1 ∧ p1 ≤ 2147483647) {p2 : Int} (hp2 : (-2147483648) ≤ p2 ∧ p2 ≤ 2147483647) : sC (gG l D c H0 sa) mX12_tieOf 1 0 0 [.ref 106, iv p1, iv p2] (mk w μ) (qP w μ (fun z => ((-99999999) ≤ z ∧ z ≤ 19) ∧ (z = -99999999 ∨ (0 ≤ z ∧ z ≤ 19)) ∧ True)) := by
  refine sC.of rfl (by decide) (le_t rfl) ?_
  refine mr_lvE (lv' := [(0, .ref 106), (1, iv p1), (2, iv p2)]) rfl ?_
  refine mr_iconst (pc := 0) (z := 0) dX12_tieOf_0 ?_
  refine mr_istore_n (pc := 1) (lv' := [(3, iv 0), (0, .ref 106), (1, iv p1), (2, iv p2)]) dX12_tieOf_1 rfl (by decide) rfl ?_
  have L202 : ∀ (nL202 : Nat) (z201 : Int), True → (0 ≤ z201 ∧ z201 ≤ 20) → (21 - z201) < (nL202 : Int) → sV (gG l D c H0 sa) mX12_tieOf (sRm 1 0 0) (sZ (gG l D c H0 sa) 0 0 (qP w μ (fun z => ((-99999999) ≤ z ∧ z ≤ 19) ∧ (z = -99999999 ∨ (0 ≤ z ∧ z ≤ 19)) ∧ True))) 2 [(0, .ref 106), (1, iv p1), (2, iv p2), (3, iv z201)] [] (mk w μ) 0 0 := by
    intro nL202
    induction nL202 with
    | zero => intro z201 _ h203 h207; exact ((vc_X12_tieOf_1 h207 h203)).elim
    | succ nL202 ih208 =>
      intro z201 _ h203 h207
      refine mr_iload_n (pc := 2) (z := z201) dX12_tieOf_2 rfl rfl ?_
      refine sv_aload_n (pc := 3) dX12_tieOf_3 rfl rfl ?_
      refine gf_X12_6 (pc := 4) dX12_tieOf_4 wF_X12_37 (A_106 hw) hT fun z209 q210 h211 => ?_
      refine mr_icmp_ge (pc := 7) (tgt := 70) dX12_tieOf_7 (by decide) (r32 h203 rfl) (r32 h211 rfl) (fun h212 => ?_) (fun h212 => ?_)
      · refine mr_ldc (pc := 70) (z := (-99999999)) dX12_tieOf_70 wG_X12_29 (by decide) ?_
        exact mr_iretP dX12_tieOf_72 rfl (le_t rfl) (le_t rfl) ⟨(rW (c := (-99999999)) (d := 19) (rR (x := (-99999999))) rfl), vc_X12_tieOf_2, trivial⟩
      have h213 : 0 ≤ z201 ∧ z201 ≤ 19 := (vc_X12_tieOf_3 h212 h203 h211)
      have h214 : 1 ≤ z209 ∧ z209 ≤ 20 := (vc_X12_tieOf_4 h212 h213 h211)
      refine sv_aload_n (pc := 10) dX12_tieOf_10 rfl rfl ?_
      refine gf_X12_7 (pc := 11) dX12_tieOf_11 wF_X12_40 (A_106 hw) hT ?_
      refine mr_iconst (pc := 14) (z := 2) dX12_tieOf_14 ?_
      refine mr_iload_n (pc := 15) (z := z201) dX12_tieOf_15 rfl rfl ?_
      refine mr_imul (pc := 16) (x := 2) (y := z201) dX12_tieOf_16 ?_
      refine la_110 (pc := 17) dX12_tieOf_17 (A_110 hw) hT (rIx (n := 40) (rMulL (n := 2) (e := 0) (f := 38) h213 rfl) rfl) fun z215 q216 h217 => ?_
      refine mr_iload_n (pc := 18) (z := p1) dX12_tieOf_18 rfl rfl ?_
      refine mr_icmp_ne (pc := 19) (tgt := 36) dX12_tieOf_19 (by decide) (r32 h217 rfl) hp1 (fun h218 => ?_) (fun h218 => ?_)
      · refine sv_aload_n (pc := 36) dX12_tieOf_36 rfl rfl ?_
        refine gf_X12_7 (pc := 37) dX12_tieOf_37 wF_X12_40 (A_106 hw) hT ?_
        refine mr_iconst (pc := 40) (z := 2) dX12_tieOf_40 ?_
        refine mr_iload_n (pc := 41) (z := z201) dX12_tieOf_41 rfl rfl ?_
        refine mr_imul (pc := 42) (x := 2) (y := z201) dX12_tieOf_42 ?_
        refine lk_110 (pc := 43) dX12_tieOf_43 (A_110 hw) (rIx (n := 40) (rMulL (n := 2) (e := 0) (f := 38) h213 rfl) rfl) q216 ?_
        refine mr_iload_n (pc := 44) (z := p2) dX12_tieOf_44 rfl rfl ?_
        refine mr_icmp_ne (pc := 45) (tgt := 64) dX12_tieOf_45 (by decide) (r32 h217 rfl) hp2 (fun h219 => ?_) (fun h219 => ?_)
        · refine mr_iinc (pc := 64) (lv' := [(3, iv (z201 + 1)), (0, .ref 106), (1, iv p1), (2, iv p2)]) dX12_tieOf_64 rfl (by decide) rfl ?_
          refine sv_goto (pc := 67) (tgt := 2) dX12_tieOf_67 (by decide) ?_
          refine mr_lvS (lv' := [(0, .ref 106), (1, iv p1), (2, iv p2), (3, iv (z201 + 1))]) (List.forall_mem_cons.mpr ⟨rfl, List.forall_mem_cons.mpr ⟨rfl, List.forall_mem_cons.mpr ⟨rfl, List.forall_mem_cons.mpr ⟨rfl, fun _ h => absurd h List.not_mem_nil⟩⟩⟩⟩) ?_
          exact ih208 (z201 + 1) trivial (rW (c := 0) (d := 20) (rAdd (e := 1) (f := 20) h213 (rR (x := 1)) rfl) rfl) (vc_X12_tieOf_5 (nS h207) h212 h213 h214)
        have h220 : 0 ≤ p2 ∧ p2 ≤ 9 := (vc_X12_tieOf_6 h219 h218 hp1 hp2 h217)
        refine sv_aload_n (pc := 48) dX12_tieOf_48 rfl rfl ?_
        refine gf_X12_7 (pc := 49) dX12_tieOf_49 wF_X12_40 (A_106 hw) hT ?_
        refine mr_iconst (pc := 52) (z := 2) dX12_tieOf_52 ?_
        refine mr_iload_n (pc := 53) (z := z201) dX12_tieOf_53 rfl rfl ?_
        refine mr_imul (pc := 54) (x := 2) (y := z201) dX12_tieOf_54 ?_
        refine mr_iconst (pc := 55) (z := 1) dX12_tieOf_55 ?_
        refine mr_iadd (pc := 56) (x := (2 * z201)) (y := 1) dX12_tieOf_56 ?_
        refine la_110 (pc := 57) dX12_tieOf_57 (A_110 hw) hT (rIx (n := 40) (rAdd (e := 1) (f := 39) (rMulL (n := 2) (e := 0) (f := 38) h213 rfl) (rR (x := 1)) rfl) rfl) fun z221 q222 h223 => ?_
        refine mr_iload_n (pc := 58) (z := p1) dX12_tieOf_58 rfl rfl ?_
        refine mr_icmp_ne (pc := 59) (tgt := 64) dX12_tieOf_59 (by decide) (r32 h223 rfl) hp1 (fun h224 => ?_) (fun h224 => ?_)
        · refine mr_iinc (pc := 64) (lv' := [(3, iv (z201 + 1)), (0, .ref 106), (1, iv p1), (2, iv p2)]) dX12_tieOf_64 rfl (by decide) rfl ?_
          refine sv_goto (pc := 67) (tgt := 2) dX12_tieOf_67 (by decide) ?_
          refine mr_lvS (lv' := [(0, .ref 106), (1, iv p1), (2, iv p2), (3, iv (z201 + 1))]) (List.forall_mem_cons.mpr ⟨rfl, List.forall_mem_cons.mpr ⟨rfl, List.forall_mem_cons.mpr ⟨rfl, List.forall_mem_cons.mpr ⟨rfl, fun _ h => absurd h List.not_mem_nil⟩⟩⟩⟩) ?_
          exact ih208 (z201 + 1) trivial (rW (c := 0) (d := 20) (rAdd (e := 1) (f := 20) h213 (rR (x := 1)) rfl) rfl) (vc_X12_tieOf_5 (nS h207) h212 h213 h214)
        have h225 : 0 ≤ p1 ∧ p1 ≤ 9 := (vc_X12_tieOf_7 h224 h218 hp1 h217 h223)
        refine mr_iload_n (pc := 62) (z := z201) dX12_tieOf_62 rfl rfl ?_
        exact mr_iretP dX12_tieOf_63 rfl (le_t rfl) (le_t rfl) ⟨(rW (c := (-99999999)) (d := 19) h213 rfl), (vc_X12_tieOf_8 h212 h213 h214), trivial⟩
      have h226 : 0 ≤ p1 ∧ p1 ≤ 9 := (vc_X12_tieOf_9 h218 hp1 h217)
      refine sv_aload_n (pc := 22) dX12_tieOf_22 rfl rfl ?_
      refine gf_X12_7 (pc := 23) dX12_tieOf_23 wF_X12_40 (A_106 hw) hT ?_
      refine mr_iconst (pc := 26) (z := 2) dX12_tieOf_26 ?_
      refine mr_iload_n (pc := 27) (z := z201) dX12_tieOf_27 rfl rfl ?_
      refine mr_imul (pc := 28) (x := 2) (y := z201) dX12_tieOf_28 ?_
      refine mr_iconst (pc := 29) (z := 1) dX12_tieOf_29 ?_
      refine mr_iadd (pc := 30) (x := (2 * z201)) (y := 1) dX12_tieOf_30 ?_
      refine la_110 (pc := 31) dX12_tieOf_31 (A_110 hw) hT (rIx (n := 40) (rAdd (e := 1) (f := 39) (rMulL (n := 2) (e := 0) (f := 38) h213 rfl) (rR (x := 1)) rfl) rfl) fun z227 q228 h229 => ?_
      refine mr_iload_n (pc := 32) (z := p2) dX12_tieOf_32 rfl rfl ?_
      refine mr_icmp_eq (pc := 33) (tgt := 62) dX12_tieOf_33 (by decide) (r32 h229 rfl) hp2 (fun h230 => ?_) (fun h230 => ?_)
      · have h231 : 0 ≤ p2 ∧ p2 ≤ 9 := (vc_X12_tieOf_10 h230 hp2 h229)
        refine mr_iload_n (pc := 62) (z := z201) dX12_tieOf_62 rfl rfl ?_
        exact mr_iretP dX12_tieOf_63 rfl (le_t rfl) (le_t rfl) ⟨(rW (c := (-99999999)) (d := 19) h213 rfl), (vc_X12_tieOf_8 h212 h213 h214), trivial⟩
      refine sv_aload_n (pc := 36) dX12_tieOf_36 rfl rfl ?_
      refine gf_X12_7 (pc := 37) dX12_tieOf_37 wF_X12_40 (A_106 hw) hT ?_
      refine mr_iconst (pc := 40) (z := 2) dX12_tieOf_40 ?_
      refine mr_iload_n (pc := 41) (z := z201) dX12_tieOf_41 rfl rfl ?_
      refine mr_imul (pc := 42) (x := 2) (y := z201) dX12_tieOf_42 ?_
      refine lk_110 (pc := 43) dX12_tieOf_43 (A_110 hw) (rIx (n := 40) (rMulL (n := 2) (e := 0) (f := 38) h213 rfl) rfl) q216 ?_
      refine mr_iload_n (pc := 44) (z := p2) dX12_tieOf_44 rfl rfl ?_
      refine mr_icmp_ne (pc := 45) (tgt := 64) dX12_tieOf_45 (by decide) (r32 h217 rfl) hp2 (fun h232 => ?_) (fun h232 => ?_)
      · refine mr_iinc (pc := 64) (lv' := [(3, iv (z201 + 1)), (0, .ref 106), (1, iv p1), (2, iv p2)]) dX12_tieOf_64 rfl (by decide) rfl ?_
        refine sv_goto (pc := 67) (tgt := 2) dX12_tieOf_67 (by decide) ?_
        refine mr_lvS (lv' := [(0, .ref 106), (1, iv p1), (2, iv p2), (3, iv (z201 + 1))]) (List.forall_mem_cons.mpr ⟨rfl, List.forall_mem_cons.mpr ⟨rfl, List.forall_mem_cons.mpr ⟨rfl, List.forall_mem_cons.mpr ⟨rfl, fun _ h => absurd h List.not_mem_nil⟩⟩⟩⟩) ?_
        exact ih208 (z201 + 1) trivial (rW (c := 0) (d := 20) (rAdd (e := 1) (f := 20) h213 (rR (x := 1)) rfl) rfl) (vc_X12_tieOf_5 (nS h207) h212 h213 h214)
      have h233 : 0 ≤ p2 ∧ p2 ≤ 9 := (vc_X12_tieOf_11 h232 h218 h230 h226 hp2 h217 h229)
      refine sv_aload_n (pc := 48) dX12_tieOf_48 rfl rfl ?_
      refine gf_X12_7 (pc := 49) dX12_tieOf_49 wF_X12_40 (A_106 hw) hT ?_
      refine mr_iconst (pc := 52) (z := 2) dX12_tieOf_52 ?_
      refine mr_iload_n (pc := 53) (z := z201) dX12_tieOf_53 rfl rfl ?_
      refine mr_imul (pc := 54) (x := 2) (y := z201) dX12_tieOf_54 ?_
      refine mr_iconst (pc := 55) (z := 1) dX12_tieOf_55 ?_
      refine mr_iadd (pc := 56) (x := (2 * z201)) (y := 1) dX12_tieOf_56 ?_
      refine lk_110 (pc := 57) dX12_tieOf_57 (A_110 hw) (rIx (n := 40) (rAdd (e := 1) (f := 39) (rMulL (n := 2) (e := 0) (f := 38) h213 rfl) (rR (x := 1)) rfl) rfl) q228 ?_
      refine mr_iload_n (pc := 58) (z := p1) dX12_tieOf_58 rfl rfl ?_
      refine mr_icmp_ne (pc := 59) (tgt := 64) dX12_tieOf_59 (by decide) (r32 h229 rfl) (r32 h226 rfl) (fun h234 => ?_) (fun h234 => ?_)
      · refine mr_iinc (pc := 64) (lv' := [(3, iv (z201 + 1)), (0, .ref 106), (1, iv p1), (2, iv p2)]) dX12_tieOf_64 rfl (by decide) rfl ?_
        refine sv_goto (pc := 67) (tgt := 2) dX12_tieOf_67 (by decide) ?_
        refine mr_lvS (lv' := [(0, .ref 106), (1, iv p1), (2, iv p2), (3, iv (z201 + 1))]) (List.forall_mem_cons.mpr ⟨rfl, List.forall_mem_cons.mpr ⟨rfl, List.forall_mem_cons.mpr ⟨rfl, List.forall_mem_cons.mpr ⟨rfl, fun _ h => absurd h List.not_mem_nil⟩⟩⟩⟩) ?_
        exact ih208 (z201 + 1) trivial (rW (c := 0) (d := 20) (rAdd (e := 1) (f := 20) h213 (rR (x := 1)) rfl) rfl) (vc_X12_tieOf_5 (nS h207) h212 h213 h214)
      refine mr_iload_n (pc := 62) (z := z201) dX12_tieOf_62 rfl rfl ?_
      exact mr_iretP dX12_tieOf_63 rfl (le_t rfl) (le_t rfl) ⟨(rW (c := (-99999999)) (d := 19) h213 rfl), (vc_X12_tieOf_8 h212 h213 h214), trivial⟩
  refine mr_lvS (lv' := [(0, .ref 106), (1, iv p1), (2, iv p2), (3, iv 0)]) (List.forall_mem_cons.mpr ⟨rfl, List.forall_mem_cons.mpr ⟨rfl, List.forall_mem_cons.mpr ⟨rfl, List.forall_mem_cons.mpr ⟨rfl, fun _ h => absurd h List.not_mem_nil⟩⟩⟩⟩) ?_
  exact L202 22 0 trivial (rW (c := 0) (d := 20) (rR (x := 0)) rfl) vc_X12_tieOf_12
theorem vc_X12_provides_1 {z5 : Int} (h0 : z5 = (-99999999)) (h1 : z5 = -99999999 ∨ (0 ≤ z5 ∧ z5 ≤ 19)) (h2 : (-99999999) ≤ z5 ∧ z5 ≤ 19) : (-99999999) ≤ z5 ∧ z5 ≤ (-99999999) := by omega
theorem vc_X12_provides_2 {z5 : Int} (h0 : ¬ z5 = (-99999999)) (h1 : z5 = -99999999 ∨ (0 ≤ z5 ∧ z5 ≤ 19)) (h2 : (-99999999) ≤ z5 ∧ z5 ≤ 19) : 0 ≤ z5 ∧ z5 ≤ 19 := by omega
theorem vc_X12_provides_3 {z20 : Int} (h0 : ¬ z20 = 0) (h1 : 0 ≤ z20 ∧ z20 ≤ 2) : 1 ≤ z20 ∧ z20 ≤ 2 := by omega
theorem vc_X12_provides_4 {z20 : Int} (h0 : z20 = 0) (h1 : 0 ≤ z20 ∧ z20 ≤ 2) : 0 ≤ z20 ∧ z20 ≤ 0 := by omega
theorem vc_X12_provides_5 {p1 z32 : Int} (h0 : z32 = p1) (h1 : (-2147483648) ≤ p1 ∧ p1 ≤ 2147483647) (h2 : 0 ≤ z32 ∧ z32 ≤ 9) : 0 ≤ p1 ∧ p1 ≤ 9 := by omega
set_option maxRecDepth 4000 in
set_option maxHeartbeats 4000000 in
theorem c_X12_provides {l : Launch} {D : va_G} {c : Nat → ClassId} {H0 : Heap} {sa : Nat × Nat × (Nat → Int32)} {w : mW} {μ : mM} (hw : mWF w) (hT : mT w μ) {p1 : Int} (hp1 : (-2147483648) ≤ p1 ∧ p1 ≤ 2147483647) {p2 : Int} (hp2 : (-2147483648) ≤ p2 ∧ p2 ≤ 2147483647) : sC (gG l D c H0 sa) mX12_provides 2 0 0 [.ref 106, iv p1, iv p2] (mk w μ) (qP w μ (fun z => (0 ≤ z ∧ z ≤ 1) ∧ True)) := by
  refine sC.of rfl (by decide) (le_t rfl) ?_
  refine mr_lvE (lv' := [(0, .ref 106), (1, iv p1), (2, iv p2)]) rfl ?_
  refine sv_aload_n (pc := 0) dX12_provides_0 rfl rfl ?_
  refine mr_iload_n (pc := 1) (z := p1) dX12_provides_1 rfl rfl ?_
  refine mr_iload_n (pc := 2) (z := p2) dX12_provides_2 rfl rfl ?_
  refine mr_cVP (pc := 3) (c_X12_tieOf hw hT hp1 hp2) (gOk _ _ _ _ _) dX12_provides_3 (tX12_tieOf _ _ _ _ _) ⟨wV_X12_tieOf, wL_X12_tieOf⟩ wM_X12_43 (gCX12 _ _ _ _ _) rfl (A_106 hw) rfl ⟨le_t rfl, le_t rfl⟩ ⟨le_t rfl, le_t rfl⟩ rfl (le_t rfl) fun z5 h4 => ?_
  refine mr_istore_n (pc := 6) (lv' := [(3, iv z5), (0, .ref 106), (1, iv p1), (2, iv p2)]) dX12_provides_6 rfl (by decide) rfl ?_
  refine mr_iload_n (pc := 7) (z := z5) dX12_provides_7 rfl rfl ?_
  refine mr_ldc (pc := 8) (z := (-99999999)) dX12_provides_8 wG_X12_29 (by decide) ?_
  refine mr_icmp_eq (pc := 10) (tgt := 38) dX12_provides_10 (by decide) (r32 h4.1 rfl) (r32 (rR (x := (-99999999))) rfl) (fun h17 => ?_) (fun h17 => ?_)
  · have h18 : (-99999999) ≤ z5 ∧ z5 ≤ (-99999999) := (vc_X12_provides_1 h17 h4.2.1 h4.1)
    refine mr_iconst (pc := 38) (z := 0) dX12_provides_38 ?_
    exact mr_zretP dX12_provides_39 rfl (rW (c := 0) (d := 1) (rR (x := 0)) rfl) (le_t rfl) (le_t rfl) ⟨(rW (c := 0) (d := 1) (rR (x := 0)) rfl), trivial⟩
  have h19 : 0 ≤ z5 ∧ z5 ≤ 19 := (vc_X12_provides_2 h17 h4.2.1 h4.1)
  refine sv_aload_n (pc := 13) dX12_provides_13 rfl rfl ?_
  refine gf_X12_8 (pc := 14) dX12_provides_14 wF_X12_46 (A_106 hw) hT ?_
  refine mr_iload_n (pc := 17) (z := z5) dX12_provides_17 rfl rfl ?_
  refine la_111 (pc := 18) dX12_provides_18 (A_111 hw) hT (rIx (n := 20) h19 rfl) fun z20 q21 h22 => ?_
  refine mr_if_ne (pc := 19) (tgt := 38) dX12_provides_19 (by decide) (r32 h22 rfl) (fun h29 => ?_) (fun h29 => ?_)
  · have h30 : 1 ≤ z20 ∧ z20 ≤ 2 := (vc_X12_provides_3 h29 h22)
    refine mr_iconst (pc := 38) (z := 0) dX12_provides_38 ?_
    exact mr_zretP dX12_provides_39 rfl (rW (c := 0) (d := 1) (rR (x := 0)) rfl) (le_t rfl) (le_t rfl) ⟨(rW (c := 0) (d := 1) (rR (x := 0)) rfl), trivial⟩
  have h31 : 0 ≤ z20 ∧ z20 ≤ 0 := (vc_X12_provides_4 h29 h22)
  refine sv_aload_n (pc := 22) dX12_provides_22 rfl rfl ?_
  refine gf_X12_7 (pc := 23) dX12_provides_23 wF_X12_40 (A_106 hw) hT ?_
  refine mr_iconst (pc := 26) (z := 2) dX12_provides_26 ?_
  refine mr_iload_n (pc := 27) (z := z5) dX12_provides_27 rfl rfl ?_
  refine mr_imul (pc := 28) (x := 2) (y := z5) dX12_provides_28 ?_
  refine la_110 (pc := 29) dX12_provides_29 (A_110 hw) hT (rIx (n := 40) (rMulL (n := 2) (e := 0) (f := 38) h19 rfl) rfl) fun z32 q33 h34 => ?_
  refine mr_iload_n (pc := 30) (z := p1) dX12_provides_30 rfl rfl ?_
  refine mr_icmp_ne (pc := 31) (tgt := 38) dX12_provides_31 (by decide) (r32 h34 rfl) hp1 (fun h36 => ?_) (fun h36 => ?_)
  · refine mr_iconst (pc := 38) (z := 0) dX12_provides_38 ?_
    exact mr_zretP dX12_provides_39 rfl (rW (c := 0) (d := 1) (rR (x := 0)) rfl) (le_t rfl) (le_t rfl) ⟨(rW (c := 0) (d := 1) (rR (x := 0)) rfl), trivial⟩
  have h37 : 0 ≤ p1 ∧ p1 ≤ 9 := (vc_X12_provides_5 h36 hp1 h34)
  refine mr_iconst (pc := 34) (z := 1) dX12_provides_34 ?_
  refine sv_goto (pc := 35) (tgt := 39) dX12_provides_35 (by decide) ?_
  exact mr_zretP dX12_provides_39 rfl (rW (c := 0) (d := 1) (rR (x := 1)) rfl) (le_t rfl) (le_t rfl) ⟨(rW (c := 0) (d := 1) (rR (x := 1)) rfl), trivial⟩
theorem vc_X12_pace_1 {p1 z1 z8 : Int} (h0 : z8 = 0) (h1 : (z8 = 1 → 0 ≤ p1 ∧ p1 < z1)) (h2 : (z8 = 0 → p1 < 0 ∨ z1 ≤ p1)) (h3 : (-2147483648) ≤ p1 ∧ p1 ≤ 2147483647) (h4 : 0 ≤ z1 ∧ z1 ≤ 20) (h5 : 0 ≤ z8 ∧ z8 ≤ 1) : 0 ≤ z8 ∧ z8 ≤ 0 := by omega
theorem vc_X12_pace_2 {p1 z1 z8 : Int} (h0 : (z8 = 1 → 0 ≤ p1 ∧ p1 < z1)) (h1 : (z8 = 0 → p1 < 0 ∨ z1 ≤ p1)) (h2 : z8 = 0) (h3 : (-2147483648) ≤ p1 ∧ p1 ≤ 2147483647) (h4 : 0 ≤ z1 ∧ z1 ≤ 20) (h5 : 0 ≤ z8 ∧ z8 ≤ 0) : z8 = 0 := by omega
theorem vc_X12_pace_3 {p1 z1 z8 : Int} (h0 : ¬ z8 = 0) (h1 : (z8 = 1 → 0 ≤ p1 ∧ p1 < z1)) (h2 : (z8 = 0 → p1 < 0 ∨ z1 ≤ p1)) (h3 : (-2147483648) ≤ p1 ∧ p1 ≤ 2147483647) (h4 : 0 ≤ z1 ∧ z1 ≤ 20) (h5 : 0 ≤ z8 ∧ z8 ≤ 1) : 1 ≤ z8 ∧ z8 ≤ 1 := by omega
theorem vc_X12_pace_4 {p1 z1 z8 : Int} (h0 : (z8 = 1 → 0 ≤ p1 ∧ p1 < z1)) (h1 : (z8 = 0 → p1 < 0 ∨ z1 ≤ p1)) (h2 : ¬ z8 = 0) (h3 : (-2147483648) ≤ p1 ∧ p1 ≤ 2147483647) (h4 : 0 ≤ z1 ∧ z1 ≤ 20) (h5 : 1 ≤ z8 ∧ z8 ≤ 1) : z8 = 1 := by omega
theorem vc_X12_pace_5 {p1 z1 z8 : Int} (h0 : 0 ≤ p1 ∧ p1 < z1) (h1 : (z8 = 1 → 0 ≤ p1 ∧ p1 < z1)) (h2 : (z8 = 0 → p1 < 0 ∨ z1 ≤ p1)) (h3 : (-2147483648) ≤ p1 ∧ p1 ≤ 2147483647) (h4 : 0 ≤ z1 ∧ z1 ≤ 20) (h5 : 1 ≤ z8 ∧ z8 ≤ 1) : 0 ≤ p1 ∧ p1 ≤ 19 := by omega
theorem vc_X12_pace_6 {p1 z1 z8 : Int} (h0 : 0 ≤ p1 ∧ p1 < z1) (h1 : (z8 = 1 → 0 ≤ p1 ∧ p1 < z1)) (h2 : (z8 = 0 → p1 < 0 ∨ z1 ≤ p1)) (h3 : 0 ≤ p1 ∧ p1 ≤ 19) (h4 : 0 ≤ z1 ∧ z1 ≤ 20) (h5 : 1 ≤ z8 ∧ z8 ≤ 1) : 1 ≤ z1 ∧ z1 ≤ 20 := by omega
theorem vc_X12_pace_7 {p2 z20 : Int} (h0 : z20 = 0) (h1 : (z20 = 1 → (1 : Int) ≤ p2 ∧ p2 ≤ (1000 : Int))) (h2 : (z20 = 0 → p2 < (1 : Int) ∨ (1000 : Int) < p2)) (h3 : (-2147483648) ≤ p2 ∧ p2 ≤ 2147483647) (h4 : 0 ≤ z20 ∧ z20 ≤ 1) : 0 ≤ z20 ∧ z20 ≤ 0 := by omega
theorem vc_X12_pace_8 {p2 z20 : Int} (h0 : (z20 = 1 → (1 : Int) ≤ p2 ∧ p2 ≤ (1000 : Int))) (h1 : (z20 = 0 → p2 < (1 : Int) ∨ (1000 : Int) < p2)) (h2 : z20 = 0) (h3 : (-2147483648) ≤ p2 ∧ p2 ≤ 2147483647) (h4 : 0 ≤ z20 ∧ z20 ≤ 0) : z20 = 0 := by omega
theorem vc_X12_pace_9 {p2 z20 : Int} (h0 : ¬ z20 = 0) (h1 : (z20 = 1 → (1 : Int) ≤ p2 ∧ p2 ≤ (1000 : Int))) (h2 : (z20 = 0 → p2 < (1 : Int) ∨ (1000 : Int) < p2)) (h3 : (-2147483648) ≤ p2 ∧ p2 ≤ 2147483647) (h4 : 0 ≤ z20 ∧ z20 ≤ 1) : 1 ≤ z20 ∧ z20 ≤ 1 := by omega
theorem vc_X12_pace_10 {p2 z20 : Int} (h0 : (z20 = 1 → (1 : Int) ≤ p2 ∧ p2 ≤ (1000 : Int))) (h1 : (z20 = 0 → p2 < (1 : Int) ∨ (1000 : Int) < p2)) (h2 : ¬ z20 = 0) (h3 : (-2147483648) ≤ p2 ∧ p2 ≤ 2147483647) (h4 : 1 ≤ z20 ∧ z20 ≤ 1) : z20 = 1 := by omega
theorem vc_X12_pace_11 {p2 z20 : Int} (h0 : (1 : Int) ≤ p2 ∧ p2 ≤ (1000 : Int)) (h1 : (z20 = 1 → (1 : Int) ≤ p2 ∧ p2 ≤ (1000 : Int))) (h2 : (z20 = 0 → p2 < (1 : Int) ∨ (1000 : Int) < p2)) (h3 : (-2147483648) ≤ p2 ∧ p2 ≤ 2147483647) (h4 : 1 ≤ z20 ∧ z20 ≤ 1) : 1 ≤ p2 ∧ p2 ≤ 1000 := by omega
theorem vc_X12_pace_12 {p3 z31 : Int} (h0 : ¬ z31 = 0) (h1 : (z31 = 1 → (0 : Int) ≤ p3 ∧ p3 ≤ (1000 : Int))) (h2 : (z31 = 0 → p3 < (0 : Int) ∨ (1000 : Int) < p3)) (h3 : (-2147483648) ≤ p3 ∧ p3 ≤ 2147483647) (h4 : 0 ≤ z31 ∧ z31 ≤ 1) : 1 ≤ z31 ∧ z31 ≤ 1 := by omega
theorem vc_X12_pace_13 {p3 z31 : Int} (h0 : (z31 = 1 → (0 : Int) ≤ p3 ∧ p3 ≤ (1000 : Int))) (h1 : (z31 = 0 → p3 < (0 : Int) ∨ (1000 : Int) < p3)) (h2 : ¬ z31 = 0) (h3 : (-2147483648) ≤ p3 ∧ p3 ≤ 2147483647) (h4 : 1 ≤ z31 ∧ z31 ≤ 1) : z31 = 1 := by omega
theorem vc_X12_pace_14 {p3 z31 : Int} (h0 : (0 : Int) ≤ p3 ∧ p3 ≤ (1000 : Int)) (h1 : (z31 = 1 → (0 : Int) ≤ p3 ∧ p3 ≤ (1000 : Int))) (h2 : (z31 = 0 → p3 < (0 : Int) ∨ (1000 : Int) < p3)) (h3 : (-2147483648) ≤ p3 ∧ p3 ≤ 2147483647) (h4 : 1 ≤ z31 ∧ z31 ≤ 1) : 0 ≤ p3 ∧ p3 ≤ 1000 := by omega
theorem vc_X12_pace_15 {p3 z31 : Int} (h0 : z31 = 0) (h1 : (z31 = 1 → (0 : Int) ≤ p3 ∧ p3 ≤ (1000 : Int))) (h2 : (z31 = 0 → p3 < (0 : Int) ∨ (1000 : Int) < p3)) (h3 : (-2147483648) ≤ p3 ∧ p3 ≤ 2147483647) (h4 : 0 ≤ z31 ∧ z31 ≤ 1) : 0 ≤ z31 ∧ z31 ≤ 0 := by omega
theorem vc_X12_pace_16 {p3 z31 : Int} (h0 : (z31 = 1 → (0 : Int) ≤ p3 ∧ p3 ≤ (1000 : Int))) (h1 : (z31 = 0 → p3 < (0 : Int) ∨ (1000 : Int) < p3)) (h2 : z31 = 0) (h3 : (-2147483648) ≤ p3 ∧ p3 ≤ 2147483647) (h4 : 0 ≤ z31 ∧ z31 ≤ 0) : z31 = 0 := by omega
set_option maxRecDepth 4000 in
set_option maxHeartbeats 4000000 in
theorem c_X12_pace {l : Launch} {D : va_G} {c : Nat → ClassId} {H0 : Heap} {sa : Nat × Nat × (Nat → Int32)} {w : mW} {μ : mM} (hw : mWF w) (hT : mT w μ) {p1 : Int} (hp1 : (-2147483648) ≤ p1 ∧ p1 ≤ 2147483647) {p2 : Int} (hp2 : (-2147483648) ≤ p2 ∧ p2 ≤ 2147483647) {p3 : Int} (hp3 : (-2147483648) ≤ p3 ∧ p3 ≤ 2147483647) : sC (gG l D c H0 sa) mX12_pace 3 0 0 [.ref 106, iv p1, iv p2, iv p3] (mk w μ) (qI w [113999, 114999] μ (fun z μ1 => ((-2147483648) ≤ z ∧ z ≤ 2147483647) ∧ True)) := by
  refine sC.of rfl (by decide) (le_t rfl) ?_
  refine mr_lvE (lv' := [(0, .ref 106), (1, iv p1), (2, iv p2), (3, iv p3)]) rfl ?_
  refine sv_aload_n (pc := 0) dX12_pace_0 rfl rfl ?_
  refine mr_iload_n (pc := 1) (z := p1) dX12_pace_1 rfl rfl ?_
  obtain ⟨z1, q2⟩ : ∃ z, μ 106 6 = z := ⟨_, rfl⟩
  have h3 : (0 ≤ z1 ∧ z1 ≤ 20) := by rw [← q2]; exact hT 106 106 (A_106 hw) 6
  refine mr_cVP (pc := 2) (c_X12_isTie hw hT hp1 q2) (gOk _ _ _ _ _) dX12_pace_2 (tX12_isTie _ _ _ _ _) ⟨wV_X12_isTie, wL_X12_isTie⟩ wM_X12_66 (gCX12 _ _ _ _ _) rfl (A_106 hw) rfl ⟨le_t rfl, le_t rfl⟩ ⟨le_t rfl, le_t rfl⟩ rfl (le_t rfl) fun z8 h7 => ?_
  refine mr_if_eq (pc := 5) (tgt := 30) dX12_pace_5 (by decide) (r32 h7.1 rfl) (fun h9 => ?_) (fun h9 => ?_)
  · have h10 : 0 ≤ z8 ∧ z8 ≤ 0 := (vc_X12_pace_1 h9 h7.2.1 h7.2.2.1 hp1 h3 h7.1)
    have h11 : p1 < 0 ∨ z1 ≤ p1 := (h7.2.2.1 (vc_X12_pace_2 h7.2.1 h7.2.2.1 h9 hp1 h3 h10))
    refine mr_iconst (pc := 30) (z := (-1)) dX12_pace_30 ?_
    exact mr_iret dX12_pace_31 rfl (le_t rfl) (le_t rfl) hT mF.refl ⟨(rW (c := (-2147483648)) (d := 2147483647) (rR (x := (-1))) rfl), trivial⟩
  have h12 : 1 ≤ z8 ∧ z8 ≤ 1 := (vc_X12_pace_3 h9 h7.2.1 h7.2.2.1 hp1 h3 h7.1)
  have h13 : 0 ≤ p1 ∧ p1 < z1 := (h7.2.1 (vc_X12_pace_4 h7.2.1 h7.2.2.1 h9 hp1 h3 h12))
  have h14 : 0 ≤ p1 ∧ p1 ≤ 19 := (vc_X12_pace_5 h13 h7.2.1 h7.2.2.1 hp1 h3 h12)
  have h15 : 1 ≤ z1 ∧ z1 ≤ 20 := (vc_X12_pace_6 h13 h7.2.1 h7.2.2.1 h14 h3 h12)
  refine mr_iload_n (pc := 8) (z := p2) dX12_pace_8 rfl rfl ?_
  refine mr_iconst (pc := 9) (z := 1) dX12_pace_9 ?_
  refine mr_sipush (pc := 10) (z := 1000) dX12_pace_10 (by decide) ?_
  refine mr_cSP (pc := 13) (c_X12_in hw hT hp2 (rW (c := (-2147483648)) (d := 2147483647) (rR (x := 1)) rfl) (rW (c := (-2147483648)) (d := 2147483647) (rR (x := 1000)) rfl)) (gOk _ _ _ _ _) dX12_pace_13 (tX12_in _ _ _ _ _) wS_X12_in wM_X12_18 ⟨le_t rfl, le_t rfl⟩ ⟨le_t rfl, le_t rfl⟩ rfl (le_t rfl) fun z20 h19 => ?_
  refine mr_if_eq (pc := 16) (tgt := 30) dX12_pace_16 (by decide) (r32 h19.1 rfl) (fun h21 => ?_) (fun h21 => ?_)
  · have h22 : 0 ≤ z20 ∧ z20 ≤ 0 := (vc_X12_pace_7 h21 h19.2.1 h19.2.2.1 hp2 h19.1)
    have h23 : p2 < (1 : Int) ∨ (1000 : Int) < p2 := (h19.2.2.1 (vc_X12_pace_8 h19.2.1 h19.2.2.1 h21 hp2 h22))
    refine mr_iconst (pc := 30) (z := (-1)) dX12_pace_30 ?_
    exact mr_iret dX12_pace_31 rfl (le_t rfl) (le_t rfl) hT mF.refl ⟨(rW (c := (-2147483648)) (d := 2147483647) (rR (x := (-1))) rfl), trivial⟩
  have h24 : 1 ≤ z20 ∧ z20 ≤ 1 := (vc_X12_pace_9 h21 h19.2.1 h19.2.2.1 hp2 h19.1)
  have h25 : (1 : Int) ≤ p2 ∧ p2 ≤ (1000 : Int) := (h19.2.1 (vc_X12_pace_10 h19.2.1 h19.2.2.1 h21 hp2 h24))
  have h26 : 1 ≤ p2 ∧ p2 ≤ 1000 := (vc_X12_pace_11 h25 h19.2.1 h19.2.2.1 hp2 h24)
  refine mr_iload_n (pc := 19) (z := p3) dX12_pace_19 rfl rfl ?_
  refine mr_iconst (pc := 20) (z := 0) dX12_pace_20 ?_
  refine mr_sipush (pc := 21) (z := 1000) dX12_pace_21 (by decide) ?_
  refine mr_cSP (pc := 24) (c_X12_in hw hT hp3 (rW (c := (-2147483648)) (d := 2147483647) (rR (x := 0)) rfl) (rW (c := (-2147483648)) (d := 2147483647) (rR (x := 1000)) rfl)) (gOk _ _ _ _ _) dX12_pace_24 (tX12_in _ _ _ _ _) wS_X12_in wM_X12_18 ⟨le_t rfl, le_t rfl⟩ ⟨le_t rfl, le_t rfl⟩ rfl (le_t rfl) fun z31 h30 => ?_
  refine mr_if_ne (pc := 27) (tgt := 32) dX12_pace_27 (by decide) (r32 h30.1 rfl) (fun h32 => ?_) (fun h32 => ?_)
  · have h33 : 1 ≤ z31 ∧ z31 ≤ 1 := (vc_X12_pace_12 h32 h30.2.1 h30.2.2.1 hp3 h30.1)
    have h34 : (0 : Int) ≤ p3 ∧ p3 ≤ (1000 : Int) := (h30.2.1 (vc_X12_pace_13 h30.2.1 h30.2.2.1 h32 hp3 h33))
    have h35 : 0 ≤ p3 ∧ p3 ≤ 1000 := (vc_X12_pace_14 h34 h30.2.1 h30.2.2.1 hp3 h33)
    refine sv_aload_n (pc := 32) dX12_pace_32 rfl rfl ?_
    refine gf_X12_10 (pc := 33) dX12_pace_33 wF_X12_57 (A_106 hw) hT ?_
    refine mr_iload_n (pc := 36) (z := p1) dX12_pace_36 rfl rfl ?_
    refine mr_iload_n (pc := 37) (z := p2) dX12_pace_37 rfl rfl ?_
    refine ss_113 (pc := 38) dX12_pace_38 (A_113 hw) hT (rIx (n := 20) h14 rfl) (rW (c := 0) (d := 1000) h26 rfl) fun μ36 u37 T38 => ?_
    refine sv_aload_n (pc := 39) dX12_pace_39 rfl rfl ?_
    refine gf_X12_11 (pc := 40) dX12_pace_40 wF_X12_60 (A_106 hw) T38 ?_
    refine mr_iload_n (pc := 43) (z := p1) dX12_pace_43 rfl rfl ?_
    refine mr_iload_n (pc := 44) (z := p3) dX12_pace_44 rfl rfl ?_
    refine ss_114 (pc := 45) dX12_pace_45 (A_114 hw) T38 (rIx (n := 20) h14 rfl) h35 fun μ39 u40 T41 => ?_
    refine mr_iconst (pc := 46) (z := 0) dX12_pace_46 ?_
    exact mr_iret dX12_pace_47 rfl (le_t rfl) (le_t rfl) T41 (mF.up (mF.up mF.refl (A_113 hw) u37 rfl) (A_114 hw) u40 rfl) ⟨(rW (c := (-2147483648)) (d := 2147483647) (rR (x := 0)) rfl), trivial⟩
  have h42 : 0 ≤ z31 ∧ z31 ≤ 0 := (vc_X12_pace_15 h32 h30.2.1 h30.2.2.1 hp3 h30.1)
  have h43 : p3 < (0 : Int) ∨ (1000 : Int) < p3 := (h30.2.2.1 (vc_X12_pace_16 h30.2.1 h30.2.2.1 h32 hp3 h42))
  refine mr_iconst (pc := 30) (z := (-1)) dX12_pace_30 ?_
  exact mr_iret dX12_pace_31 rfl (le_t rfl) (le_t rfl) hT mF.refl ⟨(rW (c := (-2147483648)) (d := 2147483647) (rR (x := (-1))) rfl), trivial⟩
theorem vc_X12_ring_1 {p1 : Int} (h0 : 0 ≤ p1) (h1 : (-2147483648) ≤ p1 ∧ p1 ≤ 2147483647) : 0 ≤ p1 ∧ p1 ≤ 2147483647 := by omega
theorem vc_X12_ring_2 {z6390 : Int} (h0 : (11 - z6390) < ((0 : Nat) : Int)) (h1 : 0 ≤ z6390 ∧ z6390 ≤ 10) : False := by omega
theorem vc_X12_ring_3 {z6390 z6399 : Int} (h0 : z6390 < z6399) (h1 : 0 ≤ z6390 ∧ z6390 ≤ 10) (h2 : 0 ≤ z6399 ∧ z6399 ≤ 10) : 0 ≤ z6390 ∧ z6390 ≤ 9 := by omega
theorem vc_X12_ring_4 {z6390 z6399 : Int} (h0 : z6390 < z6399) (h1 : 0 ≤ z6390 ∧ z6390 ≤ 9) (h2 : 0 ≤ z6399 ∧ z6399 ≤ 10) : 1 ≤ z6399 ∧ z6399 ≤ 10 := by omega
theorem vc_X12_ring_5 {z7324 : Int} (h0 : (11 - z7324) < ((0 : Nat) : Int)) (h1 : 0 ≤ z7324 ∧ z7324 ≤ 10) : False := by omega
theorem vc_X12_ring_6 {z7324 : Int} (h0 : 10 ≤ z7324) (h1 : 0 ≤ z7324 ∧ z7324 ≤ 10) : 10 ≤ z7324 ∧ z7324 ≤ 10 := by omega
theorem vc_X12_ring_7 {z8858 : Int} (h0 : (12 - z8858) < ((0 : Nat) : Int)) (h1 : 1 ≤ z8858 ∧ z8858 ≤ 11) : False := by omega
theorem vc_X12_ring_8 {z6390 z6399 z8858 : Int} (h0 : z6399 < z8858) (h1 : z6390 < z6399) (h2 : 0 ≤ z6390 ∧ z6390 ≤ 9) (h3 : 1 ≤ z6399 ∧ z6399 ≤ 10) (h4 : 1 ≤ z8858 ∧ z8858 ≤ 11) : 2 ≤ z8858 ∧ z8858 ≤ 11 := by omega
theorem vc_X12_ring_9 {z8999 : Int} (h0 : z8999 = -99999999 ∨ (0 ≤ z8999 ∧ z8999 ≤ 10)) : -99999999 ≤ z8999 ∧ z8999 ≤ 10 := by omega
theorem vc_X12_ring_10 {z8999 : Int} (h0 : ¬ z8999 = (-99999999)) (h1 : (-99999999) ≤ z8999 ∧ z8999 ≤ 10) (h2 : z8999 = -99999999 ∨ (0 ≤ z8999 ∧ z8999 ≤ 10)) : 0 ≤ z8999 ∧ z8999 ≤ 10 := by omega
theorem vc_X12_ring_11 {p1 z8999 : Int} (h0 : p1 < z8999) (h1 : 0 ≤ p1) (h2 : ¬ z8999 = (-99999999)) (h3 : 0 ≤ p1 ∧ p1 ≤ 2147483647) (h4 : 0 ≤ z8999 ∧ z8999 ≤ 10) (h5 : z8999 = -99999999 ∨ (0 ≤ z8999 ∧ z8999 ≤ 10)) : 0 ≤ p1 ∧ p1 ≤ 9 := by omega
theorem vc_X12_ring_12 {p1 z8999 : Int} (h0 : p1 < z8999) (h1 : 0 ≤ p1) (h2 : ¬ z8999 = (-99999999)) (h3 : 0 ≤ p1 ∧ p1 ≤ 9) (h4 : 0 ≤ z8999 ∧ z8999 ≤ 10) (h5 : z8999 = -99999999 ∨ (0 ≤ z8999 ∧ z8999 ≤ 10)) : 1 ≤ z8999 ∧ z8999 ≤ 10 := by omega
theorem vc_X12_ring_13 {z9248 : Int} (h0 : (10 - z9248) < ((0 : Nat) : Int)) (h1 : 0 ≤ z9248 ∧ z9248 ≤ 9) : False := by omega
theorem vc_X12_ring_14 {p1 z8999 z9248 : Int} (h0 : z9248 < p1) (h1 : 0 ≤ p1) (h2 : p1 < z8999) (h3 : 0 ≤ p1 ∧ p1 ≤ 9) (h4 : 1 ≤ z8999 ∧ z8999 ≤ 10) (h5 : z8999 = -99999999 ∨ (0 ≤ z8999 ∧ z8999 ≤ 10)) (h6 : 0 ≤ z9248 ∧ z9248 ≤ 9) : 0 ≤ z9248 ∧ z9248 ≤ 8 := by omega
theorem vc_X12_ring_15 {p1 z8999 z9248 : Int} (h0 : z9248 < p1) (h1 : 0 ≤ p1) (h2 : p1 < z8999) (h3 : 0 ≤ p1 ∧ p1 ≤ 9) (h4 : 1 ≤ z8999 ∧ z8999 ≤ 10) (h5 : z8999 = -99999999 ∨ (0 ≤ z8999 ∧ z8999 ≤ 10)) (h6 : 0 ≤ z9248 ∧ z9248 ≤ 8) : 1 ≤ p1 ∧ p1 ≤ 9 := by omega
theorem vc_X12_ring_16 {z9421 : Int} (h0 : (11 - z9421) < ((0 : Nat) : Int)) (h1 : 0 ≤ z9421 ∧ z9421 ≤ 10) : False := by omega
theorem vc_X12_ring_17 {z6390 z6399 z8858 z9421 : Int} (h0 : z6399 ≤ z9421) (h1 : z6390 < z6399) (h2 : z6399 < z8858) (h3 : 0 ≤ z6390 ∧ z6390 ≤ 9) (h4 : 1 ≤ z6399 ∧ z6399 ≤ 10) (h5 : 2 ≤ z8858 ∧ z8858 ≤ 11) (h6 : 0 ≤ z9421 ∧ z9421 ≤ 10) : 1 ≤ z9421 ∧ z9421 ≤ 10 := by omega
theorem vc_X12_ring_18 {N p1 z8999 z9248 : Int} (h0 : (10 - z9248) < N + 1) (h1 : z9248 < p1) (h2 : 0 ≤ p1) (h3 : p1 < z8999) (h4 : 1 ≤ p1 ∧ p1 ≤ 9) (h5 : 1 ≤ z8999 ∧ z8999 ≤ 10) (h6 : z8999 = -99999999 ∨ (0 ≤ z8999 ∧ z8999 ≤ 10)) (h7 : 0 ≤ z9248 ∧ z9248 ≤ 8) : (10 - (z9248 + 1)) < N := by omega
theorem vc_X12_ring_19 {z6390 z6399 z8858 z9421 : Int} (h0 : z9421 < z6399) (h1 : z6390 < z6399) (h2 : z6399 < z8858) (h3 : 0 ≤ z6390 ∧ z6390 ≤ 9) (h4 : 1 ≤ z6399 ∧ z6399 ≤ 10) (h5 : 2 ≤ z8858 ∧ z8858 ≤ 11) (h6 : 0 ≤ z9421 ∧ z9421 ≤ 10) : 0 ≤ z9421 ∧ z9421 ≤ 9 := by omega
theorem vc_X12_ring_20 {z9422 : Int} (h0 : ¬ z9422 = (-99999999)) (h1 : (-99999999) ≤ z9422 ∧ z9422 ≤ 9) : (-99999998) ≤ z9422 ∧ z9422 ≤ 9 := by omega
theorem vc_X12_ring_21 {z9422 : Int} (h0 : z9422 = (-99999999)) (h1 : (-99999999) ≤ z9422 ∧ z9422 ≤ 9) : (-99999999) ≤ z9422 ∧ z9422 ≤ (-99999999) := by omega
theorem vc_X12_ring_22 {z9471 : Int} (h0 : z9471 = 0) (h1 : 0 ≤ z9471 ∧ z9471 ≤ 1) : 0 ≤ z9471 ∧ z9471 ≤ 0 := by omega
theorem vc_X12_ring_23 {N z6390 z6399 z8858 z9421 : Int} (h0 : (11 - z9421) < N + 1) (h1 : z9421 < z6399) (h2 : z6390 < z6399) (h3 : z6399 < z8858) (h4 : 0 ≤ z6390 ∧ z6390 ≤ 9) (h5 : 1 ≤ z6399 ∧ z6399 ≤ 10) (h6 : 2 ≤ z8858 ∧ z8858 ≤ 11) (h7 : 0 ≤ z9421 ∧ z9421 ≤ 9) : (11 - (z9421 + 1)) < N := by omega
theorem vc_X12_ring_24 {z9471 : Int} (h0 : ¬ z9471 = 0) (h1 : 0 ≤ z9471 ∧ z9471 ≤ 1) : 1 ≤ z9471 ∧ z9471 ≤ 1 := by omega
theorem vc_X12_ring_25 {z9482 : Int} (h0 : z9482 = -99999999 ∨ (0 ≤ z9482 ∧ z9482 ≤ 10)) : -99999999 ≤ z9482 ∧ z9482 ≤ 10 := by omega
theorem vc_X12_ring_26 {p1 z8999 z9248 z9482 : Int} (h0 : z9482 = ((z8999 - z9248) - 1)) (h1 : ¬ z8999 = (-99999999)) (h2 : p1 < z8999) (h3 : z9248 < p1) (h4 : 1 ≤ p1 ∧ p1 ≤ 9) (h5 : 1 ≤ z8999 ∧ z8999 ≤ 10) (h6 : z8999 = -99999999 ∨ (0 ≤ z8999 ∧ z8999 ≤ 10)) (h7 : 0 ≤ z9248 ∧ z9248 ≤ 8) (h8 : (-99999999) ≤ z9482 ∧ z9482 ≤ 10) (h9 : z9482 = -99999999 ∨ (0 ≤ z9482 ∧ z9482 ≤ 10)) : 0 ≤ z9482 ∧ z9482 ≤ 9 := by omega
theorem vc_X12_ring_27  : (11 - 0) < ((12 : Nat) : Int) := by omega
theorem vc_X12_ring_28  : (10 - 0) < ((11 : Nat) : Int) := by omega
theorem vc_X12_ring_29 {z8999 : Int} (h0 : z8999 = (-99999999)) (h1 : (-99999999) ≤ z8999 ∧ z8999 ≤ 10) (h2 : z8999 = -99999999 ∨ (0 ≤ z8999 ∧ z8999 ≤ 10)) : (-99999999) ≤ z8999 ∧ z8999 ≤ (-99999999) := by omega
theorem vc_X12_ring_30 {N z6390 z6399 z8858 : Int} (h0 : (11 - z6390) < N + 1) (h1 : z6390 < z6399) (h2 : z6399 < z8858) (h3 : 0 ≤ z6390 ∧ z6390 ≤ 9) (h4 : 1 ≤ z6399 ∧ z6399 ≤ 10) (h5 : 2 ≤ z8858 ∧ z8858 ≤ 11) : (11 - (z6390 + 1)) < N := by omega
theorem vc_X12_ring_31 {z6390 z6399 z8858 : Int} (h0 : z8858 ≤ z6399) (h1 : z6390 < z6399) (h2 : 0 ≤ z6390 ∧ z6390 ≤ 9) (h3 : 1 ≤ z6399 ∧ z6399 ≤ 10) (h4 : 1 ≤ z8858 ∧ z8858 ≤ 11) : 1 ≤ z8858 ∧ z8858 ≤ 10 := by omega
theorem vc_X12_ring_32 {z9937 : Int} (h0 : (11 - z9937) < ((0 : Nat) : Int)) (h1 : 0 ≤ z9937 ∧ z9937 ≤ 10) : False := by omega
theorem vc_X12_ring_33 {z6390 z6399 z8858 z9937 : Int} (h0 : z6399 ≤ z9937) (h1 : z6390 < z6399) (h2 : z8858 ≤ z6399) (h3 : 0 ≤ z6390 ∧ z6390 ≤ 9) (h4 : 1 ≤ z6399 ∧ z6399 ≤ 10) (h5 : 1 ≤ z8858 ∧ z8858 ≤ 10) (h6 : 0 ≤ z9937 ∧ z9937 ≤ 10) : 1 ≤ z9937 ∧ z9937 ≤ 10 := by omega
theorem vc_X12_ring_34 {N z6390 z6399 z8858 z9937 : Int} (h0 : (12 - z8858) < N + 1) (h1 : z8858 ≤ z6399) (h2 : z6390 < z6399) (h3 : z6399 ≤ z9937) (h4 : 0 ≤ z6390 ∧ z6390 ≤ 9) (h5 : 1 ≤ z6399 ∧ z6399 ≤ 10) (h6 : 1 ≤ z8858 ∧ z8858 ≤ 10) (h7 : 1 ≤ z9937 ∧ z9937 ≤ 10) : (12 - (z8858 + 1)) < N := by omega
theorem vc_X12_ring_35 {z6390 z6399 z8858 z9937 : Int} (h0 : z9937 < z6399) (h1 : z6390 < z6399) (h2 : z8858 ≤ z6399) (h3 : 0 ≤ z6390 ∧ z6390 ≤ 9) (h4 : 1 ≤ z6399 ∧ z6399 ≤ 10) (h5 : 1 ≤ z8858 ∧ z8858 ≤ 10) (h6 : 0 ≤ z9937 ∧ z9937 ≤ 10) : 0 ≤ z9937 ∧ z9937 ≤ 9 := by omega
theorem vc_X12_ring_36 {z10224 : Int} (h0 : (11 - z10224) < ((0 : Nat) : Int)) (h1 : 0 ≤ z10224 ∧ z10224 ≤ 10) : False := by omega
theorem vc_X12_ring_37 {z10224 z6390 z6399 z8858 z9937 : Int} (h0 : z6399 ≤ z10224) (h1 : z6390 < z6399) (h2 : z8858 ≤ z6399) (h3 : z9937 < z6399) (h4 : 0 ≤ z10224 ∧ z10224 ≤ 10) (h5 : 0 ≤ z6390 ∧ z6390 ≤ 9) (h6 : 1 ≤ z6399 ∧ z6399 ≤ 10) (h7 : 1 ≤ z8858 ∧ z8858 ≤ 10) (h8 : 0 ≤ z9937 ∧ z9937 ≤ 9) : 1 ≤ z10224 ∧ z10224 ≤ 10 := by omega
theorem vc_X12_ring_38 {N z10224 z6390 z6399 z8858 z9937 : Int} (h0 : (11 - z9937) < N + 1) (h1 : z9937 < z6399) (h2 : z6390 < z6399) (h3 : z8858 ≤ z6399) (h4 : z6399 ≤ z10224) (h5 : 1 ≤ z10224 ∧ z10224 ≤ 10) (h6 : 0 ≤ z6390 ∧ z6390 ≤ 9) (h7 : 1 ≤ z6399 ∧ z6399 ≤ 10) (h8 : 1 ≤ z8858 ∧ z8858 ≤ 10) (h9 : 0 ≤ z9937 ∧ z9937 ≤ 9) : (11 - (z9937 + 1)) < N := by omega
theorem vc_X12_ring_39 {z10224 z6390 z6399 z8858 z9937 : Int} (h0 : z10224 < z6399) (h1 : z6390 < z6399) (h2 : z8858 ≤ z6399) (h3 : z9937 < z6399) (h4 : 0 ≤ z10224 ∧ z10224 ≤ 10) (h5 : 0 ≤ z6390 ∧ z6390 ≤ 9) (h6 : 1 ≤ z6399 ∧ z6399 ≤ 10) (h7 : 1 ≤ z8858 ∧ z8858 ≤ 10) (h8 : 0 ≤ z9937 ∧ z9937 ≤ 9) : 0 ≤ z10224 ∧ z10224 ≤ 9 := by omega
theorem vc_X12_ring_40 {z10264 : Int} (h0 : z10264 = -99999999 ∨ (0 ≤ z10264 ∧ z10264 ≤ 10)) : -99999999 ≤ z10264 ∧ z10264 ≤ 10 := by omega
theorem vc_X12_ring_41 {z10264 : Int} (h0 : ¬ z10264 = (-99999999)) (h1 : (-99999999) ≤ z10264 ∧ z10264 ≤ 10) (h2 : z10264 = -99999999 ∨ (0 ≤ z10264 ∧ z10264 ≤ 10)) : 0 ≤ z10264 ∧ z10264 ≤ 10 := by omega
theorem vc_X12_ring_42 {N z10224 z6390 z6399 z8858 z9937 : Int} (h0 : (11 - z9937) < N + 1) (h1 : z9937 < z6399) (h2 : z6390 < z6399) (h3 : z8858 ≤ z6399) (h4 : z10224 < z6399) (h5 : 0 ≤ z10224 ∧ z10224 ≤ 9) (h6 : 0 ≤ z6390 ∧ z6390 ≤ 9) (h7 : 1 ≤ z6399 ∧ z6399 ≤ 10) (h8 : 1 ≤ z8858 ∧ z8858 ≤ 10) (h9 : 0 ≤ z9937 ∧ z9937 ≤ 9) : (11 - (z9937 + 1)) < N := by omega
theorem vc_X12_ring_43 {z10264 : Int} (h0 : z10264 = (-99999999)) (h1 : (-99999999) ≤ z10264 ∧ z10264 ≤ 10) (h2 : z10264 = -99999999 ∨ (0 ≤ z10264 ∧ z10264 ≤ 10)) : (-99999999) ≤ z10264 ∧ z10264 ≤ (-99999999) := by omega
theorem vc_X12_ring_44 {z10297 : Int} (h0 : z10297 = 0) (h1 : 0 ≤ z10297 ∧ z10297 ≤ 1) : 0 ≤ z10297 ∧ z10297 ≤ 0 := by omega
theorem vc_X12_ring_45 {N z10224 z6390 z6399 z8858 z9937 : Int} (h0 : (11 - z10224) < N + 1) (h1 : z10224 < z6399) (h2 : z6390 < z6399) (h3 : z8858 ≤ z6399) (h4 : z9937 < z6399) (h5 : 0 ≤ z10224 ∧ z10224 ≤ 9) (h6 : 0 ≤ z6390 ∧ z6390 ≤ 9) (h7 : 1 ≤ z6399 ∧ z6399 ≤ 10) (h8 : 1 ≤ z8858 ∧ z8858 ≤ 10) (h9 : 0 ≤ z9937 ∧ z9937 ≤ 9) : (11 - (z10224 + 1)) < N := by omega
theorem vc_X12_ring_46 {z10297 : Int} (h0 : ¬ z10297 = 0) (h1 : 0 ≤ z10297 ∧ z10297 ≤ 1) : 1 ≤ z10297 ∧ z10297 ≤ 1 := by omega
theorem vc_X12_ring_47 {z6399 z8858 : Int} (h0 : ¬ z8858 = 1) (h1 : z8858 ≤ z6399) (h2 : 1 ≤ z6399 ∧ z6399 ≤ 10) (h3 : 1 ≤ z8858 ∧ z8858 ≤ 10) : 2 ≤ z8858 ∧ z8858 ≤ 10 := by omega
theorem vc_X12_ring_48 {z10331 : Int} (h0 : z10331 = -99999999 ∨ (0 ≤ z10331 ∧ z10331 ≤ 10)) : -99999999 ≤ z10331 ∧ z10331 ≤ 10 := by omega
theorem vc_X12_ring_49 {N z10224 z6390 z6399 z8858 z9937 : Int} (h0 : (11 - z10224) < N + 1) (h1 : z10224 < z6399) (h2 : z6390 < z6399) (h3 : z8858 ≤ z6399) (h4 : z9937 < z6399) (h5 : 0 ≤ z10224 ∧ z10224 ≤ 9) (h6 : 0 ≤ z6390 ∧ z6390 ≤ 9) (h7 : 1 ≤ z6399 ∧ z6399 ≤ 10) (h8 : 2 ≤ z8858 ∧ z8858 ≤ 10) (h9 : 0 ≤ z9937 ∧ z9937 ≤ 9) : (11 - (z10224 + 1)) < N := by omega
theorem vc_X12_ring_50 {z10331 z6399 z8858 : Int} (h0 : z10331 = (z8858 - 1)) (h1 : z8858 ≤ z6399) (h2 : ¬ z8858 = 1) (h3 : (-99999999) ≤ z10331 ∧ z10331 ≤ 10) (h4 : z10331 = -99999999 ∨ (0 ≤ z10331 ∧ z10331 ≤ 10)) (h5 : 1 ≤ z6399 ∧ z6399 ≤ 10) (h6 : 2 ≤ z8858 ∧ z8858 ≤ 10) : 1 ≤ z10331 ∧ z10331 ≤ 9 := by omega
theorem vc_X12_ring_51 {z10224 z10331 z6390 z6399 z8858 z9937 : Int} (h0 : z8858 ≤ z6399) (h1 : ¬ z8858 = 1) (h2 : z10331 = (z8858 - 1)) (h3 : z6390 < z6399) (h4 : z9937 < z6399) (h5 : z10224 < z6399) (h6 : 0 ≤ z10224 ∧ z10224 ≤ 9) (h7 : 1 ≤ z10331 ∧ z10331 ≤ 9) (h8 : z10331 = -99999999 ∨ (0 ≤ z10331 ∧ z10331 ≤ 10)) (h9 : 0 ≤ z6390 ∧ z6390 ≤ 9) (h10 : 1 ≤ z6399 ∧ z6399 ≤ 10) (h11 : 2 ≤ z8858 ∧ z8858 ≤ 10) (h12 : 0 ≤ z9937 ∧ z9937 ≤ 9) : z8858 = -99999999 ∨ (0 ≤ z8858 ∧ z8858 ≤ 10) := by omega
theorem vc_X12_ring_52 {z6399 z8858 : Int} (h0 : z8858 = 1) (h1 : z8858 ≤ z6399) (h2 : 1 ≤ z6399 ∧ z6399 ≤ 10) (h3 : 1 ≤ z8858 ∧ z8858 ≤ 10) : 1 ≤ z8858 ∧ z8858 ≤ 1 := by omega
theorem vc_X12_ring_53 {N z10224 z6390 z6399 z8858 z9937 : Int} (h0 : (11 - z10224) < N + 1) (h1 : z10224 < z6399) (h2 : ¬ z10224 = z6390) (h3 : z6390 < z6399) (h4 : z8858 ≤ z6399) (h5 : z9937 < z6399) (h6 : 0 ≤ z10224 ∧ z10224 ≤ 9) (h7 : 0 ≤ z6390 ∧ z6390 ≤ 9) (h8 : 1 ≤ z6399 ∧ z6399 ≤ 10) (h9 : 1 ≤ z8858 ∧ z8858 ≤ 1) (h10 : 0 ≤ z9937 ∧ z9937 ≤ 9) : (11 - (z10224 + 1)) < N := by omega
theorem vc_X12_ring_54 {z10224 z6390 z6399 z8858 z9937 : Int} (h0 : z8858 ≤ z6399) (h1 : z8858 = 1) (h2 : z6390 < z6399) (h3 : z9937 < z6399) (h4 : z10224 < z6399) (h5 : 0 ≤ z10224 ∧ z10224 ≤ 9) (h6 : 0 ≤ z6390 ∧ z6390 ≤ 9) (h7 : 1 ≤ z6399 ∧ z6399 ≤ 10) (h8 : 1 ≤ z8858 ∧ z8858 ≤ 1) (h9 : 0 ≤ z9937 ∧ z9937 ≤ 9) : z8858 = -99999999 ∨ (0 ≤ z8858 ∧ z8858 ≤ 10) := by omega
theorem vc_X12_ring_55 {N z10224 z6390 z6399 z8858 z9937 : Int} (h0 : (11 - z10224) < N + 1) (h1 : z10224 < z6399) (h2 : z10224 = z6390) (h3 : z6390 < z6399) (h4 : z8858 ≤ z6399) (h5 : z9937 < z6399) (h6 : 0 ≤ z10224 ∧ z10224 ≤ 9) (h7 : 0 ≤ z6390 ∧ z6390 ≤ 9) (h8 : 1 ≤ z6399 ∧ z6399 ≤ 10) (h9 : 1 ≤ z8858 ∧ z8858 ≤ 1) (h10 : 0 ≤ z9937 ∧ z9937 ≤ 9) : (11 - (z10224 + 1)) < N := by omega
theorem vc_X12_ring_56  : (12 - 1) < ((12 : Nat) : Int) := by omega
theorem vc_X12_ring_57 {z7324 : Int} (h0 : z7324 < 10) (h1 : 0 ≤ z7324 ∧ z7324 ≤ 10) : 0 ≤ z7324 ∧ z7324 ≤ 9 := by omega
theorem vc_X12_ring_58  : ((-99999999) : Int) = -(99999999 : Int) ∨ ((0 : Int) ≤ ((-99999999) : Int) ∧ ((-99999999) : Int) ≤ (10 : Int)) := by omega
theorem vc_X12_ring_59 {N z7324 : Int} (h0 : (11 - z7324) < N + 1) (h1 : z7324 < 10) (h2 : 0 ≤ z7324 ∧ z7324 ≤ 9) : (11 - (z7324 + 1)) < N := by omega
theorem vc_X12_ring_60 {p1 : Int} (h0 : p1 < 0) (h1 : (-2147483648) ≤ p1 ∧ p1 ≤ 2147483647) : (-2147483648) ≤ p1 ∧ p1 ≤ (-1) := by omega
set_option maxRecDepth 4000 in
set_option maxHeartbeats 4000000 in
theorem c_X12_ring {l : Launch} {D : va_G} {c : Nat → ClassId} {H0 : Heap} {sa : Nat × Nat × (Nat → Int32)} {w : mW} {μ : mM} (hw : mWF w) (hT : mT w μ) {p1 : Int} (hp1 : (-2147483648) ≤ p1 ∧ p1 ≤ 2147483647) : sC (gG l D c H0 sa) mX12_ring 3 0 0 [.ref 106, iv p1] (mk w μ) (qI w [117999] μ (fun z μ1 => ((-2147483648) ≤ z ∧ z ≤ 2147483647) ∧ True)) := by
  refine sC.of rfl (by decide) (le_t rfl) ?_
  refine mr_lvE (lv' := [(0, .ref 106), (1, iv p1)]) rfl ?_
  refine mr_iload_n (pc := 0) (z := p1) dX12_ring_0 rfl rfl ?_
  refine mr_if_ge (pc := 1) (tgt := 7) dX12_ring_1 (by decide) hp1 (fun h1 => ?_) (fun h1 => ?_)
  · have h2 : 0 ≤ p1 ∧ p1 ≤ 2147483647 := (vc_X12_ring_1 h1 hp1)
    refine mr_iconst (pc := 7) (z := 0) dX12_ring_7 ?_
    refine mr_istore_n (pc := 8) (lv' := [(2, iv 0), (0, .ref 106), (1, iv p1)]) dX12_ring_8 rfl (by decide) rfl ?_
    have L6392 : ∀ (nL6392 : Nat) (z6390 : Int) (μ6391 : mM), mT w μ6391 → mF [117999] w μ μ6391 → (0 ≤ z6390 ∧ z6390 ≤ 10) → (11 - z6390) < (nL6392 : Int) → sV (gG l D c H0 sa) mX12_ring (sRm 3 0 0) (sZ (gG l D c H0 sa) 0 0 (qI w [117999] μ (fun z μ1 => ((-2147483648) ≤ z ∧ z ≤ 2147483647) ∧ True))) 9 [(0, .ref 106), (1, iv p1), (2, iv z6390)] [] (mk w μ6391) 0 0 := by
      intro nL6392
      induction nL6392 with
      | zero => intro z6390 μ6391 T6394 F6395 h6393 h6397; exact ((vc_X12_ring_2 h6397 h6393)).elim
      | succ nL6392 ih6398 =>
        intro z6390 μ6391 T6394 F6395 h6393 h6397
        refine mr_iload_n (pc := 9) (z := z6390) dX12_ring_9 rfl rfl ?_
        refine sv_aload_n (pc := 10) dX12_ring_10 rfl rfl ?_
        refine gf_X12_5 (pc := 11) dX12_ring_11 wF_X12_34 (A_106 hw) T6394 fun z6399 q6400 h6401 => ?_
        refine mr_icmp_ge (pc := 14) (tgt := 272) dX12_ring_14 (by decide) (r32 h6393 rfl) (r32 h6401 rfl) (fun h6402 => ?_) (fun h6402 => ?_)
        · refine mr_ldc (pc := 272) (z := (-99999999)) dX12_ring_272 wG_X12_29 (by decide) ?_
          exact mr_iret dX12_ring_274 rfl (le_t rfl) (le_t rfl) T6394 (mF.call mF.refl F6395 rfl) ⟨(rW (c := (-2147483648)) (d := 2147483647) (rR (x := (-99999999))) rfl), trivial⟩
        have h6403 : 0 ≤ z6390 ∧ z6390 ≤ 9 := (vc_X12_ring_3 h6402 h6393 h6401)
        have h6404 : 1 ≤ z6399 ∧ z6399 ≤ 10 := (vc_X12_ring_4 h6402 h6403 h6401)
        refine mr_iconst (pc := 17) (z := 0) dX12_ring_17 ?_
        refine mr_istore_n (pc := 18) (lv' := [(3, iv 0), (0, .ref 106), (1, iv p1), (2, iv z6390)]) dX12_ring_18 rfl (by decide) rfl ?_
        have L7326 : ∀ (nL7326 : Nat) (z7324 : Int) (μ7325 : mM), mT w μ7325 → mF [117999] w μ6391 μ7325 → (0 ≤ z7324 ∧ z7324 ≤ 10) → (11 - z7324) < (nL7326 : Int) → sV (gG l D c H0 sa) mX12_ring (sRm 3 0 0) (sZ (gG l D c H0 sa) 0 0 (qI w [117999] μ (fun z μ1 => ((-2147483648) ≤ z ∧ z ≤ 2147483647) ∧ True))) 19 [(0, .ref 106), (1, iv p1), (2, iv z6390), (3, iv z7324)] [] (mk w μ7325) 0 0 := by
          intro nL7326
          induction nL7326 with
          | zero => intro z7324 μ7325 T7328 F7329 h7327 h7331; exact ((vc_X12_ring_5 h7331 h7327)).elim
          | succ nL7326 ih7332 =>
            intro z7324 μ7325 T7328 F7329 h7327 h7331
            refine mr_iload_n (pc := 19) (z := z7324) dX12_ring_19 rfl rfl ?_
            refine mr_bipush (pc := 20) (z := 10) dX12_ring_20 (by decide) ?_
            refine mr_icmp_ge (pc := 22) (tgt := 39) dX12_ring_22 (by decide) (r32 h7327 rfl) (r32 (rR (x := 10)) rfl) (fun h7338 => ?_) (fun h7338 => ?_)
            · have h7339 : 10 ≤ z7324 ∧ z7324 ≤ 10 := (vc_X12_ring_6 h7338 h7327)
              refine mr_iconst (pc := 39) (z := 1) dX12_ring_39 ?_
              refine mr_istore_n (pc := 40) (lv' := [(3, iv 1), (0, .ref 106), (1, iv p1), (2, iv z6390)]) dX12_ring_40 rfl (by decide) rfl ?_
              have L8860 : ∀ (nL8860 : Nat) (z8858 : Int) (μ8859 : mM), mT w μ8859 → mF [117999] w μ7325 μ8859 → (1 ≤ z8858 ∧ z8858 ≤ 11) → (12 - z8858) < (nL8860 : Int) → sV (gG l D c H0 sa) mX12_ring (sRm 3 0 0) (sZ (gG l D c H0 sa) 0 0 (qI w [117999] μ (fun z μ1 => ((-2147483648) ≤ z ∧ z ≤ 2147483647) ∧ True))) 41 [(0, .ref 106), (1, iv p1), (2, iv z6390), (3, iv z8858)] [] (mk w μ8859) 0 0 := by
                intro nL8860
                induction nL8860 with
                | zero => intro z8858 μ8859 T8862 F8863 h8861 h8865; exact ((vc_X12_ring_7 h8865 h8861)).elim
                | succ nL8860 ih8866 =>
                  intro z8858 μ8859 T8862 F8863 h8861 h8865
                  refine mr_iload_n (pc := 41) (z := z8858) dX12_ring_41 rfl rfl ?_
                  refine sv_aload_n (pc := 42) dX12_ring_42 rfl rfl ?_
                  refine gk_X12_5 (pc := 43) dX12_ring_43 wF_X12_34 (A_106 hw) (F8863.f (A_106 hw) rfl (F7329.f (A_106 hw) rfl q6400)) ?_
                  refine mr_icmp_gt (pc := 46) (tgt := 149) dX12_ring_46 (by decide) (r32 h8861 rfl) (r32 h6404 rfl) (fun h8997 => ?_) (fun h8997 => ?_)
                  · have h8998 : 2 ≤ z8858 ∧ z8858 ≤ 11 := (vc_X12_ring_8 h8997 h6402 h6403 h6404 h8861)
                    refine sv_aload_n (pc := 149) dX12_ring_149 rfl rfl ?_
                    refine gf_X12_14 (pc := 150) dX12_ring_150 wF_X12_72 (A_106 hw) T8862 ?_
                    refine mr_iload_n (pc := 153) (z := z6390) dX12_ring_153 rfl rfl ?_
                    refine la_117 (pc := 154) dX12_ring_154 (A_117 hw) T8862 (rIx (n := 10) h6403 rfl) fun z8999 q9000 h9001 => ?_
                    have h9002 : (-99999999) ≤ z8999 ∧ z8999 ≤ 10 := (vc_X12_ring_9 h9001)
                    refine mr_ldc (pc := 155) (z := (-99999999)) dX12_ring_155 wG_X12_29 (by decide) ?_
                    refine mr_icmp_ne (pc := 157) (tgt := 163) dX12_ring_157 (by decide) (r32 h9002 rfl) (r32 (rR (x := (-99999999))) rfl) (fun h9003 => ?_) (fun h9003 => ?_)
                    · have h9004 : 0 ≤ z8999 ∧ z8999 ≤ 10 := (vc_X12_ring_10 h9003 h9002 h9001)
                      refine mr_iload_n (pc := 163) (z := p1) dX12_ring_163 rfl rfl ?_
                      refine sv_aload_n (pc := 164) dX12_ring_164 rfl rfl ?_
                      refine gf_X12_14 (pc := 165) dX12_ring_165 wF_X12_72 (A_106 hw) T8862 ?_
                      refine mr_iload_n (pc := 168) (z := z6390) dX12_ring_168 rfl rfl ?_
                      refine lk_117 (pc := 169) dX12_ring_169 (A_117 hw) (rIx (n := 10) h6403 rfl) q9000 ?_
                      refine mr_icmp_lt (pc := 170) (tgt := 176) dX12_ring_170 (by decide) (r32 h2 rfl) (r32 h9004 rfl) (fun h9005 => ?_) (fun h9005 => ?_)
                      · have h9006 : 0 ≤ p1 ∧ p1 ≤ 9 := (vc_X12_ring_11 h9005 h1 h9003 h2 h9004 h9001)
                        have h9007 : 1 ≤ z8999 ∧ z8999 ≤ 10 := (vc_X12_ring_12 h9005 h1 h9003 h9006 h9004 h9001)
                        refine mr_iload_n (pc := 176) (z := z6390) dX12_ring_176 rfl rfl ?_
                        refine mr_istore_n (pc := 177) (lv' := [(3, iv z6390), (0, .ref 106), (1, iv p1), (2, iv z6390)]) dX12_ring_177 rfl (by decide) rfl ?_
                        refine mr_iconst (pc := 178) (z := 0) dX12_ring_178 ?_
                        refine mr_istore (pc := 179) (lv' := [(4, iv 0), (3, iv z6390), (0, .ref 106), (1, iv p1), (2, iv z6390)]) dX12_ring_179 (by decide) rfl ?_
                        have L9250 : ∀ (nL9250 : Nat) (z9249 z9248 : Int), True → ((-99999999) ≤ z9249 ∧ z9249 ≤ 9) → (0 ≤ z9248 ∧ z9248 ≤ 9) → (10 - z9248) < (nL9250 : Int) → sV (gG l D c H0 sa) mX12_ring (sRm 3 0 0) (sZ (gG l D c H0 sa) 0 0 (qI w [117999] μ (fun z μ1 => ((-2147483648) ≤ z ∧ z ≤ 2147483647) ∧ True))) 181 [(0, .ref 106), (1, iv p1), (2, iv z6390), (3, iv z9249), (4, iv z9248)] [] (mk w μ8859) 0 0 := by
                          intro nL9250
                          induction nL9250 with
                          | zero => intro z9249 z9248 _ h9251 h9252 h9256; exact ((vc_X12_ring_13 h9256 h9252)).elim
                          | succ nL9250 ih9257 =>
                            intro z9249 z9248 _ h9251 h9252 h9256
                            refine mr_iload (pc := 181) (z := z9248) dX12_ring_181 rfl ?_
                            refine mr_iload_n (pc := 183) (z := p1) dX12_ring_183 rfl rfl ?_
                            refine mr_icmp_ge (pc := 184) (tgt := 264) dX12_ring_184 (by decide) (r32 h9252 rfl) (r32 h9006 rfl) (fun h9296 => ?_) (fun h9296 => ?_)
                            · refine mr_iload_n (pc := 264) (z := z9249) dX12_ring_264 rfl rfl ?_
                              exact mr_iret dX12_ring_265 rfl (le_t rfl) (le_t rfl) T8862 (mF.call (mF.call (mF.call mF.refl F6395 rfl) F7329 rfl) F8863 rfl) ⟨(rW (c := (-2147483648)) (d := 2147483647) h9251 rfl), trivial⟩
                            have h9297 : 0 ≤ z9248 ∧ z9248 ≤ 8 := (vc_X12_ring_14 h9296 h1 h9005 h9006 h9007 h9001 h9252)
                            have h9298 : 1 ≤ p1 ∧ p1 ≤ 9 := (vc_X12_ring_15 h9296 h1 h9005 h9006 h9007 h9001 h9297)
                            refine sv_aload_n (pc := 187) dX12_ring_187 rfl rfl ?_
                            refine gf_X12_14 (pc := 188) dX12_ring_188 wF_X12_72 (A_106 hw) T8862 ?_
                            refine mr_iload_n (pc := 191) (z := z6390) dX12_ring_191 rfl rfl ?_
                            refine lk_117 (pc := 192) dX12_ring_192 (A_117 hw) (rIx (n := 10) h6403 rfl) q9000 ?_
                            refine mr_iload (pc := 193) (z := z9248) dX12_ring_193 rfl ?_
                            refine mr_isub (pc := 195) (x := z8999) (y := z9248) dX12_ring_195 ?_
                            refine mr_iconst (pc := 196) (z := 1) dX12_ring_196 ?_
                            refine mr_isub (pc := 197) (x := (z8999 - z9248)) (y := 1) dX12_ring_197 ?_
                            refine mr_istore (pc := 198) (lv' := [(5, iv ((z8999 - z9248) - 1)), (0, .ref 106), (1, iv p1), (2, iv z6390), (3, iv z9249), (4, iv z9248)]) dX12_ring_198 (by decide) rfl ?_
                            refine mr_ldc (pc := 200) (z := (-99999999)) dX12_ring_200 wG_X12_29 (by decide) ?_
                            refine mr_istore (pc := 202) (lv' := [(6, iv (-99999999)), (5, iv ((z8999 - z9248) - 1)), (0, .ref 106), (1, iv p1), (2, iv z6390), (3, iv z9249), (4, iv z9248)]) dX12_ring_202 (by decide) rfl ?_
                            refine mr_iconst (pc := 204) (z := 0) dX12_ring_204 ?_
                            refine mr_istore (pc := 205) (lv' := [(7, iv 0), (6, iv (-99999999)), (5, iv ((z8999 - z9248) - 1)), (0, .ref 106), (1, iv p1), (2, iv z6390), (3, iv z9249), (4, iv z9248)]) dX12_ring_205 (by decide) rfl ?_
                            have L9423 : ∀ (nL9423 : Nat) (z9422 z9421 : Int), True → ((-99999999) ≤ z9422 ∧ z9422 ≤ 9) → (0 ≤ z9421 ∧ z9421 ≤ 10) → (11 - z9421) < (nL9423 : Int) → sV (gG l D c H0 sa) mX12_ring (sRm 3 0 0) (sZ (gG l D c H0 sa) 0 0 (qI w [117999] μ (fun z μ1 => ((-2147483648) ≤ z ∧ z ≤ 2147483647) ∧ True))) 207 [(0, .ref 106), (1, iv p1), (2, iv z6390), (3, iv z9249), (4, iv z9248), (5, iv ((z8999 - z9248) - 1)), (6, iv z9422), (7, iv z9421)] [] (mk w μ8859) 0 0 := by
                              intro nL9423
                              induction nL9423 with
                              | zero => intro z9422 z9421 _ h9424 h9425 h9429; exact ((vc_X12_ring_16 h9429 h9425)).elim
                              | succ nL9423 ih9430 =>
                                intro z9422 z9421 _ h9424 h9425 h9429
                                refine mr_iload (pc := 207) (z := z9421) dX12_ring_207 rfl ?_
                                refine sv_aload_n (pc := 209) dX12_ring_209 rfl rfl ?_
                                refine gk_X12_5 (pc := 210) dX12_ring_210 wF_X12_34 (A_106 hw) (F8863.f (A_106 hw) rfl (F7329.f (A_106 hw) rfl q6400)) ?_
                                refine mr_icmp_ge (pc := 213) (tgt := 255) dX12_ring_213 (by decide) (r32 h9425 rfl) (r32 h6404 rfl) (fun h9447 => ?_) (fun h9447 => ?_)
                                · have h9448 : 1 ≤ z9421 ∧ z9421 ≤ 10 := (vc_X12_ring_17 h9447 h6402 h8997 h6403 h6404 h8998 h9425)
                                  refine mr_iload (pc := 255) (z := z9422) dX12_ring_255 rfl ?_
                                  refine mr_istore_n (pc := 257) (lv' := [(3, iv z9422), (0, .ref 106), (1, iv p1), (2, iv z6390), (4, iv z9248), (5, iv ((z8999 - z9248) - 1)), (6, iv z9422), (7, iv z9421)]) dX12_ring_257 rfl (by decide) rfl ?_
                                  refine mr_iinc (pc := 258) (lv' := [(4, iv (z9248 + 1)), (3, iv z9422), (0, .ref 106), (1, iv p1), (2, iv z6390), (5, iv ((z8999 - z9248) - 1)), (6, iv z9422), (7, iv z9421)]) dX12_ring_258 rfl (by decide) rfl ?_
                                  refine sv_goto (pc := 261) (tgt := 181) dX12_ring_261 (by decide) ?_
                                  refine mr_lvS (lv' := [(0, .ref 106), (1, iv p1), (2, iv z6390), (3, iv z9422), (4, iv (z9248 + 1))]) (List.forall_mem_cons.mpr ⟨rfl, List.forall_mem_cons.mpr ⟨rfl, List.forall_mem_cons.mpr ⟨rfl, List.forall_mem_cons.mpr ⟨rfl, List.forall_mem_cons.mpr ⟨rfl, fun _ h => absurd h List.not_mem_nil⟩⟩⟩⟩⟩) ?_
                                  exact ih9257 z9422 (z9248 + 1) trivial h9424 (rW (c := 0) (d := 9) (rAdd (e := 1) (f := 9) h9297 (rR (x := 1)) rfl) rfl) (vc_X12_ring_18 (nS h9256) h9296 h1 h9005 h9298 h9007 h9001 h9297)
                                have h9449 : 0 ≤ z9421 ∧ z9421 ≤ 9 := (vc_X12_ring_19 h9447 h6402 h8997 h6403 h6404 h8998 h9425)
                                refine mr_iload (pc := 216) (z := z9422) dX12_ring_216 rfl ?_
                                refine mr_ldc (pc := 218) (z := (-99999999)) dX12_ring_218 wG_X12_29 (by decide) ?_
                                refine mr_icmp_ne (pc := 220) (tgt := 255) dX12_ring_220 (by decide) (r32 h9424 rfl) (r32 (rR (x := (-99999999))) rfl) (fun h9464 => ?_) (fun h9464 => ?_)
                                · have h9465 : (-99999998) ≤ z9422 ∧ z9422 ≤ 9 := (vc_X12_ring_20 h9464 h9424)
                                  refine mr_iload (pc := 255) (z := z9422) dX12_ring_255 rfl ?_
                                  refine mr_istore_n (pc := 257) (lv' := [(3, iv z9422), (0, .ref 106), (1, iv p1), (2, iv z6390), (4, iv z9248), (5, iv ((z8999 - z9248) - 1)), (6, iv z9422), (7, iv z9421)]) dX12_ring_257 rfl (by decide) rfl ?_
                                  refine mr_iinc (pc := 258) (lv' := [(4, iv (z9248 + 1)), (3, iv z9422), (0, .ref 106), (1, iv p1), (2, iv z6390), (5, iv ((z8999 - z9248) - 1)), (6, iv z9422), (7, iv z9421)]) dX12_ring_258 rfl (by decide) rfl ?_
                                  refine sv_goto (pc := 261) (tgt := 181) dX12_ring_261 (by decide) ?_
                                  refine mr_lvS (lv' := [(0, .ref 106), (1, iv p1), (2, iv z6390), (3, iv z9422), (4, iv (z9248 + 1))]) (List.forall_mem_cons.mpr ⟨rfl, List.forall_mem_cons.mpr ⟨rfl, List.forall_mem_cons.mpr ⟨rfl, List.forall_mem_cons.mpr ⟨rfl, List.forall_mem_cons.mpr ⟨rfl, fun _ h => absurd h List.not_mem_nil⟩⟩⟩⟩⟩) ?_
                                  exact ih9257 z9422 (z9248 + 1) trivial (rW (c := (-99999999)) (d := 9) h9465 rfl) (rW (c := 0) (d := 9) (rAdd (e := 1) (f := 9) h9297 (rR (x := 1)) rfl) rfl) (vc_X12_ring_18 (nS h9256) h9296 h1 h9005 h9298 h9007 h9001 h9297)
                                have h9466 : (-99999999) ≤ z9422 ∧ z9422 ≤ (-99999999) := (vc_X12_ring_21 h9464 h9424)
                                refine sv_aload_n (pc := 223) dX12_ring_223 rfl rfl ?_
                                refine mr_iload_n (pc := 224) (z := z9249) dX12_ring_224 rfl rfl ?_
                                refine mr_iload (pc := 225) (z := z9421) dX12_ring_225 rfl ?_
                                refine mr_cVP (pc := 227) (c_X12_provides hw T8862 (rW (c := (-2147483648)) (d := 2147483647) h9251 rfl) (rW (c := (-2147483648)) (d := 2147483647) h9449 rfl)) (gOk _ _ _ _ _) dX12_ring_227 (tX12_provides _ _ _ _ _) ⟨wV_X12_provides, wL_X12_provides⟩ wM_X12_75 (gCX12 _ _ _ _ _) rfl (A_106 hw) rfl ⟨le_t rfl, le_t rfl⟩ ⟨le_t rfl, le_t rfl⟩ rfl (le_t rfl) fun z9471 h9470 => ?_
                                refine mr_if_eq (pc := 230) (tgt := 249) dX12_ring_230 (by decide) (r32 h9470.1 rfl) (fun h9479 => ?_) (fun h9479 => ?_)
                                · have h9480 : 0 ≤ z9471 ∧ z9471 ≤ 0 := (vc_X12_ring_22 h9479 h9470.1)
                                  refine mr_iinc (pc := 249) (lv' := [(7, iv (z9421 + 1)), (0, .ref 106), (1, iv p1), (2, iv z6390), (3, iv z9249), (4, iv z9248), (5, iv ((z8999 - z9248) - 1)), (6, iv z9422)]) dX12_ring_249 rfl (by decide) rfl ?_
                                  refine sv_goto (pc := 252) (tgt := 207) dX12_ring_252 (by decide) ?_
                                  refine mr_lvS (lv' := [(0, .ref 106), (1, iv p1), (2, iv z6390), (3, iv z9249), (4, iv z9248), (5, iv ((z8999 - z9248) - 1)), (6, iv z9422), (7, iv (z9421 + 1))]) (List.forall_mem_cons.mpr ⟨rfl, List.forall_mem_cons.mpr ⟨rfl, List.forall_mem_cons.mpr ⟨rfl, List.forall_mem_cons.mpr ⟨rfl, List.forall_mem_cons.mpr ⟨rfl, List.forall_mem_cons.mpr ⟨rfl, List.forall_mem_cons.mpr ⟨rfl, List.forall_mem_cons.mpr ⟨rfl, fun _ h => absurd h List.not_mem_nil⟩⟩⟩⟩⟩⟩⟩⟩) ?_
                                  exact ih9430 z9422 (z9421 + 1) trivial (rW (c := (-99999999)) (d := 9) h9466 rfl) (rW (c := 0) (d := 10) (rAdd (e := 1) (f := 10) h9449 (rR (x := 1)) rfl) rfl) (vc_X12_ring_23 (nS h9429) h9447 h6402 h8997 h6403 h6404 h8998 h9449)
                                have h9481 : 1 ≤ z9471 ∧ z9471 ≤ 1 := (vc_X12_ring_24 h9479 h9470.1)
                                refine sv_aload_n (pc := 233) dX12_ring_233 rfl rfl ?_
                                refine gf_X12_14 (pc := 234) dX12_ring_234 wF_X12_72 (A_106 hw) T8862 ?_
                                refine mr_iload (pc := 237) (z := z9421) dX12_ring_237 rfl ?_
                                refine la_117 (pc := 239) dX12_ring_239 (A_117 hw) T8862 (rIx (n := 10) h9449 rfl) fun z9482 q9483 h9484 => ?_
                                have h9485 : (-99999999) ≤ z9482 ∧ z9482 ≤ 10 := (vc_X12_ring_25 h9484)
                                refine mr_iload (pc := 240) (z := ((z8999 - z9248) - 1)) dX12_ring_240 rfl ?_
                                refine mr_icmp_ne (pc := 242) (tgt := 249) dX12_ring_242 (by decide) (r32 h9485 rfl) (r32 (rSub (e := (-8)) (f := 9) (rSub (e := (-7)) (f := 10) h9007 h9297 rfl) (rR (x := 1)) rfl) rfl) (fun h9487 => ?_) (fun h9487 => ?_)
                                · refine mr_iinc (pc := 249) (lv' := [(7, iv (z9421 + 1)), (0, .ref 106), (1, iv p1), (2, iv z6390), (3, iv z9249), (4, iv z9248), (5, iv ((z8999 - z9248) - 1)), (6, iv z9422)]) dX12_ring_249 rfl (by decide) rfl ?_
                                  refine sv_goto (pc := 252) (tgt := 207) dX12_ring_252 (by decide) ?_
                                  refine mr_lvS (lv' := [(0, .ref 106), (1, iv p1), (2, iv z6390), (3, iv z9249), (4, iv z9248), (5, iv ((z8999 - z9248) - 1)), (6, iv z9422), (7, iv (z9421 + 1))]) (List.forall_mem_cons.mpr ⟨rfl, List.forall_mem_cons.mpr ⟨rfl, List.forall_mem_cons.mpr ⟨rfl, List.forall_mem_cons.mpr ⟨rfl, List.forall_mem_cons.mpr ⟨rfl, List.forall_mem_cons.mpr ⟨rfl, List.forall_mem_cons.mpr ⟨rfl, List.forall_mem_cons.mpr ⟨rfl, fun _ h => absurd h List.not_mem_nil⟩⟩⟩⟩⟩⟩⟩⟩) ?_
                                  exact ih9430 z9422 (z9421 + 1) trivial (rW (c := (-99999999)) (d := 9) h9466 rfl) (rW (c := 0) (d := 10) (rAdd (e := 1) (f := 10) h9449 (rR (x := 1)) rfl) rfl) (vc_X12_ring_23 (nS h9429) h9447 h6402 h8997 h6403 h6404 h8998 h9449)
                                have h9488 : 0 ≤ z9482 ∧ z9482 ≤ 9 := (vc_X12_ring_26 h9487 h9003 h9005 h9296 h9298 h9007 h9001 h9297 h9485 h9484)
                                refine mr_iload (pc := 245) (z := z9421) dX12_ring_245 rfl ?_
                                refine mr_istore (pc := 247) (lv' := [(6, iv z9421), (0, .ref 106), (1, iv p1), (2, iv z6390), (3, iv z9249), (4, iv z9248), (5, iv ((z8999 - z9248) - 1)), (7, iv z9421)]) dX12_ring_247 (by decide) rfl ?_
                                refine mr_iinc (pc := 249) (lv' := [(7, iv (z9421 + 1)), (6, iv z9421), (0, .ref 106), (1, iv p1), (2, iv z6390), (3, iv z9249), (4, iv z9248), (5, iv ((z8999 - z9248) - 1))]) dX12_ring_249 rfl (by decide) rfl ?_
                                refine sv_goto (pc := 252) (tgt := 207) dX12_ring_252 (by decide) ?_
                                refine mr_lvS (lv' := [(0, .ref 106), (1, iv p1), (2, iv z6390), (3, iv z9249), (4, iv z9248), (5, iv ((z8999 - z9248) - 1)), (6, iv z9421), (7, iv (z9421 + 1))]) (List.forall_mem_cons.mpr ⟨rfl, List.forall_mem_cons.mpr ⟨rfl, List.forall_mem_cons.mpr ⟨rfl, List.forall_mem_cons.mpr ⟨rfl, List.forall_mem_cons.mpr ⟨rfl, List.forall_mem_cons.mpr ⟨rfl, List.forall_mem_cons.mpr ⟨rfl, List.forall_mem_cons.mpr ⟨rfl, fun _ h => absurd h List.not_mem_nil⟩⟩⟩⟩⟩⟩⟩⟩) ?_
                                exact ih9430 z9421 (z9421 + 1) trivial (rW (c := (-99999999)) (d := 9) h9449 rfl) (rW (c := 0) (d := 10) (rAdd (e := 1) (f := 10) h9449 (rR (x := 1)) rfl) rfl) (vc_X12_ring_23 (nS h9429) h9447 h6402 h8997 h6403 h6404 h8998 h9449)
                            refine mr_lvS (lv' := [(0, .ref 106), (1, iv p1), (2, iv z6390), (3, iv z9249), (4, iv z9248), (5, iv ((z8999 - z9248) - 1)), (6, iv (-99999999)), (7, iv 0)]) (List.forall_mem_cons.mpr ⟨rfl, List.forall_mem_cons.mpr ⟨rfl, List.forall_mem_cons.mpr ⟨rfl, List.forall_mem_cons.mpr ⟨rfl, List.forall_mem_cons.mpr ⟨rfl, List.forall_mem_cons.mpr ⟨rfl, List.forall_mem_cons.mpr ⟨rfl, List.forall_mem_cons.mpr ⟨rfl, fun _ h => absurd h List.not_mem_nil⟩⟩⟩⟩⟩⟩⟩⟩) ?_
                            exact L9423 12 (-99999999) 0 trivial (rW (c := (-99999999)) (d := 9) (rR (x := (-99999999))) rfl) (rW (c := 0) (d := 10) (rR (x := 0)) rfl) vc_X12_ring_27
                        refine mr_lvS (lv' := [(0, .ref 106), (1, iv p1), (2, iv z6390), (3, iv z6390), (4, iv 0)]) (List.forall_mem_cons.mpr ⟨rfl, List.forall_mem_cons.mpr ⟨rfl, List.forall_mem_cons.mpr ⟨rfl, List.forall_mem_cons.mpr ⟨rfl, List.forall_mem_cons.mpr ⟨rfl, fun _ h => absurd h List.not_mem_nil⟩⟩⟩⟩⟩) ?_
                        exact L9250 11 z6390 0 trivial (rW (c := (-99999999)) (d := 9) h6403 rfl) (rW (c := 0) (d := 9) (rR (x := 0)) rfl) vc_X12_ring_28
                      refine mr_ldc (pc := 173) (z := (-99999999)) dX12_ring_173 wG_X12_29 (by decide) ?_
                      exact mr_iret dX12_ring_175 rfl (le_t rfl) (le_t rfl) T8862 (mF.call (mF.call (mF.call mF.refl F6395 rfl) F7329 rfl) F8863 rfl) ⟨(rW (c := (-2147483648)) (d := 2147483647) (rR (x := (-99999999))) rfl), trivial⟩
                    have h9489 : (-99999999) ≤ z8999 ∧ z8999 ≤ (-99999999) := (vc_X12_ring_29 h9003 h9002 h9001)
                    refine sv_goto (pc := 160) (tgt := 266) dX12_ring_160 (by decide) ?_
                    refine mr_iinc (pc := 266) (lv' := [(2, iv (z6390 + 1)), (0, .ref 106), (1, iv p1), (3, iv z8858)]) dX12_ring_266 rfl (by decide) rfl ?_
                    refine sv_goto (pc := 269) (tgt := 9) dX12_ring_269 (by decide) ?_
                    refine mr_lvS (lv' := [(0, .ref 106), (1, iv p1), (2, iv (z6390 + 1))]) (List.forall_mem_cons.mpr ⟨rfl, List.forall_mem_cons.mpr ⟨rfl, List.forall_mem_cons.mpr ⟨rfl, fun _ h => absurd h List.not_mem_nil⟩⟩⟩) ?_
                    exact ih6398 (z6390 + 1) μ8859 T8862 (mF.call (mF.call (mF.call mF.refl F6395 rfl) F7329 rfl) F8863 rfl) (rW (c := 0) (d := 10) (rAdd (e := 1) (f := 10) h6403 (rR (x := 1)) rfl) rfl) (vc_X12_ring_30 (nS h6397) h6402 h8997 h6403 h6404 h8998)
                  have h9490 : 1 ≤ z8858 ∧ z8858 ≤ 10 := (vc_X12_ring_31 h8997 h6402 h6403 h6404 h8861)
                  refine mr_iconst (pc := 49) (z := 0) dX12_ring_49 ?_
                  refine mr_istore (pc := 50) (lv' := [(4, iv 0), (0, .ref 106), (1, iv p1), (2, iv z6390), (3, iv z8858)]) dX12_ring_50 (by decide) rfl ?_
                  have L9939 : ∀ (nL9939 : Nat) (z9937 : Int) (μ9938 : mM), mT w μ9938 → mF [117999] w μ8859 μ9938 → (0 ≤ z9937 ∧ z9937 ≤ 10) → (11 - z9937) < (nL9939 : Int) → sV (gG l D c H0 sa) mX12_ring (sRm 3 0 0) (sZ (gG l D c H0 sa) 0 0 (qI w [117999] μ (fun z μ1 => ((-2147483648) ≤ z ∧ z ≤ 2147483647) ∧ True))) 52 [(0, .ref 106), (1, iv p1), (2, iv z6390), (3, iv z8858), (4, iv z9937)] [] (mk w μ9938) 0 0 := by
                    intro nL9939
                    induction nL9939 with
                    | zero => intro z9937 μ9938 T9941 F9942 h9940 h9944; exact ((vc_X12_ring_32 h9944 h9940)).elim
                    | succ nL9939 ih9945 =>
                      intro z9937 μ9938 T9941 F9942 h9940 h9944
                      refine mr_iload (pc := 52) (z := z9937) dX12_ring_52 rfl ?_
                      refine sv_aload_n (pc := 54) dX12_ring_54 rfl rfl ?_
                      refine gk_X12_5 (pc := 55) dX12_ring_55 wF_X12_34 (A_106 hw) (F9942.f (A_106 hw) rfl (F8863.f (A_106 hw) rfl (F7329.f (A_106 hw) rfl q6400))) ?_
                      refine mr_icmp_ge (pc := 58) (tgt := 143) dX12_ring_58 (by decide) (r32 h9940 rfl) (r32 h6404 rfl) (fun h10008 => ?_) (fun h10008 => ?_)
                      · have h10009 : 1 ≤ z9937 ∧ z9937 ≤ 10 := (vc_X12_ring_33 h10008 h6402 h8997 h6403 h6404 h9490 h9940)
                        refine mr_iinc (pc := 143) (lv' := [(3, iv (z8858 + 1)), (0, .ref 106), (1, iv p1), (2, iv z6390), (4, iv z9937)]) dX12_ring_143 rfl (by decide) rfl ?_
                        refine sv_goto (pc := 146) (tgt := 41) dX12_ring_146 (by decide) ?_
                        refine mr_lvS (lv' := [(0, .ref 106), (1, iv p1), (2, iv z6390), (3, iv (z8858 + 1))]) (List.forall_mem_cons.mpr ⟨rfl, List.forall_mem_cons.mpr ⟨rfl, List.forall_mem_cons.mpr ⟨rfl, List.forall_mem_cons.mpr ⟨rfl, fun _ h => absurd h List.not_mem_nil⟩⟩⟩⟩) ?_
                        exact ih8866 (z8858 + 1) μ9938 T9941 (mF.call (mF.call mF.refl F8863 rfl) F9942 rfl) (rW (c := 1) (d := 11) (rAdd (e := 2) (f := 11) h9490 (rR (x := 1)) rfl) rfl) (vc_X12_ring_34 (nS h8865) h8997 h6402 h10008 h6403 h6404 h9490 h10009)
                      have h10010 : 0 ≤ z9937 ∧ z9937 ≤ 9 := (vc_X12_ring_35 h10008 h6402 h8997 h6403 h6404 h9490 h9940)
                      refine mr_iconst (pc := 61) (z := 0) dX12_ring_61 ?_
                      refine mr_istore (pc := 62) (lv' := [(5, iv 0), (0, .ref 106), (1, iv p1), (2, iv z6390), (3, iv z8858), (4, iv z9937)]) dX12_ring_62 (by decide) rfl ?_
                      have L10226 : ∀ (nL10226 : Nat) (z10224 : Int) (μ10225 : mM), mT w μ10225 → mF [117999] w μ9938 μ10225 → (0 ≤ z10224 ∧ z10224 ≤ 10) → (11 - z10224) < (nL10226 : Int) → sV (gG l D c H0 sa) mX12_ring (sRm 3 0 0) (sZ (gG l D c H0 sa) 0 0 (qI w [117999] μ (fun z μ1 => ((-2147483648) ≤ z ∧ z ≤ 2147483647) ∧ True))) 64 [(0, .ref 106), (1, iv p1), (2, iv z6390), (3, iv z8858), (4, iv z9937), (5, iv z10224)] [] (mk w μ10225) 0 0 := by
                        intro nL10226
                        induction nL10226 with
                        | zero => intro z10224 μ10225 T10228 F10229 h10227 h10231; exact ((vc_X12_ring_36 h10231 h10227)).elim
                        | succ nL10226 ih10232 =>
                          intro z10224 μ10225 T10228 F10229 h10227 h10231
                          refine mr_iload (pc := 64) (z := z10224) dX12_ring_64 rfl ?_
                          refine sv_aload_n (pc := 66) dX12_ring_66 rfl rfl ?_
                          refine gk_X12_5 (pc := 67) dX12_ring_67 wF_X12_34 (A_106 hw) (F10229.f (A_106 hw) rfl (F9942.f (A_106 hw) rfl (F8863.f (A_106 hw) rfl (F7329.f (A_106 hw) rfl q6400)))) ?_
                          refine mr_icmp_ge (pc := 70) (tgt := 137) dX12_ring_70 (by decide) (r32 h10227 rfl) (r32 h6404 rfl) (fun h10261 => ?_) (fun h10261 => ?_)
                          · have h10262 : 1 ≤ z10224 ∧ z10224 ≤ 10 := (vc_X12_ring_37 h10261 h6402 h8997 h10008 h10227 h6403 h6404 h9490 h10010)
                            refine mr_iinc (pc := 137) (lv' := [(4, iv (z9937 + 1)), (0, .ref 106), (1, iv p1), (2, iv z6390), (3, iv z8858), (5, iv z10224)]) dX12_ring_137 rfl (by decide) rfl ?_
                            refine sv_goto (pc := 140) (tgt := 52) dX12_ring_140 (by decide) ?_
                            refine mr_lvS (lv' := [(0, .ref 106), (1, iv p1), (2, iv z6390), (3, iv z8858), (4, iv (z9937 + 1))]) (List.forall_mem_cons.mpr ⟨rfl, List.forall_mem_cons.mpr ⟨rfl, List.forall_mem_cons.mpr ⟨rfl, List.forall_mem_cons.mpr ⟨rfl, List.forall_mem_cons.mpr ⟨rfl, fun _ h => absurd h List.not_mem_nil⟩⟩⟩⟩⟩) ?_
                            exact ih9945 (z9937 + 1) μ10225 T10228 (mF.call (mF.call mF.refl F9942 rfl) F10229 rfl) (rW (c := 0) (d := 10) (rAdd (e := 1) (f := 10) h10010 (rR (x := 1)) rfl) rfl) (vc_X12_ring_38 (nS h9944) h10008 h6402 h8997 h10261 h10262 h6403 h6404 h9490 h10010)
                          have h10263 : 0 ≤ z10224 ∧ z10224 ≤ 9 := (vc_X12_ring_39 h10261 h6402 h8997 h10008 h10227 h6403 h6404 h9490 h10010)
                          refine sv_aload_n (pc := 73) dX12_ring_73 rfl rfl ?_
                          refine gf_X12_14 (pc := 74) dX12_ring_74 wF_X12_72 (A_106 hw) T10228 ?_
                          refine mr_iload (pc := 77) (z := z9937) dX12_ring_77 rfl ?_
                          refine la_117 (pc := 79) dX12_ring_79 (A_117 hw) T10228 (rIx (n := 10) h10010 rfl) fun z10264 q10265 h10266 => ?_
                          have h10267 : (-99999999) ≤ z10264 ∧ z10264 ≤ 10 := (vc_X12_ring_40 h10266)
                          refine mr_ldc (pc := 80) (z := (-99999999)) dX12_ring_80 wG_X12_29 (by decide) ?_
                          refine mr_icmp_ne (pc := 82) (tgt := 137) dX12_ring_82 (by decide) (r32 h10267 rfl) (r32 (rR (x := (-99999999))) rfl) (fun h10290 => ?_) (fun h10290 => ?_)
                          · have h10291 : 0 ≤ z10264 ∧ z10264 ≤ 10 := (vc_X12_ring_41 h10290 h10267 h10266)
                            refine mr_iinc (pc := 137) (lv' := [(4, iv (z9937 + 1)), (0, .ref 106), (1, iv p1), (2, iv z6390), (3, iv z8858), (5, iv z10224)]) dX12_ring_137 rfl (by decide) rfl ?_
                            refine sv_goto (pc := 140) (tgt := 52) dX12_ring_140 (by decide) ?_
                            refine mr_lvS (lv' := [(0, .ref 106), (1, iv p1), (2, iv z6390), (3, iv z8858), (4, iv (z9937 + 1))]) (List.forall_mem_cons.mpr ⟨rfl, List.forall_mem_cons.mpr ⟨rfl, List.forall_mem_cons.mpr ⟨rfl, List.forall_mem_cons.mpr ⟨rfl, List.forall_mem_cons.mpr ⟨rfl, fun _ h => absurd h List.not_mem_nil⟩⟩⟩⟩⟩) ?_
                            exact ih9945 (z9937 + 1) μ10225 T10228 (mF.call (mF.call mF.refl F9942 rfl) F10229 rfl) (rW (c := 0) (d := 10) (rAdd (e := 1) (f := 10) h10010 (rR (x := 1)) rfl) rfl) (vc_X12_ring_42 (nS h9944) h10008 h6402 h8997 h10261 h10263 h6403 h6404 h9490 h10010)
                          have h10292 : (-99999999) ≤ z10264 ∧ z10264 ≤ (-99999999) := (vc_X12_ring_43 h10290 h10267 h10266)
                          refine sv_aload_n (pc := 85) dX12_ring_85 rfl rfl ?_
                          refine mr_iload (pc := 86) (z := z9937) dX12_ring_86 rfl ?_
                          refine mr_iload (pc := 88) (z := z10224) dX12_ring_88 rfl ?_
                          refine mr_cVP (pc := 90) (c_X12_provides hw T10228 (rW (c := (-2147483648)) (d := 2147483647) h10010 rfl) (rW (c := (-2147483648)) (d := 2147483647) h10263 rfl)) (gOk _ _ _ _ _) dX12_ring_90 (tX12_provides _ _ _ _ _) ⟨wV_X12_provides, wL_X12_provides⟩ wM_X12_75 (gCX12 _ _ _ _ _) rfl (A_106 hw) rfl ⟨le_t rfl, le_t rfl⟩ ⟨le_t rfl, le_t rfl⟩ rfl (le_t rfl) fun z10297 h10296 => ?_
                          refine mr_if_eq (pc := 93) (tgt := 131) dX12_ring_93 (by decide) (r32 h10296.1 rfl) (fun h10313 => ?_) (fun h10313 => ?_)
                          · have h10314 : 0 ≤ z10297 ∧ z10297 ≤ 0 := (vc_X12_ring_44 h10313 h10296.1)
                            refine mr_iinc (pc := 131) (lv' := [(5, iv (z10224 + 1)), (0, .ref 106), (1, iv p1), (2, iv z6390), (3, iv z8858), (4, iv z9937)]) dX12_ring_131 rfl (by decide) rfl ?_
                            refine sv_goto (pc := 134) (tgt := 64) dX12_ring_134 (by decide) ?_
                            refine mr_lvS (lv' := [(0, .ref 106), (1, iv p1), (2, iv z6390), (3, iv z8858), (4, iv z9937), (5, iv (z10224 + 1))]) (List.forall_mem_cons.mpr ⟨rfl, List.forall_mem_cons.mpr ⟨rfl, List.forall_mem_cons.mpr ⟨rfl, List.forall_mem_cons.mpr ⟨rfl, List.forall_mem_cons.mpr ⟨rfl, List.forall_mem_cons.mpr ⟨rfl, fun _ h => absurd h List.not_mem_nil⟩⟩⟩⟩⟩⟩) ?_
                            exact ih10232 (z10224 + 1) μ10225 T10228 (mF.call mF.refl F10229 rfl) (rW (c := 0) (d := 10) (rAdd (e := 1) (f := 10) h10263 (rR (x := 1)) rfl) rfl) (vc_X12_ring_45 (nS h10231) h10261 h6402 h8997 h10008 h10263 h6403 h6404 h9490 h10010)
                          have h10315 : 1 ≤ z10297 ∧ z10297 ≤ 1 := (vc_X12_ring_46 h10313 h10296.1)
                          refine mr_iload_n (pc := 96) (z := z8858) dX12_ring_96 rfl rfl ?_
                          refine mr_iconst (pc := 97) (z := 1) dX12_ring_97 ?_
                          refine mr_icmp_ne (pc := 98) (tgt := 110) dX12_ring_98 (by decide) (r32 h9490 rfl) (r32 (rR (x := 1)) rfl) (fun h10329 => ?_) (fun h10329 => ?_)
                          · have h10330 : 2 ≤ z8858 ∧ z8858 ≤ 10 := (vc_X12_ring_47 h10329 h8997 h6404 h9490)
                            refine sv_aload_n (pc := 110) dX12_ring_110 rfl rfl ?_
                            refine gf_X12_14 (pc := 111) dX12_ring_111 wF_X12_72 (A_106 hw) T10228 ?_
                            refine mr_iload (pc := 114) (z := z10224) dX12_ring_114 rfl ?_
                            refine la_117 (pc := 116) dX12_ring_116 (A_117 hw) T10228 (rIx (n := 10) h10263 rfl) fun z10331 q10332 h10333 => ?_
                            have h10334 : (-99999999) ≤ z10331 ∧ z10331 ≤ 10 := (vc_X12_ring_48 h10333)
                            refine mr_iload_n (pc := 117) (z := z8858) dX12_ring_117 rfl rfl ?_
                            refine mr_iconst (pc := 118) (z := 1) dX12_ring_118 ?_
                            refine mr_isub (pc := 119) (x := z8858) (y := 1) dX12_ring_119 ?_
                            refine mr_icmp_ne (pc := 120) (tgt := 131) dX12_ring_120 (by decide) (r32 h10334 rfl) (r32 (rSub (e := 1) (f := 9) h10330 (rR (x := 1)) rfl) rfl) (fun h10339 => ?_) (fun h10339 => ?_)
                            · refine mr_iinc (pc := 131) (lv' := [(5, iv (z10224 + 1)), (0, .ref 106), (1, iv p1), (2, iv z6390), (3, iv z8858), (4, iv z9937)]) dX12_ring_131 rfl (by decide) rfl ?_
                              refine sv_goto (pc := 134) (tgt := 64) dX12_ring_134 (by decide) ?_
                              refine mr_lvS (lv' := [(0, .ref 106), (1, iv p1), (2, iv z6390), (3, iv z8858), (4, iv z9937), (5, iv (z10224 + 1))]) (List.forall_mem_cons.mpr ⟨rfl, List.forall_mem_cons.mpr ⟨rfl, List.forall_mem_cons.mpr ⟨rfl, List.forall_mem_cons.mpr ⟨rfl, List.forall_mem_cons.mpr ⟨rfl, List.forall_mem_cons.mpr ⟨rfl, fun _ h => absurd h List.not_mem_nil⟩⟩⟩⟩⟩⟩) ?_
                              exact ih10232 (z10224 + 1) μ10225 T10228 (mF.call mF.refl F10229 rfl) (rW (c := 0) (d := 10) (rAdd (e := 1) (f := 10) h10263 (rR (x := 1)) rfl) rfl) (vc_X12_ring_49 (nS h10231) h10261 h6402 h8997 h10008 h10263 h6403 h6404 h10330 h10010)
                            have h10340 : 1 ≤ z10331 ∧ z10331 ≤ 9 := (vc_X12_ring_50 h10339 h8997 h10329 h10334 h10333 h6404 h10330)
                            refine sv_aload_n (pc := 123) dX12_ring_123 rfl rfl ?_
                            refine gf_X12_14 (pc := 124) dX12_ring_124 wF_X12_72 (A_106 hw) T10228 ?_
                            refine mr_iload (pc := 127) (z := z9937) dX12_ring_127 rfl ?_
                            refine mr_iload_n (pc := 129) (z := z8858) dX12_ring_129 rfl rfl ?_
                            refine ss_117 (pc := 130) dX12_ring_130 (A_117 hw) T10228 (rIx (n := 10) h10010 rfl) (vc_X12_ring_51 h8997 h10329 h10339 h6402 h10008 h10261 h10263 h10340 h10333 h6403 h6404 h10330 h10010) fun μ10341 u10342 T10343 => ?_
                            refine mr_iinc (pc := 131) (lv' := [(5, iv (z10224 + 1)), (0, .ref 106), (1, iv p1), (2, iv z6390), (3, iv z8858), (4, iv z9937)]) dX12_ring_131 rfl (by decide) rfl ?_
                            refine sv_goto (pc := 134) (tgt := 64) dX12_ring_134 (by decide) ?_
                            refine mr_lvS (lv' := [(0, .ref 106), (1, iv p1), (2, iv z6390), (3, iv z8858), (4, iv z9937), (5, iv (z10224 + 1))]) (List.forall_mem_cons.mpr ⟨rfl, List.forall_mem_cons.mpr ⟨rfl, List.forall_mem_cons.mpr ⟨rfl, List.forall_mem_cons.mpr ⟨rfl, List.forall_mem_cons.mpr ⟨rfl, List.forall_mem_cons.mpr ⟨rfl, fun _ h => absurd h List.not_mem_nil⟩⟩⟩⟩⟩⟩) ?_
                            exact ih10232 (z10224 + 1) μ10341 T10343 (mF.up (mF.call mF.refl F10229 rfl) (A_117 hw) u10342 rfl) (rW (c := 0) (d := 10) (rAdd (e := 1) (f := 10) h10263 (rR (x := 1)) rfl) rfl) (vc_X12_ring_49 (nS h10231) h10261 h6402 h8997 h10008 h10263 h6403 h6404 h10330 h10010)
                          have h10344 : 1 ≤ z8858 ∧ z8858 ≤ 1 := (vc_X12_ring_52 h10329 h8997 h6404 h9490)
                          refine mr_iload (pc := 101) (z := z10224) dX12_ring_101 rfl ?_
                          refine mr_iload_n (pc := 103) (z := z6390) dX12_ring_103 rfl rfl ?_
                          refine mr_icmp_ne (pc := 104) (tgt := 131) dX12_ring_104 (by decide) (r32 h10263 rfl) (r32 h6403 rfl) (fun h10348 => ?_) (fun h10348 => ?_)
                          · refine mr_iinc (pc := 131) (lv' := [(5, iv (z10224 + 1)), (0, .ref 106), (1, iv p1), (2, iv z6390), (3, iv z8858), (4, iv z9937)]) dX12_ring_131 rfl (by decide) rfl ?_
                            refine sv_goto (pc := 134) (tgt := 64) dX12_ring_134 (by decide) ?_
                            refine mr_lvS (lv' := [(0, .ref 106), (1, iv p1), (2, iv z6390), (3, iv z8858), (4, iv z9937), (5, iv (z10224 + 1))]) (List.forall_mem_cons.mpr ⟨rfl, List.forall_mem_cons.mpr ⟨rfl, List.forall_mem_cons.mpr ⟨rfl, List.forall_mem_cons.mpr ⟨rfl, List.forall_mem_cons.mpr ⟨rfl, List.forall_mem_cons.mpr ⟨rfl, fun _ h => absurd h List.not_mem_nil⟩⟩⟩⟩⟩⟩) ?_
                            exact ih10232 (z10224 + 1) μ10225 T10228 (mF.call mF.refl F10229 rfl) (rW (c := 0) (d := 10) (rAdd (e := 1) (f := 10) h10263 (rR (x := 1)) rfl) rfl) (vc_X12_ring_53 (nS h10231) h10261 h10348 h6402 h8997 h10008 h10263 h6403 h6404 h10344 h10010)
                          refine sv_goto (pc := 107) (tgt := 123) dX12_ring_107 (by decide) ?_
                          refine sv_aload_n (pc := 123) dX12_ring_123 rfl rfl ?_
                          refine gf_X12_14 (pc := 124) dX12_ring_124 wF_X12_72 (A_106 hw) T10228 ?_
                          refine mr_iload (pc := 127) (z := z9937) dX12_ring_127 rfl ?_
                          refine mr_iload_n (pc := 129) (z := z8858) dX12_ring_129 rfl rfl ?_
                          refine ss_117 (pc := 130) dX12_ring_130 (A_117 hw) T10228 (rIx (n := 10) h10010 rfl) (vc_X12_ring_54 h8997 h10329 h6402 h10008 h10261 h10263 h6403 h6404 h10344 h10010) fun μ10349 u10350 T10351 => ?_
                          refine mr_iinc (pc := 131) (lv' := [(5, iv (z10224 + 1)), (0, .ref 106), (1, iv p1), (2, iv z6390), (3, iv z8858), (4, iv z9937)]) dX12_ring_131 rfl (by decide) rfl ?_
                          refine sv_goto (pc := 134) (tgt := 64) dX12_ring_134 (by decide) ?_
                          refine mr_lvS (lv' := [(0, .ref 106), (1, iv p1), (2, iv z6390), (3, iv z8858), (4, iv z9937), (5, iv (z10224 + 1))]) (List.forall_mem_cons.mpr ⟨rfl, List.forall_mem_cons.mpr ⟨rfl, List.forall_mem_cons.mpr ⟨rfl, List.forall_mem_cons.mpr ⟨rfl, List.forall_mem_cons.mpr ⟨rfl, List.forall_mem_cons.mpr ⟨rfl, fun _ h => absurd h List.not_mem_nil⟩⟩⟩⟩⟩⟩) ?_
                          exact ih10232 (z10224 + 1) μ10349 T10351 (mF.up (mF.call mF.refl F10229 rfl) (A_117 hw) u10350 rfl) (rW (c := 0) (d := 10) (rAdd (e := 1) (f := 10) h10263 (rR (x := 1)) rfl) rfl) (vc_X12_ring_55 (nS h10231) h10261 h10348 h6402 h8997 h10008 h10263 h6403 h6404 h10344 h10010)
                      refine mr_lvS (lv' := [(0, .ref 106), (1, iv p1), (2, iv z6390), (3, iv z8858), (4, iv z9937), (5, iv 0)]) (List.forall_mem_cons.mpr ⟨rfl, List.forall_mem_cons.mpr ⟨rfl, List.forall_mem_cons.mpr ⟨rfl, List.forall_mem_cons.mpr ⟨rfl, List.forall_mem_cons.mpr ⟨rfl, List.forall_mem_cons.mpr ⟨rfl, fun _ h => absurd h List.not_mem_nil⟩⟩⟩⟩⟩⟩) ?_
                      exact L10226 12 0 μ9938 T9941 mF.refl (rW (c := 0) (d := 10) (rR (x := 0)) rfl) vc_X12_ring_27
                  refine mr_lvS (lv' := [(0, .ref 106), (1, iv p1), (2, iv z6390), (3, iv z8858), (4, iv 0)]) (List.forall_mem_cons.mpr ⟨rfl, List.forall_mem_cons.mpr ⟨rfl, List.forall_mem_cons.mpr ⟨rfl, List.forall_mem_cons.mpr ⟨rfl, List.forall_mem_cons.mpr ⟨rfl, fun _ h => absurd h List.not_mem_nil⟩⟩⟩⟩⟩) ?_
                  exact L9939 12 0 μ8859 T8862 mF.refl (rW (c := 0) (d := 10) (rR (x := 0)) rfl) vc_X12_ring_27
              refine mr_lvS (lv' := [(0, .ref 106), (1, iv p1), (2, iv z6390), (3, iv 1)]) (List.forall_mem_cons.mpr ⟨rfl, List.forall_mem_cons.mpr ⟨rfl, List.forall_mem_cons.mpr ⟨rfl, List.forall_mem_cons.mpr ⟨rfl, fun _ h => absurd h List.not_mem_nil⟩⟩⟩⟩) ?_
              exact L8860 12 1 μ7325 T7328 mF.refl (rW (c := 1) (d := 11) (rR (x := 1)) rfl) vc_X12_ring_56
            have h10352 : 0 ≤ z7324 ∧ z7324 ≤ 9 := (vc_X12_ring_57 h7338 h7327)
            refine sv_aload_n (pc := 25) dX12_ring_25 rfl rfl ?_
            refine gf_X12_14 (pc := 26) dX12_ring_26 wF_X12_72 (A_106 hw) T7328 ?_
            refine mr_iload_n (pc := 29) (z := z7324) dX12_ring_29 rfl rfl ?_
            refine mr_ldc (pc := 30) (z := (-99999999)) dX12_ring_30 wG_X12_29 (by decide) ?_
            refine ss_117 (pc := 32) dX12_ring_32 (A_117 hw) T7328 (rIx (n := 10) h10352 rfl) vc_X12_ring_58 fun μ10353 u10354 T10355 => ?_
            refine mr_iinc (pc := 33) (lv' := [(3, iv (z7324 + 1)), (0, .ref 106), (1, iv p1), (2, iv z6390)]) dX12_ring_33 rfl (by decide) rfl ?_
            refine sv_goto (pc := 36) (tgt := 19) dX12_ring_36 (by decide) ?_
            refine mr_lvS (lv' := [(0, .ref 106), (1, iv p1), (2, iv z6390), (3, iv (z7324 + 1))]) (List.forall_mem_cons.mpr ⟨rfl, List.forall_mem_cons.mpr ⟨rfl, List.forall_mem_cons.mpr ⟨rfl, List.forall_mem_cons.mpr ⟨rfl, fun _ h => absurd h List.not_mem_nil⟩⟩⟩⟩) ?_
            exact ih7332 (z7324 + 1) μ10353 T10355 (mF.up (mF.call mF.refl F7329 rfl) (A_117 hw) u10354 rfl) (rW (c := 0) (d := 10) (rAdd (e := 1) (f := 10) h10352 (rR (x := 1)) rfl) rfl) (vc_X12_ring_59 (nS h7331) h7338 h10352)
        refine mr_lvS (lv' := [(0, .ref 106), (1, iv p1), (2, iv z6390), (3, iv 0)]) (List.forall_mem_cons.mpr ⟨rfl, List.forall_mem_cons.mpr ⟨rfl, List.forall_mem_cons.mpr ⟨rfl, List.forall_mem_cons.mpr ⟨rfl, fun _ h => absurd h List.not_mem_nil⟩⟩⟩⟩) ?_
        exact L7326 12 0 μ6391 T6394 mF.refl (rW (c := 0) (d := 10) (rR (x := 0)) rfl) vc_X12_ring_27
    refine mr_lvS (lv' := [(0, .ref 106), (1, iv p1), (2, iv 0)]) (List.forall_mem_cons.mpr ⟨rfl, List.forall_mem_cons.mpr ⟨rfl, List.forall_mem_cons.mpr ⟨rfl, fun _ h => absurd h List.not_mem_nil⟩⟩⟩) ?_
    exact L6392 12 0 μ hT mF.refl (rW (c := 0) (d := 10) (rR (x := 0)) rfl) vc_X12_ring_27
  have h10356 : (-2147483648) ≤ p1 ∧ p1 ≤ (-1) := (vc_X12_ring_60 h1 hp1)
  refine mr_ldc (pc := 4) (z := (-99999999)) dX12_ring_4 wG_X12_29 (by decide) ?_
  exact mr_iret dX12_ring_6 rfl (le_t rfl) (le_t rfl) hT mF.refl ⟨(rW (c := (-2147483648)) (d := 2147483647) (rR (x := (-99999999))) rfl), trivial⟩
theorem vc_X12_walk_1 {p1 z5 : Int} (h0 : ¬ z5 = 0) (h1 : (z5 = 1 → ((-1) : Int) ≤ p1 ∧ p1 ≤ (9 : Int))) (h2 : (z5 = 0 → p1 < ((-1) : Int) ∨ (9 : Int) < p1)) (h3 : (-2147483648) ≤ p1 ∧ p1 ≤ 2147483647) (h4 : 0 ≤ z5 ∧ z5 ≤ 1) : 1 ≤ z5 ∧ z5 ≤ 1 := by omega
theorem vc_X12_walk_2 {p1 z5 : Int} (h0 : (z5 = 1 → ((-1) : Int) ≤ p1 ∧ p1 ≤ (9 : Int))) (h1 : (z5 = 0 → p1 < ((-1) : Int) ∨ (9 : Int) < p1)) (h2 : ¬ z5 = 0) (h3 : (-2147483648) ≤ p1 ∧ p1 ≤ 2147483647) (h4 : 1 ≤ z5 ∧ z5 ≤ 1) : z5 = 1 := by omega
theorem vc_X12_walk_3 {p1 z5 : Int} (h0 : ((-1) : Int) ≤ p1 ∧ p1 ≤ (9 : Int)) (h1 : (z5 = 1 → ((-1) : Int) ≤ p1 ∧ p1 ≤ (9 : Int))) (h2 : (z5 = 0 → p1 < ((-1) : Int) ∨ (9 : Int) < p1)) (h3 : (-2147483648) ≤ p1 ∧ p1 ≤ 2147483647) (h4 : 1 ≤ z5 ∧ z5 ≤ 1) : (-1) ≤ p1 ∧ p1 ≤ 9 := by omega
theorem vc_X12_walk_4 {p1 z5 : Int} (h0 : ¬ p1 = (-1)) (h1 : (z5 = 1 → ((-1) : Int) ≤ p1 ∧ p1 ≤ (9 : Int))) (h2 : (z5 = 0 → p1 < ((-1) : Int) ∨ (9 : Int) < p1)) (h3 : ((-1) : Int) ≤ p1 ∧ p1 ≤ (9 : Int)) (h4 : (-1) ≤ p1 ∧ p1 ≤ 9) (h5 : 1 ≤ z5 ∧ z5 ≤ 1) : 0 ≤ p1 ∧ p1 ≤ 9 := by omega
theorem vc_X12_walk_5 {z12 : Int} (h0 : ¬ z12 = 20) (h1 : 0 ≤ z12 ∧ z12 ≤ 20) : 0 ≤ z12 ∧ z12 ≤ 19 := by omega
theorem vc_X12_walk_6 {z12 : Int} (h0 : z12 = 20) (h1 : 0 ≤ z12 ∧ z12 ≤ 20) : 20 ≤ z12 ∧ z12 ≤ 20 := by omega
theorem vc_X12_walk_7 {p1 z5 : Int} (h0 : p1 = (-1)) (h1 : (z5 = 1 → ((-1) : Int) ≤ p1 ∧ p1 ≤ (9 : Int))) (h2 : (z5 = 0 → p1 < ((-1) : Int) ∨ (9 : Int) < p1)) (h3 : ((-1) : Int) ≤ p1 ∧ p1 ≤ (9 : Int)) (h4 : (-1) ≤ p1 ∧ p1 ≤ 9) (h5 : 1 ≤ z5 ∧ z5 ≤ 1) : (-1) ≤ p1 ∧ p1 ≤ (-1) := by omega
theorem vc_X12_walk_8 {p1 z5 : Int} (h0 : z5 = 0) (h1 : (z5 = 1 → ((-1) : Int) ≤ p1 ∧ p1 ≤ (9 : Int))) (h2 : (z5 = 0 → p1 < ((-1) : Int) ∨ (9 : Int) < p1)) (h3 : (-2147483648) ≤ p1 ∧ p1 ≤ 2147483647) (h4 : 0 ≤ z5 ∧ z5 ≤ 1) : 0 ≤ z5 ∧ z5 ≤ 0 := by omega
theorem vc_X12_walk_9 {p1 z5 : Int} (h0 : (z5 = 1 → ((-1) : Int) ≤ p1 ∧ p1 ≤ (9 : Int))) (h1 : (z5 = 0 → p1 < ((-1) : Int) ∨ (9 : Int) < p1)) (h2 : z5 = 0) (h3 : (-2147483648) ≤ p1 ∧ p1 ≤ 2147483647) (h4 : 0 ≤ z5 ∧ z5 ≤ 0) : z5 = 0 := by omega
set_option maxRecDepth 4000 in
set_option maxHeartbeats 4000000 in
theorem c_X12_walk {l : Launch} {D : va_G} {c : Nat → ClassId} {H0 : Heap} {sa : Nat × Nat × (Nat → Int32)} {w : mW} {μ : mM} (hw : mWF w) (hT : mT w μ) {p1 : Int} (hp1 : (-2147483648) ≤ p1 ∧ p1 ≤ 2147483647) : sC (gG l D c H0 sa) mX12_walk 2 0 0 [.ref 106, iv p1] (mk w μ) (qI w [106015, 118999] μ (fun z μ1 => ((-2147483648) ≤ z ∧ z ≤ 2147483647) ∧ True)) := by
  refine sC.of rfl (by decide) (le_t rfl) ?_
  refine mr_lvE (lv' := [(0, .ref 106), (1, iv p1)]) rfl ?_
  refine mr_iload_n (pc := 0) (z := p1) dX12_walk_0 rfl rfl ?_
  refine mr_iconst (pc := 1) (z := (-1)) dX12_walk_1 ?_
  refine mr_bipush (pc := 2) (z := 9) dX12_walk_2 (by decide) ?_
  refine mr_cSP (pc := 4) (c_X12_in hw hT hp1 (rW (c := (-2147483648)) (d := 2147483647) (rR (x := (-1))) rfl) (rW (c := (-2147483648)) (d := 2147483647) (rR (x := 9)) rfl)) (gOk _ _ _ _ _) dX12_walk_4 (tX12_in _ _ _ _ _) wS_X12_in wM_X12_18 ⟨le_t rfl, le_t rfl⟩ ⟨le_t rfl, le_t rfl⟩ rfl (le_t rfl) fun z5 h4 => ?_
  refine mr_if_ne (pc := 7) (tgt := 12) dX12_walk_7 (by decide) (r32 h4.1 rfl) (fun h6 => ?_) (fun h6 => ?_)
  · have h7 : 1 ≤ z5 ∧ z5 ≤ 1 := (vc_X12_walk_1 h6 h4.2.1 h4.2.2.1 hp1 h4.1)
    have h8 : ((-1) : Int) ≤ p1 ∧ p1 ≤ (9 : Int) := (h4.2.1 (vc_X12_walk_2 h4.2.1 h4.2.2.1 h6 hp1 h7))
    have h9 : (-1) ≤ p1 ∧ p1 ≤ 9 := (vc_X12_walk_3 h8 h4.2.1 h4.2.2.1 hp1 h7)
    refine mr_iload_n (pc := 12) (z := p1) dX12_walk_12 rfl rfl ?_
    refine mr_iconst (pc := 13) (z := (-1)) dX12_walk_13 ?_
    refine mr_icmp_ne (pc := 14) (tgt := 24) dX12_walk_14 (by decide) (r32 h9 rfl) (r32 (rR (x := (-1))) rfl) (fun h10 => ?_) (fun h10 => ?_)
    · have h11 : 0 ≤ p1 ∧ p1 ≤ 9 := (vc_X12_walk_4 h10 h4.2.1 h4.2.2.1 h8 h9 h7)
      refine sv_aload_n (pc := 24) dX12_walk_24 rfl rfl ?_
      refine gf_X12_15 (pc := 25) dX12_walk_25 wF_X12_79 (A_106 hw) hT fun z12 q13 h14 => ?_
      refine mr_bipush (pc := 28) (z := 20) dX12_walk_28 (by decide) ?_
      refine mr_icmp_ne (pc := 30) (tgt := 36) dX12_walk_30 (by decide) (r32 h14 rfl) (r32 (rR (x := 20)) rfl) (fun h15 => ?_) (fun h15 => ?_)
      · have h16 : 0 ≤ z12 ∧ z12 ≤ 19 := (vc_X12_walk_5 h15 h14)
        refine sv_aload_n (pc := 36) dX12_walk_36 rfl rfl ?_
        refine gf_X12_16 (pc := 37) dX12_walk_37 wF_X12_82 (A_106 hw) hT ?_
        refine sv_aload_n (pc := 40) dX12_walk_40 rfl rfl ?_
        refine gk_X12_15 (pc := 41) dX12_walk_41 wF_X12_79 (A_106 hw) q13 ?_
        refine mr_iload_n (pc := 44) (z := p1) dX12_walk_44 rfl rfl ?_
        refine ss_118 (pc := 45) dX12_walk_45 (A_118 hw) hT (rIx (n := 20) h16 rfl) h11 fun μ17 u18 T19 => ?_
        refine sv_aload_n (pc := 46) dX12_walk_46 rfl rfl ?_
        refine sv_dup (pc := 47) dX12_walk_47 rfl ?_
        refine gk_X12_15 (pc := 48) dX12_walk_48 wF_X12_79 (A_106 hw) (u18.f (Or.inl (mAt.ne (A_118 hw) (A_106 hw) rfl)) q13) ?_
        refine mr_iconst (pc := 51) (z := 1) dX12_walk_51 ?_
        refine mr_iadd (pc := 52) (x := z12) (y := 1) dX12_walk_52 ?_
        refine pf_X12_15 (pc := 53) dX12_walk_53 wF_X12_79 (A_106 hw) T19 (rW (c := 0) (d := 20) (rAdd (e := 1) (f := 20) h16 (rR (x := 1)) rfl) rfl) fun μ20 u21 T22 => ?_
        refine sv_aload_n (pc := 56) dX12_walk_56 rfl rfl ?_
        refine gk_X12_15 (pc := 57) dX12_walk_57 wF_X12_79 (A_106 hw) u21.1 ?_
        exact mr_iret dX12_walk_60 rfl (le_t rfl) (le_t rfl) T22 (mF.up (mF.up mF.refl (A_118 hw) u18 rfl) (A_106 hw) u21 rfl) ⟨(rW (c := (-2147483648)) (d := 2147483647) (rAdd (e := 1) (f := 20) h16 (rR (x := 1)) rfl) rfl), trivial⟩
      have h23 : 20 ≤ z12 ∧ z12 ≤ 20 := (vc_X12_walk_6 h15 h14)
      refine mr_bipush (pc := 33) (z := (-3)) dX12_walk_33 (by decide) ?_
      exact mr_iret dX12_walk_35 rfl (le_t rfl) (le_t rfl) hT mF.refl ⟨(rW (c := (-2147483648)) (d := 2147483647) (rR (x := (-3))) rfl), trivial⟩
    have h24 : (-1) ≤ p1 ∧ p1 ≤ (-1) := (vc_X12_walk_7 h10 h4.2.1 h4.2.2.1 h8 h9 h7)
    refine sv_aload_n (pc := 17) dX12_walk_17 rfl rfl ?_
    refine mr_iconst (pc := 18) (z := 0) dX12_walk_18 ?_
    refine pf_X12_15 (pc := 19) dX12_walk_19 wF_X12_79 (A_106 hw) hT (rW (c := 0) (d := 20) (rR (x := 0)) rfl) fun μ25 u26 T27 => ?_
    refine mr_iconst (pc := 22) (z := 0) dX12_walk_22 ?_
    exact mr_iret dX12_walk_23 rfl (le_t rfl) (le_t rfl) T27 (mF.up mF.refl (A_106 hw) u26 rfl) ⟨(rW (c := (-2147483648)) (d := 2147483647) (rR (x := 0)) rfl), trivial⟩
  have h28 : 0 ≤ z5 ∧ z5 ≤ 0 := (vc_X12_walk_8 h6 h4.2.1 h4.2.2.1 hp1 h4.1)
  have h29 : p1 < ((-1) : Int) ∨ (9 : Int) < p1 := (h4.2.2.1 (vc_X12_walk_9 h4.2.1 h4.2.2.1 h6 hp1 h28))
  refine mr_iconst (pc := 10) (z := (-1)) dX12_walk_10 ?_
  exact mr_iret dX12_walk_11 rfl (le_t rfl) (le_t rfl) hT mF.refl ⟨(rW (c := (-2147483648)) (d := 2147483647) (rR (x := (-1))) rfl), trivial⟩
theorem vc_X12_letWay_1 {z373 : Int} (h0 : (20 - z373) < ((0 : Nat) : Int)) (h1 : 0 ≤ z373 ∧ z373 ≤ 19) : False := by omega
theorem vc_X12_letWay_2 {z373 z383 : Int} (h0 : (z373 + 1) < z383) (h1 : 0 ≤ z373 ∧ z373 ≤ 19) (h2 : 0 ≤ z383 ∧ z383 ≤ 20) : 0 ≤ z373 ∧ z373 ≤ 18 := by omega
theorem vc_X12_letWay_3 {z373 z383 : Int} (h0 : (z373 + 1) < z383) (h1 : 0 ≤ z373 ∧ z373 ≤ 18) (h2 : 0 ≤ z383 ∧ z383 ≤ 20) : 2 ≤ z383 ∧ z383 ≤ 20 := by omega
theorem vc_X12_letWay_4 {z399 : Int} (h0 : ¬ z399 = (-99999999)) (h1 : z399 = -99999999 ∨ (0 ≤ z399 ∧ z399 ≤ 19)) (h2 : (-99999999) ≤ z399 ∧ z399 ≤ 19) : 0 ≤ z399 ∧ z399 ≤ 19 := by omega
theorem vc_X12_letWay_5 {z402 : Int} (h0 : ¬ z402 = 2) (h1 : 0 ≤ z402 ∧ z402 ≤ 2) : 0 ≤ z402 ∧ z402 ≤ 1 := by omega
theorem vc_X12_letWay_6 {z374 : Int} (h0 : z374 = 0) (h1 : 0 ≤ z374 ∧ z374 ≤ 1) : 0 ≤ z374 ∧ z374 ≤ 0 := by omega
theorem vc_X12_letWay_7 {z402 : Int} (h0 : z402 = 1) (h1 : ¬ z402 = 2) (h2 : 0 ≤ z402 ∧ z402 ≤ 1) : 1 ≤ z402 ∧ z402 ≤ 1 := by omega
theorem vc_X12_letWay_8 {N z373 z383 : Int} (h0 : (20 - z373) < N + 1) (h1 : (z373 + 1) < z383) (h2 : 0 ≤ z373 ∧ z373 ≤ 18) (h3 : 2 ≤ z383 ∧ z383 ≤ 20) : (20 - (z373 + 1)) < N := by omega
theorem vc_X12_letWay_9 {z402 : Int} (h0 : ¬ z402 = 1) (h1 : ¬ z402 = 2) (h2 : 0 ≤ z402 ∧ z402 ≤ 1) : 0 ≤ z402 ∧ z402 ≤ 0 := by omega
theorem vc_X12_letWay_10 {z412 : Int} (h0 : z412 = 0) (h1 : 0 ≤ z412 ∧ z412 ≤ 1) : 0 ≤ z412 ∧ z412 ≤ 0 := by omega
theorem vc_X12_letWay_11 {z412 : Int} (h0 : ¬ z412 = 0) (h1 : 0 ≤ z412 ∧ z412 ≤ 1) : 1 ≤ z412 ∧ z412 ≤ 1 := by omega
theorem vc_X12_letWay_12 {z374 : Int} (h0 : ¬ z374 = 0) (h1 : 0 ≤ z374 ∧ z374 ≤ 1) : 1 ≤ z374 ∧ z374 ≤ 1 := by omega
theorem vc_X12_letWay_13 {z412 : Int} (h0 : z412 = 0) (h1 : 1 ≤ z412 ∧ z412 ≤ 1) : False := by omega
theorem vc_X12_letWay_14 {z402 : Int} (h0 : ¬ z402 = 0) (h1 : ¬ z402 = 2) (h2 : 0 ≤ z402 ∧ z402 ≤ 1) : 1 ≤ z402 ∧ z402 ≤ 1 := by omega
theorem vc_X12_letWay_15 {z402 : Int} (h0 : z402 = 0) (h1 : ¬ z402 = 2) (h2 : 0 ≤ z402 ∧ z402 ≤ 1) : 0 ≤ z402 ∧ z402 ≤ 0 := by omega
theorem vc_X12_letWay_16 {z402 : Int} (h0 : z402 = 2) (h1 : 0 ≤ z402 ∧ z402 ≤ 2) : 2 ≤ z402 ∧ z402 ≤ 2 := by omega
theorem vc_X12_letWay_17 {z399 : Int} (h0 : z399 = (-99999999)) (h1 : z399 = -99999999 ∨ (0 ≤ z399 ∧ z399 ≤ 19)) (h2 : (-99999999) ≤ z399 ∧ z399 ≤ 19) : (-99999999) ≤ z399 ∧ z399 ≤ (-99999999) := by omega
theorem vc_X12_letWay_18  : (20 - 0) < ((21 : Nat) : Int) := by omega
set_option maxRecDepth 4000 in
set_option maxHeartbeats 4000000 in
theorem c_X12_letWay {l : Launch} {D : va_G} {c : Nat → ClassId} {H0 : Heap} {sa : Nat × Nat × (Nat → Int32)} {w : mW} {μ : mM} (hw : mWF w) (hT : mT w μ) : sC (gG l D c H0 sa) mX12_letWay 2 0 0 [.ref 106] (mk w μ) (qP w μ (fun z => ((-2147483648) ≤ z ∧ z ≤ 2147483647) ∧ True)) := by
  refine sC.of rfl (by decide) (le_t rfl) ?_
  refine mr_lvE (lv' := [(0, .ref 106)]) rfl ?_
  refine mr_iconst (pc := 0) (z := 0) dX12_letWay_0 ?_
  refine mr_istore_n (pc := 1) (lv' := [(1, iv 0), (0, .ref 106)]) dX12_letWay_1 rfl (by decide) rfl ?_
  refine mr_iconst (pc := 2) (z := 0) dX12_letWay_2 ?_
  refine mr_istore_n (pc := 3) (lv' := [(2, iv 0), (1, iv 0), (0, .ref 106)]) dX12_letWay_3 rfl (by decide) rfl ?_
  have L375 : ∀ (nL375 : Nat) (z374 z373 : Int), True → (0 ≤ z374 ∧ z374 ≤ 1) → (0 ≤ z373 ∧ z373 ≤ 19) → (20 - z373) < (nL375 : Int) → sV (gG l D c H0 sa) mX12_letWay (sRm 2 0 0) (sZ (gG l D c H0 sa) 0 0 (qP w μ (fun z => ((-2147483648) ≤ z ∧ z ≤ 2147483647) ∧ True))) 4 [(0, .ref 106), (1, iv z374), (2, iv z373)] [] (mk w μ) 0 0 := by
    intro nL375
    induction nL375 with
    | zero => intro z374 z373 _ h376 h377 h381; exact ((vc_X12_letWay_1 h381 h377)).elim
    | succ nL375 ih382 =>
      intro z374 z373 _ h376 h377 h381
      refine mr_iload_n (pc := 4) (z := z373) dX12_letWay_4 rfl rfl ?_
      refine mr_iconst (pc := 5) (z := 1) dX12_letWay_5 ?_
      refine mr_iadd (pc := 6) (x := z373) (y := 1) dX12_letWay_6 ?_
      refine sv_aload_n (pc := 7) dX12_letWay_7 rfl rfl ?_
      refine gf_X12_15 (pc := 8) dX12_letWay_8 wF_X12_79 (A_106 hw) hT fun z383 q384 h385 => ?_
      refine mr_icmp_ge (pc := 11) (tgt := 125) dX12_letWay_11 (by decide) (r32 (rAdd (e := 1) (f := 20) h377 (rR (x := 1)) rfl) rfl) (r32 h385 rfl) (fun h386 => ?_) (fun h386 => ?_)
      · refine mr_iconst (pc := 125) (z := 0) dX12_letWay_125 ?_
        exact mr_iretP dX12_letWay_126 rfl (le_t rfl) (le_t rfl) ⟨(rW (c := (-2147483648)) (d := 2147483647) (rR (x := 0)) rfl), trivial⟩
      have h387 : 0 ≤ z373 ∧ z373 ≤ 18 := (vc_X12_letWay_2 h386 h377 h385)
      have h388 : 2 ≤ z383 ∧ z383 ≤ 20 := (vc_X12_letWay_3 h386 h387 h385)
      refine sv_aload_n (pc := 14) dX12_letWay_14 rfl rfl ?_
      refine sv_aload_n (pc := 15) dX12_letWay_15 rfl rfl ?_
      refine gf_X12_16 (pc := 16) dX12_letWay_16 wF_X12_82 (A_106 hw) hT ?_
      refine mr_iload_n (pc := 19) (z := z373) dX12_letWay_19 rfl rfl ?_
      refine la_118 (pc := 20) dX12_letWay_20 (A_118 hw) hT (rIx (n := 20) h387 rfl) fun z389 q390 h391 => ?_
      refine sv_aload_n (pc := 21) dX12_letWay_21 rfl rfl ?_
      refine gf_X12_16 (pc := 22) dX12_letWay_22 wF_X12_82 (A_106 hw) hT ?_
      refine mr_iload_n (pc := 25) (z := z373) dX12_letWay_25 rfl rfl ?_
      refine mr_iconst (pc := 26) (z := 1) dX12_letWay_26 ?_
      refine mr_iadd (pc := 27) (x := z373) (y := 1) dX12_letWay_27 ?_
      refine la_118 (pc := 28) dX12_letWay_28 (A_118 hw) hT (rIx (n := 20) (rAdd (e := 1) (f := 19) h387 (rR (x := 1)) rfl) rfl) fun z392 q393 h394 => ?_
      refine mr_cVP (pc := 29) (c_X12_tieOf hw hT (rW (c := (-2147483648)) (d := 2147483647) h391 rfl) (rW (c := (-2147483648)) (d := 2147483647) h394 rfl)) (gOk _ _ _ _ _) dX12_letWay_29 (tX12_tieOf _ _ _ _ _) ⟨wV_X12_tieOf, wL_X12_tieOf⟩ wM_X12_43 (gCX12 _ _ _ _ _) rfl (A_106 hw) rfl ⟨le_t rfl, le_t rfl⟩ ⟨le_t rfl, le_t rfl⟩ rfl (le_t rfl) fun z399 h398 => ?_
      refine mr_istore_n (pc := 32) (lv' := [(3, iv z399), (0, .ref 106), (1, iv z374), (2, iv z373)]) dX12_letWay_32 rfl (by decide) rfl ?_
      refine mr_iload_n (pc := 33) (z := z399) dX12_letWay_33 rfl rfl ?_
      refine mr_ldc (pc := 34) (z := (-99999999)) dX12_letWay_34 wG_X12_29 (by decide) ?_
      refine mr_icmp_ne (pc := 36) (tgt := 43) dX12_letWay_36 (by decide) (r32 h398.1 rfl) (r32 (rR (x := (-99999999))) rfl) (fun h400 => ?_) (fun h400 => ?_)
      · have h401 : 0 ≤ z399 ∧ z399 ≤ 19 := (vc_X12_letWay_4 h400 h398.2.1 h398.1)
        refine sv_aload_n (pc := 43) dX12_letWay_43 rfl rfl ?_
        refine gf_X12_8 (pc := 44) dX12_letWay_44 wF_X12_46 (A_106 hw) hT ?_
        refine mr_iload_n (pc := 47) (z := z399) dX12_letWay_47 rfl rfl ?_
        refine la_111 (pc := 48) dX12_letWay_48 (A_111 hw) hT (rIx (n := 20) h401 rfl) fun z402 q403 h404 => ?_
        refine mr_iconst (pc := 49) (z := 2) dX12_letWay_49 ?_
        refine mr_icmp_ne (pc := 50) (tgt := 56) dX12_letWay_50 (by decide) (r32 h404 rfl) (r32 (rR (x := 2)) rfl) (fun h405 => ?_) (fun h405 => ?_)
        · have h406 : 0 ≤ z402 ∧ z402 ≤ 1 := (vc_X12_letWay_5 h405 h404)
          refine sv_aload_n (pc := 56) dX12_letWay_56 rfl rfl ?_
          refine gf_X12_8 (pc := 57) dX12_letWay_57 wF_X12_46 (A_106 hw) hT ?_
          refine mr_iload_n (pc := 60) (z := z399) dX12_letWay_60 rfl rfl ?_
          refine lk_111 (pc := 61) dX12_letWay_61 (A_111 hw) (rIx (n := 20) h401 rfl) q403 ?_
          have J414 : ∀ (z412 : Int), ((0 ≤ z412 ∧ z412 ≤ 1)) → sV (gG l D c H0 sa) mX12_letWay (sRm 2 0 0) (sZ (gG l D c H0 sa) 0 0 (qP w μ (fun z => ((-2147483648) ≤ z ∧ z ≤ 2147483647) ∧ True))) 87 [(0, .ref 106), (1, iv z374), (2, iv z373), (3, iv z399)] [iv z412] (mk w μ) 0 0 := by
            intro z412 h413
            refine mr_istore (pc := 87) (lv' := [(4, iv z412), (0, .ref 106), (1, iv z374), (2, iv z373), (3, iv z399)]) dX12_letWay_87 (by decide) rfl ?_
            refine mr_iload_n (pc := 89) (z := z374) dX12_letWay_89 rfl rfl ?_
            refine mr_if_eq (pc := 90) (tgt := 102) dX12_letWay_90 (by decide) (r32 h376 rfl) (fun h415 => ?_) (fun h415 => ?_)
            · have h416 : 0 ≤ z374 ∧ z374 ≤ 0 := (vc_X12_letWay_6 h415 h376)
              refine sv_aload_n (pc := 102) dX12_letWay_102 rfl rfl ?_
              refine gf_X12_8 (pc := 103) dX12_letWay_103 wF_X12_46 (A_106 hw) hT ?_
              refine mr_iload_n (pc := 106) (z := z399) dX12_letWay_106 rfl rfl ?_
              refine lk_111 (pc := 107) dX12_letWay_107 (A_111 hw) (rIx (n := 20) h401 rfl) q403 ?_
              refine mr_iconst (pc := 108) (z := 1) dX12_letWay_108 ?_
              refine mr_icmp_eq (pc := 109) (tgt := 117) dX12_letWay_109 (by decide) (r32 h406 rfl) (r32 (rR (x := 1)) rfl) (fun h421 => ?_) (fun h421 => ?_)
              · have h422 : 1 ≤ z402 ∧ z402 ≤ 1 := (vc_X12_letWay_7 h421 h405 h406)
                refine mr_iconst (pc := 117) (z := 1) dX12_letWay_117 ?_
                refine mr_istore_n (pc := 118) (lv' := [(1, iv 1), (4, iv z412), (0, .ref 106), (2, iv z373), (3, iv z399)]) dX12_letWay_118 rfl (by decide) rfl ?_
                refine mr_iinc (pc := 119) (lv' := [(2, iv (z373 + 1)), (1, iv 1), (4, iv z412), (0, .ref 106), (3, iv z399)]) dX12_letWay_119 rfl (by decide) rfl ?_
                refine sv_goto (pc := 122) (tgt := 4) dX12_letWay_122 (by decide) ?_
                refine mr_lvS (lv' := [(0, .ref 106), (1, iv 1), (2, iv (z373 + 1))]) (List.forall_mem_cons.mpr ⟨rfl, List.forall_mem_cons.mpr ⟨rfl, List.forall_mem_cons.mpr ⟨rfl, fun _ h => absurd h List.not_mem_nil⟩⟩⟩) ?_
                exact ih382 1 (z373 + 1) trivial (rW (c := 0) (d := 1) (rR (x := 1)) rfl) (rW (c := 0) (d := 19) (rAdd (e := 1) (f := 19) h387 (rR (x := 1)) rfl) rfl) (vc_X12_letWay_8 (nS h381) h386 h387 h388)
              have h423 : 0 ≤ z402 ∧ z402 ≤ 0 := (vc_X12_letWay_9 h421 h405 h406)
              refine mr_iload (pc := 112) (z := z412) dX12_letWay_112 rfl ?_
              refine mr_if_eq (pc := 114) (tgt := 119) dX12_letWay_114 (by decide) (r32 h413 rfl) (fun h426 => ?_) (fun h426 => ?_)
              · have h427 : 0 ≤ z412 ∧ z412 ≤ 0 := (vc_X12_letWay_10 h426 h413)
                refine mr_iinc (pc := 119) (lv' := [(2, iv (z373 + 1)), (4, iv z412), (0, .ref 106), (1, iv z374), (3, iv z399)]) dX12_letWay_119 rfl (by decide) rfl ?_
                refine sv_goto (pc := 122) (tgt := 4) dX12_letWay_122 (by decide) ?_
                refine mr_lvS (lv' := [(0, .ref 106), (1, iv z374), (2, iv (z373 + 1))]) (List.forall_mem_cons.mpr ⟨rfl, List.forall_mem_cons.mpr ⟨rfl, List.forall_mem_cons.mpr ⟨rfl, fun _ h => absurd h List.not_mem_nil⟩⟩⟩) ?_
                exact ih382 z374 (z373 + 1) trivial (rW (c := 0) (d := 1) h416 rfl) (rW (c := 0) (d := 19) (rAdd (e := 1) (f := 19) h387 (rR (x := 1)) rfl) rfl) (vc_X12_letWay_8 (nS h381) h386 h387 h388)
              have h428 : 1 ≤ z412 ∧ z412 ≤ 1 := (vc_X12_letWay_11 h426 h413)
              refine mr_iconst (pc := 117) (z := 1) dX12_letWay_117 ?_
              refine mr_istore_n (pc := 118) (lv' := [(1, iv 1), (4, iv z412), (0, .ref 106), (2, iv z373), (3, iv z399)]) dX12_letWay_118 rfl (by decide) rfl ?_
              refine mr_iinc (pc := 119) (lv' := [(2, iv (z373 + 1)), (1, iv 1), (4, iv z412), (0, .ref 106), (3, iv z399)]) dX12_letWay_119 rfl (by decide) rfl ?_
              refine sv_goto (pc := 122) (tgt := 4) dX12_letWay_122 (by decide) ?_
              refine mr_lvS (lv' := [(0, .ref 106), (1, iv 1), (2, iv (z373 + 1))]) (List.forall_mem_cons.mpr ⟨rfl, List.forall_mem_cons.mpr ⟨rfl, List.forall_mem_cons.mpr ⟨rfl, fun _ h => absurd h List.not_mem_nil⟩⟩⟩) ?_
              exact ih382 1 (z373 + 1) trivial (rW (c := 0) (d := 1) (rR (x := 1)) rfl) (rW (c := 0) (d := 19) (rAdd (e := 1) (f := 19) h387 (rR (x := 1)) rfl) rfl) (vc_X12_letWay_8 (nS h381) h386 h387 h388)
            have h429 : 1 ≤ z374 ∧ z374 ≤ 1 := (vc_X12_letWay_12 h415 h376)
            refine mr_iload (pc := 93) (z := z412) dX12_letWay_93 rfl ?_
            refine mr_if_ne (pc := 95) (tgt := 102) dX12_letWay_95 (by decide) (r32 h413 rfl) (fun h430 => ?_) (fun h430 => ?_)
            · have h431 : 1 ≤ z412 ∧ z412 ≤ 1 := (vc_X12_letWay_11 h430 h413)
              refine sv_aload_n (pc := 102) dX12_letWay_102 rfl rfl ?_
              refine gf_X12_8 (pc := 103) dX12_letWay_103 wF_X12_46 (A_106 hw) hT ?_
              refine mr_iload_n (pc := 106) (z := z399) dX12_letWay_106 rfl rfl ?_
              refine lk_111 (pc := 107) dX12_letWay_107 (A_111 hw) (rIx (n := 20) h401 rfl) q403 ?_
              refine mr_iconst (pc := 108) (z := 1) dX12_letWay_108 ?_
              refine mr_icmp_eq (pc := 109) (tgt := 117) dX12_letWay_109 (by decide) (r32 h406 rfl) (r32 (rR (x := 1)) rfl) (fun h434 => ?_) (fun h434 => ?_)
              · have h435 : 1 ≤ z402 ∧ z402 ≤ 1 := (vc_X12_letWay_7 h434 h405 h406)
                refine mr_iconst (pc := 117) (z := 1) dX12_letWay_117 ?_
                refine mr_istore_n (pc := 118) (lv' := [(1, iv 1), (4, iv z412), (0, .ref 106), (2, iv z373), (3, iv z399)]) dX12_letWay_118 rfl (by decide) rfl ?_
                refine mr_iinc (pc := 119) (lv' := [(2, iv (z373 + 1)), (1, iv 1), (4, iv z412), (0, .ref 106), (3, iv z399)]) dX12_letWay_119 rfl (by decide) rfl ?_
                refine sv_goto (pc := 122) (tgt := 4) dX12_letWay_122 (by decide) ?_
                refine mr_lvS (lv' := [(0, .ref 106), (1, iv 1), (2, iv (z373 + 1))]) (List.forall_mem_cons.mpr ⟨rfl, List.forall_mem_cons.mpr ⟨rfl, List.forall_mem_cons.mpr ⟨rfl, fun _ h => absurd h List.not_mem_nil⟩⟩⟩) ?_
                exact ih382 1 (z373 + 1) trivial (rW (c := 0) (d := 1) (rR (x := 1)) rfl) (rW (c := 0) (d := 19) (rAdd (e := 1) (f := 19) h387 (rR (x := 1)) rfl) rfl) (vc_X12_letWay_8 (nS h381) h386 h387 h388)
              have h436 : 0 ≤ z402 ∧ z402 ≤ 0 := (vc_X12_letWay_9 h434 h405 h406)
              refine mr_iload (pc := 112) (z := z412) dX12_letWay_112 rfl ?_
              refine mr_if_eq (pc := 114) (tgt := 119) dX12_letWay_114 (by decide) (r32 h431 rfl) (fun h => ((vc_X12_letWay_13 h h431)).elim) (fun _ => ?_)
              refine mr_iconst (pc := 117) (z := 1) dX12_letWay_117 ?_
              refine mr_istore_n (pc := 118) (lv' := [(1, iv 1), (4, iv z412), (0, .ref 106), (2, iv z373), (3, iv z399)]) dX12_letWay_118 rfl (by decide) rfl ?_
              refine mr_iinc (pc := 119) (lv' := [(2, iv (z373 + 1)), (1, iv 1), (4, iv z412), (0, .ref 106), (3, iv z399)]) dX12_letWay_119 rfl (by decide) rfl ?_
              refine sv_goto (pc := 122) (tgt := 4) dX12_letWay_122 (by decide) ?_
              refine mr_lvS (lv' := [(0, .ref 106), (1, iv 1), (2, iv (z373 + 1))]) (List.forall_mem_cons.mpr ⟨rfl, List.forall_mem_cons.mpr ⟨rfl, List.forall_mem_cons.mpr ⟨rfl, fun _ h => absurd h List.not_mem_nil⟩⟩⟩) ?_
              exact ih382 1 (z373 + 1) trivial (rW (c := 0) (d := 1) (rR (x := 1)) rfl) (rW (c := 0) (d := 19) (rAdd (e := 1) (f := 19) h387 (rR (x := 1)) rfl) rfl) (vc_X12_letWay_8 (nS h381) h386 h387 h388)
            have h437 : 0 ≤ z412 ∧ z412 ≤ 0 := (vc_X12_letWay_10 h430 h413)
            refine mr_iload_n (pc := 98) (z := z373) dX12_letWay_98 rfl rfl ?_
            refine mr_iconst (pc := 99) (z := 1) dX12_letWay_99 ?_
            refine mr_iadd (pc := 100) (x := z373) (y := 1) dX12_letWay_100 ?_
            exact mr_iretP dX12_letWay_101 rfl (le_t rfl) (le_t rfl) ⟨(rW (c := (-2147483648)) (d := 2147483647) (rAdd (e := 1) (f := 19) h387 (rR (x := 1)) rfl) rfl), trivial⟩
          refine mr_if_ne (pc := 62) (tgt := 86) dX12_letWay_62 (by decide) (r32 h406 rfl) (fun h438 => ?_) (fun h438 => ?_)
          · have h439 : 1 ≤ z402 ∧ z402 ≤ 1 := (vc_X12_letWay_14 h438 h405 h406)
            refine mr_iconst (pc := 86) (z := 0) dX12_letWay_86 ?_
            refine mr_lvS (lv' := [(0, .ref 106), (1, iv z374), (2, iv z373), (3, iv z399)]) (List.forall_mem_cons.mpr ⟨rfl, List.forall_mem_cons.mpr ⟨rfl, List.forall_mem_cons.mpr ⟨rfl, List.forall_mem_cons.mpr ⟨rfl, fun _ h => absurd h List.not_mem_nil⟩⟩⟩⟩) ?_
            exact J414 0 (rW (c := 0) (d := 1) (rR (x := 0)) rfl)
          have h440 : 0 ≤ z402 ∧ z402 ≤ 0 := (vc_X12_letWay_15 h438 h405 h406)
          refine sv_aload_n (pc := 65) dX12_letWay_65 rfl rfl ?_
          refine gf_X12_7 (pc := 66) dX12_letWay_66 wF_X12_40 (A_106 hw) hT ?_
          refine mr_iconst (pc := 69) (z := 2) dX12_letWay_69 ?_
          refine mr_iload_n (pc := 70) (z := z399) dX12_letWay_70 rfl rfl ?_
          refine mr_imul (pc := 71) (x := 2) (y := z399) dX12_letWay_71 ?_
          refine la_110 (pc := 72) dX12_letWay_72 (A_110 hw) hT (rIx (n := 40) (rMulL (n := 2) (e := 0) (f := 38) h401 rfl) rfl) fun z441 q442 h443 => ?_
          refine sv_aload_n (pc := 73) dX12_letWay_73 rfl rfl ?_
          refine gf_X12_16 (pc := 74) dX12_letWay_74 wF_X12_82 (A_106 hw) hT ?_
          refine mr_iload_n (pc := 77) (z := z373) dX12_letWay_77 rfl rfl ?_
          refine lk_118 (pc := 78) dX12_letWay_78 (A_118 hw) (rIx (n := 20) h387 rfl) q390 ?_
          refine mr_icmp_ne (pc := 79) (tgt := 86) dX12_letWay_79 (by decide) (r32 h443 rfl) (r32 h391 rfl) (fun h444 => ?_) (fun h444 => ?_)
          · refine mr_iconst (pc := 86) (z := 0) dX12_letWay_86 ?_
            refine mr_lvS (lv' := [(0, .ref 106), (1, iv z374), (2, iv z373), (3, iv z399)]) (List.forall_mem_cons.mpr ⟨rfl, List.forall_mem_cons.mpr ⟨rfl, List.forall_mem_cons.mpr ⟨rfl, List.forall_mem_cons.mpr ⟨rfl, fun _ h => absurd h List.not_mem_nil⟩⟩⟩⟩) ?_
            exact J414 0 (rW (c := 0) (d := 1) (rR (x := 0)) rfl)
          refine mr_iconst (pc := 82) (z := 1) dX12_letWay_82 ?_
          refine sv_goto (pc := 83) (tgt := 87) dX12_letWay_83 (by decide) ?_
          refine mr_lvS (lv' := [(0, .ref 106), (1, iv z374), (2, iv z373), (3, iv z399)]) (List.forall_mem_cons.mpr ⟨rfl, List.forall_mem_cons.mpr ⟨rfl, List.forall_mem_cons.mpr ⟨rfl, List.forall_mem_cons.mpr ⟨rfl, fun _ h => absurd h List.not_mem_nil⟩⟩⟩⟩) ?_
          exact J414 1 (rW (c := 0) (d := 1) (rR (x := 1)) rfl)
        have h445 : 2 ≤ z402 ∧ z402 ≤ 2 := (vc_X12_letWay_16 h405 h404)
        refine sv_goto (pc := 53) (tgt := 119) dX12_letWay_53 (by decide) ?_
        refine mr_iinc (pc := 119) (lv' := [(2, iv (z373 + 1)), (3, iv z399), (0, .ref 106), (1, iv z374)]) dX12_letWay_119 rfl (by decide) rfl ?_
        refine sv_goto (pc := 122) (tgt := 4) dX12_letWay_122 (by decide) ?_
        refine mr_lvS (lv' := [(0, .ref 106), (1, iv z374), (2, iv (z373 + 1))]) (List.forall_mem_cons.mpr ⟨rfl, List.forall_mem_cons.mpr ⟨rfl, List.forall_mem_cons.mpr ⟨rfl, fun _ h => absurd h List.not_mem_nil⟩⟩⟩) ?_
        exact ih382 z374 (z373 + 1) trivial h376 (rW (c := 0) (d := 19) (rAdd (e := 1) (f := 19) h387 (rR (x := 1)) rfl) rfl) (vc_X12_letWay_8 (nS h381) h386 h387 h388)
      have h446 : (-99999999) ≤ z399 ∧ z399 ≤ (-99999999) := (vc_X12_letWay_17 h400 h398.2.1 h398.1)
      refine mr_iload_n (pc := 39) (z := z373) dX12_letWay_39 rfl rfl ?_
      refine mr_iconst (pc := 40) (z := 1) dX12_letWay_40 ?_
      refine mr_iadd (pc := 41) (x := z373) (y := 1) dX12_letWay_41 ?_
      exact mr_iretP dX12_letWay_42 rfl (le_t rfl) (le_t rfl) ⟨(rW (c := (-2147483648)) (d := 2147483647) (rAdd (e := 1) (f := 19) h387 (rR (x := 1)) rfl) rfl), trivial⟩
  refine mr_lvS (lv' := [(0, .ref 106), (1, iv 0), (2, iv 0)]) (List.forall_mem_cons.mpr ⟨rfl, List.forall_mem_cons.mpr ⟨rfl, List.forall_mem_cons.mpr ⟨rfl, fun _ h => absurd h List.not_mem_nil⟩⟩⟩) ?_
  exact L375 21 0 0 trivial (rW (c := 0) (d := 1) (rR (x := 0)) rfl) (rW (c := 0) (d := 19) (rR (x := 0)) rfl) vc_X12_letWay_18
theorem vc_X12_judgedAnew_1 {z745 : Int} (h0 : (31 - z745) < ((0 : Nat) : Int)) (h1 : 0 ≤ z745 ∧ z745 ≤ 30) : False := by omega
theorem vc_X12_judgedAnew_2 {z745 z755 : Int} (h0 : z745 < z755) (h1 : 0 ≤ z745 ∧ z745 ≤ 30) (h2 : 0 ≤ z755 ∧ z755 ≤ 30) : 0 ≤ z745 ∧ z745 ≤ 29 := by omega
theorem vc_X12_judgedAnew_3 {z745 z755 : Int} (h0 : z745 < z755) (h1 : 0 ≤ z745 ∧ z745 ≤ 29) (h2 : 0 ≤ z755 ∧ z755 ≤ 30) : 1 ≤ z755 ∧ z755 ≤ 30 := by omega
theorem vc_X12_judgedAnew_4 {z848 : Int} (h0 : z848 = 0) (h1 : 0 ≤ z848 ∧ z848 ≤ 1) : 0 ≤ z848 ∧ z848 ≤ 0 := by omega
theorem vc_X12_judgedAnew_5 {N z745 z755 : Int} (h0 : (31 - z745) < N + 1) (h1 : z745 < z755) (h2 : 0 ≤ z745 ∧ z745 ≤ 29) (h3 : 1 ≤ z755 ∧ z755 ≤ 30) : (31 - (z745 + 1)) < N := by omega
theorem vc_X12_judgedAnew_6 {z848 : Int} (h0 : ¬ z848 = 0) (h1 : 0 ≤ z848 ∧ z848 ≤ 1) : 1 ≤ z848 ∧ z848 ≤ 1 := by omega
theorem vc_X12_judgedAnew_7 {z889 z892 : Int} (h0 : z892 < z889) (h1 : 0 ≤ z889 ∧ z889 ≤ 32) (h2 : 0 ≤ z892 ∧ z892 ≤ 32) : 1 ≤ z889 ∧ z889 ≤ 32 := by omega
theorem vc_X12_judgedAnew_8 {z889 z892 : Int} (h0 : z892 < z889) (h1 : 1 ≤ z889 ∧ z889 ≤ 32) (h2 : 0 ≤ z892 ∧ z892 ≤ 32) : 0 ≤ z892 ∧ z892 ≤ 31 := by omega
theorem vc_X12_judgedAnew_9 {z935 : Int} (h0 : ¬ z935 = 0) (h1 : 0 ≤ z935 ∧ z935 ≤ 1) : 1 ≤ z935 ∧ z935 ≤ 1 := by omega
theorem vc_X12_judgedAnew_10 {z889 z892 z966 : Int} (h0 : z966 < z892) (h1 : z889 ≤ z892) (h2 : 0 ≤ z889 ∧ z889 ≤ 32) (h3 : 0 ≤ z892 ∧ z892 ≤ 32) (h4 : (-2147483648) ≤ z966 ∧ z966 ≤ 2147483647) : (-2147483648) ≤ z966 ∧ z966 ≤ 31 := by omega
theorem vc_X12_judgedAnew_11 {z889 z892 z966 : Int} (h0 : z892 ≤ z966) (h1 : z889 ≤ z892) (h2 : 0 ≤ z889 ∧ z889 ≤ 32) (h3 : 0 ≤ z892 ∧ z892 ≤ 32) (h4 : (-2147483648) ≤ z966 ∧ z966 ≤ 2147483647) : 0 ≤ z966 ∧ z966 ≤ 2147483647 := by omega
theorem vc_X12_judgedAnew_12 {z746 : Int} (h0 : ¬ z746 = 2) (h1 : 0 ≤ z746 ∧ z746 ≤ 2) : 0 ≤ z746 ∧ z746 ≤ 1 := by omega
theorem vc_X12_judgedAnew_13 {z746 : Int} (h0 : z746 = 2) (h1 : 0 ≤ z746 ∧ z746 ≤ 2) : 2 ≤ z746 ∧ z746 ≤ 2 := by omega
theorem vc_X12_judgedAnew_14 {z935 : Int} (h0 : z935 = 0) (h1 : 0 ≤ z935 ∧ z935 ≤ 1) : 0 ≤ z935 ∧ z935 ≤ 0 := by omega
theorem vc_X12_judgedAnew_15 {p3 z827 : Int} (h0 : p3 < z827) (h1 : (-2147483648) ≤ p3 ∧ p3 ≤ 2147483647) (h2 : (-2147483648) ≤ z827 ∧ z827 ≤ 2147483647) : (-2147483647) ≤ z827 ∧ z827 ≤ 2147483647 := by omega
theorem vc_X12_judgedAnew_16 {p3 z827 : Int} (h0 : p3 < z827) (h1 : (-2147483648) ≤ p3 ∧ p3 ≤ 2147483647) (h2 : (-2147483647) ≤ z827 ∧ z827 ≤ 2147483647) : (-2147483648) ≤ p3 ∧ p3 ≤ 2147483646 := by omega
theorem vc_X12_judgedAnew_17 {p3 z827 z981 : Int} (h0 : p3 < z981) (h1 : z827 ≤ p3) (h2 : (-2147483648) ≤ p3 ∧ p3 ≤ 2147483647) (h3 : (-2147483648) ≤ z827 ∧ z827 ≤ 2147483647) (h4 : (-2147483648) ≤ z981 ∧ z981 ≤ 2147483647) : (-2147483648) ≤ p3 ∧ p3 ≤ 2147483646 := by omega
theorem vc_X12_judgedAnew_18 {p3 z827 z981 : Int} (h0 : p3 < z981) (h1 : z827 ≤ p3) (h2 : (-2147483648) ≤ p3 ∧ p3 ≤ 2147483646) (h3 : (-2147483648) ≤ z827 ∧ z827 ≤ 2147483647) (h4 : (-2147483648) ≤ z981 ∧ z981 ≤ 2147483647) : (-2147483647) ≤ z981 ∧ z981 ≤ 2147483647 := by omega
theorem vc_X12_judgedAnew_19 {p4 z987 : Int} (h0 : p4 < z987) (h1 : (-2147483648) ≤ p4 ∧ p4 ≤ 2147483647) (h2 : (-2147483648) ≤ z987 ∧ z987 ≤ 2147483647) : (-2147483647) ≤ z987 ∧ z987 ≤ 2147483647 := by omega
theorem vc_X12_judgedAnew_20 {p4 z987 : Int} (h0 : p4 < z987) (h1 : (-2147483648) ≤ p4 ∧ p4 ≤ 2147483647) (h2 : (-2147483647) ≤ z987 ∧ z987 ≤ 2147483647) : (-2147483648) ≤ p4 ∧ p4 ≤ 2147483646 := by omega
theorem vc_X12_judgedAnew_21 {z993 : Int} (h0 : z993 = (-99999999)) (h1 : (-2147483648) ≤ z993 ∧ z993 ≤ 2147483647) : (-99999999) ≤ z993 ∧ z993 ≤ (-99999999) := by omega
theorem vc_X12_judgedAnew_22 {p4 z987 z993 : Int} (h0 : p4 < z993) (h1 : z987 ≤ p4) (h2 : ¬ z993 = (-99999999)) (h3 : (-2147483648) ≤ p4 ∧ p4 ≤ 2147483647) (h4 : (-2147483648) ≤ z987 ∧ z987 ≤ 2147483647) (h5 : (-2147483648) ≤ z993 ∧ z993 ≤ 2147483647) : (-2147483648) ≤ p4 ∧ p4 ≤ 2147483646 := by omega
theorem vc_X12_judgedAnew_23 {p4 z987 z993 : Int} (h0 : p4 < z993) (h1 : z987 ≤ p4) (h2 : ¬ z993 = (-99999999)) (h3 : (-2147483648) ≤ p4 ∧ p4 ≤ 2147483646) (h4 : (-2147483648) ≤ z987 ∧ z987 ≤ 2147483647) (h5 : (-2147483648) ≤ z993 ∧ z993 ≤ 2147483647) : (-2147483647) ≤ z993 ∧ z993 ≤ 2147483647 := by omega
theorem vc_X12_judgedAnew_24  : (31 - 0) < ((32 : Nat) : Int) := by omega
