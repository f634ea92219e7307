section
theorem vc_X12_hand_4 {p1 : Int} (h0 : 5 < p1) (h1 : 0 ≤ p1) (h2 : 0 ≤ p1 ∧ p1 ≤ 2147483647) : 6 ≤ p1 ∧ p1 ≤ 2147483647 := by omega
theorem vc_X12_hand_5 {p1 : Int} (h0 : p1 < 10) (h1 : 0 ≤ p1) (h2 : 5 < p1) (h3 : 6 ≤ p1 ∧ p1 ≤ 2147483647) : 6 ≤ p1 ∧ p1 ≤ 9 := by omega
theorem vc_X12_hand_6 {p1 : Int} (h0 : 100 ≤ p1) (h1 : 6 ≤ p1 ∧ p1 ≤ 9) : False := by omega
theorem vc_X12_hand_7 {p1 : Int} (h0 : 10 ≤ p1) (h1 : 0 ≤ p1) (h2 : 5 < p1) (h3 : 6 ≤ p1 ∧ p1 ≤ 2147483647) : 10 ≤ p1 ∧ p1 ≤ 2147483647 := by omega
theorem vc_X12_hand_8  : ((4 : Int) : Int) % (40 : Int) = (4 : Int) := by omega
theorem vc_X12_hand_9 {p1 z14 : Int} (h0 : p1 < 100) (h1 : 0 ≤ p1) (h2 : 5 < p1) (h3 : 10 ≤ p1) (h4 : z14 ≤ (p1 - 10)) (h5 : 10 ≤ p1 ∧ p1 ≤ 2147483647) (h6 : 0 ≤ z14 ∧ z14 ≤ 20) : 10 ≤ p1 ∧ p1 ≤ 99 := by omega
theorem vc_X12_hand_10 {p1 z14 : Int} (h0 : 100 ≤ p1) (h1 : 0 ≤ p1) (h2 : 5 < p1) (h3 : 10 ≤ p1) (h4 : z14 ≤ (p1 - 10)) (h5 : 10 ≤ p1 ∧ p1 ≤ 2147483647) (h6 : 0 ≤ z14 ∧ z14 ≤ 20) : 100 ≤ p1 ∧ p1 ≤ 2147483647 := by omega
theorem vc_X12_hand_11  : ((5 : Int) : Int) % (40 : Int) = (5 : Int) := by omega
theorem vc_X12_hand_12 {p1 z14 z33 : Int} (h0 : (p1 - 100) < z33) (h1 : 0 ≤ p1) (h2 : 5 < p1) (h3 : 10 ≤ p1) (h4 : z14 ≤ (p1 - 10)) (h5 : 100 ≤ p1) (h6 : 100 ≤ p1 ∧ p1 ≤ 2147483647) (h7 : 0 ≤ z14 ∧ z14 ≤ 20) (h8 : 0 ≤ z33 ∧ z33 ≤ 8) : 100 ≤ p1 ∧ p1 ≤ 107 := by omega
theorem vc_X12_hand_13 {p1 z14 z33 : Int} (h0 : (p1 - 100) < z33) (h1 : 0 ≤ p1) (h2 : 5 < p1) (h3 : 10 ≤ p1) (h4 : z14 ≤ (p1 - 10)) (h5 : 100 ≤ p1) (h6 : 100 ≤ p1 ∧ p1 ≤ 107) (h7 : 0 ≤ z14 ∧ z14 ≤ 20) (h8 : 0 ≤ z33 ∧ z33 ≤ 8) : 1 ≤ z33 ∧ z33 ≤ 8 := by omega
theorem vc_X12_hand_14 {p1 z14 : Int} (h0 : (p1 - 10) < z14) (h1 : 0 ≤ p1) (h2 : 5 < p1) (h3 : 10 ≤ p1) (h4 : 10 ≤ p1 ∧ p1 ≤ 2147483647) (h5 : 0 ≤ z14 ∧ z14 ≤ 20) : 10 ≤ p1 ∧ p1 ≤ 29 := by omega
theorem vc_X12_hand_15 {p1 z14 : Int} (h0 : (p1 - 10) < z14) (h1 : 0 ≤ p1) (h2 : 5 < p1) (h3 : 10 ≤ p1) (h4 : 10 ≤ p1 ∧ p1 ≤ 29) (h5 : 0 ≤ z14 ∧ z14 ≤ 20) : 1 ≤ z14 ∧ z14 ≤ 20 := by omega
theorem vc_X12_hand_16 {p1 : Int} (h0 : p1 ≤ 5) (h1 : 0 ≤ p1) (h2 : 0 ≤ p1 ∧ p1 ≤ 2147483647) : 0 ≤ p1 ∧ p1 ≤ 5 := by omega
set_option maxRecDepth 4000 in
set_option maxHeartbeats 4000000 in
theorem c_X12_hand {l : Launch} {D : va_G} {c : Nat → ClassId} {H0 : Heap} {sa : Nat × Nat × (Nat → Int32)} {w : mW} {μ : mM} (hw : mWF w) (hT : mT w μ) {p1 : Int} (hp1 : (-2147483648) ≤ p1 ∧ p1 ≤ 2147483647) : sC (gG l D c H0 sa) mX12_hand 1 0 0 [.ref 106, iv p1] (mk w μ) (qP w μ (fun z => ((-2147483648) ≤ z ∧ z ≤ 2147483647) ∧ True)) := by
  refine sC.of rfl (by decide) (le_t rfl) ?_
  refine mr_lvE (lv' := [(0, .ref 106), (1, iv p1)]) rfl ?_
  refine sv_aload_n (pc := 0) dX12_hand_0 rfl rfl ?_
  refine gf_X12_70 (pc := 1) dX12_hand_1 wF_X12_411 (A_106 hw) hT fun z1 q2 h3 => ?_
  refine mr_if_eq (pc := 4) (tgt := 11) dX12_hand_4 (by decide) (r32 h3 rfl) (fun h4 => ?_) (fun h4 => ?_)
  · have h5 : 0 ≤ z1 ∧ z1 ≤ 0 := (vc_X12_ring_22 h4 h3)
    refine mr_ldc (pc := 11) (z := (-99999999)) dX12_hand_11 wG_X12_29 (by decide) ?_
    exact mr_iretP dX12_hand_13 rfl (le_t rfl) (le_t rfl) ⟨(rW (c := (-2147483648)) (d := 2147483647) (rR (x := (-99999999))) rfl), trivial⟩
  have h6 : 1 ≤ z1 ∧ z1 ≤ 1 := (vc_X12_ring_24 h4 h3)
  refine mr_iload_n (pc := 7) (z := p1) dX12_hand_7 rfl rfl ?_
  refine mr_if_ge (pc := 8) (tgt := 14) dX12_hand_8 (by decide) hp1 (fun h7 => ?_) (fun h7 => ?_)
  · have h8 : 0 ≤ p1 ∧ p1 ≤ 2147483647 := (vc_X12_ring_1 h7 hp1)
    refine mr_iload_n (pc := 14) (z := p1) dX12_hand_14 rfl rfl ?_
    refine mr_iconst (pc := 15) (z := 5) dX12_hand_15 ?_
    refine mr_icmp_gt (pc := 16) (tgt := 26) dX12_hand_16 (by decide) (r32 h8 rfl) (r32 (rR (x := 5)) rfl) (fun h9 => ?_) (fun h9 => ?_)
    · have h10 : 6 ≤ p1 ∧ p1 ≤ 2147483647 := (vc_X12_hand_4 h9 h7 h8)
      refine mr_iload_n (pc := 26) (z := p1) dX12_hand_26 rfl rfl ?_
      refine mr_bipush (pc := 27) (z := 10) dX12_hand_27 (by decide) ?_
      refine mr_icmp_lt (pc := 29) (tgt := 58) dX12_hand_29 (by decide) (r32 h10 rfl) (r32 (rR (x := 10)) rfl) (fun h11 => ?_) (fun h11 => ?_)
      · have h12 : 6 ≤ p1 ∧ p1 ≤ 9 := (vc_X12_hand_5 h11 h7 h9 h10)
        refine mr_iload_n (pc := 58) (z := p1) dX12_hand_58 rfl rfl ?_
        refine mr_bipush (pc := 59) (z := 100) dX12_hand_59 (by decide) ?_
        refine mr_icmp_lt (pc := 61) (tgt := 92) dX12_hand_61 (by decide) (r32 h12 rfl) (r32 (rR (x := 100)) rfl) (fun _ => ?_) (fun h => ((vc_X12_hand_6 h h12)).elim)
        refine mr_ldc (pc := 92) (z := (-99999999)) dX12_hand_92 wG_X12_29 (by decide) ?_
        exact mr_iretP dX12_hand_94 rfl (le_t rfl) (le_t rfl) ⟨(rW (c := (-2147483648)) (d := 2147483647) (rR (x := (-99999999))) rfl), trivial⟩
      have h13 : 10 ≤ p1 ∧ p1 ≤ 2147483647 := (vc_X12_hand_7 h11 h7 h9 h10)
      refine mr_iload_n (pc := 32) (z := p1) dX12_hand_32 rfl rfl ?_
      refine mr_bipush (pc := 33) (z := 10) dX12_hand_33 (by decide) ?_
      refine mr_isub (pc := 35) (x := p1) (y := 10) dX12_hand_35 ?_
      refine sv_aload_n (pc := 36) dX12_hand_36 rfl rfl ?_
      refine gf_X12_32 (pc := 37) dX12_hand_37 wF_X12_148 (A_106 hw) hT ?_
      refine mr_iconst (pc := 40) (z := 4) dX12_hand_40 ?_
      refine la_126 (pc := 41) dX12_hand_41 (A_126 hw) hT (rIx (n := 84000) (rR (x := 4)) rfl) fun z14 q15 h16 => ?_
      have h17 : 0 ≤ z14 ∧ z14 ≤ 20 := h16.2.2.1 vc_X12_hand_8
      refine mr_icmp_ge (pc := 42) (tgt := 58) dX12_hand_42 (by decide) (r32 (rSub (e := 0) (f := 2147483637) h13 (rR (x := 10)) rfl) rfl) (r32 h17 rfl) (fun h18 => ?_) (fun h18 => ?_)
      · refine mr_iload_n (pc := 58) (z := p1) dX12_hand_58 rfl rfl ?_
        refine mr_bipush (pc := 59) (z := 100) dX12_hand_59 (by decide) ?_
        refine mr_icmp_lt (pc := 61) (tgt := 92) dX12_hand_61 (by decide) (r32 h13 rfl) (r32 (rR (x := 100)) rfl) (fun h30 => ?_) (fun h30 => ?_)
        · have h31 : 10 ≤ p1 ∧ p1 ≤ 99 := (vc_X12_hand_9 h30 h7 h9 h11 h18 h13 h17)
          refine mr_ldc (pc := 92) (z := (-99999999)) dX12_hand_92 wG_X12_29 (by decide) ?_
          exact mr_iretP dX12_hand_94 rfl (le_t rfl) (le_t rfl) ⟨(rW (c := (-2147483648)) (d := 2147483647) (rR (x := (-99999999))) rfl), trivial⟩
        have h32 : 100 ≤ p1 ∧ p1 ≤ 2147483647 := (vc_X12_hand_10 h30 h7 h9 h11 h18 h13 h17)
        refine mr_iload_n (pc := 64) (z := p1) dX12_hand_64 rfl rfl ?_
        refine mr_bipush (pc := 65) (z := 100) dX12_hand_65 (by decide) ?_
        refine mr_isub (pc := 67) (x := p1) (y := 100) dX12_hand_67 ?_
        refine sv_aload_n (pc := 68) dX12_hand_68 rfl rfl ?_
        refine gf_X12_32 (pc := 69) dX12_hand_69 wF_X12_148 (A_106 hw) hT ?_
        refine mr_iconst (pc := 72) (z := 5) dX12_hand_72 ?_
        refine la_126 (pc := 73) dX12_hand_73 (A_126 hw) hT (rIx (n := 84000) (rR (x := 5)) rfl) fun z33 q34 h35 => ?_
        have h36 : 0 ≤ z33 ∧ z33 ≤ 8 := h35.2.2.2 vc_X12_hand_11
        refine mr_icmp_ge (pc := 74) (tgt := 92) dX12_hand_74 (by decide) (r32 (rSub (e := 0) (f := 2147483547) h32 (rR (x := 100)) rfl) rfl) (r32 h36 rfl) (fun h42 => ?_) (fun h42 => ?_)
        · refine mr_ldc (pc := 92) (z := (-99999999)) dX12_hand_92 wG_X12_29 (by decide) ?_
          exact mr_iretP dX12_hand_94 rfl (le_t rfl) (le_t rfl) ⟨(rW (c := (-2147483648)) (d := 2147483647) (rR (x := (-99999999))) rfl), trivial⟩
        have h43 : 100 ≤ p1 ∧ p1 ≤ 107 := (vc_X12_hand_12 h42 h7 h9 h11 h18 h30 h32 h17 h36)
        have h44 : 1 ≤ z33 ∧ z33 ≤ 8 := (vc_X12_hand_13 h42 h7 h9 h11 h18 h30 h43 h17 h36)
        refine sv_aload_n (pc := 77) dX12_hand_77 rfl rfl ?_
        refine gf_X12_32 (pc := 78) dX12_hand_78 wF_X12_148 (A_106 hw) hT ?_
        refine mr_bipush (pc := 81) (z := 26) dX12_hand_81 (by decide) ?_
        refine mr_iload_n (pc := 83) (z := p1) dX12_hand_83 rfl rfl ?_
        refine mr_iadd (pc := 84) (x := 26) (y := p1) dX12_hand_84 ?_
        refine mr_bipush (pc := 85) (z := 100) dX12_hand_85 (by decide) ?_
        refine mr_isub (pc := 87) (x := (26 + p1)) (y := 100) dX12_hand_87 ?_
        refine la_126 (pc := 88) dX12_hand_88 (A_126 hw) hT (rIx (n := 84000) (rSub (e := 26) (f := 33) (rAdd (e := 126) (f := 133) (rR (x := 26)) h43 rfl) (rR (x := 100)) rfl) rfl) fun z45 q46 h47 => ?_
        refine sv_goto (pc := 89) (tgt := 94) dX12_hand_89 (by decide) ?_
        exact mr_iretP dX12_hand_94 rfl (le_t rfl) (le_t rfl) ⟨h47.1, trivial⟩
      have h48 : 10 ≤ p1 ∧ p1 ≤ 29 := (vc_X12_hand_14 h18 h7 h9 h11 h13 h17)
      have h49 : 1 ≤ z14 ∧ z14 ≤ 20 := (vc_X12_hand_15 h18 h7 h9 h11 h48 h17)
      refine sv_aload_n (pc := 45) dX12_hand_45 rfl rfl ?_
      refine gf_X12_32 (pc := 46) dX12_hand_46 wF_X12_148 (A_106 hw) hT ?_
      refine mr_bipush (pc := 49) (z := 6) dX12_hand_49 (by decide) ?_
      refine mr_iload_n (pc := 51) (z := p1) dX12_hand_51 rfl rfl ?_
      refine mr_iadd (pc := 52) (x := 6) (y := p1) dX12_hand_52 ?_
      refine mr_bipush (pc := 53) (z := 10) dX12_hand_53 (by decide) ?_
      refine mr_isub (pc := 55) (x := (6 + p1)) (y := 10) dX12_hand_55 ?_
      refine la_126 (pc := 56) dX12_hand_56 (A_126 hw) hT (rIx (n := 84000) (rSub (e := 6) (f := 25) (rAdd (e := 16) (f := 35) (rR (x := 6)) h48 rfl) (rR (x := 10)) rfl) rfl) fun z50 q51 h52 => ?_
      exact mr_iretP dX12_hand_57 rfl (le_t rfl) (le_t rfl) ⟨h52.1, trivial⟩
    have h53 : 0 ≤ p1 ∧ p1 ≤ 5 := (vc_X12_hand_16 h9 h7 h8)
    refine sv_aload_n (pc := 19) dX12_hand_19 rfl rfl ?_
    refine gf_X12_32 (pc := 20) dX12_hand_20 wF_X12_148 (A_106 hw) hT ?_
    refine mr_iload_n (pc := 23) (z := p1) dX12_hand_23 rfl rfl ?_
    refine la_126 (pc := 24) dX12_hand_24 (A_126 hw) hT (rIx (n := 84000) h53 rfl) fun z54 q55 h56 => ?_
    exact mr_iretP dX12_hand_25 rfl (le_t rfl) (le_t rfl) ⟨h56.1, trivial⟩
  have h57 : (-2147483648) ≤ p1 ∧ p1 ≤ (-1) := (vc_X12_ring_60 h7 hp1)
  refine mr_ldc (pc := 11) (z := (-99999999)) dX12_hand_11 wG_X12_29 (by decide) ?_
  exact mr_iretP dX12_hand_13 rfl (le_t rfl) (le_t rfl) ⟨(rW (c := (-2147483648)) (d := 2147483647) (rR (x := (-99999999))) rfl), trivial⟩
theorem vc_X12_octet1_1 {f_w : Int} (h0 : f_w ≤ 299) (h1 : 0 ≤ f_w ∧ f_w ≤ 300) : 0 ≤ f_w ∧ f_w ≤ 299 := by omega
theorem vc_X12_octet1_2 {f_w : Int} (h0 : f_w ≤ 299) (h1 : 0 ≤ f_w ∧ f_w ≤ 299) : (f_w + 1) = f_w + 1 := by omega
set_option maxRecDepth 4000 in
set_option maxHeartbeats 4000000 in
theorem c_X12_octet1 {l : Launch} {D : va_G} {c : Nat → ClassId} {H0 : Heap} {sa : Nat × Nat × (Nat → Int32)} {w : mW} {μ : mM} (hw : mWF w) (hT : mT w μ) {p1 : Int} (hp1 : (-2147483648) ≤ p1 ∧ p1 ≤ 2147483647) {f_w : Int} (q_f_w : μ 106 104 = f_w) (hq0 : f_w ≤ 299) : sC (gG l D c H0 sa) mX12_octet1 1 0 0 [.ref 106, iv p1] (mk w μ) (qV w [106104, 174999] μ (fun μ1 => ∃ o_w : Int, μ1 106 104 = o_w ∧ (o_w = f_w + 1) ∧ True)) := by
  refine sC.of rfl (by decide) (le_t rfl) ?_
  have ht_f_w : (0 ≤ f_w ∧ f_w ≤ 300) := by rw [← q_f_w]; exact hT 106 106 (A_106 hw) 104
  have h1 : 0 ≤ f_w ∧ f_w ≤ 299 := (vc_X12_octet1_1 hq0 ht_f_w)
  refine mr_lvE (lv' := [(0, .ref 106), (1, iv p1)]) rfl ?_
  refine sv_aload_n (pc := 0) dX12_octet1_0 rfl rfl ?_
  refine gf_X12_103 (pc := 1) dX12_octet1_1 wF_X12_484 (A_106 hw) hT ?_
  refine sv_aload_n (pc := 4) dX12_octet1_4 rfl rfl ?_
  refine gk_X12_104 (pc := 5) dX12_octet1_5 wF_X12_671 (A_106 hw) q_f_w ?_
  refine mr_iload_n (pc := 8) (z := p1) dX12_octet1_8 rfl rfl ?_
  refine mr_sipush (pc := 9) (z := 255) dX12_octet1_9 (by decide) ?_
  refine mr_iand (pc := 12) (x := p1) (y := 255) dX12_octet1_12 ?_
  refine mr_gen (P := fun z => 0 ≤ z ∧ z ≤ 255) (rAndR (rR (x := 255)) rfl) fun z29 q30 h31 => ?_
  refine ss_174 (pc := 13) dX12_octet1_13 (A_174 hw) hT (rIx (n := 300) h1 rfl) (rW (c := (-2147483648)) (d := 2147483647) h31 rfl) fun μ32 u33 T34 => ?_
  refine sv_aload_n (pc := 14) dX12_octet1_14 rfl rfl ?_
  refine sv_dup (pc := 15) dX12_octet1_15 rfl ?_
  refine gk_X12_104 (pc := 16) dX12_octet1_16 wF_X12_671 (A_106 hw) (u33.f (Or.inl (mAt.ne (A_174 hw) (A_106 hw) rfl)) q_f_w) ?_
  refine mr_iconst (pc := 19) (z := 1) dX12_octet1_19 ?_
  refine mr_iadd (pc := 20) (x := f_w) (y := 1) dX12_octet1_20 ?_
  refine pf_X12_104 (pc := 21) dX12_octet1_21 wF_X12_671 (A_106 hw) T34 (rW (c := 0) (d := 300) (rAdd (e := 1) (f := 300) h1 (rR (x := 1)) rfl) rfl) fun μ35 u36 T37 => ?_
  exact mr_vret dX12_octet1_24 rfl (le_t rfl) (le_t rfl) T37 (mF.up (mF.up mF.refl (A_174 hw) u33 rfl) (A_106 hw) u36 rfl) ⟨(f_w + 1), u36.1, (vc_X12_octet1_2 hq0 h1), trivial⟩
theorem vc_X12_octet4_1 {f_w0 : Int} (h0 : f_w0 ≤ 295) (h1 : 0 ≤ f_w0 ∧ f_w0 ≤ 300) : 0 ≤ f_w0 ∧ f_w0 ≤ 295 := by omega
theorem vc_X12_octet4_2 {f_w f_w0 z310 : Int} (h0 : (z310 - (-9)) < ((0 : Nat) : Int)) (h1 : 8 * f_w + z310 = 8 * f_w0 + 24) (h2 : f_w0 ≤ 295) (h3 : 0 ≤ f_w0 ∧ f_w0 ≤ 295) (h4 : (-8) ≤ z310 ∧ z310 ≤ 24) : False := by omega
theorem vc_X12_octet4_3 {f_w f_w0 z310 : Int} (h0 : z310 < 0) (h1 : 8 * f_w + z310 = 8 * f_w0 + 24) (h2 : 0 ≤ f_w ∧ f_w ≤ 300) (h3 : 0 ≤ f_w0 ∧ f_w0 ≤ 295) (h4 : (-8) ≤ z310 ∧ z310 ≤ 24) : (-8) ≤ z310 ∧ z310 ≤ (-1) := by omega
theorem vc_X12_octet4_4 {f_w f_w0 z310 : Int} (h0 : f_w0 ≤ 295) (h1 : 8 * f_w + z310 = 8 * f_w0 + 24) (h2 : z310 < 0) (h3 : 0 ≤ f_w ∧ f_w ≤ 300) (h4 : 0 ≤ f_w0 ∧ f_w0 ≤ 295) (h5 : (-8) ≤ z310 ∧ z310 ≤ (-1)) : f_w = f_w0 + 4 := by omega
theorem vc_X12_octet4_5 {f_w f_w0 z310 : Int} (h0 : 0 ≤ z310) (h1 : 8 * f_w + z310 = 8 * f_w0 + 24) (h2 : 0 ≤ f_w ∧ f_w ≤ 300) (h3 : 0 ≤ f_w0 ∧ f_w0 ≤ 295) (h4 : (-8) ≤ z310 ∧ z310 ≤ 24) : 0 ≤ z310 ∧ z310 ≤ 24 := by omega
theorem vc_X12_octet4_6 {f_w f_w0 z310 : Int} (h0 : 8 * f_w + z310 = 8 * f_w0 + 24) (h1 : f_w0 ≤ 295) (h2 : 0 ≤ z310) (h3 : 0 ≤ f_w ∧ f_w ≤ 300) (h4 : 0 ≤ f_w0 ∧ f_w0 ≤ 295) (h5 : 0 ≤ z310 ∧ z310 ≤ 24) : f_w ≤ 299 := by omega
theorem vc_X12_octet4_7 {f_w f_w0 z310 z346 : Int} (h0 : f_w0 ≤ 295) (h1 : 8 * f_w + z310 = 8 * f_w0 + 24) (h2 : 0 ≤ z310) (h3 : z346 = f_w + 1) (h4 : 0 ≤ f_w ∧ f_w ≤ 300) (h5 : 0 ≤ f_w0 ∧ f_w0 ≤ 295) (h6 : 0 ≤ z310 ∧ z310 ≤ 24) (h7 : 0 ≤ z346 ∧ z346 ≤ 300) : 8 * (f_w + 1) + (z310 + (-8)) = 8 * f_w0 + 24 := by omega
theorem vc_X12_octet4_8 {N f_w f_w0 z310 z346 : Int} (h0 : (z310 - (-9)) < N + 1) (h1 : 8 * f_w + z310 = 8 * f_w0 + 24) (h2 : 0 ≤ z310) (h3 : f_w0 ≤ 295) (h4 : z346 = f_w + 1) (h5 : 0 ≤ f_w ∧ f_w ≤ 300) (h6 : 0 ≤ f_w0 ∧ f_w0 ≤ 295) (h7 : 0 ≤ z310 ∧ z310 ≤ 24) (h8 : 0 ≤ z346 ∧ z346 ≤ 300) : ((z310 + (-8)) - (-9)) < N := by omega
theorem vc_X12_octet4_9 {f_w0 : Int} (h0 : f_w0 ≤ 295) (h1 : 0 ≤ f_w0 ∧ f_w0 ≤ 295) : 8 * f_w0 + (24 : Int) = 8 * f_w0 + 24 := by omega
theorem vc_X12_octet4_10  : (24 - (-9)) < ((34 : Nat) : Int) := by omega
set_option maxRecDepth 4000 in
set_option maxHeartbeats 4000000 in
theorem c_X12_octet4 {l : Launch} {D : va_G} {c : Nat → ClassId} {H0 : Heap} {sa : Nat × Nat × (Nat → Int32)} {w : mW} {μ : mM} (hw : mWF w) (hT : mT w μ) {p1 : Int} (hp1 : (-2147483648) ≤ p1 ∧ p1 ≤ 2147483647) {f_w0 : Int} (q_f_w0 : μ 106 104 = f_w0) (hq0 : f_w0 ≤ 295) : sC (gG l D c H0 sa) mX12_octet4 2 0 0 [.ref 106, iv p1] (mk w μ) (qV w [106104, 174999] μ (fun μ1 => ∃ o_w : Int, μ1 106 104 = o_w ∧ (o_w = f_w0 + 4) ∧ True)) := by
  refine sC.of rfl (by decide) (le_t rfl) ?_
  have ht_f_w0 : (0 ≤ f_w0 ∧ f_w0 ≤ 300) := by rw [← q_f_w0]; exact hT 106 106 (A_106 hw) 104
  have h1 : 0 ≤ f_w0 ∧ f_w0 ≤ 295 := (vc_X12_octet4_1 hq0 ht_f_w0)
  refine mr_lvE (lv' := [(0, .ref 106), (1, iv p1)]) rfl ?_
  refine mr_bipush (pc := 0) (z := 24) dX12_octet4_0 (by decide) ?_
  refine mr_istore_n (pc := 2) (lv' := [(2, iv 24), (0, .ref 106), (1, iv p1)]) dX12_octet4_2 rfl (by decide) rfl ?_
  have L312 : ∀ (nL312 : Nat) (z310 : Int) (μ311 : mM) (f_w : Int), mT w μ311 → mF [106104, 174999] w μ μ311 → μ311 106 (104) = f_w → ((-8) ≤ z310 ∧ z310 ≤ 24) → (8 * f_w + z310 = 8 * f_w0 + 24) → (z310 - (-9)) < (nL312 : Int) → sV (gG l D c H0 sa) mX12_octet4 (sRm 2 0 0) (sZ (gG l D c H0 sa) 0 0 (qV w [106104, 174999] μ (fun μ1 => ∃ o_w : Int, μ1 106 104 = o_w ∧ (o_w = f_w0 + 4) ∧ True))) 3 [(0, .ref 106), (1, iv p1), (2, iv z310)] [] (mk w μ311) 0 0 := by
    intro nL312
    induction nL312 with
    | zero => intro z310 μ311 f_w T314 F315 q319 h313 h317 h318; exact ((vc_X12_octet4_2 h318 h317 hq0 h1 h313)).elim
    | succ nL312 ih320 =>
      intro z310 μ311 f_w T314 F315 q319 h313 h317 h318
      have h321 : (0 ≤ f_w ∧ f_w ≤ 300) := by rw [← q319]; exact T314 106 106 (A_106 hw) (104)
      refine mr_iload_n (pc := 3) (z := z310) dX12_octet4_3 rfl rfl ?_
      refine mr_if_lt (pc := 4) (tgt := 20) dX12_octet4_4 (by decide) (r32 h313 rfl) (fun h336 => ?_) (fun h336 => ?_)
      · have h337 : (-8) ≤ z310 ∧ z310 ≤ (-1) := (vc_X12_octet4_3 h336 h317 h321 h1 h313)
        exact mr_vret dX12_octet4_20 rfl (le_t rfl) (le_t rfl) T314 (mF.call mF.refl F315 rfl) ⟨f_w, q319, (vc_X12_octet4_4 hq0 h317 h336 h321 h1 h337), trivial⟩
      have h338 : 0 ≤ z310 ∧ z310 ≤ 24 := (vc_X12_octet4_5 h336 h317 h321 h1 h313)
      refine sv_aload_n (pc := 7) dX12_octet4_7 rfl rfl ?_
      refine mr_iload_n (pc := 8) (z := p1) dX12_octet4_8 rfl rfl ?_
      refine mr_iload_n (pc := 9) (z := z310) dX12_octet4_9 rfl rfl ?_
      refine mr_ishr (pc := 10) (x := p1) (y := z310) dX12_octet4_10 ?_
      refine mr_gen (P := fun z => (-2147483648) ≤ z ∧ z ≤ 2147483647) (r32i _) fun z339 q340 h341 => ?_
      refine mr_cVV (pc := 11) (c_X12_octet1 hw T314 h341 q319 (vc_X12_octet4_6 h317 hq0 h336 h321 h1 h338)) (gOk _ _ _ _ _) dX12_octet4_11 (tX12_octet1 _ _ _ _ _) ⟨wV_X12_octet1, wL_X12_octet1⟩ wM_X12_674 (gCX12 _ _ _ _ _) rfl (A_106 hw) rfl ⟨le_t rfl, le_t rfl⟩ ⟨le_t rfl, le_t rfl⟩ rfl (le_t rfl) fun μ342 T343 F344 h345 => ?_
      obtain ⟨z346, q347, h348⟩ := h345
      have h349 : (0 ≤ z346 ∧ z346 ≤ 300) := by rw [← q347]; exact T343 106 106 (A_106 hw) 104
      have q350 : μ342 106 104 = (f_w + 1) := q347.trans h348.1
      refine mr_iinc (pc := 14) (lv' := [(2, iv (z310 + (-8))), (0, .ref 106), (1, iv p1)]) dX12_octet4_14 rfl (by decide) rfl ?_
      refine sv_goto (pc := 17) (tgt := 3) dX12_octet4_17 (by decide) ?_
      refine mr_lvS (lv' := [(0, .ref 106), (1, iv p1), (2, iv (z310 + (-8)))]) (List.forall_mem_cons.mpr ⟨rfl, List.forall_mem_cons.mpr ⟨rfl, List.forall_mem_cons.mpr ⟨rfl, fun _ h => absurd h List.not_mem_nil⟩⟩⟩) ?_
      exact ih320 (z310 + (-8)) μ342 (f_w + 1) T343 (mF.call (mF.call mF.refl F315 rfl) F344 rfl) q350 (rW (c := (-8)) (d := 24) (rAdd (e := (-8)) (f := 16) h338 (rR (x := (-8))) rfl) rfl) (vc_X12_octet4_7 hq0 h317 h336 h348.1 h321 h1 h338 h349) (vc_X12_octet4_8 (nS h318) h317 h336 hq0 h348.1 h321 h1 h338 h349)
  refine mr_lvS (lv' := [(0, .ref 106), (1, iv p1), (2, iv 24)]) (List.forall_mem_cons.mpr ⟨rfl, List.forall_mem_cons.mpr ⟨rfl, List.forall_mem_cons.mpr ⟨rfl, fun _ h => absurd h List.not_mem_nil⟩⟩⟩) ?_
  exact L312 34 24 μ f_w0 hT mF.refl q_f_w0 (rW (c := (-8)) (d := 24) (rR (x := 24)) rfl) (vc_X12_octet4_9 hq0 h1) vc_X12_octet4_10
theorem vc_X12_prefixOut_1 {f_w0 : Int} (h0 : f_w0 ≤ 290) (h1 : 0 ≤ f_w0 ∧ f_w0 ≤ 300) : 0 ≤ f_w0 ∧ f_w0 ≤ 290 := by omega
theorem vc_X12_prefixOut_2 {f_w0 : Int} (h0 : f_w0 ≤ 290) (h1 : 0 ≤ f_w0 ∧ f_w0 ≤ 290) : f_w0 ≤ 299 := by omega
theorem vc_X12_prefixOut_3 {f_w f_w0 z270 z400 : Int} (h0 : (5 - z400) < ((0 : Nat) : Int)) (h1 : f_w = f_w0 + 1 + z400) (h2 : z400 ≤ 4) (h3 : f_w0 ≤ 290) (h4 : z270 = f_w0 + 1) (h5 : 0 ≤ f_w0 ∧ f_w0 ≤ 290) (h6 : 0 ≤ z270 ∧ z270 ≤ 300) (h7 : 0 ≤ z400 ∧ z400 ≤ 4) : False := by omega
theorem vc_X12_prefixOut_4  : (0 : Int) < (8 : Int) ∧ (8 : Int) ≤ (2147483647 : Int) := by omega
theorem vc_X12_prefixOut_5 {f_w f_w0 z270 z400 z413 : Int} (h0 : f_w0 ≤ 290) (h1 : z270 = f_w0 + 1) (h2 : f_w = f_w0 + 1 + z400) (h3 : z400 ≤ 4) (h4 : z413 ≤ z400) (h5 : 0 ≤ f_w ∧ f_w ≤ 300) (h6 : 0 ≤ f_w0 ∧ f_w0 ≤ 290) (h7 : 0 ≤ z270 ∧ z270 ≤ 300) (h8 : 0 ≤ z400 ∧ z400 ≤ 4) (h9 : 0 ≤ z413 ∧ z413 ≤ 4) : f_w ≤ f_w0 + 5 := by omega
theorem vc_X12_prefixOut_6 {f_w f_w0 z263 z400 z413 : Int} (h0 : z400 < z413) (h1 : f_w = f_w0 + 1 + z400) (h2 : z400 ≤ 4) (h3 : (z263 + 7) / 8 = z413) (h4 : 0 ≤ f_w ∧ f_w ≤ 300) (h5 : 0 ≤ f_w0 ∧ f_w0 ≤ 290) (h6 : 0 ≤ z263 ∧ z263 ≤ 32) (h7 : 0 ≤ z400 ∧ z400 ≤ 4) (h8 : 0 ≤ z413 ∧ z413 ≤ 4) : 0 ≤ z400 ∧ z400 ≤ 3 := by omega
theorem vc_X12_prefixOut_7 {f_w f_w0 z263 z400 z413 : Int} (h0 : z400 < z413) (h1 : f_w = f_w0 + 1 + z400) (h2 : z400 ≤ 4) (h3 : (z263 + 7) / 8 = z413) (h4 : 0 ≤ f_w ∧ f_w ≤ 300) (h5 : 0 ≤ f_w0 ∧ f_w0 ≤ 290) (h6 : 0 ≤ z263 ∧ z263 ≤ 32) (h7 : 0 ≤ z400 ∧ z400 ≤ 3) (h8 : 0 ≤ z413 ∧ z413 ≤ 4) : 1 ≤ z413 ∧ z413 ≤ 4 := by omega
theorem vc_X12_prefixOut_8 {f_w f_w0 z270 z400 z413 : Int} (h0 : f_w = f_w0 + 1 + z400) (h1 : f_w0 ≤ 290) (h2 : z270 = f_w0 + 1) (h3 : z400 ≤ 4) (h4 : z400 < z413) (h5 : 0 ≤ f_w ∧ f_w ≤ 300) (h6 : 0 ≤ f_w0 ∧ f_w0 ≤ 290) (h7 : 0 ≤ z270 ∧ z270 ≤ 300) (h8 : 0 ≤ z400 ∧ z400 ≤ 3) (h9 : 1 ≤ z413 ∧ z413 ≤ 4) : f_w ≤ 299 := by omega
theorem vc_X12_prefixOut_9 {f_w f_w0 z263 z270 z400 z413 z446 : Int} (h0 : f_w0 ≤ 290) (h1 : z270 = f_w0 + 1) (h2 : f_w = f_w0 + 1 + z400) (h3 : z400 ≤ 4) (h4 : z400 < z413) (h5 : z446 = f_w + 1) (h6 : (z263 + 7) / 8 = z413) (h7 : 0 ≤ f_w ∧ f_w ≤ 300) (h8 : 0 ≤ f_w0 ∧ f_w0 ≤ 290) (h9 : 0 ≤ z263 ∧ z263 ≤ 32) (h10 : 0 ≤ z270 ∧ z270 ≤ 300) (h11 : 0 ≤ z400 ∧ z400 ≤ 3) (h12 : 1 ≤ z413 ∧ z413 ≤ 4) (h13 : 0 ≤ z446 ∧ z446 ≤ 300) : (f_w + 1) = f_w0 + 1 + (z400 + 1) := by omega
theorem vc_X12_prefixOut_10 {f_w f_w0 z263 z270 z400 z413 z446 : Int} (h0 : f_w = f_w0 + 1 + z400) (h1 : z400 ≤ 4) (h2 : z400 < z413) (h3 : f_w0 ≤ 290) (h4 : z270 = f_w0 + 1) (h5 : (z263 + 7) / 8 = z413) (h6 : z446 = f_w + 1) (h7 : 0 ≤ f_w ∧ f_w ≤ 300) (h8 : 0 ≤ f_w0 ∧ f_w0 ≤ 290) (h9 : 0 ≤ z263 ∧ z263 ≤ 32) (h10 : 0 ≤ z270 ∧ z270 ≤ 300) (h11 : 0 ≤ z400 ∧ z400 ≤ 3) (h12 : 1 ≤ z413 ∧ z413 ≤ 4) (h13 : 0 ≤ z446 ∧ z446 ≤ 300) : (z400 + 1) ≤ 4 := by omega
theorem vc_X12_prefixOut_11 {N f_w f_w0 z263 z270 z400 z413 z446 : Int} (h0 : (5 - z400) < N + 1) (h1 : f_w = f_w0 + 1 + z400) (h2 : z400 ≤ 4) (h3 : z400 < z413) (h4 : f_w0 ≤ 290) (h5 : z270 = f_w0 + 1) (h6 : (z263 + 7) / 8 = z413) (h7 : z446 = f_w + 1) (h8 : 0 ≤ f_w ∧ f_w ≤ 300) (h9 : 0 ≤ f_w0 ∧ f_w0 ≤ 290) (h10 : 0 ≤ z263 ∧ z263 ≤ 32) (h11 : 0 ≤ z270 ∧ z270 ≤ 300) (h12 : 0 ≤ z400 ∧ z400 ≤ 3) (h13 : 1 ≤ z413 ∧ z413 ≤ 4) (h14 : 0 ≤ z446 ∧ z446 ≤ 300) : (5 - (z400 + 1)) < N := by omega
theorem vc_X12_prefixOut_12 {f_w0 z270 : Int} (h0 : f_w0 ≤ 290) (h1 : z270 = f_w0 + 1) (h2 : 0 ≤ f_w0 ∧ f_w0 ≤ 290) (h3 : 0 ≤ z270 ∧ z270 ≤ 300) : (f_w0 + 1) = f_w0 + 1 + (0 : Int) := by omega
theorem vc_X12_prefixOut_13  : ((0 : Int) : Int) ≤ (4 : Int) := by omega
theorem vc_X12_prefixOut_14  : (5 - 0) < ((6 : Nat) : Int) := by omega
set_option maxRecDepth 4000 in
set_option maxHeartbeats 4000000 in
theorem c_X12_prefixOut {l : Launch} {D : va_G} {c : Nat → ClassId} {H0 : Heap} {sa : Nat × Nat × (Nat → Int32)} {w : mW} {μ : mM} (hw : mWF w) (hT : mT w μ) {p1 : Int} (hp1 : 0 ≤ p1 ∧ p1 ≤ 9) {f_w0 : Int} (q_f_w0 : μ 106 104 = f_w0) (hq0 : f_w0 ≤ 290) : sC (gG l D c H0 sa) mX12_prefixOut 2 0 0 [.ref 106, iv p1] (mk w μ) (qV w [106104, 174999] μ (fun μ1 => ∃ o_w : Int, μ1 106 104 = o_w ∧ (o_w ≤ f_w0 + 5) ∧ True)) := by
  refine sC.of rfl (by decide) (le_t rfl) ?_
  have ht_f_w0 : (0 ≤ f_w0 ∧ f_w0 ≤ 300) := by rw [← q_f_w0]; exact hT 106 106 (A_106 hw) 104
  have h1 : 0 ≤ f_w0 ∧ f_w0 ≤ 290 := (vc_X12_prefixOut_1 hq0 ht_f_w0)
  refine mr_lvE (lv' := [(0, .ref 106), (1, iv p1)]) rfl ?_
  refine sv_aload_n (pc := 0) dX12_prefixOut_0 rfl rfl ?_
  refine sv_aload_n (pc := 1) dX12_prefixOut_1 rfl rfl ?_
  refine gf_X12_4 (pc := 2) dX12_prefixOut_2 wF_X12_26 (A_106 hw) hT ?_
  refine mr_iload_n (pc := 5) (z := p1) dX12_prefixOut_5 rfl rfl ?_
  refine la_109 (pc := 6) dX12_prefixOut_6 (A_109 hw) hT (rIx (n := 10) hp1 rfl) fun z263 q264 h265 => ?_
  refine mr_cVV (pc := 7) (c_X12_octet1 hw hT (rW (c := (-2147483648)) (d := 2147483647) h265 rfl) q_f_w0 (vc_X12_prefixOut_2 hq0 h1)) (gOk _ _ _ _ _) dX12_prefixOut_7 (tX12_octet1 _ _ _ _ _) ⟨wV_X12_octet1, wL_X12_octet1⟩ wM_X12_674 (gCX12 _ _ _ _ _) rfl (A_106 hw) rfl ⟨le_t rfl, le_t rfl⟩ ⟨le_t rfl, le_t rfl⟩ rfl (le_t rfl) fun μ266 T267 F268 h269 => ?_
  obtain ⟨z270, q271, h272⟩ := h269
  have h273 : (0 ≤ z270 ∧ z270 ≤ 300) := by rw [← q271]; exact T267 106 106 (A_106 hw) 104
  have q274 : μ266 106 104 = (f_w0 + 1) := q271.trans h272.1
  refine mr_iconst (pc := 10) (z := 0) dX12_prefixOut_10 ?_
  refine mr_istore_n (pc := 11) (lv' := [(2, iv 0), (0, .ref 106), (1, iv p1)]) dX12_prefixOut_11 rfl (by decide) rfl ?_
  have L402 : ∀ (nL402 : Nat) (z400 : Int) (μ401 : mM) (f_w : Int), mT w μ401 → mF [106104, 174999] w μ266 μ401 → μ401 106 (104) = f_w → (0 ≤ z400 ∧ z400 ≤ 4) → (f_w = f_w0 + 1 + z400) → (z400 ≤ 4) → (5 - z400) < (nL402 : Int) → sV (gG l D c H0 sa) mX12_prefixOut (sRm 2 0 0) (sZ (gG l D c H0 sa) 0 0 (qV w [106104, 174999] μ (fun μ1 => ∃ o_w : Int, μ1 106 104 = o_w ∧ (o_w ≤ f_w0 + 5) ∧ True))) 12 [(0, .ref 106), (1, iv p1), (2, iv z400)] [] (mk w μ401) 0 0 := by
    intro nL402
    induction nL402 with
    | zero => intro z400 μ401 f_w T404 F405 q410 h403 h407 h408 h409; exact ((vc_X12_prefixOut_3 h409 h407 h408 hq0 h272.1 h1 h273 h403)).elim
    | succ nL402 ih411 =>
      intro z400 μ401 f_w T404 F405 q410 h403 h407 h408 h409
      have h412 : (0 ≤ f_w ∧ f_w ≤ 300) := by rw [← q410]; exact T404 106 106 (A_106 hw) (104)
      refine mr_iload_n (pc := 12) (z := z400) dX12_prefixOut_12 rfl rfl ?_
      refine sv_aload_n (pc := 13) dX12_prefixOut_13 rfl rfl ?_
      refine gf_X12_4 (pc := 14) dX12_prefixOut_14 wF_X12_26 (A_106 hw) T404 ?_
      refine mr_iload_n (pc := 17) (z := p1) dX12_prefixOut_17 rfl rfl ?_
      refine lk_109 (pc := 18) dX12_prefixOut_18 (A_109 hw) (rIx (n := 10) hp1 rfl) (F405.f (A_109 hw) rfl (F268.f (A_109 hw) rfl q264)) ?_
      refine mr_bipush (pc := 19) (z := 7) dX12_prefixOut_19 (by decide) ?_
      refine mr_iadd (pc := 21) (x := z263) (y := 7) dX12_prefixOut_21 ?_
      refine mr_bipush (pc := 22) (z := 8) dX12_prefixOut_22 (by decide) ?_
      refine mr_idiv (pc := 24) (x := (z263 + 7)) (y := 8) dX12_prefixOut_24 (rW (c := 0) (d := 2147483647) (rAdd (e := 7) (f := 39) h265 (rR (x := 7)) rfl) rfl) vc_X12_prefixOut_4 ?_
      refine mr_gen (P := fun z => 0 ≤ z ∧ z ≤ 4) (rDiv (rAdd (e := 7) (f := 39) h265 (rR (x := 7)) rfl) rfl) fun z413 q414 h415 => ?_
      refine mr_icmp_ge (pc := 25) (tgt := 52) dX12_prefixOut_25 (by decide) (r32 h403 rfl) (r32 h415 rfl) (fun h433 => ?_) (fun h433 => ?_)
      · exact mr_vret dX12_prefixOut_52 rfl (le_t rfl) (le_t rfl) T404 (mF.call (mF.call mF.refl F268 rfl) F405 rfl) ⟨f_w, q410, (vc_X12_prefixOut_5 hq0 h272.1 h407 h408 h433 h412 h1 h273 h403 h415), trivial⟩
      have h434 : 0 ≤ z400 ∧ z400 ≤ 3 := (vc_X12_prefixOut_6 h433 h407 h408 q414 h412 h1 h265 h403 h415)
      have h435 : 1 ≤ z413 ∧ z413 ≤ 4 := (vc_X12_prefixOut_7 h433 h407 h408 q414 h412 h1 h265 h434 h415)
      refine sv_aload_n (pc := 28) dX12_prefixOut_28 rfl rfl ?_
      refine sv_aload_n (pc := 29) dX12_prefixOut_29 rfl rfl ?_
      refine gf_X12_3 (pc := 30) dX12_prefixOut_30 wF_X12_22 (A_106 hw) T404 ?_
      refine mr_iload_n (pc := 33) (z := p1) dX12_prefixOut_33 rfl rfl ?_
      refine la_108 (pc := 34) dX12_prefixOut_34 (A_108 hw) T404 (rIx (n := 10) hp1 rfl) fun z436 q437 h438 => ?_
      refine mr_bipush (pc := 35) (z := 24) dX12_prefixOut_35 (by decide) ?_
      refine mr_bipush (pc := 37) (z := 8) dX12_prefixOut_37 (by decide) ?_
      refine mr_iload_n (pc := 39) (z := z400) dX12_prefixOut_39 rfl rfl ?_
      refine mr_imul (pc := 40) (x := 8) (y := z400) dX12_prefixOut_40 ?_
      refine mr_isub (pc := 41) (x := 24) (y := (8 * z400)) dX12_prefixOut_41 ?_
      refine mr_ishr (pc := 42) (x := z436) (y := (24 - (8 * z400))) dX12_prefixOut_42 ?_
      refine mr_gen (P := fun z => (-2147483648) ≤ z ∧ z ≤ 2147483647) (r32i _) fun z439 q440 h441 => ?_
      refine mr_cVV (pc := 43) (c_X12_octet1 hw T404 h441 q410 (vc_X12_prefixOut_8 h407 hq0 h272.1 h408 h433 h412 h1 h273 h434 h435)) (gOk _ _ _ _ _) dX12_prefixOut_43 (tX12_octet1 _ _ _ _ _) ⟨wV_X12_octet1, wL_X12_octet1⟩ wM_X12_674 (gCX12 _ _ _ _ _) rfl (A_106 hw) rfl ⟨le_t rfl, le_t rfl⟩ ⟨le_t rfl, le_t rfl⟩ rfl (le_t rfl) fun μ442 T443 F444 h445 => ?_
      obtain ⟨z446, q447, h448⟩ := h445
      have h449 : (0 ≤ z446 ∧ z446 ≤ 300) := by rw [← q447]; exact T443 106 106 (A_106 hw) 104
      have q450 : μ442 106 104 = (f_w + 1) := q447.trans h448.1
      refine mr_iinc (pc := 46) (lv' := [(2, iv (z400 + 1)), (0, .ref 106), (1, iv p1)]) dX12_prefixOut_46 rfl (by decide) rfl ?_
      refine sv_goto (pc := 49) (tgt := 12) dX12_prefixOut_49 (by decide) ?_
      refine mr_lvS (lv' := [(0, .ref 106), (1, iv p1), (2, iv (z400 + 1))]) (List.forall_mem_cons.mpr ⟨rfl, List.forall_mem_cons.mpr ⟨rfl, List.forall_mem_cons.mpr ⟨rfl, fun _ h => absurd h List.not_mem_nil⟩⟩⟩) ?_
      exact ih411 (z400 + 1) μ442 (f_w + 1) T443 (mF.call (mF.call mF.refl F405 rfl) F444 rfl) q450 (rW (c := 0) (d := 4) (rAdd (e := 1) (f := 4) h434 (rR (x := 1)) rfl) rfl) (vc_X12_prefixOut_9 hq0 h272.1 h407 h408 h433 h448.1 q414 h412 h1 h265 h273 h434 h435 h449) (vc_X12_prefixOut_10 h407 h408 h433 hq0 h272.1 q414 h448.1 h412 h1 h265 h273 h434 h435 h449) (vc_X12_prefixOut_11 (nS h409) h407 h408 h433 hq0 h272.1 q414 h448.1 h412 h1 h265 h273 h434 h435 h449)
  refine mr_lvS (lv' := [(0, .ref 106), (1, iv p1), (2, iv 0)]) (List.forall_mem_cons.mpr ⟨rfl, List.forall_mem_cons.mpr ⟨rfl, List.forall_mem_cons.mpr ⟨rfl, fun _ h => absurd h List.not_mem_nil⟩⟩⟩) ?_
  exact L402 6 0 μ266 (f_w0 + 1) T267 mF.refl q274 (rW (c := 0) (d := 4) (rR (x := 0)) rfl) (vc_X12_prefixOut_12 hq0 h272.1 h1 h273) vc_X12_prefixOut_13 vc_X12_prefixOut_14
theorem vc_X12_write_1 {p1 z1 z8 : Int} (h0 : z8 = 0) (h1 : (z8 = 1 → 0 ≤ p1 ∧ p1 < z1)) (h2 : (z8 = 0 → p1 < 0 ∨ z1 ≤ p1)) (h3 : (-2147483648) ≤ p1 ∧ p1 ≤ 2147483647) (h4 : 0 ≤ z1 ∧ z1 ≤ 20) (h5 : 0 ≤ z8 ∧ z8 ≤ 1) : 0 ≤ z8 ∧ z8 ≤ 0 := by omega
theorem vc_X12_write_2 {p1 z1 z8 : Int} (h0 : (z8 = 1 → 0 ≤ p1 ∧ p1 < z1)) (h1 : (z8 = 0 → p1 < 0 ∨ z1 ≤ p1)) (h2 : z8 = 0) (h3 : (-2147483648) ≤ p1 ∧ p1 ≤ 2147483647) (h4 : 0 ≤ z1 ∧ z1 ≤ 20) (h5 : 0 ≤ z8 ∧ z8 ≤ 0) : z8 = 0 := by omega
theorem vc_X12_write_3 {p1 z1 z8 : Int} (h0 : ¬ z8 = 0) (h1 : (z8 = 1 → 0 ≤ p1 ∧ p1 < z1)) (h2 : (z8 = 0 → p1 < 0 ∨ z1 ≤ p1)) (h3 : (-2147483648) ≤ p1 ∧ p1 ≤ 2147483647) (h4 : 0 ≤ z1 ∧ z1 ≤ 20) (h5 : 0 ≤ z8 ∧ z8 ≤ 1) : 1 ≤ z8 ∧ z8 ≤ 1 := by omega
theorem vc_X12_write_4 {p1 z1 z8 : Int} (h0 : (z8 = 1 → 0 ≤ p1 ∧ p1 < z1)) (h1 : (z8 = 0 → p1 < 0 ∨ z1 ≤ p1)) (h2 : ¬ z8 = 0) (h3 : (-2147483648) ≤ p1 ∧ p1 ≤ 2147483647) (h4 : 0 ≤ z1 ∧ z1 ≤ 20) (h5 : 1 ≤ z8 ∧ z8 ≤ 1) : z8 = 1 := by omega
theorem vc_X12_write_5 {p1 z1 z8 : Int} (h0 : 0 ≤ p1 ∧ p1 < z1) (h1 : (z8 = 1 → 0 ≤ p1 ∧ p1 < z1)) (h2 : (z8 = 0 → p1 < 0 ∨ z1 ≤ p1)) (h3 : (-2147483648) ≤ p1 ∧ p1 ≤ 2147483647) (h4 : 0 ≤ z1 ∧ z1 ≤ 20) (h5 : 1 ≤ z8 ∧ z8 ≤ 1) : 0 ≤ p1 ∧ p1 ≤ 19 := by omega
theorem vc_X12_write_6 {p1 z1 z8 : Int} (h0 : 0 ≤ p1 ∧ p1 < z1) (h1 : (z8 = 1 → 0 ≤ p1 ∧ p1 < z1)) (h2 : (z8 = 0 → p1 < 0 ∨ z1 ≤ p1)) (h3 : 0 ≤ p1 ∧ p1 ≤ 19) (h4 : 0 ≤ z1 ∧ z1 ≤ 20) (h5 : 1 ≤ z8 ∧ z8 ≤ 1) : 1 ≤ z1 ∧ z1 ≤ 20 := by omega
theorem vc_X12_write_7 {p2 z20 : Int} (h0 : z20 = 0) (h1 : (z20 = 1 → (0 : Int) ≤ p2 ∧ p2 ≤ (1 : Int))) (h2 : (z20 = 0 → p2 < (0 : Int) ∨ (1 : Int) < p2)) (h3 : (-2147483648) ≤ p2 ∧ p2 ≤ 2147483647) (h4 : 0 ≤ z20 ∧ z20 ≤ 1) : 0 ≤ z20 ∧ z20 ≤ 0 := by omega
theorem vc_X12_write_8 {p2 z20 : Int} (h0 : (z20 = 1 → (0 : Int) ≤ p2 ∧ p2 ≤ (1 : Int))) (h1 : (z20 = 0 → p2 < (0 : Int) ∨ (1 : Int) < p2)) (h2 : z20 = 0) (h3 : (-2147483648) ≤ p2 ∧ p2 ≤ 2147483647) (h4 : 0 ≤ z20 ∧ z20 ≤ 0) : z20 = 0 := by omega
theorem vc_X12_write_9 {p2 z20 : Int} (h0 : ¬ z20 = 0) (h1 : (z20 = 1 → (0 : Int) ≤ p2 ∧ p2 ≤ (1 : Int))) (h2 : (z20 = 0 → p2 < (0 : Int) ∨ (1 : Int) < p2)) (h3 : (-2147483648) ≤ p2 ∧ p2 ≤ 2147483647) (h4 : 0 ≤ z20 ∧ z20 ≤ 1) : 1 ≤ z20 ∧ z20 ≤ 1 := by omega
theorem vc_X12_write_10 {p2 z20 : Int} (h0 : (z20 = 1 → (0 : Int) ≤ p2 ∧ p2 ≤ (1 : Int))) (h1 : (z20 = 0 → p2 < (0 : Int) ∨ (1 : Int) < p2)) (h2 : ¬ z20 = 0) (h3 : (-2147483648) ≤ p2 ∧ p2 ≤ 2147483647) (h4 : 1 ≤ z20 ∧ z20 ≤ 1) : z20 = 1 := by omega
theorem vc_X12_write_11 {p2 z20 : Int} (h0 : (0 : Int) ≤ p2 ∧ p2 ≤ (1 : Int)) (h1 : (z20 = 1 → (0 : Int) ≤ p2 ∧ p2 ≤ (1 : Int))) (h2 : (z20 = 0 → p2 < (0 : Int) ∨ (1 : Int) < p2)) (h3 : (-2147483648) ≤ p2 ∧ p2 ≤ 2147483647) (h4 : 1 ≤ z20 ∧ z20 ≤ 1) : 0 ≤ p2 ∧ p2 ≤ 1 := by omega
theorem vc_X12_write_12 {p3 z27 z34 : Int} (h0 : ¬ z34 = 0) (h1 : (z34 = 1 → 0 ≤ p3 ∧ p3 < z27)) (h2 : (z34 = 0 → p3 < 0 ∨ z27 ≤ p3)) (h3 : (-2147483648) ≤ p3 ∧ p3 ≤ 2147483647) (h4 : 0 ≤ z27 ∧ z27 ≤ 10) (h5 : 0 ≤ z34 ∧ z34 ≤ 1) : 1 ≤ z34 ∧ z34 ≤ 1 := by omega
theorem vc_X12_write_13 {p3 z27 z34 : Int} (h0 : (z34 = 1 → 0 ≤ p3 ∧ p3 < z27)) (h1 : (z34 = 0 → p3 < 0 ∨ z27 ≤ p3)) (h2 : ¬ z34 = 0) (h3 : (-2147483648) ≤ p3 ∧ p3 ≤ 2147483647) (h4 : 0 ≤ z27 ∧ z27 ≤ 10) (h5 : 1 ≤ z34 ∧ z34 ≤ 1) : z34 = 1 := by omega
theorem vc_X12_write_14 {p3 z27 z34 : Int} (h0 : 0 ≤ p3 ∧ p3 < z27) (h1 : (z34 = 1 → 0 ≤ p3 ∧ p3 < z27)) (h2 : (z34 = 0 → p3 < 0 ∨ z27 ≤ p3)) (h3 : (-2147483648) ≤ p3 ∧ p3 ≤ 2147483647) (h4 : 0 ≤ z27 ∧ z27 ≤ 10) (h5 : 1 ≤ z34 ∧ z34 ≤ 1) : 0 ≤ p3 ∧ p3 ≤ 9 := by omega
theorem vc_X12_write_15 {p3 z27 z34 : Int} (h0 : 0 ≤ p3 ∧ p3 < z27) (h1 : (z34 = 1 → 0 ≤ p3 ∧ p3 < z27)) (h2 : (z34 = 0 → p3 < 0 ∨ z27 ≤ p3)) (h3 : 0 ≤ p3 ∧ p3 ≤ 9) (h4 : 0 ≤ z27 ∧ z27 ≤ 10) (h5 : 1 ≤ z34 ∧ z34 ≤ 1) : 1 ≤ z27 ∧ z27 ≤ 10 := by omega
theorem vc_X12_write_16 {p1 p2 p3 z1 z20 z27 z34 z44 : Int} (h0 : z44 = (((20 * p1) + (10 * p2)) + p3)) (h1 : 0 ≤ p1 ∧ p1 < z1) (h2 : (z20 = 1 → (0 : Int) ≤ p2 ∧ p2 ≤ (1 : Int))) (h3 : (z20 = 0 → p2 < (0 : Int) ∨ (1 : Int) < p2)) (h4 : (0 : Int) ≤ p2 ∧ p2 ≤ (1 : Int)) (h5 : (z34 = 1 → 0 ≤ p3 ∧ p3 < z27)) (h6 : (z34 = 0 → p3 < 0 ∨ z27 ≤ p3)) (h7 : 0 ≤ p3 ∧ p3 < z27) (h8 : 0 ≤ p1 ∧ p1 ≤ 19) (h9 : 0 ≤ p2 ∧ p2 ≤ 1) (h10 : 0 ≤ p3 ∧ p3 ≤ 9) (h11 : 1 ≤ z1 ∧ z1 ≤ 20) (h12 : 1 ≤ z20 ∧ z20 ≤ 1) (h13 : 1 ≤ z27 ∧ z27 ≤ 10) (h14 : 1 ≤ z34 ∧ z34 ≤ 1) (h15 : 0 ≤ z44 ∧ z44 ≤ 449) : 0 ≤ z44 ∧ z44 ≤ 399 := by omega
theorem vc_X12_write_17 {p1 p2 p3 z1 z20 z27 z34 z44 z8 : Int} (h0 : z44 = (((20 * p1) + (10 * p2)) + p3)) (h1 : (z8 = 1 → 0 ≤ p1 ∧ p1 < z1)) (h2 : (z8 = 0 → p1 < 0 ∨ z1 ≤ p1)) (h3 : 0 ≤ p1 ∧ p1 < z1) (h4 : (z20 = 1 → (0 : Int) ≤ p2 ∧ p2 ≤ (1 : Int))) (h5 : (z20 = 0 → p2 < (0 : Int) ∨ (1 : Int) < p2)) (h6 : (0 : Int) ≤ p2 ∧ p2 ≤ (1 : Int)) (h7 : (z34 = 1 → 0 ≤ p3 ∧ p3 < z27)) (h8 : (z34 = 0 → p3 < 0 ∨ z27 ≤ p3)) (h9 : 0 ≤ p3 ∧ p3 < z27) (h10 : 0 ≤ p1 ∧ p1 ≤ 19) (h11 : 0 ≤ p2 ∧ p2 ≤ 1) (h12 : 0 ≤ p3 ∧ p3 ≤ 9) (h13 : 1 ≤ z1 ∧ z1 ≤ 20) (h14 : 1 ≤ z20 ∧ z20 ≤ 1) (h15 : 1 ≤ z27 ∧ z27 ≤ 10) (h16 : 1 ≤ z34 ∧ z34 ≤ 1) (h17 : 0 ≤ z44 ∧ z44 ≤ 399) (h18 : 1 ≤ z8 ∧ z8 ≤ 1) : (40 * (530 + z44)) % 40 = 0 := by omega
theorem vc_X12_write_19 {p1 p2 p3 z1 z20 z27 z34 z44 z8 : Int} (h0 : z44 = (((20 * p1) + (10 * p2)) + p3)) (h1 : (z8 = 1 → 0 ≤ p1 ∧ p1 < z1)) (h2 : (z8 = 0 → p1 < 0 ∨ z1 ≤ p1)) (h3 : 0 ≤ p1 ∧ p1 < z1) (h4 : (z20 = 1 → (0 : Int) ≤ p2 ∧ p2 ≤ (1 : Int))) (h5 : (z20 = 0 → p2 < (0 : Int) ∨ (1 : Int) < p2)) (h6 : (0 : Int) ≤ p2 ∧ p2 ≤ (1 : Int)) (h7 : (z34 = 1 → 0 ≤ p3 ∧ p3 < z27)) (h8 : (z34 = 0 → p3 < 0 ∨ z27 ≤ p3)) (h9 : 0 ≤ p3 ∧ p3 < z27) (h10 : 0 ≤ p1 ∧ p1 ≤ 19) (h11 : 0 ≤ p2 ∧ p2 ≤ 1) (h12 : 0 ≤ p3 ∧ p3 ≤ 9) (h13 : 1 ≤ z1 ∧ z1 ≤ 20) (h14 : 1 ≤ z20 ∧ z20 ≤ 1) (h15 : 1 ≤ z27 ∧ z27 ≤ 10) (h16 : 1 ≤ z34 ∧ z34 ≤ 1) (h17 : 0 ≤ z44 ∧ z44 ≤ 399) (h18 : 1 ≤ z8 ∧ z8 ≤ 1) : ((40 * (530 + z44)) + 4) % 40 = 4 := by omega
theorem vc_X12_write_20 {p1 p2 p3 z1 z20 z27 z34 z44 z8 : Int} (h0 : z44 = (((20 * p1) + (10 * p2)) + p3)) (h1 : (z8 = 1 → 0 ≤ p1 ∧ p1 < z1)) (h2 : (z8 = 0 → p1 < 0 ∨ z1 ≤ p1)) (h3 : 0 ≤ p1 ∧ p1 < z1) (h4 : (z20 = 1 → (0 : Int) ≤ p2 ∧ p2 ≤ (1 : Int))) (h5 : (z20 = 0 → p2 < (0 : Int) ∨ (1 : Int) < p2)) (h6 : (0 : Int) ≤ p2 ∧ p2 ≤ (1 : Int)) (h7 : (z34 = 1 → 0 ≤ p3 ∧ p3 < z27)) (h8 : (z34 = 0 → p3 < 0 ∨ z27 ≤ p3)) (h9 : 0 ≤ p3 ∧ p3 < z27) (h10 : 0 ≤ p1 ∧ p1 ≤ 19) (h11 : 0 ≤ p2 ∧ p2 ≤ 1) (h12 : 0 ≤ p3 ∧ p3 ≤ 9) (h13 : 1 ≤ z1 ∧ z1 ≤ 20) (h14 : 1 ≤ z20 ∧ z20 ≤ 1) (h15 : 1 ≤ z27 ∧ z27 ≤ 10) (h16 : 1 ≤ z34 ∧ z34 ≤ 1) (h17 : 0 ≤ z44 ∧ z44 ≤ 399) (h18 : 1 ≤ z8 ∧ z8 ≤ 1) : ((40 * (530 + z44)) + 5) % 40 = 5 := by omega
theorem vc_X12_write_21  : ((0 : Int) : Int) ≤ (299 : Int) := by omega
theorem vc_X12_write_22  : (((0 : Int) + (1 : Int)) : Int) ≤ (299 : Int) := by omega
theorem vc_X12_write_23  : ((((0 : Int) + (1 : Int)) + (1 : Int)) : Int) ≤ (299 : Int) := by omega
theorem vc_X12_write_24  : (((((0 : Int) + (1 : Int)) + (1 : Int)) + (1 : Int)) : Int) ≤ (299 : Int) := by omega
theorem vc_X12_write_25  : ((((((0 : Int) + (1 : Int)) + (1 : Int)) + (1 : Int)) + (1 : Int)) : Int) ≤ (299 : Int) := by omega
theorem vc_X12_write_26  : (((((((0 : Int) + (1 : Int)) + (1 : Int)) + (1 : Int)) + (1 : Int)) + (1 : Int)) : Int) ≤ (299 : Int) := by omega
theorem vc_X12_write_27  : ((((((((0 : Int) + (1 : Int)) + (1 : Int)) + (1 : Int)) + (1 : Int)) + (1 : Int)) + (1 : Int)) : Int) ≤ (299 : Int) := by omega
theorem vc_X12_write_28  : (((((((((0 : Int) + (1 : Int)) + (1 : Int)) + (1 : Int)) + (1 : Int)) + (1 : Int)) + (1 : Int)) + (1 : Int)) : Int) ≤ (299 : Int) := by omega
theorem vc_X12_write_29  : ((((((((((0 : Int) + (1 : Int)) + (1 : Int)) + (1 : Int)) + (1 : Int)) + (1 : Int)) + (1 : Int)) + (1 : Int)) + (1 : Int)) : Int) ≤ (299 : Int) := by omega
theorem vc_X12_write_30  : (((((((((((0 : Int) + (1 : Int)) + (1 : Int)) + (1 : Int)) + (1 : Int)) + (1 : Int)) + (1 : Int)) + (1 : Int)) + (1 : Int)) + (1 : Int)) : Int) ≤ (299 : Int) := by omega
theorem vc_X12_write_31  : ((((((((((((0 : Int) + (1 : Int)) + (1 : Int)) + (1 : Int)) + (1 : Int)) + (1 : Int)) + (1 : Int)) + (1 : Int)) + (1 : Int)) + (1 : Int)) + (1 : Int)) : Int) ≤ (299 : Int) := by omega
theorem vc_X12_write_32 {z248 : Int} (h0 : z248 ≤ 100) (h1 : 0 ≤ z248 ∧ z248 ≤ 300) : 0 ≤ z248 ∧ z248 ≤ 100 := by omega
theorem vc_X12_write_33 {z297 : Int} (h0 : z297 ≤ 107) (h1 : 0 ≤ z297 ∧ z297 ≤ 300) : 0 ≤ z297 ∧ z297 ≤ 107 := by omega
theorem vc_X12_write_34 {z59 : Int} (h0 : z59 ≤ 0) (h1 : 0 ≤ z59 ∧ z59 ≤ 8) : 0 ≤ z59 ∧ z59 ≤ 0 := by omega
theorem vc_X12_write_35 {z297 : Int} (h0 : z297 ≤ 107) (h1 : 0 ≤ z297 ∧ z297 ≤ 107) : z297 ≤ 290 := by omega
theorem vc_X12_write_36 {z59 : Int} (h0 : 0 < z59) (h1 : 0 ≤ z59 ∧ z59 ≤ 8) : 1 ≤ z59 ∧ z59 ≤ 8 := by omega
theorem vc_X12_write_37 {z297 : Int} (h0 : z297 ≤ 107) (h1 : 0 ≤ z297 ∧ z297 ≤ 107) : z297 ≤ 299 := by omega
theorem vc_X12_write_38 {z297 z382 : Int} (h0 : z297 ≤ 107) (h1 : z382 = z297 + 1) (h2 : 0 ≤ z297 ∧ z297 ≤ 107) (h3 : 0 ≤ z382 ∧ z382 ≤ 300) : (z297 + 1) ≤ 299 := by omega
theorem vc_X12_write_39 {z297 z382 z391 : Int} (h0 : z297 ≤ 107) (h1 : z382 = z297 + 1) (h2 : z391 = (z297 + 1) + 1) (h3 : 0 ≤ z297 ∧ z297 ≤ 107) (h4 : 0 ≤ z382 ∧ z382 ≤ 300) (h5 : 0 ≤ z391 ∧ z391 ≤ 300) : ((z297 + 1) + 1) ≤ 299 := by omega
theorem vc_X12_write_40 {f_w z655 : Int} (h0 : (9 - z655) < ((0 : Nat) : Int)) (h1 : f_w ≤ 120 + 4 * z655) (h2 : 0 ≤ z655 ∧ z655 ≤ 8) : False := by omega
theorem vc_X12_write_41 {f_w z59 z655 : Int} (h0 : z59 ≤ z655) (h1 : 0 < z59) (h2 : f_w ≤ 120 + 4 * z655) (h3 : 0 ≤ f_w ∧ f_w ≤ 300) (h4 : 1 ≤ z59 ∧ z59 ≤ 8) (h5 : 0 ≤ z655 ∧ z655 ≤ 8) : 1 ≤ z655 ∧ z655 ≤ 8 := by omega
theorem vc_X12_write_42 {f_w z59 z655 : Int} (h0 : f_w ≤ 120 + 4 * z655) (h1 : z59 ≤ z655) (h2 : 0 ≤ f_w ∧ f_w ≤ 300) (h3 : 1 ≤ z59 ∧ z59 ≤ 8) (h4 : 1 ≤ z655 ∧ z655 ≤ 8) : f_w ≤ 290 := by omega
theorem vc_X12_write_43 {f_w z59 z655 : Int} (h0 : z655 < z59) (h1 : 0 < z59) (h2 : f_w ≤ 120 + 4 * z655) (h3 : 0 ≤ f_w ∧ f_w ≤ 300) (h4 : 1 ≤ z59 ∧ z59 ≤ 8) (h5 : 0 ≤ z655 ∧ z655 ≤ 8) : 0 ≤ z655 ∧ z655 ≤ 7 := by omega
theorem vc_X12_write_44 {f_w z44 z59 z655 z692 : Int} (h0 : f_w ≤ 120 + 4 * z655) (h1 : z655 < z59) (h2 : ((((40 * (530 + z44)) + 26) + z655) % 40 = 0 → -1 ≤ z692 ∧ z692 ≤ 9)) (h3 : ((((40 * (530 + z44)) + 26) + z655) % 40 = 4 → 0 ≤ z692 ∧ z692 ≤ 20)) (h4 : ((((40 * (530 + z44)) + 26) + z655) % 40 = 5 → 0 ≤ z692 ∧ z692 ≤ 8)) (h5 : 0 ≤ f_w ∧ f_w ≤ 300) (h6 : 0 ≤ z44 ∧ z44 ≤ 399) (h7 : 1 ≤ z59 ∧ z59 ≤ 8) (h8 : 0 ≤ z655 ∧ z655 ≤ 7) (h9 : (-2147483648) ≤ z692 ∧ z692 ≤ 2147483647) : f_w ≤ 295 := by omega
theorem vc_X12_write_45 {f_w p1 p2 p3 z44 z59 z655 z692 z699 : Int} (h0 : f_w ≤ 120 + 4 * z655) (h1 : z655 < z59) (h2 : ((((40 * (530 + z44)) + 26) + z655) % 40 = 0 → -1 ≤ z692 ∧ z692 ≤ 9)) (h3 : ((((40 * (530 + z44)) + 26) + z655) % 40 = 4 → 0 ≤ z692 ∧ z692 ≤ 20)) (h4 : ((((40 * (530 + z44)) + 26) + z655) % 40 = 5 → 0 ≤ z692 ∧ z692 ≤ 8)) (h5 : z699 = f_w + 4) (h6 : z44 = (((20 * p1) + (10 * p2)) + p3)) (h7 : 0 < z59) (h8 : 0 ≤ f_w ∧ f_w ≤ 300) (h9 : 0 ≤ p1 ∧ p1 ≤ 19) (h10 : 0 ≤ p2 ∧ p2 ≤ 1) (h11 : 0 ≤ p3 ∧ p3 ≤ 9) (h12 : 0 ≤ z44 ∧ z44 ≤ 399) (h13 : 1 ≤ z59 ∧ z59 ≤ 8) (h14 : 0 ≤ z655 ∧ z655 ≤ 7) (h15 : (-2147483648) ≤ z692 ∧ z692 ≤ 2147483647) (h16 : 0 ≤ z699 ∧ z699 ≤ 300) : (f_w + 4) ≤ 120 + 4 * (z655 + 1) := by omega
theorem vc_X12_write_46 {N f_w p1 p2 p3 z44 z59 z655 z692 z699 : Int} (h0 : (9 - z655) < N + 1) (h1 : f_w ≤ 120 + 4 * z655) (h2 : z655 < z59) (h3 : ((((40 * (530 + z44)) + 26) + z655) % 40 = 0 → -1 ≤ z692 ∧ z692 ≤ 9)) (h4 : ((((40 * (530 + z44)) + 26) + z655) % 40 = 4 → 0 ≤ z692 ∧ z692 ≤ 20)) (h5 : ((((40 * (530 + z44)) + 26) + z655) % 40 = 5 → 0 ≤ z692 ∧ z692 ≤ 8)) (h6 : z44 = (((20 * p1) + (10 * p2)) + p3)) (h7 : 0 < z59) (h8 : z699 = f_w + 4) (h9 : 0 ≤ f_w ∧ f_w ≤ 300) (h10 : 0 ≤ p1 ∧ p1 ≤ 19) (h11 : 0 ≤ p2 ∧ p2 ≤ 1) (h12 : 0 ≤ p3 ∧ p3 ≤ 9) (h13 : 0 ≤ z44 ∧ z44 ≤ 399) (h14 : 1 ≤ z59 ∧ z59 ≤ 8) (h15 : 0 ≤ z655 ∧ z655 ≤ 7) (h16 : (-2147483648) ≤ z692 ∧ z692 ≤ 2147483647) (h17 : 0 ≤ z699 ∧ z699 ≤ 300) : (9 - (z655 + 1)) < N := by omega
theorem vc_X12_write_47 {z297 z382 z391 z400 : Int} (h0 : z297 ≤ 107) (h1 : z382 = z297 + 1) (h2 : z391 = (z297 + 1) + 1) (h3 : z400 = ((z297 + 1) + 1) + 1) (h4 : 0 ≤ z297 ∧ z297 ≤ 107) (h5 : 0 ≤ z382 ∧ z382 ≤ 300) (h6 : 0 ≤ z391 ∧ z391 ≤ 300) (h7 : 0 ≤ z400 ∧ z400 ≤ 300) : (((z297 + 1) + 1) + 1) ≤ 120 + 4 * (0 : Int) := by omega
theorem vc_X12_write_49 {z68 : Int} (h0 : z68 ≤ 0) (h1 : (-2147483648) ≤ z68 ∧ z68 ≤ 2147483647) : (-2147483648) ≤ z68 ∧ z68 ≤ 0 := by omega
theorem vc_X12_write_50 {z248 : Int} (h0 : z248 ≤ 100) (h1 : 0 ≤ z248 ∧ z248 ≤ 100) : z248 ≤ 107 := by omega
theorem vc_X12_write_51 {z68 : Int} (h0 : 0 < z68) (h1 : (-2147483648) ≤ z68 ∧ z68 ≤ 2147483647) : 1 ≤ z68 ∧ z68 ≤ 2147483647 := by omega
theorem vc_X12_write_52 {z248 : Int} (h0 : z248 ≤ 100) (h1 : 0 ≤ z248 ∧ z248 ≤ 100) : z248 ≤ 299 := by omega
theorem vc_X12_write_53 {z248 z711 : Int} (h0 : z248 ≤ 100) (h1 : z711 = z248 + 1) (h2 : 0 ≤ z248 ∧ z248 ≤ 100) (h3 : 0 ≤ z711 ∧ z711 ≤ 300) : (z248 + 1) ≤ 299 := by omega
theorem vc_X12_write_54 {z248 z711 z720 : Int} (h0 : z248 ≤ 100) (h1 : z711 = z248 + 1) (h2 : z720 = (z248 + 1) + 1) (h3 : 0 ≤ z248 ∧ z248 ≤ 100) (h4 : 0 ≤ z711 ∧ z711 ≤ 300) (h5 : 0 ≤ z720 ∧ z720 ≤ 300) : ((z248 + 1) + 1) ≤ 299 := by omega
theorem vc_X12_write_55 {z248 z711 z720 z729 : Int} (h0 : z248 ≤ 100) (h1 : z711 = z248 + 1) (h2 : z720 = (z248 + 1) + 1) (h3 : z729 = ((z248 + 1) + 1) + 1) (h4 : 0 ≤ z248 ∧ z248 ≤ 100) (h5 : 0 ≤ z711 ∧ z711 ≤ 300) (h6 : 0 ≤ z720 ∧ z720 ≤ 300) (h7 : 0 ≤ z729 ∧ z729 ≤ 300) : (((z248 + 1) + 1) + 1) ≤ 295 := by omega
theorem vc_X12_write_56 {z248 z711 z720 z729 z738 : Int} (h0 : z248 ≤ 100) (h1 : z711 = z248 + 1) (h2 : z720 = (z248 + 1) + 1) (h3 : z729 = ((z248 + 1) + 1) + 1) (h4 : z738 = (((z248 + 1) + 1) + 1) + 4) (h5 : 0 ≤ z248 ∧ z248 ≤ 100) (h6 : 0 ≤ z711 ∧ z711 ≤ 300) (h7 : 0 ≤ z720 ∧ z720 ≤ 300) (h8 : 0 ≤ z729 ∧ z729 ≤ 300) (h9 : 0 ≤ z738 ∧ z738 ≤ 300) : ((((z248 + 1) + 1) + 1) + 4) ≤ 107 := by omega
theorem vc_X12_write_57 {z55 : Int} (h0 : z55 ≤ 0) (h1 : 0 ≤ z55 ∧ z55 ≤ 20) : 0 ≤ z55 ∧ z55 ≤ 0 := by omega
theorem vc_X12_write_58  : (((((((((((((0 : Int) + (1 : Int)) + (1 : Int)) + (1 : Int)) + (1 : Int)) + (1 : Int)) + (1 : Int)) + (1 : Int)) + (1 : Int)) + (1 : Int)) + (1 : Int)) + (1 : Int)) : Int) ≤ (100 : Int) := by omega
theorem vc_X12_write_59 {z55 : Int} (h0 : 0 < z55) (h1 : 0 ≤ z55 ∧ z55 ≤ 20) : 1 ≤ z55 ∧ z55 ≤ 20 := by omega
theorem vc_X12_write_60  : (((((((((((((0 : Int) + (1 : Int)) + (1 : Int)) + (1 : Int)) + (1 : Int)) + (1 : Int)) + (1 : Int)) + (1 : Int)) + (1 : Int)) + (1 : Int)) + (1 : Int)) + (1 : Int)) : Int) ≤ (299 : Int) := by omega
theorem vc_X12_write_61  : ((((((((((((((0 : Int) + (1 : Int)) + (1 : Int)) + (1 : Int)) + (1 : Int)) + (1 : Int)) + (1 : Int)) + (1 : Int)) + (1 : Int)) + (1 : Int)) + (1 : Int)) + (1 : Int)) + (1 : Int)) : Int) ≤ (299 : Int) := by omega
theorem vc_X12_write_62 {f_w z1014 : Int} (h0 : (21 - z1014) < ((0 : Nat) : Int)) (h1 : f_w ≤ 20 + 4 * z1014) (h2 : 0 ≤ z1014 ∧ z1014 ≤ 20) : False := by omega
theorem vc_X12_write_63 {f_w z1014 z55 : Int} (h0 : z55 ≤ z1014) (h1 : 0 < z55) (h2 : f_w ≤ 20 + 4 * z1014) (h3 : 0 ≤ f_w ∧ f_w ≤ 300) (h4 : 0 ≤ z1014 ∧ z1014 ≤ 20) (h5 : 1 ≤ z55 ∧ z55 ≤ 20) : 1 ≤ z1014 ∧ z1014 ≤ 20 := by omega
theorem vc_X12_write_64 {f_w z1014 z55 : Int} (h0 : f_w ≤ 20 + 4 * z1014) (h1 : z55 ≤ z1014) (h2 : 0 ≤ f_w ∧ f_w ≤ 300) (h3 : 1 ≤ z1014 ∧ z1014 ≤ 20) (h4 : 1 ≤ z55 ∧ z55 ≤ 20) : f_w ≤ 100 := by omega
theorem vc_X12_write_65 {f_w z1014 z55 : Int} (h0 : z1014 < z55) (h1 : 0 < z55) (h2 : f_w ≤ 20 + 4 * z1014) (h3 : 0 ≤ f_w ∧ f_w ≤ 300) (h4 : 0 ≤ z1014 ∧ z1014 ≤ 20) (h5 : 1 ≤ z55 ∧ z55 ≤ 20) : 0 ≤ z1014 ∧ z1014 ≤ 19 := by omega
theorem vc_X12_write_66 {f_w z1014 z1029 z44 z55 : Int} (h0 : f_w ≤ 20 + 4 * z1014) (h1 : z1014 < z55) (h2 : ((((40 * (530 + z44)) + 6) + z1014) % 40 = 0 → -1 ≤ z1029 ∧ z1029 ≤ 9)) (h3 : ((((40 * (530 + z44)) + 6) + z1014) % 40 = 4 → 0 ≤ z1029 ∧ z1029 ≤ 20)) (h4 : ((((40 * (530 + z44)) + 6) + z1014) % 40 = 5 → 0 ≤ z1029 ∧ z1029 ≤ 8)) (h5 : 0 ≤ f_w ∧ f_w ≤ 300) (h6 : 0 ≤ z1014 ∧ z1014 ≤ 19) (h7 : (-2147483648) ≤ z1029 ∧ z1029 ≤ 2147483647) (h8 : 0 ≤ z44 ∧ z44 ≤ 399) (h9 : 1 ≤ z55 ∧ z55 ≤ 20) : f_w ≤ 295 := by omega
theorem vc_X12_write_67 {f_w p1 p2 p3 z1014 z1029 z1036 z44 z55 : Int} (h0 : f_w ≤ 20 + 4 * z1014) (h1 : z1014 < z55) (h2 : ((((40 * (530 + z44)) + 6) + z1014) % 40 = 0 → -1 ≤ z1029 ∧ z1029 ≤ 9)) (h3 : ((((40 * (530 + z44)) + 6) + z1014) % 40 = 4 → 0 ≤ z1029 ∧ z1029 ≤ 20)) (h4 : ((((40 * (530 + z44)) + 6) + z1014) % 40 = 5 → 0 ≤ z1029 ∧ z1029 ≤ 8)) (h5 : z1036 = f_w + 4) (h6 : z44 = (((20 * p1) + (10 * p2)) + p3)) (h7 : 0 < z55) (h8 : 0 ≤ f_w ∧ f_w ≤ 300) (h9 : 0 ≤ p1 ∧ p1 ≤ 19) (h10 : 0 ≤ p2 ∧ p2 ≤ 1) (h11 : 0 ≤ p3 ∧ p3 ≤ 9) (h12 : 0 ≤ z1014 ∧ z1014 ≤ 19) (h13 : (-2147483648) ≤ z1029 ∧ z1029 ≤ 2147483647) (h14 : 0 ≤ z1036 ∧ z1036 ≤ 300) (h15 : 0 ≤ z44 ∧ z44 ≤ 399) (h16 : 1 ≤ z55 ∧ z55 ≤ 20) : (f_w + 4) ≤ 20 + 4 * (z1014 + 1) := by omega
theorem vc_X12_write_68 {N f_w p1 p2 p3 z1014 z1029 z1036 z44 z55 : Int} (h0 : (21 - z1014) < N + 1) (h1 : f_w ≤ 20 + 4 * z1014) (h2 : z1014 < z55) (h3 : ((((40 * (530 + z44)) + 6) + z1014) % 40 = 0 → -1 ≤ z1029 ∧ z1029 ≤ 9)) (h4 : ((((40 * (530 + z44)) + 6) + z1014) % 40 = 4 → 0 ≤ z1029 ∧ z1029 ≤ 20)) (h5 : ((((40 * (530 + z44)) + 6) + z1014) % 40 = 5 → 0 ≤ z1029 ∧ z1029 ≤ 8)) (h6 : z44 = (((20 * p1) + (10 * p2)) + p3)) (h7 : 0 < z55) (h8 : z1036 = f_w + 4) (h9 : 0 ≤ f_w ∧ f_w ≤ 300) (h10 : 0 ≤ p1 ∧ p1 ≤ 19) (h11 : 0 ≤ p2 ∧ p2 ≤ 1) (h12 : 0 ≤ p3 ∧ p3 ≤ 9) (h13 : 0 ≤ z1014 ∧ z1014 ≤ 19) (h14 : (-2147483648) ≤ z1029 ∧ z1029 ≤ 2147483647) (h15 : 0 ≤ z1036 ∧ z1036 ≤ 300) (h16 : 0 ≤ z44 ∧ z44 ≤ 399) (h17 : 1 ≤ z55 ∧ z55 ≤ 20) : (21 - (z1014 + 1)) < N := by omega
theorem vc_X12_write_69  : (((((((((((((((0 : Int) + (1 : Int)) + (1 : Int)) + (1 : Int)) + (1 : Int)) + (1 : Int)) + (1 : Int)) + (1 : Int)) + (1 : Int)) + (1 : Int)) + (1 : Int)) + (1 : Int)) + (1 : Int)) + (1 : Int)) : Int) ≤ (20 : Int) + (4 : Int) * ((0 : Int) : Int) := by omega
theorem vc_X12_write_75  : ((((0 : Int) + (1 : Int)) + (1 : Int)) : Int) ≤ (290 : Int) := by omega
theorem vc_X12_write_76 {z1079 : Int} (h0 : z1079 ≤ (((0 + 1) + 1) : Int) + 5) (h1 : 0 ≤ z1079 ∧ z1079 ≤ 300) : z1079 ≤ 299 := by omega
theorem vc_X12_write_77 {z1079 z1087 : Int} (h0 : z1079 ≤ (((0 + 1) + 1) : Int) + 5) (h1 : z1087 = z1079 + 1) (h2 : 0 ≤ z1079 ∧ z1079 ≤ 300) (h3 : 0 ≤ z1087 ∧ z1087 ≤ 300) : (z1079 + 1) ≤ 299 := by omega
theorem vc_X12_write_78 {p3 z27 z34 : Int} (h0 : z34 = 0) (h1 : (z34 = 1 → 0 ≤ p3 ∧ p3 < z27)) (h2 : (z34 = 0 → p3 < 0 ∨ z27 ≤ p3)) (h3 : (-2147483648) ≤ p3 ∧ p3 ≤ 2147483647) (h4 : 0 ≤ z27 ∧ z27 ≤ 10) (h5 : 0 ≤ z34 ∧ z34 ≤ 1) : 0 ≤ z34 ∧ z34 ≤ 0 := by omega
theorem vc_X12_write_79 {p3 z27 z34 : Int} (h0 : (z34 = 1 → 0 ≤ p3 ∧ p3 < z27)) (h1 : (z34 = 0 → p3 < 0 ∨ z27 ≤ p3)) (h2 : z34 = 0) (h3 : (-2147483648) ≤ p3 ∧ p3 ≤ 2147483647) (h4 : 0 ≤ z27 ∧ z27 ≤ 10) (h5 : 0 ≤ z34 ∧ z34 ≤ 0) : z34 = 0 := by omega
set_option maxRecDepth 4000 in
set_option maxHeartbeats 4000000 in
theorem c_X12_write {l : Launch} {D : va_G} {c : Nat → ClassId} {H0 : Heap} {sa : Nat × Nat × (Nat → Int32)} {w : mW} {μ : mM} (hw : mWF w) (hT : mT w μ) {p1 : Int} (hp1 : (-2147483648) ≤ p1 ∧ p1 ≤ 2147483647) {p2 : Int} (hp2 : (-2147483648) ≤ p2 ∧ p2 ≤ 2147483647) {p3 : Int} (hp3 : (-2147483648) ≤ p3 ∧ p3 ≤ 2147483647) : sC (gG l D c H0 sa) mX12_write 3 0 0 [.ref 106, iv p1, iv p2, iv p3] (mk w μ) (qI w [106104, 174999] μ (fun z μ1 => ((-2147483648) ≤ z ∧ z ≤ 2147483647) ∧ True)) := by
  refine sC.of rfl (by decide) (le_t rfl) ?_
  refine mr_lvE (lv' := [(0, .ref 106), (1, iv p1), (2, iv p2), (3, iv p3)]) rfl ?_
  refine sv_aload_n (pc := 0) dX12_write_0 rfl rfl ?_
  refine mr_iload_n (pc := 1) (z := p1) dX12_write_1 rfl rfl ?_
  obtain ⟨z1, q2⟩ : ∃ z, μ 106 6 = z := ⟨_, rfl⟩
  have h3 : (0 ≤ z1 ∧ z1 ≤ 20) := by rw [← q2]; exact hT 106 106 (A_106 hw) 6
  refine mr_cVP (pc := 2) (c_X12_isTie hw hT hp1 q2) (gOk _ _ _ _ _) dX12_write_2 (tX12_isTie _ _ _ _ _) ⟨wV_X12_isTie, wL_X12_isTie⟩ wM_X12_66 (gCX12 _ _ _ _ _) rfl (A_106 hw) rfl ⟨le_t rfl, le_t rfl⟩ ⟨le_t rfl, le_t rfl⟩ rfl (le_t rfl) fun z8 h7 => ?_
  refine mr_if_eq (pc := 5) (tgt := 25) dX12_write_5 (by decide) (r32 h7.1 rfl) (fun h9 => ?_) (fun h9 => ?_)
  · have h10 : 0 ≤ z8 ∧ z8 ≤ 0 := (vc_X12_write_1 h9 h7.2.1 h7.2.2.1 hp1 h3 h7.1)
    have h11 : p1 < 0 ∨ z1 ≤ p1 := (h7.2.2.1 (vc_X12_write_2 h7.2.1 h7.2.2.1 h9 hp1 h3 h10))
    refine mr_iconst (pc := 25) (z := (-1)) dX12_write_25 ?_
    exact mr_iret dX12_write_26 rfl (le_t rfl) (le_t rfl) hT mF.refl ⟨(rW (c := (-2147483648)) (d := 2147483647) (rR (x := (-1))) rfl), trivial⟩
  have h12 : 1 ≤ z8 ∧ z8 ≤ 1 := (vc_X12_write_3 h9 h7.2.1 h7.2.2.1 hp1 h3 h7.1)
  have h13 : 0 ≤ p1 ∧ p1 < z1 := (h7.2.1 (vc_X12_write_4 h7.2.1 h7.2.2.1 h9 hp1 h3 h12))
  have h14 : 0 ≤ p1 ∧ p1 ≤ 19 := (vc_X12_write_5 h13 h7.2.1 h7.2.2.1 hp1 h3 h12)
  have h15 : 1 ≤ z1 ∧ z1 ≤ 20 := (vc_X12_write_6 h13 h7.2.1 h7.2.2.1 h14 h3 h12)
  refine mr_iload_n (pc := 8) (z := p2) dX12_write_8 rfl rfl ?_
  refine mr_iconst (pc := 9) (z := 0) dX12_write_9 ?_
  refine mr_iconst (pc := 10) (z := 1) dX12_write_10 ?_
  refine mr_cSP (pc := 11) (c_X12_in hw hT hp2 (rW (c := (-2147483648)) (d := 2147483647) (rR (x := 0)) rfl) (rW (c := (-2147483648)) (d := 2147483647) (rR (x := 1)) rfl)) (gOk _ _ _ _ _) dX12_write_11 (tX12_in _ _ _ _ _) wS_X12_in wM_X12_18 ⟨le_t rfl, le_t rfl⟩ ⟨le_t rfl, le_t rfl⟩ rfl (le_t rfl) fun z20 h19 => ?_
  refine mr_if_eq (pc := 14) (tgt := 25) dX12_write_14 (by decide) (r32 h19.1 rfl) (fun h21 => ?_) (fun h21 => ?_)
  · have h22 : 0 ≤ z20 ∧ z20 ≤ 0 := (vc_X12_write_7 h21 h19.2.1 h19.2.2.1 hp2 h19.1)
    have h23 : p2 < (0 : Int) ∨ (1 : Int) < p2 := (h19.2.2.1 (vc_X12_write_8 h19.2.1 h19.2.2.1 h21 hp2 h22))
    refine mr_iconst (pc := 25) (z := (-1)) dX12_write_25 ?_
    exact mr_iret dX12_write_26 rfl (le_t rfl) (le_t rfl) hT mF.refl ⟨(rW (c := (-2147483648)) (d := 2147483647) (rR (x := (-1))) rfl), trivial⟩
  have h24 : 1 ≤ z20 ∧ z20 ≤ 1 := (vc_X12_write_9 h21 h19.2.1 h19.2.2.1 hp2 h19.1)
  have h25 : (0 : Int) ≤ p2 ∧ p2 ≤ (1 : Int) := (h19.2.1 (vc_X12_write_10 h19.2.1 h19.2.2.1 h21 hp2 h24))
  have h26 : 0 ≤ p2 ∧ p2 ≤ 1 := (vc_X12_write_11 h25 h19.2.1 h19.2.2.1 hp2 h24)
  refine sv_aload_n (pc := 17) dX12_write_17 rfl rfl ?_
  refine mr_iload_n (pc := 18) (z := p3) dX12_write_18 rfl rfl ?_
  obtain ⟨z27, q28⟩ : ∃ z, μ 106 2 = z := ⟨_, rfl⟩
  have h29 : (0 ≤ z27 ∧ z27 ≤ 10) := by rw [← q28]; exact hT 106 106 (A_106 hw) 2
  refine mr_cVP (pc := 19) (c_X12_isPrefix hw hT hp3 q28) (gOk _ _ _ _ _) dX12_write_19 (tX12_isPrefix _ _ _ _ _) ⟨wV_X12_isPrefix, wL_X12_isPrefix⟩ wM_X12_92 (gCX12 _ _ _ _ _) rfl (A_106 hw) rfl ⟨le_t rfl, le_t rfl⟩ ⟨le_t rfl, le_t rfl⟩ rfl (le_t rfl) fun z34 h33 => ?_
  refine mr_if_ne (pc := 22) (tgt := 27) dX12_write_22 (by decide) (r32 h33.1 rfl) (fun h35 => ?_) (fun h35 => ?_)
  · have h36 : 1 ≤ z34 ∧ z34 ≤ 1 := (vc_X12_write_12 h35 h33.2.1 h33.2.2.1 hp3 h29 h33.1)
    have h37 : 0 ≤ p3 ∧ p3 < z27 := (h33.2.1 (vc_X12_write_13 h33.2.1 h33.2.2.1 h35 hp3 h29 h36))
    have h38 : 0 ≤ p3 ∧ p3 ≤ 9 := (vc_X12_write_14 h37 h33.2.1 h33.2.2.1 hp3 h29 h36)
    have h39 : 1 ≤ z27 ∧ z27 ≤ 10 := (vc_X12_write_15 h37 h33.2.1 h33.2.2.1 h38 h29 h36)
    refine mr_bipush (pc := 27) (z := 40) dX12_write_27 (by decide) ?_
    refine mr_sipush (pc := 29) (z := 530) dX12_write_29 (by decide) ?_
    refine mr_iload_n (pc := 32) (z := p1) dX12_write_32 rfl rfl ?_
    refine mr_iload_n (pc := 33) (z := p2) dX12_write_33 rfl rfl ?_
    refine mr_iload_n (pc := 34) (z := p3) dX12_write_34 rfl rfl ?_
    refine mr_cSP (pc := 35) (c_X12_slot hw hT (rW (c := 0) (d := 20) h14 rfl) (rW (c := 0) (d := 2) h26 rfl) h38) (gOk _ _ _ _ _) dX12_write_35 (tX12_slot _ _ _ _ _) wS_X12_slot wM_X12_545 ⟨le_t rfl, le_t rfl⟩ ⟨le_t rfl, le_t rfl⟩ rfl (le_t rfl) fun z44 h43 => ?_
    have h45 : 0 ≤ z44 ∧ z44 ≤ 399 := (vc_X12_write_16 h43.2.1 h13 h19.2.1 h19.2.2.1 h25 h33.2.1 h33.2.2.1 h37 h14 h26 h38 h15 h24 h39 h36 h43.1)
    refine mr_iadd (pc := 38) (x := 530) (y := z44) dX12_write_38 ?_
    refine mr_imul (pc := 39) (x := 40) (y := (530 + z44)) dX12_write_39 ?_
    refine mr_istore (pc := 40) (lv' := [(4, iv (40 * (530 + z44))), (0, .ref 106), (1, iv p1), (2, iv p2), (3, iv p3)]) dX12_write_40 (by decide) rfl ?_
    refine sv_aload_n (pc := 42) dX12_write_42 rfl rfl ?_
    refine mr_iconst (pc := 43) (z := 0) dX12_write_43 ?_
    refine pf_X12_104 (pc := 44) dX12_write_44 wF_X12_671 (A_106 hw) hT (rW (c := 0) (d := 300) (rR (x := 0)) rfl) fun μ46 u47 T48 => ?_
    refine sv_aload_n (pc := 47) dX12_write_47 rfl rfl ?_
    refine gf_X12_32 (pc := 48) dX12_write_48 wF_X12_148 (A_106 hw) T48 ?_
    refine mr_iload (pc := 51) (z := (40 * (530 + z44))) dX12_write_51 rfl ?_
    refine la_126 (pc := 53) dX12_write_53 (A_126 hw) T48 (rIx (n := 84000) (rMulL (n := 40) (e := 21200) (f := 37160) (rAdd (e := 530) (f := 929) (rR (x := 530)) h45 rfl) rfl) rfl) fun z49 q50 h51 => ?_
    have h52 : (-1) ≤ z49 ∧ z49 ≤ 9 := h51.2.1 (vc_X12_write_17 h43.2.1 h7.2.1 h7.2.2.1 h13 h19.2.1 h19.2.2.1 h25 h33.2.1 h33.2.2.1 h37 h14 h26 h38 h15 h24 h39 h36 h45 h12)
    refine mr_if_ge (pc := 54) (tgt := 100) dX12_write_54 (by decide) (r32 h52 rfl) (fun h53 => ?_) (fun h53 => ?_)
    · have h54 : 0 ≤ z49 ∧ z49 ≤ 9 := (vc_X12_isThere_6 h53 h52)
      refine sv_aload_n (pc := 100) dX12_write_100 rfl rfl ?_
      refine gf_X12_32 (pc := 101) dX12_write_101 wF_X12_148 (A_106 hw) T48 ?_
      refine mr_iload (pc := 104) (z := (40 * (530 + z44))) dX12_write_104 rfl ?_
      refine mr_iconst (pc := 106) (z := 4) dX12_write_106 ?_
      refine mr_iadd (pc := 107) (x := (40 * (530 + z44))) (y := 4) dX12_write_107 ?_
      refine la_126 (pc := 108) dX12_write_108 (A_126 hw) T48 (rIx (n := 84000) (rAdd (e := 21204) (f := 37164) (rMulL (n := 40) (e := 21200) (f := 37160) (rAdd (e := 530) (f := 929) (rR (x := 530)) h45 rfl) rfl) (rR (x := 4)) rfl) rfl) fun z55 q56 h57 => ?_
      have h58 : 0 ≤ z55 ∧ z55 ≤ 20 := h57.2.2.1 (vc_X12_write_19 h43.2.1 h7.2.1 h7.2.2.1 h13 h19.2.1 h19.2.2.1 h25 h33.2.1 h33.2.2.1 h37 h14 h26 h38 h15 h24 h39 h36 h45 h12)
      refine mr_istore (pc := 109) (lv' := [(5, iv z55), (4, iv (40 * (530 + z44))), (0, .ref 106), (1, iv p1), (2, iv p2), (3, iv p3)]) dX12_write_109 (by decide) rfl ?_
      refine sv_aload_n (pc := 111) dX12_write_111 rfl rfl ?_
      refine gf_X12_32 (pc := 112) dX12_write_112 wF_X12_148 (A_106 hw) T48 ?_
      refine mr_iload (pc := 115) (z := (40 * (530 + z44))) dX12_write_115 rfl ?_
      refine mr_iconst (pc := 117) (z := 5) dX12_write_117 ?_
      refine mr_iadd (pc := 118) (x := (40 * (530 + z44))) (y := 5) dX12_write_118 ?_
      refine la_126 (pc := 119) dX12_write_119 (A_126 hw) T48 (rIx (n := 84000) (rAdd (e := 21205) (f := 37165) (rMulL (n := 40) (e := 21200) (f := 37160) (rAdd (e := 530) (f := 929) (rR (x := 530)) h45 rfl) rfl) (rR (x := 5)) rfl) rfl) fun z59 q60 h61 => ?_
      have h62 : 0 ≤ z59 ∧ z59 ≤ 8 := h61.2.2.2 (vc_X12_write_20 h43.2.1 h7.2.1 h7.2.2.1 h13 h19.2.1 h19.2.2.1 h25 h33.2.1 h33.2.2.1 h37 h14 h26 h38 h15 h24 h39 h36 h45 h12)
      refine mr_istore (pc := 120) (lv' := [(6, iv z59), (5, iv z55), (4, iv (40 * (530 + z44))), (0, .ref 106), (1, iv p1), (2, iv p2), (3, iv p3)]) dX12_write_120 (by decide) rfl ?_
      refine mr_iload (pc := 122) (z := z55) dX12_write_122 rfl ?_
      have J67 : ∀ (z65 : Int), ((0 ≤ z65 ∧ z65 ≤ 82)) → sV (gG l D c H0 sa) mX12_write (sRm 3 0 0) (sZ (gG l D c H0 sa) 0 0 (qI w [106104, 174999] μ (fun z μ1 => ((-2147483648) ≤ z ∧ z ≤ 2147483647) ∧ True))) 137 [(0, .ref 106), (3, iv p3), (4, iv (40 * (530 + z44))), (5, iv z55), (6, iv z59)] [iv z65] (mk w μ46) 0 0 := by
        intro z65 h66
        refine mr_istore (pc := 137) (lv' := [(7, iv z65), (0, .ref 106), (3, iv p3), (4, iv (40 * (530 + z44))), (5, iv z55), (6, iv z59)]) dX12_write_137 (by decide) rfl ?_
        refine mr_bipush (pc := 139) (z := 7) dX12_write_139 (by decide) ?_
        refine mr_iload (pc := 141) (z := z65) dX12_write_141 rfl ?_
        refine mr_iadd (pc := 143) (x := 7) (y := z65) dX12_write_143 ?_
        refine sv_aload_n (pc := 144) dX12_write_144 rfl rfl ?_
        refine gf_X12_32 (pc := 145) dX12_write_145 wF_X12_148 (A_106 hw) T48 ?_
        refine mr_iload (pc := 148) (z := (40 * (530 + z44))) dX12_write_148 rfl ?_
        refine mr_iconst (pc := 150) (z := 3) dX12_write_150 ?_
        refine mr_iadd (pc := 151) (x := (40 * (530 + z44))) (y := 3) dX12_write_151 ?_
        refine la_126 (pc := 152) dX12_write_152 (A_126 hw) T48 (rIx (n := 84000) (rAdd (e := 21203) (f := 37163) (rMulL (n := 40) (e := 21200) (f := 37160) (rAdd (e := 530) (f := 929) (rR (x := 530)) h45 rfl) rfl) (rR (x := 3)) rfl) rfl) fun z68 q69 h70 => ?_
        have J75 : ∀ (z73 : Int), ((0 ≤ z73 ∧ z73 ≤ 7)) → sV (gG l D c H0 sa) mX12_write (sRm 3 0 0) (sZ (gG l D c H0 sa) 0 0 (qI w [106104, 174999] μ (fun z μ1 => ((-2147483648) ≤ z ∧ z ≤ 2147483647) ∧ True))) 162 [(0, .ref 106), (3, iv p3), (4, iv (40 * (530 + z44))), (5, iv z55), (6, iv z59), (7, iv z65)] [iv z73, iv (7 + z65)] (mk w μ46) 0 0 := by
          intro z73 h74
          refine mr_iadd (pc := 162) (x := (7 + z65)) (y := z73) dX12_write_162 ?_
          refine mr_iload (pc := 163) (z := z59) dX12_write_163 rfl ?_
          have J80 : ∀ (z78 : Int), ((0 ≤ z78 ∧ z78 ≤ 35)) → sV (gG l D c H0 sa) mX12_write (sRm 3 0 0) (sZ (gG l D c H0 sa) 0 0 (qI w [106104, 174999] μ (fun z μ1 => ((-2147483648) ≤ z ∧ z ≤ 2147483647) ∧ True))) 178 [(0, .ref 106), (3, iv p3), (4, iv (40 * (530 + z44))), (5, iv z55), (6, iv z59), (7, iv z65)] [iv z78, iv ((7 + z65) + z73)] (mk w μ46) 0 0 := by
            intro z78 h79
            refine mr_iadd (pc := 178) (x := ((7 + z65) + z73)) (y := z78) dX12_write_178 ?_
            refine mr_istore (pc := 179) (lv' := [(8, iv (((7 + z65) + z73) + z78)), (0, .ref 106), (3, iv p3), (4, iv (40 * (530 + z44))), (5, iv z55), (6, iv z59), (7, iv z65)]) dX12_write_179 (by decide) rfl ?_
            refine sv_aload_n (pc := 181) dX12_write_181 rfl rfl ?_
            refine mr_iconst (pc := 182) (z := 0) dX12_write_182 ?_
            refine mr_cVV (pc := 183) (c_X12_octet1 hw T48 (rW (c := (-2147483648)) (d := 2147483647) (rR (x := 0)) rfl) u47.1 vc_X12_write_21) (gOk _ _ _ _ _) dX12_write_183 (tX12_octet1 _ _ _ _ _) ⟨wV_X12_octet1, wL_X12_octet1⟩ wM_X12_674 (gCX12 _ _ _ _ _) rfl (A_106 hw) rfl ⟨le_t rfl, le_t rfl⟩ ⟨le_t rfl, le_t rfl⟩ rfl (le_t rfl) fun μ81 T82 F83 h84 => ?_
            obtain ⟨z85, q86, h87⟩ := h84
            have h88 : (0 ≤ z85 ∧ z85 ≤ 300) := by rw [← q86]; exact T82 106 106 (A_106 hw) 104
            have q89 : μ81 106 104 = (0 + 1) := q86.trans h87.1
            refine sv_aload_n (pc := 186) dX12_write_186 rfl rfl ?_
            refine mr_iconst (pc := 187) (z := 0) dX12_write_187 ?_
            refine mr_cVV (pc := 188) (c_X12_octet1 hw T82 (rW (c := (-2147483648)) (d := 2147483647) (rR (x := 0)) rfl) q89 vc_X12_write_22) (gOk _ _ _ _ _) dX12_write_188 (tX12_octet1 _ _ _ _ _) ⟨wV_X12_octet1, wL_X12_octet1⟩ wM_X12_674 (gCX12 _ _ _ _ _) rfl (A_106 hw) rfl ⟨le_t rfl, le_t rfl⟩ ⟨le_t rfl, le_t rfl⟩ rfl (le_t rfl) fun μ90 T91 F92 h93 => ?_
            obtain ⟨z94, q95, h96⟩ := h93
            have h97 : (0 ≤ z94 ∧ z94 ≤ 300) := by rw [← q95]; exact T91 106 106 (A_106 hw) 104
            have q98 : μ90 106 104 = ((0 + 1) + 1) := q95.trans h96.1
            refine sv_aload_n (pc := 191) dX12_write_191 rfl rfl ?_
            refine mr_iload (pc := 192) (z := (((7 + z65) + z73) + z78)) dX12_write_192 rfl ?_
            refine mr_bipush (pc := 194) (z := 8) dX12_write_194 (by decide) ?_
            refine mr_ishr (pc := 196) (x := (((7 + z65) + z73) + z78)) (y := 8) dX12_write_196 ?_
            refine mr_gen (P := fun z => (-2147483648) ≤ z ∧ z ≤ 2147483647) (r32i _) fun z99 q100 h101 => ?_
            refine mr_cVV (pc := 197) (c_X12_octet1 hw T91 h101 q98 vc_X12_write_23) (gOk _ _ _ _ _) dX12_write_197 (tX12_octet1 _ _ _ _ _) ⟨wV_X12_octet1, wL_X12_octet1⟩ wM_X12_674 (gCX12 _ _ _ _ _) rfl (A_106 hw) rfl ⟨le_t rfl, le_t rfl⟩ ⟨le_t rfl, le_t rfl⟩ rfl (le_t rfl) fun μ102 T103 F104 h105 => ?_
            obtain ⟨z106, q107, h108⟩ := h105
            have h109 : (0 ≤ z106 ∧ z106 ≤ 300) := by rw [← q107]; exact T103 106 106 (A_106 hw) 104
            have q110 : μ102 106 104 = (((0 + 1) + 1) + 1) := q107.trans h108.1
            refine sv_aload_n (pc := 200) dX12_write_200 rfl rfl ?_
            refine mr_iload (pc := 201) (z := (((7 + z65) + z73) + z78)) dX12_write_201 rfl ?_
            refine mr_cVV (pc := 203) (c_X12_octet1 hw T103 (rW (c := (-2147483648)) (d := 2147483647) (rAdd (e := 7) (f := 131) (rAdd (e := 7) (f := 96) (rAdd (e := 7) (f := 89) (rR (x := 7)) h66 rfl) h74 rfl) h79 rfl) rfl) q110 vc_X12_write_24) (gOk _ _ _ _ _) dX12_write_203 (tX12_octet1 _ _ _ _ _) ⟨wV_X12_octet1, wL_X12_octet1⟩ wM_X12_674 (gCX12 _ _ _ _ _) rfl (A_106 hw) rfl ⟨le_t rfl, le_t rfl⟩ ⟨le_t rfl, le_t rfl⟩ rfl (le_t rfl) fun μ111 T112 F113 h114 => ?_
            obtain ⟨z115, q116, h117⟩ := h114
            have h118 : (0 ≤ z115 ∧ z115 ≤ 300) := by rw [← q116]; exact T112 106 106 (A_106 hw) 104
            have q119 : μ111 106 104 = ((((0 + 1) + 1) + 1) + 1) := q116.trans h117.1
            refine sv_aload_n (pc := 206) dX12_write_206 rfl rfl ?_
            refine mr_bipush (pc := 207) (z := 64) dX12_write_207 (by decide) ?_
            refine mr_cVV (pc := 209) (c_X12_octet1 hw T112 (rW (c := (-2147483648)) (d := 2147483647) (rR (x := 64)) rfl) q119 vc_X12_write_25) (gOk _ _ _ _ _) dX12_write_209 (tX12_octet1 _ _ _ _ _) ⟨wV_X12_octet1, wL_X12_octet1⟩ wM_X12_674 (gCX12 _ _ _ _ _) rfl (A_106 hw) rfl ⟨le_t rfl, le_t rfl⟩ ⟨le_t rfl, le_t rfl⟩ rfl (le_t rfl) fun μ120 T121 F122 h123 => ?_
            obtain ⟨z124, q125, h126⟩ := h123
            have h127 : (0 ≤ z124 ∧ z124 ≤ 300) := by rw [← q125]; exact T121 106 106 (A_106 hw) 104
            have q128 : μ120 106 104 = (((((0 + 1) + 1) + 1) + 1) + 1) := q125.trans h126.1
            refine sv_aload_n (pc := 212) dX12_write_212 rfl rfl ?_
            refine mr_iconst (pc := 213) (z := 1) dX12_write_213 ?_
            refine mr_cVV (pc := 214) (c_X12_octet1 hw T121 (rW (c := (-2147483648)) (d := 2147483647) (rR (x := 1)) rfl) q128 vc_X12_write_26) (gOk _ _ _ _ _) dX12_write_214 (tX12_octet1 _ _ _ _ _) ⟨wV_X12_octet1, wL_X12_octet1⟩ wM_X12_674 (gCX12 _ _ _ _ _) rfl (A_106 hw) rfl ⟨le_t rfl, le_t rfl⟩ ⟨le_t rfl, le_t rfl⟩ rfl (le_t rfl) fun μ129 T130 F131 h132 => ?_
            obtain ⟨z133, q134, h135⟩ := h132
            have h136 : (0 ≤ z133 ∧ z133 ≤ 300) := by rw [← q134]; exact T130 106 106 (A_106 hw) 104
            have q137 : μ129 106 104 = ((((((0 + 1) + 1) + 1) + 1) + 1) + 1) := q134.trans h135.1
            refine sv_aload_n (pc := 217) dX12_write_217 rfl rfl ?_
            refine mr_iconst (pc := 218) (z := 1) dX12_write_218 ?_
            refine mr_cVV (pc := 219) (c_X12_octet1 hw T130 (rW (c := (-2147483648)) (d := 2147483647) (rR (x := 1)) rfl) q137 vc_X12_write_27) (gOk _ _ _ _ _) dX12_write_219 (tX12_octet1 _ _ _ _ _) ⟨wV_X12_octet1, wL_X12_octet1⟩ wM_X12_674 (gCX12 _ _ _ _ _) rfl (A_106 hw) rfl ⟨le_t rfl, le_t rfl⟩ ⟨le_t rfl, le_t rfl⟩ rfl (le_t rfl) fun μ138 T139 F140 h141 => ?_
            obtain ⟨z142, q143, h144⟩ := h141
            have h145 : (0 ≤ z142 ∧ z142 ≤ 300) := by rw [← q143]; exact T139 106 106 (A_106 hw) 104
            have q146 : μ138 106 104 = (((((((0 + 1) + 1) + 1) + 1) + 1) + 1) + 1) := q143.trans h144.1
            refine sv_aload_n (pc := 222) dX12_write_222 rfl rfl ?_
            refine sv_aload_n (pc := 223) dX12_write_223 rfl rfl ?_
            refine gf_X12_32 (pc := 224) dX12_write_224 wF_X12_148 (A_106 hw) T139 ?_
            refine mr_iload (pc := 227) (z := (40 * (530 + z44))) dX12_write_227 rfl ?_
            refine mr_iconst (pc := 229) (z := 2) dX12_write_229 ?_
            refine mr_iadd (pc := 230) (x := (40 * (530 + z44))) (y := 2) dX12_write_230 ?_
            refine la_126 (pc := 231) dX12_write_231 (A_126 hw) T139 (rIx (n := 84000) (rAdd (e := 21202) (f := 37162) (rMulL (n := 40) (e := 21200) (f := 37160) (rAdd (e := 530) (f := 929) (rR (x := 530)) h45 rfl) rfl) (rR (x := 2)) rfl) rfl) fun z147 q148 h149 => ?_
            refine mr_cVV (pc := 232) (c_X12_octet1 hw T139 h149.1 q146 vc_X12_write_28) (gOk _ _ _ _ _) dX12_write_232 (tX12_octet1 _ _ _ _ _) ⟨wV_X12_octet1, wL_X12_octet1⟩ wM_X12_674 (gCX12 _ _ _ _ _) rfl (A_106 hw) rfl ⟨le_t rfl, le_t rfl⟩ ⟨le_t rfl, le_t rfl⟩ rfl (le_t rfl) fun μ150 T151 F152 h153 => ?_
            obtain ⟨z154, q155, h156⟩ := h153
            have h157 : (0 ≤ z154 ∧ z154 ≤ 300) := by rw [← q155]; exact T151 106 106 (A_106 hw) 104
            have q158 : μ150 106 104 = ((((((((0 + 1) + 1) + 1) + 1) + 1) + 1) + 1) + 1) := q155.trans h156.1
            refine sv_aload_n (pc := 235) dX12_write_235 rfl rfl ?_
            refine mr_bipush (pc := 236) (z := 64) dX12_write_236 (by decide) ?_
            refine mr_cVV (pc := 238) (c_X12_octet1 hw T151 (rW (c := (-2147483648)) (d := 2147483647) (rR (x := 64)) rfl) q158 vc_X12_write_29) (gOk _ _ _ _ _) dX12_write_238 (tX12_octet1 _ _ _ _ _) ⟨wV_X12_octet1, wL_X12_octet1⟩ wM_X12_674 (gCX12 _ _ _ _ _) rfl (A_106 hw) rfl ⟨le_t rfl, le_t rfl⟩ ⟨le_t rfl, le_t rfl⟩ rfl (le_t rfl) fun μ159 T160 F161 h162 => ?_
            obtain ⟨z163, q164, h165⟩ := h162
            have h166 : (0 ≤ z163 ∧ z163 ≤ 300) := by rw [← q164]; exact T160 106 106 (A_106 hw) 104
            have q167 : μ159 106 104 = (((((((((0 + 1) + 1) + 1) + 1) + 1) + 1) + 1) + 1) + 1) := q164.trans h165.1
            refine sv_aload_n (pc := 241) dX12_write_241 rfl rfl ?_
            refine mr_iconst (pc := 242) (z := 2) dX12_write_242 ?_
            refine mr_cVV (pc := 243) (c_X12_octet1 hw T160 (rW (c := (-2147483648)) (d := 2147483647) (rR (x := 2)) rfl) q167 vc_X12_write_30) (gOk _ _ _ _ _) dX12_write_243 (tX12_octet1 _ _ _ _ _) ⟨wV_X12_octet1, wL_X12_octet1⟩ wM_X12_674 (gCX12 _ _ _ _ _) rfl (A_106 hw) rfl ⟨le_t rfl, le_t rfl⟩ ⟨le_t rfl, le_t rfl⟩ rfl (le_t rfl) fun μ168 T169 F170 h171 => ?_
            obtain ⟨z172, q173, h174⟩ := h171
            have h175 : (0 ≤ z172 ∧ z172 ≤ 300) := by rw [← q173]; exact T169 106 106 (A_106 hw) 104
            have q176 : μ168 106 104 = ((((((((((0 + 1) + 1) + 1) + 1) + 1) + 1) + 1) + 1) + 1) + 1) := q173.trans h174.1
            refine sv_aload_n (pc := 246) dX12_write_246 rfl rfl ?_
            refine mr_iload (pc := 247) (z := z65) dX12_write_247 rfl ?_
            refine mr_cVV (pc := 249) (c_X12_octet1 hw T169 (rW (c := (-2147483648)) (d := 2147483647) h66 rfl) q176 vc_X12_write_31) (gOk _ _ _ _ _) dX12_write_249 (tX12_octet1 _ _ _ _ _) ⟨wV_X12_octet1, wL_X12_octet1⟩ wM_X12_674 (gCX12 _ _ _ _ _) rfl (A_106 hw) rfl ⟨le_t rfl, le_t rfl⟩ ⟨le_t rfl, le_t rfl⟩ rfl (le_t rfl) fun μ177 T178 F179 h180 => ?_
            obtain ⟨z181, q182, h183⟩ := h180
            have h184 : (0 ≤ z181 ∧ z181 ≤ 300) := by rw [← q182]; exact T178 106 106 (A_106 hw) 104
            have q185 : μ177 106 104 = (((((((((((0 + 1) + 1) + 1) + 1) + 1) + 1) + 1) + 1) + 1) + 1) + 1) := q182.trans h183.1
            refine mr_iload (pc := 252) (z := z55) dX12_write_252 rfl ?_
            have J247 : ∀ (μ242 : mM), (mT w μ242) → (mF [106104, 174999] w μ177 μ242) → (μ242 106 104 ≤ 100) → sV (gG l D c H0 sa) mX12_write (sRm 3 0 0) (sZ (gG l D c H0 sa) 0 0 (qI w [106104, 174999] μ (fun z μ1 => ((-2147483648) ≤ z ∧ z ≤ 2147483647) ∧ True))) 301 [(0, .ref 106), (3, iv p3), (4, iv (40 * (530 + z44))), (6, iv z59)] [] (mk w μ242) 0 0 := by
              intro μ242 T243 F244 h246
              obtain ⟨z248, q249⟩ : ∃ z, μ242 106 104 = z := ⟨_, rfl⟩
              have h250 : (0 ≤ z248 ∧ z248 ≤ 300) := by rw [← q249]; exact T243 106 106 (A_106 hw) 104
              have h251 : z248 ≤ 100 := q249 ▸ h246
              have h252 : 0 ≤ z248 ∧ z248 ≤ 100 := (vc_X12_write_32 h251 h250)
              refine sv_aload_n (pc := 301) dX12_write_301 rfl rfl ?_
              refine gf_X12_32 (pc := 302) dX12_write_302 wF_X12_148 (A_106 hw) T243 ?_
              refine mr_iload (pc := 305) (z := (40 * (530 + z44))) dX12_write_305 rfl ?_
              refine mr_iconst (pc := 307) (z := 3) dX12_write_307 ?_
              refine mr_iadd (pc := 308) (x := (40 * (530 + z44))) (y := 3) dX12_write_308 ?_
              refine lk_126 (pc := 309) dX12_write_309 (A_126 hw) (rIx (n := 84000) (rAdd (e := 21203) (f := 37163) (rMulL (n := 40) (e := 21200) (f := 37160) (rAdd (e := 530) (f := 929) (rR (x := 530)) h45 rfl) rfl) (rR (x := 3)) rfl) rfl) (F244.f (A_126 hw) rfl (F179.f (A_126 hw) rfl (F170.f (A_126 hw) rfl (F161.f (A_126 hw) rfl (F152.f (A_126 hw) rfl (F140.f (A_126 hw) rfl (F131.f (A_126 hw) rfl (F122.f (A_126 hw) rfl (F113.f (A_126 hw) rfl (F104.f (A_126 hw) rfl (F92.f (A_126 hw) rfl (F83.f (A_126 hw) rfl q69)))))))))))) ?_
              have J296 : ∀ (μ291 : mM), (mT w μ291) → (mF [106104, 174999] w μ242 μ291) → (μ291 106 104 ≤ 107) → sV (gG l D c H0 sa) mX12_write (sRm 3 0 0) (sZ (gG l D c H0 sa) 0 0 (qI w [106104, 174999] μ (fun z μ1 => ((-2147483648) ≤ z ∧ z ≤ 2147483647) ∧ True))) 343 [(0, .ref 106), (3, iv p3), (4, iv (40 * (530 + z44))), (6, iv z59)] [] (mk w μ291) 0 0 := by
                intro μ291 T292 F293 h295
                obtain ⟨z297, q298⟩ : ∃ z, μ291 106 104 = z := ⟨_, rfl⟩
                have h299 : (0 ≤ z297 ∧ z297 ≤ 300) := by rw [← q298]; exact T292 106 106 (A_106 hw) 104
                have h300 : z297 ≤ 107 := q298 ▸ h295
                have h301 : 0 ≤ z297 ∧ z297 ≤ 107 := (vc_X12_write_33 h300 h299)
                refine mr_iload (pc := 343) (z := z59) dX12_write_343 rfl ?_
                refine mr_if_le (pc := 345) (tgt := 402) dX12_write_345 (by decide) (r32 h62 rfl) (fun h367 => ?_) (fun h367 => ?_)
                · have h368 : 0 ≤ z59 ∧ z59 ≤ 0 := (vc_X12_write_34 h367 h62)
                  refine sv_aload_n (pc := 402) dX12_write_402 rfl rfl ?_
                  refine mr_iload_n (pc := 403) (z := p3) dX12_write_403 rfl rfl ?_
                  refine mr_cVV (pc := 404) (c_X12_prefixOut hw T292 h38 q298 (vc_X12_write_35 h300 h301)) (gOk _ _ _ _ _) dX12_write_404 (tX12_prefixOut _ _ _ _ _) ⟨wV_X12_prefixOut, wL_X12_prefixOut⟩ wM_X12_677 (gCX12 _ _ _ _ _) rfl (A_106 hw) rfl ⟨le_t rfl, le_t rfl⟩ ⟨le_t rfl, le_t rfl⟩ rfl (le_t rfl) fun μ369 T370 F371 h372 => ?_
                  obtain ⟨z373, q374, h375⟩ := h372
                  have h376 : (0 ≤ z373 ∧ z373 ≤ 300) := by rw [← q374]; exact T370 106 106 (A_106 hw) 104
                  refine sv_aload_n (pc := 407) dX12_write_407 rfl rfl ?_
                  refine gk_X12_104 (pc := 408) dX12_write_408 wF_X12_671 (A_106 hw) q374 ?_
                  exact mr_iret dX12_write_411 rfl (le_t rfl) (le_t rfl) T370 (mF.call (mF.call (mF.call (mF.call (mF.call (mF.call (mF.call (mF.call (mF.call (mF.call (mF.call (mF.call (mF.call (mF.call (mF.up mF.refl (A_106 hw) u47 rfl) F83 rfl) F92 rfl) F104 rfl) F113 rfl) F122 rfl) F131 rfl) F140 rfl) F152 rfl) F161 rfl) F170 rfl) F179 rfl) F244 rfl) F293 rfl) F371 rfl) ⟨(rW (c := (-2147483648)) (d := 2147483647) h376 rfl), trivial⟩
                have h377 : 1 ≤ z59 ∧ z59 ≤ 8 := (vc_X12_write_36 h367 h62)
                refine sv_aload_n (pc := 348) dX12_write_348 rfl rfl ?_
                refine mr_sipush (pc := 349) (z := 192) dX12_write_349 (by decide) ?_
                refine mr_cVV (pc := 352) (c_X12_octet1 hw T292 (rW (c := (-2147483648)) (d := 2147483647) (rR (x := 192)) rfl) q298 (vc_X12_write_37 h300 h301)) (gOk _ _ _ _ _) dX12_write_352 (tX12_octet1 _ _ _ _ _) ⟨wV_X12_octet1, wL_X12_octet1⟩ wM_X12_674 (gCX12 _ _ _ _ _) rfl (A_106 hw) rfl ⟨le_t rfl, le_t rfl⟩ ⟨le_t rfl, le_t rfl⟩ rfl (le_t rfl) fun μ378 T379 F380 h381 => ?_
                obtain ⟨z382, q383, h384⟩ := h381
                have h385 : (0 ≤ z382 ∧ z382 ≤ 300) := by rw [← q383]; exact T379 106 106 (A_106 hw) 104
                have q386 : μ378 106 104 = (z297 + 1) := q383.trans h384.1
                refine sv_aload_n (pc := 355) dX12_write_355 rfl rfl ?_
                refine mr_bipush (pc := 356) (z := 8) dX12_write_356 (by decide) ?_
                refine mr_cVV (pc := 358) (c_X12_octet1 hw T379 (rW (c := (-2147483648)) (d := 2147483647) (rR (x := 8)) rfl) q386 (vc_X12_write_38 h300 h384.1 h301 h385)) (gOk _ _ _ _ _) dX12_write_358 (tX12_octet1 _ _ _ _ _) ⟨wV_X12_octet1, wL_X12_octet1⟩ wM_X12_674 (gCX12 _ _ _ _ _) rfl (A_106 hw) rfl ⟨le_t rfl, le_t rfl⟩ ⟨le_t rfl, le_t rfl⟩ rfl (le_t rfl) fun μ387 T388 F389 h390 => ?_
                obtain ⟨z391, q392, h393⟩ := h390
                have h394 : (0 ≤ z391 ∧ z391 ≤ 300) := by rw [← q392]; exact T388 106 106 (A_106 hw) 104
                have q395 : μ387 106 104 = ((z297 + 1) + 1) := q392.trans h393.1
                refine sv_aload_n (pc := 361) dX12_write_361 rfl rfl ?_
                refine mr_iconst (pc := 362) (z := 4) dX12_write_362 ?_
                refine mr_iload (pc := 363) (z := z59) dX12_write_363 rfl ?_
                refine mr_imul (pc := 365) (x := 4) (y := z59) dX12_write_365 ?_
                refine mr_cVV (pc := 366) (c_X12_octet1 hw T388 (rW (c := (-2147483648)) (d := 2147483647) (rMulL (n := 4) (e := 4) (f := 32) h377 rfl) rfl) q395 (vc_X12_write_39 h300 h384.1 h393.1 h301 h385 h394)) (gOk _ _ _ _ _) dX12_write_366 (tX12_octet1 _ _ _ _ _) ⟨wV_X12_octet1, wL_X12_octet1⟩ wM_X12_674 (gCX12 _ _ _ _ _) rfl (A_106 hw) rfl ⟨le_t rfl, le_t rfl⟩ ⟨le_t rfl, le_t rfl⟩ rfl (le_t rfl) fun μ396 T397 F398 h399 => ?_
                obtain ⟨z400, q401, h402⟩ := h399
                have h403 : (0 ≤ z400 ∧ z400 ≤ 300) := by rw [← q401]; exact T397 106 106 (A_106 hw) 104
                have q404 : μ396 106 104 = (((z297 + 1) + 1) + 1) := q401.trans h402.1
                refine mr_iconst (pc := 369) (z := 0) dX12_write_369 ?_
                refine mr_istore (pc := 370) (lv' := [(9, iv 0), (0, .ref 106), (3, iv p3), (4, iv (40 * (530 + z44))), (6, iv z59)]) dX12_write_370 (by decide) rfl ?_
                have L657 : ∀ (nL657 : Nat) (z655 : Int) (μ656 : mM) (f_w : Int), mT w μ656 → mF [106104, 174999] w μ396 μ656 → μ656 106 (104) = f_w → (0 ≤ z655 ∧ z655 ≤ 8) → (f_w ≤ 120 + 4 * z655) → (9 - z655) < (nL657 : Int) → sV (gG l D c H0 sa) mX12_write (sRm 3 0 0) (sZ (gG l D c H0 sa) 0 0 (qI w [106104, 174999] μ (fun z μ1 => ((-2147483648) ≤ z ∧ z ≤ 2147483647) ∧ True))) 372 [(0, .ref 106), (3, iv p3), (4, iv (40 * (530 + z44))), (6, iv z59), (9, iv z655)] [] (mk w μ656) 0 0 := by
                  intro nL657
                  induction nL657 with
                  | zero => intro z655 μ656 f_w T659 F660 q664 h658 h662 h663; exact ((vc_X12_write_40 h663 h662 h658)).elim
                  | succ nL657 ih665 =>
                    intro z655 μ656 f_w T659 F660 q664 h658 h662 h663
                    have h666 : (0 ≤ f_w ∧ f_w ≤ 300) := by rw [← q664]; exact T659 106 106 (A_106 hw) (104)
                    refine mr_iload (pc := 372) (z := z655) dX12_write_372 rfl ?_
                    refine mr_iload (pc := 374) (z := z59) dX12_write_374 rfl ?_
                    refine mr_icmp_ge (pc := 376) (tgt := 402) dX12_write_376 (by decide) (r32 h658 rfl) (r32 h377 rfl) (fun h681 => ?_) (fun h681 => ?_)
                    · have h682 : 1 ≤ z655 ∧ z655 ≤ 8 := (vc_X12_write_41 h681 h367 h662 h666 h377 h658)
                      refine sv_aload_n (pc := 402) dX12_write_402 rfl rfl ?_
                      refine mr_iload_n (pc := 403) (z := p3) dX12_write_403 rfl rfl ?_
                      refine mr_cVV (pc := 404) (c_X12_prefixOut hw T659 h38 q664 (vc_X12_write_42 h662 h681 h666 h377 h682)) (gOk _ _ _ _ _) dX12_write_404 (tX12_prefixOut _ _ _ _ _) ⟨wV_X12_prefixOut, wL_X12_prefixOut⟩ wM_X12_677 (gCX12 _ _ _ _ _) rfl (A_106 hw) rfl ⟨le_t rfl, le_t rfl⟩ ⟨le_t rfl, le_t rfl⟩ rfl (le_t rfl) fun μ683 T684 F685 h686 => ?_
                      obtain ⟨z687, q688, h689⟩ := h686
                      have h690 : (0 ≤ z687 ∧ z687 ≤ 300) := by rw [← q688]; exact T684 106 106 (A_106 hw) 104
                      refine sv_aload_n (pc := 407) dX12_write_407 rfl rfl ?_
                      refine gk_X12_104 (pc := 408) dX12_write_408 wF_X12_671 (A_106 hw) q688 ?_
                      exact mr_iret dX12_write_411 rfl (le_t rfl) (le_t rfl) T684 (mF.call (mF.call (mF.call (mF.call (mF.call (mF.call (mF.call (mF.call (mF.call (mF.call (mF.call (mF.call (mF.call (mF.call (mF.call (mF.call (mF.call (mF.call (mF.up mF.refl (A_106 hw) u47 rfl) F83 rfl) F92 rfl) F104 rfl) F113 rfl) F122 rfl) F131 rfl) F140 rfl) F152 rfl) F161 rfl) F170 rfl) F179 rfl) F244 rfl) F293 rfl) F380 rfl) F389 rfl) F398 rfl) F660 rfl) F685 rfl) ⟨(rW (c := (-2147483648)) (d := 2147483647) h690 rfl), trivial⟩
                    have h691 : 0 ≤ z655 ∧ z655 ≤ 7 := (vc_X12_write_43 h681 h367 h662 h666 h377 h658)
                    refine sv_aload_n (pc := 379) dX12_write_379 rfl rfl ?_
                    refine sv_aload_n (pc := 380) dX12_write_380 rfl rfl ?_
                    refine gf_X12_32 (pc := 381) dX12_write_381 wF_X12_148 (A_106 hw) T659 ?_
                    refine mr_iload (pc := 384) (z := (40 * (530 + z44))) dX12_write_384 rfl ?_
                    refine mr_bipush (pc := 386) (z := 26) dX12_write_386 (by decide) ?_
                    refine mr_iadd (pc := 388) (x := (40 * (530 + z44))) (y := 26) dX12_write_388 ?_
                    refine mr_iload (pc := 389) (z := z655) dX12_write_389 rfl ?_
                    refine mr_iadd (pc := 391) (x := ((40 * (530 + z44)) + 26)) (y := z655) dX12_write_391 ?_
                    refine la_126 (pc := 392) dX12_write_392 (A_126 hw) T659 (rIx (n := 84000) (rAdd (e := 21226) (f := 37193) (rAdd (e := 21226) (f := 37186) (rMulL (n := 40) (e := 21200) (f := 37160) (rAdd (e := 530) (f := 929) (rR (x := 530)) h45 rfl) rfl) (rR (x := 26)) rfl) h691 rfl) rfl) fun z692 q693 h694 => ?_
                    refine mr_cVV (pc := 393) (c_X12_octet4 hw T659 h694.1 q664 (vc_X12_write_44 h662 h681 h694.2.1 h694.2.2.1 h694.2.2.2 h666 h45 h377 h691 h694.1)) (gOk _ _ _ _ _) dX12_write_393 (tX12_octet4 _ _ _ _ _) ⟨wV_X12_octet4, wL_X12_octet4⟩ wM_X12_680 (gCX12 _ _ _ _ _) rfl (A_106 hw) rfl ⟨le_t rfl, le_t rfl⟩ ⟨le_t rfl, le_t rfl⟩ rfl (le_t rfl) fun μ695 T696 F697 h698 => ?_
                    obtain ⟨z699, q700, h701⟩ := h698
                    have h702 : (0 ≤ z699 ∧ z699 ≤ 300) := by rw [← q700]; exact T696 106 106 (A_106 hw) 104
                    have q703 : μ695 106 104 = (f_w + 4) := q700.trans h701.1
                    refine mr_iinc (pc := 396) (lv' := [(9, iv (z655 + 1)), (0, .ref 106), (3, iv p3), (4, iv (40 * (530 + z44))), (6, iv z59)]) dX12_write_396 rfl (by decide) rfl ?_
                    refine sv_goto (pc := 399) (tgt := 372) dX12_write_399 (by decide) ?_
                    refine mr_lvS (lv' := [(0, .ref 106), (3, iv p3), (4, iv (40 * (530 + z44))), (6, iv z59), (9, iv (z655 + 1))]) (List.forall_mem_cons.mpr ⟨rfl, List.forall_mem_cons.mpr ⟨rfl, List.forall_mem_cons.mpr ⟨rfl, List.forall_mem_cons.mpr ⟨rfl, List.forall_mem_cons.mpr ⟨rfl, fun _ h => absurd h List.not_mem_nil⟩⟩⟩⟩⟩) ?_
                    exact ih665 (z655 + 1) μ695 (f_w + 4) T696 (mF.call (mF.call mF.refl F660 rfl) F697 rfl) q703 (rW (c := 0) (d := 8) (rAdd (e := 1) (f := 8) h691 (rR (x := 1)) rfl) rfl) (vc_X12_write_45 h662 h681 h694.2.1 h694.2.2.1 h694.2.2.2 h701.1 h43.2.1 h367 h666 h14 h26 h38 h45 h377 h691 h694.1 h702) (vc_X12_write_46 (nS h663) h662 h681 h694.2.1 h694.2.2.1 h694.2.2.2 h43.2.1 h367 h701.1 h666 h14 h26 h38 h45 h377 h691 h694.1 h702)
                refine mr_lvS (lv' := [(0, .ref 106), (3, iv p3), (4, iv (40 * (530 + z44))), (6, iv z59), (9, iv 0)]) (List.forall_mem_cons.mpr ⟨rfl, List.forall_mem_cons.mpr ⟨rfl, List.forall_mem_cons.mpr ⟨rfl, List.forall_mem_cons.mpr ⟨rfl, List.forall_mem_cons.mpr ⟨rfl, fun _ h => absurd h List.not_mem_nil⟩⟩⟩⟩⟩) ?_
                exact L657 10 0 μ396 (((z297 + 1) + 1) + 1) T397 mF.refl q404 (rW (c := 0) (d := 8) (rR (x := 0)) rfl) (vc_X12_write_47 h300 h384.1 h393.1 h402.1 h301 h385 h394 h403) vc_X12_marked_10
              refine mr_if_le (pc := 310) (tgt := 343) dX12_write_310 (by decide) h70.1 (fun h704 => ?_) (fun h704 => ?_)
              · have h705 : (-2147483648) ≤ z68 ∧ z68 ≤ 0 := (vc_X12_write_49 h704 h70.1)
                exact J296 μ242 T243 mF.refl (by rw [q249]; exact (vc_X12_write_50 h251 h252))
              have h706 : 1 ≤ z68 ∧ z68 ≤ 2147483647 := (vc_X12_write_51 h704 h70.1)
              refine sv_aload_n (pc := 313) dX12_write_313 rfl rfl ?_
              refine mr_sipush (pc := 314) (z := 128) dX12_write_314 (by decide) ?_
              refine mr_cVV (pc := 317) (c_X12_octet1 hw T243 (rW (c := (-2147483648)) (d := 2147483647) (rR (x := 128)) rfl) q249 (vc_X12_write_52 h251 h252)) (gOk _ _ _ _ _) dX12_write_317 (tX12_octet1 _ _ _ _ _) ⟨wV_X12_octet1, wL_X12_octet1⟩ wM_X12_674 (gCX12 _ _ _ _ _) rfl (A_106 hw) rfl ⟨le_t rfl, le_t rfl⟩ ⟨le_t rfl, le_t rfl⟩ rfl (le_t rfl) fun μ707 T708 F709 h710 => ?_
              obtain ⟨z711, q712, h713⟩ := h710
              have h714 : (0 ≤ z711 ∧ z711 ≤ 300) := by rw [← q712]; exact T708 106 106 (A_106 hw) 104
              have q715 : μ707 106 104 = (z248 + 1) := q712.trans h713.1
              refine sv_aload_n (pc := 320) dX12_write_320 rfl rfl ?_
              refine mr_iconst (pc := 321) (z := 4) dX12_write_321 ?_
              refine mr_cVV (pc := 322) (c_X12_octet1 hw T708 (rW (c := (-2147483648)) (d := 2147483647) (rR (x := 4)) rfl) q715 (vc_X12_write_53 h251 h713.1 h252 h714)) (gOk _ _ _ _ _) dX12_write_322 (tX12_octet1 _ _ _ _ _) ⟨wV_X12_octet1, wL_X12_octet1⟩ wM_X12_674 (gCX12 _ _ _ _ _) rfl (A_106 hw) rfl ⟨le_t rfl, le_t rfl⟩ ⟨le_t rfl, le_t rfl⟩ rfl (le_t rfl) fun μ716 T717 F718 h719 => ?_
              obtain ⟨z720, q721, h722⟩ := h719
              have h723 : (0 ≤ z720 ∧ z720 ≤ 300) := by rw [← q721]; exact T717 106 106 (A_106 hw) 104
              have q724 : μ716 106 104 = ((z248 + 1) + 1) := q721.trans h722.1
              refine sv_aload_n (pc := 325) dX12_write_325 rfl rfl ?_
              refine mr_iconst (pc := 326) (z := 4) dX12_write_326 ?_
              refine mr_cVV (pc := 327) (c_X12_octet1 hw T717 (rW (c := (-2147483648)) (d := 2147483647) (rR (x := 4)) rfl) q724 (vc_X12_write_54 h251 h713.1 h722.1 h252 h714 h723)) (gOk _ _ _ _ _) dX12_write_327 (tX12_octet1 _ _ _ _ _) ⟨wV_X12_octet1, wL_X12_octet1⟩ wM_X12_674 (gCX12 _ _ _ _ _) rfl (A_106 hw) rfl ⟨le_t rfl, le_t rfl⟩ ⟨le_t rfl, le_t rfl⟩ rfl (le_t rfl) fun μ725 T726 F727 h728 => ?_
              obtain ⟨z729, q730, h731⟩ := h728
              have h732 : (0 ≤ z729 ∧ z729 ≤ 300) := by rw [← q730]; exact T726 106 106 (A_106 hw) 104
              have q733 : μ725 106 104 = (((z248 + 1) + 1) + 1) := q730.trans h731.1
              refine sv_aload_n (pc := 330) dX12_write_330 rfl rfl ?_
              refine sv_aload_n (pc := 331) dX12_write_331 rfl rfl ?_
              refine gf_X12_32 (pc := 332) dX12_write_332 wF_X12_148 (A_106 hw) T726 ?_
              refine mr_iload (pc := 335) (z := (40 * (530 + z44))) dX12_write_335 rfl ?_
              refine mr_iconst (pc := 337) (z := 3) dX12_write_337 ?_
              refine mr_iadd (pc := 338) (x := (40 * (530 + z44))) (y := 3) dX12_write_338 ?_
              refine lk_126 (pc := 339) dX12_write_339 (A_126 hw) (rIx (n := 84000) (rAdd (e := 21203) (f := 37163) (rMulL (n := 40) (e := 21200) (f := 37160) (rAdd (e := 530) (f := 929) (rR (x := 530)) h45 rfl) rfl) (rR (x := 3)) rfl) rfl) (F727.f (A_126 hw) rfl (F718.f (A_126 hw) rfl (F709.f (A_126 hw) rfl (F244.f (A_126 hw) rfl (F179.f (A_126 hw) rfl (F170.f (A_126 hw) rfl (F161.f (A_126 hw) rfl (F152.f (A_126 hw) rfl (F140.f (A_126 hw) rfl (F131.f (A_126 hw) rfl (F122.f (A_126 hw) rfl (F113.f (A_126 hw) rfl (F104.f (A_126 hw) rfl (F92.f (A_126 hw) rfl (F83.f (A_126 hw) rfl q69))))))))))))))) ?_
              refine mr_cVV (pc := 340) (c_X12_octet4 hw T726 (rW (c := (-2147483648)) (d := 2147483647) h706 rfl) q733 (vc_X12_write_55 h251 h713.1 h722.1 h731.1 h252 h714 h723 h732)) (gOk _ _ _ _ _) dX12_write_340 (tX12_octet4 _ _ _ _ _) ⟨wV_X12_octet4, wL_X12_octet4⟩ wM_X12_680 (gCX12 _ _ _ _ _) rfl (A_106 hw) rfl ⟨le_t rfl, le_t rfl⟩ ⟨le_t rfl, le_t rfl⟩ rfl (le_t rfl) fun μ734 T735 F736 h737 => ?_
              obtain ⟨z738, q739, h740⟩ := h737
              have h741 : (0 ≤ z738 ∧ z738 ≤ 300) := by rw [← q739]; exact T735 106 106 (A_106 hw) 104
              have q742 : μ734 106 104 = ((((z248 + 1) + 1) + 1) + 4) := q739.trans h740.1
              exact J296 μ734 T735 (mF.call (mF.call (mF.call (mF.call mF.refl F709 rfl) F718 rfl) F727 rfl) F736 rfl) (by rw [q742]; exact (vc_X12_write_56 h251 h713.1 h722.1 h731.1 h740.1 h252 h714 h723 h732 h741))
            refine mr_if_le (pc := 254) (tgt := 301) dX12_write_254 (by decide) (r32 h58 rfl) (fun h743 => ?_) (fun h743 => ?_)
            · have h744 : 0 ≤ z55 ∧ z55 ≤ 0 := (vc_X12_write_57 h743 h58)
              refine mr_lvS (lv' := [(0, .ref 106), (3, iv p3), (4, iv (40 * (530 + z44))), (6, iv z59)]) (List.forall_mem_cons.mpr ⟨rfl, List.forall_mem_cons.mpr ⟨rfl, List.forall_mem_cons.mpr ⟨rfl, List.forall_mem_cons.mpr ⟨rfl, fun _ h => absurd h List.not_mem_nil⟩⟩⟩⟩) ?_
              exact J247 μ177 T178 mF.refl (by rw [q185]; exact vc_X12_write_58)
            have h745 : 1 ≤ z55 ∧ z55 ≤ 20 := (vc_X12_write_59 h743 h58)
            refine sv_aload_n (pc := 257) dX12_write_257 rfl rfl ?_
            refine mr_iconst (pc := 258) (z := 2) dX12_write_258 ?_
            refine mr_cVV (pc := 259) (c_X12_octet1 hw T178 (rW (c := (-2147483648)) (d := 2147483647) (rR (x := 2)) rfl) q185 vc_X12_write_60) (gOk _ _ _ _ _) dX12_write_259 (tX12_octet1 _ _ _ _ _) ⟨wV_X12_octet1, wL_X12_octet1⟩ wM_X12_674 (gCX12 _ _ _ _ _) rfl (A_106 hw) rfl ⟨le_t rfl, le_t rfl⟩ ⟨le_t rfl, le_t rfl⟩ rfl (le_t rfl) fun μ746 T747 F748 h749 => ?_
            obtain ⟨z750, q751, h752⟩ := h749
            have h753 : (0 ≤ z750 ∧ z750 ≤ 300) := by rw [← q751]; exact T747 106 106 (A_106 hw) 104
            have q754 : μ746 106 104 = ((((((((((((0 + 1) + 1) + 1) + 1) + 1) + 1) + 1) + 1) + 1) + 1) + 1) + 1) := q751.trans h752.1
            refine sv_aload_n (pc := 262) dX12_write_262 rfl rfl ?_
            refine mr_iload (pc := 263) (z := z55) dX12_write_263 rfl ?_
            refine mr_cVV (pc := 265) (c_X12_octet1 hw T747 (rW (c := (-2147483648)) (d := 2147483647) h745 rfl) q754 vc_X12_write_61) (gOk _ _ _ _ _) dX12_write_265 (tX12_octet1 _ _ _ _ _) ⟨wV_X12_octet1, wL_X12_octet1⟩ wM_X12_674 (gCX12 _ _ _ _ _) rfl (A_106 hw) rfl ⟨le_t rfl, le_t rfl⟩ ⟨le_t rfl, le_t rfl⟩ rfl (le_t rfl) fun μ755 T756 F757 h758 => ?_
            obtain ⟨z759, q760, h761⟩ := h758
            have h762 : (0 ≤ z759 ∧ z759 ≤ 300) := by rw [← q760]; exact T756 106 106 (A_106 hw) 104
            have q763 : μ755 106 104 = (((((((((((((0 + 1) + 1) + 1) + 1) + 1) + 1) + 1) + 1) + 1) + 1) + 1) + 1) + 1) := q760.trans h761.1
            refine mr_iconst (pc := 268) (z := 0) dX12_write_268 ?_
            refine mr_istore (pc := 269) (lv' := [(9, iv 0), (8, iv (((7 + z65) + z73) + z78)), (0, .ref 106), (3, iv p3), (4, iv (40 * (530 + z44))), (5, iv z55), (6, iv z59), (7, iv z65)]) dX12_write_269 (by decide) rfl ?_
            have L1016 : ∀ (nL1016 : Nat) (z1014 : Int) (μ1015 : mM) (f_w : Int), mT w μ1015 → mF [106104, 174999] w μ755 μ1015 → μ1015 106 (104) = f_w → (0 ≤ z1014 ∧ z1014 ≤ 20) → (f_w ≤ 20 + 4 * z1014) → (21 - z1014) < (nL1016 : Int) → sV (gG l D c H0 sa) mX12_write (sRm 3 0 0) (sZ (gG l D c H0 sa) 0 0 (qI w [106104, 174999] μ (fun z μ1 => ((-2147483648) ≤ z ∧ z ≤ 2147483647) ∧ True))) 271 [(0, .ref 106), (3, iv p3), (4, iv (40 * (530 + z44))), (5, iv z55), (6, iv z59), (9, iv z1014)] [] (mk w μ1015) 0 0 := by
              intro nL1016
              induction nL1016 with
              | zero => intro z1014 μ1015 f_w T1018 F1019 q1023 h1017 h1021 h1022; exact ((vc_X12_write_62 h1022 h1021 h1017)).elim
              | succ nL1016 ih1024 =>
                intro z1014 μ1015 f_w T1018 F1019 q1023 h1017 h1021 h1022
                have h1025 : (0 ≤ f_w ∧ f_w ≤ 300) := by rw [← q1023]; exact T1018 106 106 (A_106 hw) (104)
                refine mr_iload (pc := 271) (z := z1014) dX12_write_271 rfl ?_
                refine mr_iload (pc := 273) (z := z55) dX12_write_273 rfl ?_
                refine mr_icmp_ge (pc := 275) (tgt := 301) dX12_write_275 (by decide) (r32 h1017 rfl) (r32 h745 rfl) (fun h1026 => ?_) (fun h1026 => ?_)
                · have h1027 : 1 ≤ z1014 ∧ z1014 ≤ 20 := (vc_X12_write_63 h1026 h743 h1021 h1025 h1017 h745)
                  refine mr_lvS (lv' := [(0, .ref 106), (3, iv p3), (4, iv (40 * (530 + z44))), (6, iv z59)]) (List.forall_mem_cons.mpr ⟨rfl, List.forall_mem_cons.mpr ⟨rfl, List.forall_mem_cons.mpr ⟨rfl, List.forall_mem_cons.mpr ⟨rfl, fun _ h => absurd h List.not_mem_nil⟩⟩⟩⟩) ?_
                  exact J247 μ1015 T1018 (mF.call (mF.call (mF.call mF.refl F748 rfl) F757 rfl) F1019 rfl) (by rw [q1023]; exact (vc_X12_write_64 h1021 h1026 h1025 h1027 h745))
                have h1028 : 0 ≤ z1014 ∧ z1014 ≤ 19 := (vc_X12_write_65 h1026 h743 h1021 h1025 h1017 h745)
                refine sv_aload_n (pc := 278) dX12_write_278 rfl rfl ?_
                refine sv_aload_n (pc := 279) dX12_write_279 rfl rfl ?_
                refine gf_X12_32 (pc := 280) dX12_write_280 wF_X12_148 (A_106 hw) T1018 ?_
                refine mr_iload (pc := 283) (z := (40 * (530 + z44))) dX12_write_283 rfl ?_
                refine mr_bipush (pc := 285) (z := 6) dX12_write_285 (by decide) ?_
                refine mr_iadd (pc := 287) (x := (40 * (530 + z44))) (y := 6) dX12_write_287 ?_
                refine mr_iload (pc := 288) (z := z1014) dX12_write_288 rfl ?_
                refine mr_iadd (pc := 290) (x := ((40 * (530 + z44)) + 6)) (y := z1014) dX12_write_290 ?_
                refine la_126 (pc := 291) dX12_write_291 (A_126 hw) T1018 (rIx (n := 84000) (rAdd (e := 21206) (f := 37185) (rAdd (e := 21206) (f := 37166) (rMulL (n := 40) (e := 21200) (f := 37160) (rAdd (e := 530) (f := 929) (rR (x := 530)) h45 rfl) rfl) (rR (x := 6)) rfl) h1028 rfl) rfl) fun z1029 q1030 h1031 => ?_
                refine mr_cVV (pc := 292) (c_X12_octet4 hw T1018 h1031.1 q1023 (vc_X12_write_66 h1021 h1026 h1031.2.1 h1031.2.2.1 h1031.2.2.2 h1025 h1028 h1031.1 h45 h745)) (gOk _ _ _ _ _) dX12_write_292 (tX12_octet4 _ _ _ _ _) ⟨wV_X12_octet4, wL_X12_octet4⟩ wM_X12_680 (gCX12 _ _ _ _ _) rfl (A_106 hw) rfl ⟨le_t rfl, le_t rfl⟩ ⟨le_t rfl, le_t rfl⟩ rfl (le_t rfl) fun μ1032 T1033 F1034 h1035 => ?_
                obtain ⟨z1036, q1037, h1038⟩ := h1035
                have h1039 : (0 ≤ z1036 ∧ z1036 ≤ 300) := by rw [← q1037]; exact T1033 106 106 (A_106 hw) 104
                have q1040 : μ1032 106 104 = (f_w + 4) := q1037.trans h1038.1
                refine mr_iinc (pc := 295) (lv' := [(9, iv (z1014 + 1)), (0, .ref 106), (3, iv p3), (4, iv (40 * (530 + z44))), (5, iv z55), (6, iv z59)]) dX12_write_295 rfl (by decide) rfl ?_
                refine sv_goto (pc := 298) (tgt := 271) dX12_write_298 (by decide) ?_
                refine mr_lvS (lv' := [(0, .ref 106), (3, iv p3), (4, iv (40 * (530 + z44))), (5, iv z55), (6, iv z59), (9, iv (z1014 + 1))]) (List.forall_mem_cons.mpr ⟨rfl, List.forall_mem_cons.mpr ⟨rfl, List.forall_mem_cons.mpr ⟨rfl, List.forall_mem_cons.mpr ⟨rfl, List.forall_mem_cons.mpr ⟨rfl, List.forall_mem_cons.mpr ⟨rfl, fun _ h => absurd h List.not_mem_nil⟩⟩⟩⟩⟩⟩) ?_
                exact ih1024 (z1014 + 1) μ1032 (f_w + 4) T1033 (mF.call (mF.call mF.refl F1019 rfl) F1034 rfl) q1040 (rW (c := 0) (d := 20) (rAdd (e := 1) (f := 20) h1028 (rR (x := 1)) rfl) rfl) (vc_X12_write_67 h1021 h1026 h1031.2.1 h1031.2.2.1 h1031.2.2.2 h1038.1 h43.2.1 h743 h1025 h14 h26 h38 h1028 h1031.1 h1039 h45 h745) (vc_X12_write_68 (nS h1022) h1021 h1026 h1031.2.1 h1031.2.2.1 h1031.2.2.2 h43.2.1 h743 h1038.1 h1025 h14 h26 h38 h1028 h1031.1 h1039 h45 h745)
            refine mr_lvS (lv' := [(0, .ref 106), (3, iv p3), (4, iv (40 * (530 + z44))), (5, iv z55), (6, iv z59), (9, iv 0)]) (List.forall_mem_cons.mpr ⟨rfl, List.forall_mem_cons.mpr ⟨rfl, List.forall_mem_cons.mpr ⟨rfl, List.forall_mem_cons.mpr ⟨rfl, List.forall_mem_cons.mpr ⟨rfl, List.forall_mem_cons.mpr ⟨rfl, fun _ h => absurd h List.not_mem_nil⟩⟩⟩⟩⟩⟩) ?_
            exact L1016 22 0 μ755 (((((((((((((0 + 1) + 1) + 1) + 1) + 1) + 1) + 1) + 1) + 1) + 1) + 1) + 1) + 1) T756 mF.refl q763 (rW (c := 0) (d := 20) (rR (x := 0)) rfl) vc_X12_write_69 vc_X12_tieOf_12
          refine mr_if_le (pc := 165) (tgt := 177) dX12_write_165 (by decide) (r32 h62 rfl) (fun h1041 => ?_) (fun h1041 => ?_)
          · have h1042 : 0 ≤ z59 ∧ z59 ≤ 0 := (vc_X12_write_34 h1041 h62)
            refine mr_iconst (pc := 177) (z := 0) dX12_write_177 ?_
            exact J80 0 (rW (c := 0) (d := 35) (rR (x := 0)) rfl)
          have h1043 : 1 ≤ z59 ∧ z59 ≤ 8 := (vc_X12_write_36 h1041 h62)
          refine mr_iconst (pc := 168) (z := 3) dX12_write_168 ?_
          refine mr_iconst (pc := 169) (z := 4) dX12_write_169 ?_
          refine mr_iload (pc := 170) (z := z59) dX12_write_170 rfl ?_
          refine mr_imul (pc := 172) (x := 4) (y := z59) dX12_write_172 ?_
          refine mr_iadd (pc := 173) (x := 3) (y := (4 * z59)) dX12_write_173 ?_
          refine sv_goto (pc := 174) (tgt := 178) dX12_write_174 (by decide) ?_
          exact J80 (3 + (4 * z59)) (rW (c := 0) (d := 35) (rAdd (e := 7) (f := 35) (rR (x := 3)) (rMulL (n := 4) (e := 4) (f := 32) h1043 rfl) rfl) rfl)
        refine mr_if_le (pc := 153) (tgt := 161) dX12_write_153 (by decide) h70.1 (fun h1044 => ?_) (fun h1044 => ?_)
        · have h1045 : (-2147483648) ≤ z68 ∧ z68 ≤ 0 := (vc_X12_write_49 h1044 h70.1)
          refine mr_iconst (pc := 161) (z := 0) dX12_write_161 ?_
          refine mr_lvS (lv' := [(0, .ref 106), (3, iv p3), (4, iv (40 * (530 + z44))), (5, iv z55), (6, iv z59), (7, iv z65)]) (List.forall_mem_cons.mpr ⟨rfl, List.forall_mem_cons.mpr ⟨rfl, List.forall_mem_cons.mpr ⟨rfl, List.forall_mem_cons.mpr ⟨rfl, List.forall_mem_cons.mpr ⟨rfl, List.forall_mem_cons.mpr ⟨rfl, fun _ h => absurd h List.not_mem_nil⟩⟩⟩⟩⟩⟩) ?_
          exact J75 0 (rW (c := 0) (d := 7) (rR (x := 0)) rfl)
        have h1046 : 1 ≤ z68 ∧ z68 ≤ 2147483647 := (vc_X12_write_51 h1044 h70.1)
        refine mr_bipush (pc := 156) (z := 7) dX12_write_156 (by decide) ?_
        refine sv_goto (pc := 158) (tgt := 162) dX12_write_158 (by decide) ?_
        refine mr_lvS (lv' := [(0, .ref 106), (3, iv p3), (4, iv (40 * (530 + z44))), (5, iv z55), (6, iv z59), (7, iv z65)]) (List.forall_mem_cons.mpr ⟨rfl, List.forall_mem_cons.mpr ⟨rfl, List.forall_mem_cons.mpr ⟨rfl, List.forall_mem_cons.mpr ⟨rfl, List.forall_mem_cons.mpr ⟨rfl, List.forall_mem_cons.mpr ⟨rfl, fun _ h => absurd h List.not_mem_nil⟩⟩⟩⟩⟩⟩) ?_
        exact J75 7 (rW (c := 0) (d := 7) (rR (x := 7)) rfl)
      refine mr_if_ne (pc := 124) (tgt := 131) dX12_write_124 (by decide) (r32 h58 rfl) (fun h1047 => ?_) (fun h1047 => ?_)
      · have h1048 : 1 ≤ z55 ∧ z55 ≤ 20 := (vc_X12_waysMatch_2 h1047 h58)
        refine mr_iconst (pc := 131) (z := 2) dX12_write_131 ?_
        refine mr_iconst (pc := 132) (z := 4) dX12_write_132 ?_
        refine mr_iload (pc := 133) (z := z55) dX12_write_133 rfl ?_
        refine mr_imul (pc := 135) (x := 4) (y := z55) dX12_write_135 ?_
        refine mr_iadd (pc := 136) (x := 2) (y := (4 * z55)) dX12_write_136 ?_
        refine mr_lvS (lv' := [(0, .ref 106), (3, iv p3), (4, iv (40 * (530 + z44))), (5, iv z55), (6, iv z59)]) (List.forall_mem_cons.mpr ⟨rfl, List.forall_mem_cons.mpr ⟨rfl, List.forall_mem_cons.mpr ⟨rfl, List.forall_mem_cons.mpr ⟨rfl, List.forall_mem_cons.mpr ⟨rfl, fun _ h => absurd h List.not_mem_nil⟩⟩⟩⟩⟩) ?_
        exact J67 (2 + (4 * z55)) (rW (c := 0) (d := 82) (rAdd (e := 6) (f := 82) (rR (x := 2)) (rMulL (n := 4) (e := 4) (f := 80) h1048 rfl) rfl) rfl)
      have h1049 : 0 ≤ z55 ∧ z55 ≤ 0 := (vc_X12_waysMatch_23 h1047 h58)
      refine mr_iconst (pc := 127) (z := 0) dX12_write_127 ?_
      refine sv_goto (pc := 128) (tgt := 137) dX12_write_128 (by decide) ?_
      refine mr_lvS (lv' := [(0, .ref 106), (3, iv p3), (4, iv (40 * (530 + z44))), (5, iv z55), (6, iv z59)]) (List.forall_mem_cons.mpr ⟨rfl, List.forall_mem_cons.mpr ⟨rfl, List.forall_mem_cons.mpr ⟨rfl, List.forall_mem_cons.mpr ⟨rfl, List.forall_mem_cons.mpr ⟨rfl, fun _ h => absurd h List.not_mem_nil⟩⟩⟩⟩⟩) ?_
      exact J67 0 (rW (c := 0) (d := 82) (rR (x := 0)) rfl)
    have h1050 : (-1) ≤ z49 ∧ z49 ≤ (-1) := (vc_X12_isThere_3 h53 h52)
    refine sv_aload_n (pc := 57) dX12_write_57 rfl rfl ?_
    refine mr_iconst (pc := 58) (z := 0) dX12_write_58 ?_
    refine mr_cVV (pc := 59) (c_X12_octet1 hw T48 (rW (c := (-2147483648)) (d := 2147483647) (rR (x := 0)) rfl) u47.1 vc_X12_write_21) (gOk _ _ _ _ _) dX12_write_59 (tX12_octet1 _ _ _ _ _) ⟨wV_X12_octet1, wL_X12_octet1⟩ wM_X12_674 (gCX12 _ _ _ _ _) rfl (A_106 hw) rfl ⟨le_t rfl, le_t rfl⟩ ⟨le_t rfl, le_t rfl⟩ rfl (le_t rfl) fun μ1051 T1052 F1053 h1054 => ?_
    obtain ⟨z1055, q1056, h1057⟩ := h1054
    have h1058 : (0 ≤ z1055 ∧ z1055 ≤ 300) := by rw [← q1056]; exact T1052 106 106 (A_106 hw) 104
    have q1059 : μ1051 106 104 = (0 + 1) := q1056.trans h1057.1
    refine sv_aload_n (pc := 62) dX12_write_62 rfl rfl ?_
    refine mr_iconst (pc := 63) (z := 1) dX12_write_63 ?_
    refine sv_aload_n (pc := 64) dX12_write_64 rfl rfl ?_
    refine gf_X12_4 (pc := 65) dX12_write_65 wF_X12_26 (A_106 hw) T1052 ?_
    refine mr_iload_n (pc := 68) (z := p3) dX12_write_68 rfl rfl ?_
    refine la_109 (pc := 69) dX12_write_69 (A_109 hw) T1052 (rIx (n := 10) h38 rfl) fun z1060 q1061 h1062 => ?_
    refine mr_bipush (pc := 70) (z := 7) dX12_write_70 (by decide) ?_
    refine mr_iadd (pc := 72) (x := z1060) (y := 7) dX12_write_72 ?_
    refine mr_bipush (pc := 73) (z := 8) dX12_write_73 (by decide) ?_
    refine mr_idiv (pc := 75) (x := (z1060 + 7)) (y := 8) dX12_write_75 (rW (c := 0) (d := 2147483647) (rAdd (e := 7) (f := 39) h1062 (rR (x := 7)) rfl) rfl) vc_X12_prefixOut_4 ?_
    refine mr_gen (P := fun z => 0 ≤ z ∧ z ≤ 4) (rDiv (rAdd (e := 7) (f := 39) h1062 (rR (x := 7)) rfl) rfl) fun z1063 q1064 h1065 => ?_
    refine mr_iadd (pc := 76) (x := 1) (y := z1063) dX12_write_76 ?_
    refine mr_cVV (pc := 77) (c_X12_octet1 hw T1052 (rW (c := (-2147483648)) (d := 2147483647) (rAdd (e := 1) (f := 5) (rR (x := 1)) h1065 rfl) rfl) q1059 vc_X12_write_22) (gOk _ _ _ _ _) dX12_write_77 (tX12_octet1 _ _ _ _ _) ⟨wV_X12_octet1, wL_X12_octet1⟩ wM_X12_674 (gCX12 _ _ _ _ _) rfl (A_106 hw) rfl ⟨le_t rfl, le_t rfl⟩ ⟨le_t rfl, le_t rfl⟩ rfl (le_t rfl) fun μ1066 T1067 F1068 h1069 => ?_
    obtain ⟨z1070, q1071, h1072⟩ := h1069
    have h1073 : (0 ≤ z1070 ∧ z1070 ≤ 300) := by rw [← q1071]; exact T1067 106 106 (A_106 hw) 104
    have q1074 : μ1066 106 104 = ((0 + 1) + 1) := q1071.trans h1072.1
    refine sv_aload_n (pc := 80) dX12_write_80 rfl rfl ?_
    refine mr_iload_n (pc := 81) (z := p3) dX12_write_81 rfl rfl ?_
    refine mr_cVV (pc := 82) (c_X12_prefixOut hw T1067 h38 q1074 vc_X12_write_75) (gOk _ _ _ _ _) dX12_write_82 (tX12_prefixOut _ _ _ _ _) ⟨wV_X12_prefixOut, wL_X12_prefixOut⟩ wM_X12_677 (gCX12 _ _ _ _ _) rfl (A_106 hw) rfl ⟨le_t rfl, le_t rfl⟩ ⟨le_t rfl, le_t rfl⟩ rfl (le_t rfl) fun μ1075 T1076 F1077 h1078 => ?_
    obtain ⟨z1079, q1080, h1081⟩ := h1078
    have h1082 : (0 ≤ z1079 ∧ z1079 ≤ 300) := by rw [← q1080]; exact T1076 106 106 (A_106 hw) 104
    refine sv_aload_n (pc := 85) dX12_write_85 rfl rfl ?_
    refine mr_iconst (pc := 86) (z := 0) dX12_write_86 ?_
    refine mr_cVV (pc := 87) (c_X12_octet1 hw T1076 (rW (c := (-2147483648)) (d := 2147483647) (rR (x := 0)) rfl) q1080 (vc_X12_write_76 h1081.1 h1082)) (gOk _ _ _ _ _) dX12_write_87 (tX12_octet1 _ _ _ _ _) ⟨wV_X12_octet1, wL_X12_octet1⟩ wM_X12_674 (gCX12 _ _ _ _ _) rfl (A_106 hw) rfl ⟨le_t rfl, le_t rfl⟩ ⟨le_t rfl, le_t rfl⟩ rfl (le_t rfl) fun μ1083 T1084 F1085 h1086 => ?_
    obtain ⟨z1087, q1088, h1089⟩ := h1086
    have h1090 : (0 ≤ z1087 ∧ z1087 ≤ 300) := by rw [← q1088]; exact T1084 106 106 (A_106 hw) 104
    have q1091 : μ1083 106 104 = (z1079 + 1) := q1088.trans h1089.1
    refine sv_aload_n (pc := 90) dX12_write_90 rfl rfl ?_
    refine mr_iconst (pc := 91) (z := 0) dX12_write_91 ?_
    refine mr_cVV (pc := 92) (c_X12_octet1 hw T1084 (rW (c := (-2147483648)) (d := 2147483647) (rR (x := 0)) rfl) q1091 (vc_X12_write_77 h1081.1 h1089.1 h1082 h1090)) (gOk _ _ _ _ _) dX12_write_92 (tX12_octet1 _ _ _ _ _) ⟨wV_X12_octet1, wL_X12_octet1⟩ wM_X12_674 (gCX12 _ _ _ _ _) rfl (A_106 hw) rfl ⟨le_t rfl, le_t rfl⟩ ⟨le_t rfl, le_t rfl⟩ rfl (le_t rfl) fun μ1092 T1093 F1094 h1095 => ?_
    obtain ⟨z1096, q1097, h1098⟩ := h1095
    have h1099 : (0 ≤ z1096 ∧ z1096 ≤ 300) := by rw [← q1097]; exact T1093 106 106 (A_106 hw) 104
    have q1100 : μ1092 106 104 = ((z1079 + 1) + 1) := q1097.trans h1098.1
    refine sv_aload_n (pc := 95) dX12_write_95 rfl rfl ?_
    refine gk_X12_104 (pc := 96) dX12_write_96 wF_X12_671 (A_106 hw) q1100 ?_
    exact mr_iret dX12_write_99 rfl (le_t rfl) (le_t rfl) T1093 (mF.call (mF.call (mF.call (mF.call (mF.call (mF.up mF.refl (A_106 hw) u47 rfl) F1053 rfl) F1068 rfl) F1077 rfl) F1085 rfl) F1094 rfl) ⟨(rW (c := (-2147483648)) (d := 2147483647) (rAdd (e := 2) (f := 302) (rAdd (e := 1) (f := 301) h1082 (rR (x := 1)) rfl) (rR (x := 1)) rfl) rfl), trivial⟩
  have h1101 : 0 ≤ z34 ∧ z34 ≤ 0 := (vc_X12_write_78 h35 h33.2.1 h33.2.2.1 hp3 h29 h33.1)
  have h1102 : p3 < 0 ∨ z27 ≤ p3 := (h33.2.2.1 (vc_X12_write_79 h33.2.1 h33.2.2.1 h35 hp3 h29 h1101))
  refine mr_iconst (pc := 25) (z := (-1)) dX12_write_25 ?_
  exact mr_iret dX12_write_26 rfl (le_t rfl) (le_t rfl) hT mF.refl ⟨(rW (c := (-2147483648)) (d := 2147483647) (rR (x := (-1))) rfl), trivial⟩
theorem vc_X12_octet_1 {p1 z1 z8 : Int} (h0 : z8 = 0) (h1 : (z8 = 1 → (0 : Int) ≤ p1 ∧ p1 ≤ (z1 - 1))) (h2 : (z8 = 0 → p1 < (0 : Int) ∨ (z1 - 1) < p1)) (h3 : (-2147483648) ≤ p1 ∧ p1 ≤ 2147483647) (h4 : 0 ≤ z1 ∧ z1 ≤ 300) (h5 : 0 ≤ z8 ∧ z8 ≤ 1) : 0 ≤ z8 ∧ z8 ≤ 0 := by omega
theorem vc_X12_octet_2 {p1 z1 z8 : Int} (h0 : (z8 = 1 → (0 : Int) ≤ p1 ∧ p1 ≤ (z1 - 1))) (h1 : (z8 = 0 → p1 < (0 : Int) ∨ (z1 - 1) < p1)) (h2 : z8 = 0) (h3 : (-2147483648) ≤ p1 ∧ p1 ≤ 2147483647) (h4 : 0 ≤ z1 ∧ z1 ≤ 300) (h5 : 0 ≤ z8 ∧ z8 ≤ 0) : z8 = 0 := by omega
theorem vc_X12_octet_3 {p1 z1 z8 : Int} (h0 : ¬ z8 = 0) (h1 : (z8 = 1 → (0 : Int) ≤ p1 ∧ p1 ≤ (z1 - 1))) (h2 : (z8 = 0 → p1 < (0 : Int) ∨ (z1 - 1) < p1)) (h3 : (-2147483648) ≤ p1 ∧ p1 ≤ 2147483647) (h4 : 0 ≤ z1 ∧ z1 ≤ 300) (h5 : 0 ≤ z8 ∧ z8 ≤ 1) : 1 ≤ z8 ∧ z8 ≤ 1 := by omega
theorem vc_X12_octet_4 {p1 z1 z8 : Int} (h0 : (z8 = 1 → (0 : Int) ≤ p1 ∧ p1 ≤ (z1 - 1))) (h1 : (z8 = 0 → p1 < (0 : Int) ∨ (z1 - 1) < p1)) (h2 : ¬ z8 = 0) (h3 : (-2147483648) ≤ p1 ∧ p1 ≤ 2147483647) (h4 : 0 ≤ z1 ∧ z1 ≤ 300) (h5 : 1 ≤ z8 ∧ z8 ≤ 1) : z8 = 1 := by omega
theorem vc_X12_octet_5 {p1 z1 z8 : Int} (h0 : (0 : Int) ≤ p1 ∧ p1 ≤ (z1 - 1)) (h1 : (z8 = 1 → (0 : Int) ≤ p1 ∧ p1 ≤ (z1 - 1))) (h2 : (z8 = 0 → p1 < (0 : Int) ∨ (z1 - 1) < p1)) (h3 : (-2147483648) ≤ p1 ∧ p1 ≤ 2147483647) (h4 : 0 ≤ z1 ∧ z1 ≤ 300) (h5 : 1 ≤ z8 ∧ z8 ≤ 1) : 0 ≤ p1 ∧ p1 ≤ 2147483647 := by omega
theorem vc_X12_octet_6 {p1 z1 z8 : Int} (h0 : (z8 = 1 → (0 : Int) ≤ p1 ∧ p1 ≤ (z1 - 1))) (h1 : (z8 = 0 → p1 < (0 : Int) ∨ (z1 - 1) < p1)) (h2 : (0 : Int) ≤ p1 ∧ p1 ≤ (z1 - 1)) (h3 : ¬ z8 = 0) (h4 : 0 ≤ p1 ∧ p1 ≤ 2147483647) (h5 : 0 ≤ z1 ∧ z1 ≤ 300) (h6 : 1 ≤ z8 ∧ z8 ≤ 1) : 0 ≤ p1 ∧ p1 < 300 := by omega
set_option maxRecDepth 4000 in
set_option maxHeartbeats 4000000 in
theorem c_X12_octet {l : Launch} {D : va_G} {c : Nat → ClassId} {H0 : Heap} {sa : Nat × Nat × (Nat → Int32)} {w : mW} {μ : mM} (hw : mWF w) (hT : mT w μ) {p1 : Int} (hp1 : (-2147483648) ≤ p1 ∧ p1 ≤ 2147483647) : sC (gG l D c H0 sa) mX12_octet 2 0 0 [.ref 106, iv p1] (mk w μ) (qP w μ (fun z => ((-2147483648) ≤ z ∧ z ≤ 2147483647) ∧ True)) := by
  refine sC.of rfl (by decide) (le_t rfl) ?_
  refine mr_lvE (lv' := [(0, .ref 106), (1, iv p1)]) rfl ?_
  refine mr_iload_n (pc := 0) (z := p1) dX12_octet_0 rfl rfl ?_
  refine mr_iconst (pc := 1) (z := 0) dX12_octet_1 ?_
  refine sv_aload_n (pc := 2) dX12_octet_2 rfl rfl ?_
  refine gf_X12_104 (pc := 3) dX12_octet_3 wF_X12_671 (A_106 hw) hT fun z1 q2 h3 => ?_
  refine mr_iconst (pc := 6) (z := 1) dX12_octet_6 ?_
  refine mr_isub (pc := 7) (x := z1) (y := 1) dX12_octet_7 ?_
  refine mr_cSP (pc := 8) (c_X12_in hw hT hp1 (rW (c := (-2147483648)) (d := 2147483647) (rR (x := 0)) rfl) (rW (c := (-2147483648)) (d := 2147483647) (rSub (e := (-1)) (f := 299) h3 (rR (x := 1)) rfl) rfl)) (gOk _ _ _ _ _) dX12_octet_8 (tX12_in _ _ _ _ _) wS_X12_in wM_X12_18 ⟨le_t rfl, le_t rfl⟩ ⟨le_t rfl, le_t rfl⟩ rfl (le_t rfl) fun z8 h7 => ?_
  refine mr_if_eq (pc := 11) (tgt := 23) dX12_octet_11 (by decide) (r32 h7.1 rfl) (fun h17 => ?_) (fun h17 => ?_)
  · have h18 : 0 ≤ z8 ∧ z8 ≤ 0 := (vc_X12_octet_1 h17 h7.2.1 h7.2.2.1 hp1 h3 h7.1)
    have h19 : p1 < (0 : Int) ∨ (z1 - 1) < p1 := (h7.2.2.1 (vc_X12_octet_2 h7.2.1 h7.2.2.1 h17 hp1 h3 h18))
    refine mr_ldc (pc := 23) (z := (-99999999)) dX12_octet_23 wG_X12_29 (by decide) ?_
    exact mr_iretP dX12_octet_25 rfl (le_t rfl) (le_t rfl) ⟨(rW (c := (-2147483648)) (d := 2147483647) (rR (x := (-99999999))) rfl), trivial⟩
  have h20 : 1 ≤ z8 ∧ z8 ≤ 1 := (vc_X12_octet_3 h17 h7.2.1 h7.2.2.1 hp1 h3 h7.1)
  have h21 : (0 : Int) ≤ p1 ∧ p1 ≤ (z1 - 1) := (h7.2.1 (vc_X12_octet_4 h7.2.1 h7.2.2.1 h17 hp1 h3 h20))
  have h22 : 0 ≤ p1 ∧ p1 ≤ 2147483647 := (vc_X12_octet_5 h21 h7.2.1 h7.2.2.1 hp1 h3 h20)
  refine sv_aload_n (pc := 14) dX12_octet_14 rfl rfl ?_
  refine gf_X12_103 (pc := 15) dX12_octet_15 wF_X12_484 (A_106 hw) hT ?_
  refine mr_iload_n (pc := 18) (z := p1) dX12_octet_18 rfl rfl ?_
  refine la_174 (pc := 19) dX12_octet_19 (A_174 hw) hT (vc_X12_octet_6 h7.2.1 h7.2.2.1 h21 h17 h22 h3 h20) fun z23 q24 h25 => ?_
  refine sv_goto (pc := 20) (tgt := 25) dX12_octet_20 (by decide) ?_
  exact mr_iretP dX12_octet_25 rfl (le_t rfl) (le_t rfl) ⟨h25, trivial⟩
theorem vc_X12_sends_2 {z223 : Int} (h0 : ¬ z223 = (-99999999)) (h1 : (-99999999) ≤ z223 ∧ z223 ≤ 9) (h2 : z223 = (-99999999) ∨ (0 ≤ z223 ∧ z223 ≤ 9)) : 0 ≤ z223 ∧ z223 ≤ 9 := by omega
theorem vc_X12_sends_3 {z273 : Int} (h0 : z273 = -99999999 ∨ z273 = -4 ∨ (0 ≤ z273 ∧ z273 ≤ 19)) : -99999999 ≤ z273 ∧ z273 ≤ 19 := by omega
theorem vc_X12_sends_4 {z273 : Int} (h0 : (-99999999) ≤ z273 ∧ z273 ≤ 19) (h1 : z273 = -99999999 ∨ z273 = -4 ∨ (0 ≤ z273 ∧ z273 ≤ 19)) : z273 = -99999999 ∨ z273 = -4 ∨ (0 ≤ z273 ∧ z273 ≤ 19) := by omega
theorem vc_X12_sends_5 {z223 : Int} (h0 : z223 = (-99999999)) (h1 : (-99999999) ≤ z223 ∧ z223 ≤ 9) (h2 : z223 = (-99999999) ∨ (0 ≤ z223 ∧ z223 ≤ 9)) : (-99999999) ≤ z223 ∧ z223 ≤ (-99999999) := by omega
theorem vc_X12_sends_6  : (-(99999999 : Int) : Int) = -(99999999 : Int) ∨ (-(99999999 : Int) : Int) = -(4 : Int) ∨ ((0 : Int) ≤ (-(99999999 : Int) : Int) ∧ (-(99999999 : Int) : Int) ≤ (19 : Int)) := by omega
theorem vc_X12_sends_10 {z280 : Int} (h0 : z280 = (-99999999)) (h1 : (-99999999) ≤ z280 ∧ z280 ≤ 19) (h2 : z280 = -99999999 ∨ z280 = -4 ∨ (0 ≤ z280 ∧ z280 ≤ 19)) : (-99999999) ≤ z280 ∧ z280 ≤ (-99999999) := by omega
theorem vc_X12_sends_11 {N z222 z233 : Int} (h0 : (11 - z222) < N + 1) (h1 : z222 < z233) (h2 : 0 ≤ z222 ∧ z222 ≤ 9) (h3 : 1 ≤ z233 ∧ z233 ≤ 10) : (11 - (z222 + 1)) < N := by omega
theorem vc_X12_sends_12 {z223 : Int} (h0 : (-99999999) ≤ z223 ∧ z223 ≤ 9) (h1 : z223 = (-99999999) ∨ (0 ≤ z223 ∧ z223 ≤ 9)) : z223 = (-99999999) ∨ (0 ≤ z223 ∧ z223 ≤ 9) := by omega
theorem vc_X12_sends_13 {z280 : Int} (h0 : ¬ z280 = (-99999999)) (h1 : (-99999999) ≤ z280 ∧ z280 ≤ 19) (h2 : z280 = -99999999 ∨ z280 = -4 ∨ (0 ≤ z280 ∧ z280 ≤ 19)) : (-4) ≤ z280 ∧ z280 ≤ 19 := by omega
theorem vc_X12_sends_15 {z222 z233 : Int} (h0 : z222 < z233) (h1 : 0 ≤ z222 ∧ z222 ≤ 9) (h2 : 1 ≤ z233 ∧ z233 ≤ 10) : z222 = (-99999999) ∨ (0 ≤ z222 ∧ z222 ≤ 9) := by omega
theorem vc_X12_sends_16 {z223 : Int} (h0 : ¬ z223 = (-99999999)) (h1 : 0 ≤ z223 ∧ z223 ≤ 9) (h2 : z223 = (-99999999) ∨ (0 ≤ z223 ∧ z223 ≤ 9)) : z223 = (-99999999) ∨ (0 ≤ z223 ∧ z223 ≤ 9) := by omega
theorem vc_X12_sends_21  : (((-99999999) : Int) : Int) = ((-99999999) : Int) ∨ ((0 : Int) ≤ (((-99999999) : Int) : Int) ∧ (((-99999999) : Int) : Int) ≤ (9 : Int)) := by omega
set_option maxRecDepth 4000 in
set_option maxHeartbeats 4000000 in
theorem c_X12_sends {l : Launch} {D : va_G} {c : Nat → ClassId} {H0 : Heap} {sa : Nat × Nat × (Nat → Int32)} {w : mW} {μ : mM} (hw : mWF w) (hT : mT w μ) {p1 : Int} (hp1 : 0 ≤ p1 ∧ p1 ≤ 9) {p2 : Int} (hp2 : (-2147483648) ≤ p2 ∧ p2 ≤ 2147483647) : sC (gG l D c H0 sa) mX12_sends 3 0 0 [.ref 106, iv p1, iv p2] (mk w μ) (qP w μ (fun z => ((-99999999) ≤ z ∧ z ≤ 19) ∧ (z = -99999999 ∨ z = -4 ∨ (0 ≤ z ∧ z ≤ 19)) ∧ True)) := by
  refine sC.of rfl (by decide) (le_t rfl) ?_
  refine mr_lvE (lv' := [(0, .ref 106), (1, iv p1), (2, iv p2)]) rfl ?_
  refine mr_ldc (pc := 0) (z := (-99999999)) dX12_sends_0 wG_X12_29 (by decide) ?_
  refine mr_istore_n (pc := 2) (lv' := [(3, iv (-99999999)), (0, .ref 106), (1, iv p1), (2, iv p2)]) dX12_sends_2 rfl (by decide) rfl ?_
  refine mr_iconst (pc := 3) (z := 0) dX12_sends_3 ?_
  refine mr_istore (pc := 4) (lv' := [(4, iv 0), (3, iv (-99999999)), (0, .ref 106), (1, iv p1), (2, iv p2)]) dX12_sends_4 (by decide) rfl ?_
  have L224 : ∀ (nL224 : Nat) (z223 z222 : Int), True → ((-99999999) ≤ z223 ∧ z223 ≤ 9) → (0 ≤ z222 ∧ z222 ≤ 10) → (z223 = (-99999999) ∨ (0 ≤ z223 ∧ z223 ≤ 9)) → (11 - z222) < (nL224 : Int) → sV (gG l D c H0 sa) mX12_sends (sRm 3 0 0) (sZ (gG l D c H0 sa) 0 0 (qP w μ (fun z => ((-99999999) ≤ z ∧ z ≤ 19) ∧ (z = -99999999 ∨ z = -4 ∨ (0 ≤ z ∧ z ≤ 19)) ∧ True))) 6 [(0, .ref 106), (1, iv p1), (2, iv p2), (3, iv z223), (4, iv z222)] [] (mk w μ) 0 0 := by
    intro nL224
    induction nL224 with
    | zero => intro z223 z222 _ h225 h226 h230 h231; exact ((vc_X12_ring_2 h231 h226)).elim
    | succ nL224 ih232 =>
      intro z223 z222 _ h225 h226 h230 h231
      refine mr_iload (pc := 6) (z := z222) dX12_sends_6 rfl ?_
      refine sv_aload_n (pc := 8) dX12_sends_8 rfl rfl ?_
      refine gf_X12_2 (pc := 9) dX12_sends_9 wF_X12_15 (A_106 hw) hT fun z233 q234 h235 => ?_
      refine mr_icmp_ge (pc := 12) (tgt := 87) dX12_sends_12 (by decide) (r32 h226 rfl) (r32 h235 rfl) (fun h264 => ?_) (fun h264 => ?_)
      · refine mr_iload_n (pc := 87) (z := z223) dX12_sends_87 rfl rfl ?_
        refine mr_ldc (pc := 88) (z := (-99999999)) dX12_sends_88 wG_X12_29 (by decide) ?_
        refine mr_icmp_ne (pc := 90) (tgt := 98) dX12_sends_90 (by decide) (r32 h225 rfl) (r32 (rR (x := (-99999999))) rfl) (fun h271 => ?_) (fun h271 => ?_)
        · have h272 : 0 ≤ z223 ∧ z223 ≤ 9 := (vc_X12_sends_2 h271 h225 h230)
          refine sv_aload_n (pc := 98) dX12_sends_98 rfl rfl ?_
          refine gf_X12_81 (pc := 99) dX12_sends_99 wF_X12_445 (A_106 hw) hT ?_
          refine mr_bipush (pc := 102) (z := 10) dX12_sends_102 (by decide) ?_
          refine mr_iload_n (pc := 104) (z := p1) dX12_sends_104 rfl rfl ?_
          refine mr_imul (pc := 105) (x := 10) (y := p1) dX12_sends_105 ?_
          refine mr_iload_n (pc := 106) (z := z223) dX12_sends_106 rfl rfl ?_
          refine mr_iadd (pc := 107) (x := (10 * p1)) (y := z223) dX12_sends_107 ?_
          refine la_161 (pc := 108) dX12_sends_108 (A_161 hw) hT (rIx (n := 100) (rAdd (e := 0) (f := 99) (rMulL (n := 10) (e := 0) (f := 90) hp1 rfl) h272 rfl) rfl) fun z273 q274 h275 => ?_
          have h276 : (-99999999) ≤ z273 ∧ z273 ≤ 19 := (vc_X12_sends_3 h275)
          exact mr_iretP dX12_sends_109 rfl (le_t rfl) (le_t rfl) ⟨h276, (vc_X12_sends_4 h276 h275), trivial⟩
        have h277 : (-99999999) ≤ z223 ∧ z223 ≤ (-99999999) := (vc_X12_sends_5 h271 h225 h230)
        refine mr_ldc (pc := 93) (z := (-99999999)) dX12_sends_93 wG_X12_29 (by decide) ?_
        refine sv_goto (pc := 95) (tgt := 109) dX12_sends_95 (by decide) ?_
        exact mr_iretP dX12_sends_109 rfl (le_t rfl) (le_t rfl) ⟨(rW (c := (-99999999)) (d := 19) (rR (x := (-99999999))) rfl), vc_X12_sends_6, trivial⟩
      have h278 : 0 ≤ z222 ∧ z222 ≤ 9 := (vc_X12_ring_3 h264 h226 h235)
      have h279 : 1 ≤ z233 ∧ z233 ≤ 10 := (vc_X12_ring_4 h264 h278 h235)
      refine sv_aload_n (pc := 15) dX12_sends_15 rfl rfl ?_
      refine gf_X12_81 (pc := 16) dX12_sends_16 wF_X12_445 (A_106 hw) hT ?_
      refine mr_bipush (pc := 19) (z := 10) dX12_sends_19 (by decide) ?_
      refine mr_iload_n (pc := 21) (z := p1) dX12_sends_21 rfl rfl ?_
      refine mr_imul (pc := 22) (x := 10) (y := p1) dX12_sends_22 ?_
      refine mr_iload (pc := 23) (z := z222) dX12_sends_23 rfl ?_
      refine mr_iadd (pc := 25) (x := (10 * p1)) (y := z222) dX12_sends_25 ?_
      refine la_161 (pc := 26) dX12_sends_26 (A_161 hw) hT (rIx (n := 100) (rAdd (e := 0) (f := 99) (rMulL (n := 10) (e := 0) (f := 90) hp1 rfl) h278 rfl) rfl) fun z280 q281 h282 => ?_
      have h283 : (-99999999) ≤ z280 ∧ z280 ≤ 19 := (vc_X12_sends_3 h282)
      refine mr_ldc (pc := 27) (z := (-99999999)) dX12_sends_27 wG_X12_29 (by decide) ?_
      refine mr_icmp_eq (pc := 29) (tgt := 81) dX12_sends_29 (by decide) (r32 h283 rfl) (r32 (rR (x := (-99999999))) rfl) (fun h306 => ?_) (fun h306 => ?_)
      · have h307 : (-99999999) ≤ z280 ∧ z280 ≤ (-99999999) := (vc_X12_sends_10 h306 h283 h282)
        refine mr_iinc (pc := 81) (lv' := [(4, iv (z222 + 1)), (0, .ref 106), (1, iv p1), (2, iv p2), (3, iv z223)]) dX12_sends_81 rfl (by decide) rfl ?_
        refine sv_goto (pc := 84) (tgt := 6) dX12_sends_84 (by decide) ?_
        refine mr_lvS (lv' := [(0, .ref 106), (1, iv p1), (2, iv p2), (3, iv z223), (4, iv (z222 + 1))]) (List.forall_mem_cons.mpr ⟨rfl, List.forall_mem_cons.mpr ⟨rfl, List.forall_mem_cons.mpr ⟨rfl, List.forall_mem_cons.mpr ⟨rfl, List.forall_mem_cons.mpr ⟨rfl, fun _ h => absurd h List.not_mem_nil⟩⟩⟩⟩⟩) ?_
        exact ih232 z223 (z222 + 1) trivial h225 (rW (c := 0) (d := 10) (rAdd (e := 1) (f := 10) h278 (rR (x := 1)) rfl) rfl) (vc_X12_sends_12 h225 h230) (vc_X12_sends_11 (nS h231) h264 h278 h279)
      have h308 : (-4) ≤ z280 ∧ z280 ≤ 19 := (vc_X12_sends_13 h306 h283 h282)
      refine sv_aload_n (pc := 32) dX12_sends_32 rfl rfl ?_
      refine gf_X12_3 (pc := 33) dX12_sends_33 wF_X12_22 (A_106 hw) hT ?_
      refine mr_iload (pc := 36) (z := z222) dX12_sends_36 rfl ?_
      refine la_108 (pc := 38) dX12_sends_38 (A_108 hw) hT (rIx (n := 10) h278 rfl) fun z309 q310 h311 => ?_
      refine sv_aload_n (pc := 39) dX12_sends_39 rfl rfl ?_
      refine gf_X12_4 (pc := 40) dX12_sends_40 wF_X12_26 (A_106 hw) hT ?_
      refine mr_iload (pc := 43) (z := z222) dX12_sends_43 rfl ?_
      refine la_109 (pc := 45) dX12_sends_45 (A_109 hw) hT (rIx (n := 10) h278 rfl) fun z312 q313 h314 => ?_
      refine mr_iload_n (pc := 46) (z := p2) dX12_sends_46 rfl rfl ?_
      refine mr_cSP (pc := 47) (c_X12_holds hw hT h311 (rW (c := (-2147483648)) (d := 2147483647) h314 rfl) hp2) (gOk _ _ _ _ _) dX12_sends_47 (tX12_holds _ _ _ _ _) wS_X12_holds wM_X12_142 ⟨le_t rfl, le_t rfl⟩ ⟨le_t rfl, le_t rfl⟩ rfl (le_t rfl) fun z319 h318 => ?_
      refine mr_if_ne (pc := 50) (tgt := 56) dX12_sends_50 (by decide) (r32 h318.1 rfl) (fun h329 => ?_) (fun h329 => ?_)
      · have h330 : 1 ≤ z319 ∧ z319 ≤ 1 := (vc_X12_ring_24 h329 h318.1)
        refine mr_iload_n (pc := 56) (z := z223) dX12_sends_56 rfl rfl ?_
        refine mr_ldc (pc := 57) (z := (-99999999)) dX12_sends_57 wG_X12_29 (by decide) ?_
        refine mr_icmp_eq (pc := 59) (tgt := 78) dX12_sends_59 (by decide) (r32 h225 rfl) (r32 (rR (x := (-99999999))) rfl) (fun h338 => ?_) (fun h338 => ?_)
        · have h339 : (-99999999) ≤ z223 ∧ z223 ≤ (-99999999) := (vc_X12_sends_5 h338 h225 h230)
          refine mr_iload (pc := 78) (z := z222) dX12_sends_78 rfl ?_
          refine mr_istore_n (pc := 80) (lv' := [(3, iv z222), (0, .ref 106), (1, iv p1), (2, iv p2), (4, iv z222)]) dX12_sends_80 rfl (by decide) rfl ?_
          refine mr_iinc (pc := 81) (lv' := [(4, iv (z222 + 1)), (3, iv z222), (0, .ref 106), (1, iv p1), (2, iv p2)]) dX12_sends_81 rfl (by decide) rfl ?_
          refine sv_goto (pc := 84) (tgt := 6) dX12_sends_84 (by decide) ?_
          refine mr_lvS (lv' := [(0, .ref 106), (1, iv p1), (2, iv p2), (3, iv z222), (4, iv (z222 + 1))]) (List.forall_mem_cons.mpr ⟨rfl, List.forall_mem_cons.mpr ⟨rfl, List.forall_mem_cons.mpr ⟨rfl, List.forall_mem_cons.mpr ⟨rfl, List.forall_mem_cons.mpr ⟨rfl, fun _ h => absurd h List.not_mem_nil⟩⟩⟩⟩⟩) ?_
          exact ih232 z222 (z222 + 1) trivial (rW (c := (-99999999)) (d := 9) h278 rfl) (rW (c := 0) (d := 10) (rAdd (e := 1) (f := 10) h278 (rR (x := 1)) rfl) rfl) (vc_X12_sends_15 h264 h278 h279) (vc_X12_sends_11 (nS h231) h264 h278 h279)
        have h340 : 0 ≤ z223 ∧ z223 ≤ 9 := (vc_X12_sends_2 h338 h225 h230)
        refine sv_aload_n (pc := 62) dX12_sends_62 rfl rfl ?_
        refine gf_X12_4 (pc := 63) dX12_sends_63 wF_X12_26 (A_106 hw) hT ?_
        refine mr_iload (pc := 66) (z := z222) dX12_sends_66 rfl ?_
        refine lk_109 (pc := 68) dX12_sends_68 (A_109 hw) (rIx (n := 10) h278 rfl) q313 ?_
        refine sv_aload_n (pc := 69) dX12_sends_69 rfl rfl ?_
        refine gf_X12_4 (pc := 70) dX12_sends_70 wF_X12_26 (A_106 hw) hT ?_
        refine mr_iload_n (pc := 73) (z := z223) dX12_sends_73 rfl rfl ?_
        refine la_109 (pc := 74) dX12_sends_74 (A_109 hw) hT (rIx (n := 10) h340 rfl) fun z341 q342 h343 => ?_
        refine mr_icmp_le (pc := 75) (tgt := 81) dX12_sends_75 (by decide) (r32 h314 rfl) (r32 h343 rfl) (fun h346 => ?_) (fun h346 => ?_)
        · refine mr_iinc (pc := 81) (lv' := [(4, iv (z222 + 1)), (0, .ref 106), (1, iv p1), (2, iv p2), (3, iv z223)]) dX12_sends_81 rfl (by decide) rfl ?_
          refine sv_goto (pc := 84) (tgt := 6) dX12_sends_84 (by decide) ?_
          refine mr_lvS (lv' := [(0, .ref 106), (1, iv p1), (2, iv p2), (3, iv z223), (4, iv (z222 + 1))]) (List.forall_mem_cons.mpr ⟨rfl, List.forall_mem_cons.mpr ⟨rfl, List.forall_mem_cons.mpr ⟨rfl, List.forall_mem_cons.mpr ⟨rfl, List.forall_mem_cons.mpr ⟨rfl, fun _ h => absurd h List.not_mem_nil⟩⟩⟩⟩⟩) ?_
          exact ih232 z223 (z222 + 1) trivial (rW (c := (-99999999)) (d := 9) h340 rfl) (rW (c := 0) (d := 10) (rAdd (e := 1) (f := 10) h278 (rR (x := 1)) rfl) rfl) (vc_X12_sends_16 h338 h340 h230) (vc_X12_sends_11 (nS h231) h264 h278 h279)
        have h347 : 1 ≤ z312 ∧ z312 ≤ 32 := (vc_X12_judgedAnew_7 h346 h314 h343)
        have h348 : 0 ≤ z341 ∧ z341 ≤ 31 := (vc_X12_judgedAnew_8 h346 h347 h343)
        refine mr_iload (pc := 78) (z := z222) dX12_sends_78 rfl ?_
        refine mr_istore_n (pc := 80) (lv' := [(3, iv z222), (0, .ref 106), (1, iv p1), (2, iv p2), (4, iv z222)]) dX12_sends_80 rfl (by decide) rfl ?_
        refine mr_iinc (pc := 81) (lv' := [(4, iv (z222 + 1)), (3, iv z222), (0, .ref 106), (1, iv p1), (2, iv p2)]) dX12_sends_81 rfl (by decide) rfl ?_
        refine sv_goto (pc := 84) (tgt := 6) dX12_sends_84 (by decide) ?_
        refine mr_lvS (lv' := [(0, .ref 106), (1, iv p1), (2, iv p2), (3, iv z222), (4, iv (z222 + 1))]) (List.forall_mem_cons.mpr ⟨rfl, List.forall_mem_cons.mpr ⟨rfl, List.forall_mem_cons.mpr ⟨rfl, List.forall_mem_cons.mpr ⟨rfl, List.forall_mem_cons.mpr ⟨rfl, fun _ h => absurd h List.not_mem_nil⟩⟩⟩⟩⟩) ?_
        exact ih232 z222 (z222 + 1) trivial (rW (c := (-99999999)) (d := 9) h278 rfl) (rW (c := 0) (d := 10) (rAdd (e := 1) (f := 10) h278 (rR (x := 1)) rfl) rfl) (vc_X12_sends_15 h264 h278 h279) (vc_X12_sends_11 (nS h231) h264 h278 h279)
      have h349 : 0 ≤ z319 ∧ z319 ≤ 0 := (vc_X12_ring_22 h329 h318.1)
      refine sv_goto (pc := 53) (tgt := 81) dX12_sends_53 (by decide) ?_
      refine mr_iinc (pc := 81) (lv' := [(4, iv (z222 + 1)), (0, .ref 106), (1, iv p1), (2, iv p2), (3, iv z223)]) dX12_sends_81 rfl (by decide) rfl ?_
      refine sv_goto (pc := 84) (tgt := 6) dX12_sends_84 (by decide) ?_
      refine mr_lvS (lv' := [(0, .ref 106), (1, iv p1), (2, iv p2), (3, iv z223), (4, iv (z222 + 1))]) (List.forall_mem_cons.mpr ⟨rfl, List.forall_mem_cons.mpr ⟨rfl, List.forall_mem_cons.mpr ⟨rfl, List.forall_mem_cons.mpr ⟨rfl, List.forall_mem_cons.mpr ⟨rfl, fun _ h => absurd h List.not_mem_nil⟩⟩⟩⟩⟩) ?_
      exact ih232 z223 (z222 + 1) trivial h225 (rW (c := 0) (d := 10) (rAdd (e := 1) (f := 10) h278 (rR (x := 1)) rfl) rfl) (vc_X12_sends_12 h225 h230) (vc_X12_sends_11 (nS h231) h264 h278 h279)
  refine mr_lvS (lv' := [(0, .ref 106), (1, iv p1), (2, iv p2), (3, iv (-99999999)), (4, iv 0)]) (List.forall_mem_cons.mpr ⟨rfl, List.forall_mem_cons.mpr ⟨rfl, List.forall_mem_cons.mpr ⟨rfl, List.forall_mem_cons.mpr ⟨rfl, List.forall_mem_cons.mpr ⟨rfl, fun _ h => absurd h List.not_mem_nil⟩⟩⟩⟩⟩) ?_
  exact L224 12 (-99999999) 0 trivial (rW (c := (-99999999)) (d := 9) (rR (x := (-99999999))) rfl) (rW (c := 0) (d := 10) (rR (x := 0)) rfl) vc_X12_sends_21 vc_X12_ring_27
theorem vc_X12_led_1 {p1 z1 z8 : Int} (h0 : z8 = 0) (h1 : (z8 = 1 → (0 : Int) ≤ p1 ∧ p1 ≤ (z1 - 1))) (h2 : (z8 = 0 → p1 < (0 : Int) ∨ (z1 - 1) < p1)) (h3 : (-2147483648) ≤ p1 ∧ p1 ≤ 2147483647) (h4 : 0 ≤ z1 ∧ z1 ≤ 12) (h5 : 0 ≤ z8 ∧ z8 ≤ 1) : 0 ≤ z8 ∧ z8 ≤ 0 := by omega
theorem vc_X12_led_2 {p1 z1 z8 : Int} (h0 : (z8 = 1 → (0 : Int) ≤ p1 ∧ p1 ≤ (z1 - 1))) (h1 : (z8 = 0 → p1 < (0 : Int) ∨ (z1 - 1) < p1)) (h2 : z8 = 0) (h3 : (-2147483648) ≤ p1 ∧ p1 ≤ 2147483647) (h4 : 0 ≤ z1 ∧ z1 ≤ 12) (h5 : 0 ≤ z8 ∧ z8 ≤ 0) : z8 = 0 := by omega
theorem vc_X12_led_3 {p1 z1 z8 : Int} (h0 : ¬ z8 = 0) (h1 : (z8 = 1 → (0 : Int) ≤ p1 ∧ p1 ≤ (z1 - 1))) (h2 : (z8 = 0 → p1 < (0 : Int) ∨ (z1 - 1) < p1)) (h3 : (-2147483648) ≤ p1 ∧ p1 ≤ 2147483647) (h4 : 0 ≤ z1 ∧ z1 ≤ 12) (h5 : 0 ≤ z8 ∧ z8 ≤ 1) : 1 ≤ z8 ∧ z8 ≤ 1 := by omega
theorem vc_X12_led_4 {p1 z1 z8 : Int} (h0 : (z8 = 1 → (0 : Int) ≤ p1 ∧ p1 ≤ (z1 - 1))) (h1 : (z8 = 0 → p1 < (0 : Int) ∨ (z1 - 1) < p1)) (h2 : ¬ z8 = 0) (h3 : (-2147483648) ≤ p1 ∧ p1 ≤ 2147483647) (h4 : 0 ≤ z1 ∧ z1 ≤ 12) (h5 : 1 ≤ z8 ∧ z8 ≤ 1) : z8 = 1 := by omega
theorem vc_X12_led_5 {p1 z1 z8 : Int} (h0 : (0 : Int) ≤ p1 ∧ p1 ≤ (z1 - 1)) (h1 : (z8 = 1 → (0 : Int) ≤ p1 ∧ p1 ≤ (z1 - 1))) (h2 : (z8 = 0 → p1 < (0 : Int) ∨ (z1 - 1) < p1)) (h3 : (-2147483648) ≤ p1 ∧ p1 ≤ 2147483647) (h4 : 0 ≤ z1 ∧ z1 ≤ 12) (h5 : 1 ≤ z8 ∧ z8 ≤ 1) : 0 ≤ p1 ∧ p1 ≤ 2147483647 := by omega
theorem vc_X12_led_6 {p1 z1 z8 : Int} (h0 : (z8 = 1 → (0 : Int) ≤ p1 ∧ p1 ≤ (z1 - 1))) (h1 : (z8 = 0 → p1 < (0 : Int) ∨ (z1 - 1) < p1)) (h2 : (0 : Int) ≤ p1 ∧ p1 ≤ (z1 - 1)) (h3 : ¬ z8 = 0) (h4 : 0 ≤ p1 ∧ p1 ≤ 2147483647) (h5 : 0 ≤ z1 ∧ z1 ≤ 12) (h6 : 1 ≤ z8 ∧ z8 ≤ 1) : 0 ≤ p1 ∧ p1 < 12 := by omega
set_option maxRecDepth 4000 in
set_option maxHeartbeats 4000000 in
theorem c_X12_led {l : Launch} {D : va_G} {c : Nat → ClassId} {H0 : Heap} {sa : Nat × Nat × (Nat → Int32)} {w : mW} {μ : mM} (hw : mWF w) (hT : mT w μ) {p1 : Int} (hp1 : (-2147483648) ≤ p1 ∧ p1 ≤ 2147483647) : sC (gG l D c H0 sa) mX12_led 2 0 0 [.ref 106, iv p1] (mk w μ) (qP w μ (fun z => ((-2147483648) ≤ z ∧ z ≤ 2147483647) ∧ True)) := by
  refine sC.of rfl (by decide) (le_t rfl) ?_
  refine mr_lvE (lv' := [(0, .ref 106), (1, iv p1)]) rfl ?_
  refine mr_iload_n (pc := 0) (z := p1) dX12_led_0 rfl rfl ?_
  refine mr_iconst (pc := 1) (z := 0) dX12_led_1 ?_
  refine sv_aload_n (pc := 2) dX12_led_2 rfl rfl ?_
  refine gf_X12_108 (pc := 3) dX12_led_3 wF_X12_692 (A_106 hw) hT fun z1 q2 h3 => ?_
  refine mr_iconst (pc := 6) (z := 1) dX12_led_6 ?_
  refine mr_isub (pc := 7) (x := z1) (y := 1) dX12_led_7 ?_
  refine mr_cSP (pc := 8) (c_X12_in hw hT hp1 (rW (c := (-2147483648)) (d := 2147483647) (rR (x := 0)) rfl) (rW (c := (-2147483648)) (d := 2147483647) (rSub (e := (-1)) (f := 11) h3 (rR (x := 1)) rfl) rfl)) (gOk _ _ _ _ _) dX12_led_8 (tX12_in _ _ _ _ _) wS_X12_in wM_X12_18 ⟨le_t rfl, le_t rfl⟩ ⟨le_t rfl, le_t rfl⟩ rfl (le_t rfl) fun z8 h7 => ?_
  refine mr_if_eq (pc := 11) (tgt := 23) dX12_led_11 (by decide) (r32 h7.1 rfl) (fun h17 => ?_) (fun h17 => ?_)
  · have h18 : 0 ≤ z8 ∧ z8 ≤ 0 := (vc_X12_led_1 h17 h7.2.1 h7.2.2.1 hp1 h3 h7.1)
    have h19 : p1 < (0 : Int) ∨ (z1 - 1) < p1 := (h7.2.2.1 (vc_X12_led_2 h7.2.1 h7.2.2.1 h17 hp1 h3 h18))
    refine mr_ldc (pc := 23) (z := (-99999999)) dX12_led_23 wG_X12_29 (by decide) ?_
    exact mr_iretP dX12_led_25 rfl (le_t rfl) (le_t rfl) ⟨(rW (c := (-2147483648)) (d := 2147483647) (rR (x := (-99999999))) rfl), trivial⟩
  have h20 : 1 ≤ z8 ∧ z8 ≤ 1 := (vc_X12_led_3 h17 h7.2.1 h7.2.2.1 hp1 h3 h7.1)
  have h21 : (0 : Int) ≤ p1 ∧ p1 ≤ (z1 - 1) := (h7.2.1 (vc_X12_led_4 h7.2.1 h7.2.2.1 h17 hp1 h3 h20))
  have h22 : 0 ≤ p1 ∧ p1 ≤ 2147483647 := (vc_X12_led_5 h21 h7.2.1 h7.2.2.1 hp1 h3 h20)
  refine sv_aload_n (pc := 14) dX12_led_14 rfl rfl ?_
  refine gf_X12_107 (pc := 15) dX12_led_15 wF_X12_490 (A_106 hw) hT ?_
  refine mr_iload_n (pc := 18) (z := p1) dX12_led_18 rfl rfl ?_
  refine la_176 (pc := 19) dX12_led_19 (A_176 hw) hT (vc_X12_led_6 h7.2.1 h7.2.2.1 h21 h17 h22 h3 h20) fun z23 q24 h25 => ?_
  refine sv_goto (pc := 20) (tgt := 25) dX12_led_20 (by decide) ?_
  exact mr_iretP dX12_led_25 rfl (le_t rfl) (le_t rfl) ⟨h25, trivial⟩
theorem vc_X12_demand_7 {p3 z20 : Int} (h0 : ¬ z20 = 0) (h1 : (z20 = 1 → (1 : Int) ≤ p3 ∧ p3 ≤ (1000000 : Int))) (h2 : (z20 = 0 → p3 < (1 : Int) ∨ (1000000 : Int) < p3)) (h3 : (-2147483648) ≤ p3 ∧ p3 ≤ 2147483647) (h4 : 0 ≤ z20 ∧ z20 ≤ 1) : 1 ≤ z20 ∧ z20 ≤ 1 := by omega
theorem vc_X12_demand_8 {p3 z20 : Int} (h0 : (z20 = 1 → (1 : Int) ≤ p3 ∧ p3 ≤ (1000000 : Int))) (h1 : (z20 = 0 → p3 < (1 : Int) ∨ (1000000 : Int) < p3)) (h2 : ¬ z20 = 0) (h3 : (-2147483648) ≤ p3 ∧ p3 ≤ 2147483647) (h4 : 1 ≤ z20 ∧ z20 ≤ 1) : z20 = 1 := by omega
theorem vc_X12_demand_9 {p3 z20 : Int} (h0 : (1 : Int) ≤ p3 ∧ p3 ≤ (1000000 : Int)) (h1 : (z20 = 1 → (1 : Int) ≤ p3 ∧ p3 ≤ (1000000 : Int))) (h2 : (z20 = 0 → p3 < (1 : Int) ∨ (1000000 : Int) < p3)) (h3 : (-2147483648) ≤ p3 ∧ p3 ≤ 2147483647) (h4 : 1 ≤ z20 ∧ z20 ≤ 1) : 1 ≤ p3 ∧ p3 ≤ 1000000 := by omega
theorem vc_X12_demand_10 {z25 : Int} (h0 : ¬ z25 = 16) (h1 : 0 ≤ z25 ∧ z25 ≤ 16) : 0 ≤ z25 ∧ z25 ≤ 15 := by omega
theorem vc_X12_demand_11 {z25 : Int} (h0 : z25 = 16) (h1 : 0 ≤ z25 ∧ z25 ≤ 16) : 16 ≤ z25 ∧ z25 ≤ 16 := by omega
theorem vc_X12_demand_12 {p3 z20 : Int} (h0 : z20 = 0) (h1 : (z20 = 1 → (1 : Int) ≤ p3 ∧ p3 ≤ (1000000 : Int))) (h2 : (z20 = 0 → p3 < (1 : Int) ∨ (1000000 : Int) < p3)) (h3 : (-2147483648) ≤ p3 ∧ p3 ≤ 2147483647) (h4 : 0 ≤ z20 ∧ z20 ≤ 1) : 0 ≤ z20 ∧ z20 ≤ 0 := by omega
theorem vc_X12_demand_13 {p3 z20 : Int} (h0 : (z20 = 1 → (1 : Int) ≤ p3 ∧ p3 ≤ (1000000 : Int))) (h1 : (z20 = 0 → p3 < (1 : Int) ∨ (1000000 : Int) < p3)) (h2 : z20 = 0) (h3 : (-2147483648) ≤ p3 ∧ p3 ≤ 2147483647) (h4 : 0 ≤ z20 ∧ z20 ≤ 0) : z20 = 0 := by omega
set_option maxRecDepth 4000 in
set_option maxHeartbeats 4000000 in
theorem c_X12_demand {l : Launch} {D : va_G} {c : Nat → ClassId} {H0 : Heap} {sa : Nat × Nat × (Nat → Int32)} {w : mW} {μ : mM} (hw : mWF w) (hT : mT w μ) {p1 : Int} (hp1 : (-2147483648) ≤ p1 ∧ p1 ≤ 2147483647) {p2 : Int} (hp2 : (-2147483648) ≤ p2 ∧ p2 ≤ 2147483647) {p3 : Int} (hp3 : (-2147483648) ≤ p3 ∧ p3 ≤ 2147483647) : sC (gG l D c H0 sa) mX12_demand 3 0 0 [.ref 106, iv p1, iv p2, iv p3] (mk w μ) (qI w [106109, 177999, 178999, 179999] μ (fun z μ1 => ((-2147483648) ≤ z ∧ z ≤ 2147483647) ∧ True)) := by
  refine sC.of rfl (by decide) (le_t rfl) ?_
  refine mr_lvE (lv' := [(0, .ref 106), (1, iv p1), (2, iv p2), (3, iv p3)]) rfl ?_
  refine sv_aload_n (pc := 0) dX12_demand_0 rfl rfl ?_
  refine mr_iload_n (pc := 1) (z := p1) dX12_demand_1 rfl rfl ?_
  obtain ⟨z1, q2⟩ : ∃ z, μ 106 5 = z := ⟨_, rfl⟩
  have h3 : (0 ≤ z1 ∧ z1 ≤ 10) := by rw [← q2]; exact hT 106 106 (A_106 hw) 5
  refine mr_cVP (pc := 2) (c_X12_isDomain hw hT hp1 q2) (gOk _ _ _ _ _) dX12_demand_2 (tX12_isDomain _ _ _ _ _) ⟨wV_X12_isDomain, wL_X12_isDomain⟩ wM_X12_49 (gCX12 _ _ _ _ _) rfl (A_106 hw) rfl ⟨le_t rfl, le_t rfl⟩ ⟨le_t rfl, le_t rfl⟩ rfl (le_t rfl) fun z8 h7 => ?_
  refine mr_if_eq (pc := 5) (tgt := 19) dX12_demand_5 (by decide) (r32 h7.1 rfl) (fun h9 => ?_) (fun h9 => ?_)
  · have h10 : 0 ≤ z8 ∧ z8 ≤ 0 := (vc_X12_write_78 h9 h7.2.1 h7.2.2.1 hp1 h3 h7.1)
    have h11 : p1 < 0 ∨ z1 ≤ p1 := (h7.2.2.1 (vc_X12_write_79 h7.2.1 h7.2.2.1 h9 hp1 h3 h10))
    refine mr_iconst (pc := 19) (z := (-1)) dX12_demand_19 ?_
    exact mr_iret dX12_demand_20 rfl (le_t rfl) (le_t rfl) hT mF.refl ⟨(rW (c := (-2147483648)) (d := 2147483647) (rR (x := (-1))) rfl), trivial⟩
  have h12 : 1 ≤ z8 ∧ z8 ≤ 1 := (vc_X12_write_12 h9 h7.2.1 h7.2.2.1 hp1 h3 h7.1)
  have h13 : 0 ≤ p1 ∧ p1 < z1 := (h7.2.1 (vc_X12_write_13 h7.2.1 h7.2.2.1 h9 hp1 h3 h12))
  have h14 : 0 ≤ p1 ∧ p1 ≤ 9 := (vc_X12_write_14 h13 h7.2.1 h7.2.2.1 hp1 h3 h12)
  have h15 : 1 ≤ z1 ∧ z1 ≤ 10 := (vc_X12_write_15 h13 h7.2.1 h7.2.2.1 h14 h3 h12)
  refine mr_iload_n (pc := 8) (z := p3) dX12_demand_8 rfl rfl ?_
  refine mr_iconst (pc := 9) (z := 1) dX12_demand_9 ?_
  refine mr_ldcw (pc := 10) (z := 1000000) dX12_demand_10 wG_X12_291 (by decide) ?_
  refine mr_cSP (pc := 13) (c_X12_in hw hT hp3 (rW (c := (-2147483648)) (d := 2147483647) (rR (x := 1)) rfl) (rW (c := (-2147483648)) (d := 2147483647) (rR (x := 1000000)) rfl)) (gOk _ _ _ _ _) dX12_demand_13 (tX12_in _ _ _ _ _) wS_X12_in wM_X12_18 ⟨le_t rfl, le_t rfl⟩ ⟨le_t rfl, le_t rfl⟩ rfl (le_t rfl) fun z20 h19 => ?_
  refine mr_if_ne (pc := 16) (tgt := 21) dX12_demand_16 (by decide) (r32 h19.1 rfl) (fun h21 => ?_) (fun h21 => ?_)
  · have h22 : 1 ≤ z20 ∧ z20 ≤ 1 := (vc_X12_demand_7 h21 h19.2.1 h19.2.2.1 hp3 h19.1)
    have h23 : (1 : Int) ≤ p3 ∧ p3 ≤ (1000000 : Int) := (h19.2.1 (vc_X12_demand_8 h19.2.1 h19.2.2.1 h21 hp3 h22))
    have h24 : 1 ≤ p3 ∧ p3 ≤ 1000000 := (vc_X12_demand_9 h23 h19.2.1 h19.2.2.1 hp3 h22)
    refine sv_aload_n (pc := 21) dX12_demand_21 rfl rfl ?_
    refine gf_X12_109 (pc := 22) dX12_demand_22 wF_X12_695 (A_106 hw) hT fun z25 q26 h27 => ?_
    refine mr_bipush (pc := 25) (z := 16) dX12_demand_25 (by decide) ?_
    refine mr_icmp_ne (pc := 27) (tgt := 33) dX12_demand_27 (by decide) (r32 h27 rfl) (r32 (rR (x := 16)) rfl) (fun h28 => ?_) (fun h28 => ?_)
    · have h29 : 0 ≤ z25 ∧ z25 ≤ 15 := (vc_X12_demand_10 h28 h27)
      refine sv_aload_n (pc := 33) dX12_demand_33 rfl rfl ?_
      refine gf_X12_110 (pc := 34) dX12_demand_34 wF_X12_493 (A_106 hw) hT ?_
      refine sv_aload_n (pc := 37) dX12_demand_37 rfl rfl ?_
      refine gk_X12_109 (pc := 38) dX12_demand_38 wF_X12_695 (A_106 hw) q26 ?_
      refine mr_iload_n (pc := 41) (z := p1) dX12_demand_41 rfl rfl ?_
      refine ss_177 (pc := 42) dX12_demand_42 (A_177 hw) hT (rIx (n := 16) h29 rfl) h14 fun μ30 u31 T32 => ?_
      refine sv_aload_n (pc := 43) dX12_demand_43 rfl rfl ?_
      refine gf_X12_111 (pc := 44) dX12_demand_44 wF_X12_496 (A_106 hw) T32 ?_
      refine sv_aload_n (pc := 47) dX12_demand_47 rfl rfl ?_
      refine gk_X12_109 (pc := 48) dX12_demand_48 wF_X12_695 (A_106 hw) (u31.f (Or.inl (mAt.ne (A_177 hw) (A_106 hw) rfl)) q26) ?_
      refine mr_iload_n (pc := 51) (z := p2) dX12_demand_51 rfl rfl ?_
      refine ss_178 (pc := 52) dX12_demand_52 (A_178 hw) T32 (rIx (n := 16) h29 rfl) hp2 fun μ33 u34 T35 => ?_
      refine sv_aload_n (pc := 53) dX12_demand_53 rfl rfl ?_
      refine gf_X12_112 (pc := 54) dX12_demand_54 wF_X12_499 (A_106 hw) T35 ?_
      refine sv_aload_n (pc := 57) dX12_demand_57 rfl rfl ?_
      refine gk_X12_109 (pc := 58) dX12_demand_58 wF_X12_695 (A_106 hw) (u34.f (Or.inl (mAt.ne (A_178 hw) (A_106 hw) rfl)) (u31.f (Or.inl (mAt.ne (A_177 hw) (A_106 hw) rfl)) q26)) ?_
      refine mr_iload_n (pc := 61) (z := p3) dX12_demand_61 rfl rfl ?_
      refine ss_179 (pc := 62) dX12_demand_62 (A_179 hw) T35 (rIx (n := 16) h29 rfl) (rW (c := (-2147483648)) (d := 2147483647) h24 rfl) fun μ36 u37 T38 => ?_
      refine sv_aload_n (pc := 63) dX12_demand_63 rfl rfl ?_
      refine sv_dup (pc := 64) dX12_demand_64 rfl ?_
      refine gk_X12_109 (pc := 65) dX12_demand_65 wF_X12_695 (A_106 hw) (u37.f (Or.inl (mAt.ne (A_179 hw) (A_106 hw) rfl)) (u34.f (Or.inl (mAt.ne (A_178 hw) (A_106 hw) rfl)) (u31.f (Or.inl (mAt.ne (A_177 hw) (A_106 hw) rfl)) q26))) ?_
      refine mr_iconst (pc := 68) (z := 1) dX12_demand_68 ?_
      refine mr_iadd (pc := 69) (x := z25) (y := 1) dX12_demand_69 ?_
      refine pf_X12_109 (pc := 70) dX12_demand_70 wF_X12_695 (A_106 hw) T38 (rW (c := 0) (d := 16) (rAdd (e := 1) (f := 16) h29 (rR (x := 1)) rfl) rfl) fun μ39 u40 T41 => ?_
      refine sv_aload_n (pc := 73) dX12_demand_73 rfl rfl ?_
      refine gk_X12_109 (pc := 74) dX12_demand_74 wF_X12_695 (A_106 hw) u40.1 ?_
      refine mr_iconst (pc := 77) (z := 1) dX12_demand_77 ?_
      refine mr_isub (pc := 78) (x := (z25 + 1)) (y := 1) dX12_demand_78 ?_
      exact mr_iret dX12_demand_79 rfl (le_t rfl) (le_t rfl) T41 (mF.up (mF.up (mF.up (mF.up mF.refl (A_177 hw) u31 rfl) (A_178 hw) u34 rfl) (A_179 hw) u37 rfl) (A_106 hw) u40 rfl) ⟨(rW (c := (-2147483648)) (d := 2147483647) (rSub (e := 0) (f := 15) (rAdd (e := 1) (f := 16) h29 (rR (x := 1)) rfl) (rR (x := 1)) rfl) rfl), trivial⟩
    have h42 : 16 ≤ z25 ∧ z25 ≤ 16 := (vc_X12_demand_11 h28 h27)
    refine mr_bipush (pc := 30) (z := (-3)) dX12_demand_30 (by decide) ?_
    exact mr_iret dX12_demand_32 rfl (le_t rfl) (le_t rfl) hT mF.refl ⟨(rW (c := (-2147483648)) (d := 2147483647) (rR (x := (-3))) rfl), trivial⟩
  have h43 : 0 ≤ z20 ∧ z20 ≤ 0 := (vc_X12_demand_12 h21 h19.2.1 h19.2.2.1 hp3 h19.1)
  have h44 : p3 < (1 : Int) ∨ (1000000 : Int) < p3 := (h19.2.2.1 (vc_X12_demand_13 h19.2.1 h19.2.2.1 h21 hp3 h43))
  refine mr_iconst (pc := 19) (z := (-1)) dX12_demand_19 ?_
  exact mr_iret dX12_demand_20 rfl (le_t rfl) (le_t rfl) hT mF.refl ⟨(rW (c := (-2147483648)) (d := 2147483647) (rR (x := (-1))) rfl), trivial⟩
end
section
theorem vc_X12_differ_7 {p2 z1 z20 : Int} (h0 : ¬ z20 = 0) (h1 : (z20 = 1 → 0 ≤ p2 ∧ p2 < z1)) (h2 : (z20 = 0 → p2 < 0 ∨ z1 ≤ p2)) (h3 : (-2147483648) ≤ p2 ∧ p2 ≤ 2147483647) (h4 : 1 ≤ z1 ∧ z1 ≤ 10) (h5 : 0 ≤ z20 ∧ z20 ≤ 1) : 1 ≤ z20 ∧ z20 ≤ 1 := by omega
theorem vc_X12_differ_8 {p1 p2 z1 z20 z8 : Int} (h0 : (z20 = 1 → 0 ≤ p2 ∧ p2 < z1)) (h1 : (z20 = 0 → p2 < 0 ∨ z1 ≤ p2)) (h2 : ¬ z20 = 0) (h3 : (z8 = 1 → 0 ≤ p1 ∧ p1 < z1)) (h4 : (z8 = 0 → p1 < 0 ∨ z1 ≤ p1)) (h5 : 0 ≤ p1 ∧ p1 < z1) (h6 : 0 ≤ p1 ∧ p1 ≤ 9) (h7 : (-2147483648) ≤ p2 ∧ p2 ≤ 2147483647) (h8 : 1 ≤ z1 ∧ z1 ≤ 10) (h9 : 1 ≤ z20 ∧ z20 ≤ 1) (h10 : 1 ≤ z8 ∧ z8 ≤ 1) : z20 = 1 := by omega
theorem vc_X12_differ_9 {p1 p2 z1 z20 z8 : Int} (h0 : 0 ≤ p2 ∧ p2 < z1) (h1 : (z8 = 1 → 0 ≤ p1 ∧ p1 < z1)) (h2 : (z8 = 0 → p1 < 0 ∨ z1 ≤ p1)) (h3 : 0 ≤ p1 ∧ p1 < z1) (h4 : (z20 = 1 → 0 ≤ p2 ∧ p2 < z1)) (h5 : (z20 = 0 → p2 < 0 ∨ z1 ≤ p2)) (h6 : 0 ≤ p1 ∧ p1 ≤ 9) (h7 : (-2147483648) ≤ p2 ∧ p2 ≤ 2147483647) (h8 : 1 ≤ z1 ∧ z1 ≤ 10) (h9 : 1 ≤ z20 ∧ z20 ≤ 1) (h10 : 1 ≤ z8 ∧ z8 ≤ 1) : 0 ≤ p2 ∧ p2 ≤ 9 := by omega
theorem vc_X12_differ_10 {z5066 z5067 : Int} (h0 : (23 - z5067) < ((0 : Nat) : Int)) (h1 : z5067 = 2 * z5066 + 2) (h2 : 0 ≤ z5066 ∧ z5066 ≤ 10) (h3 : 2 ≤ z5067 ∧ z5067 ≤ 22) : False := by omega
theorem vc_X12_differ_11 {z7051 : Int} (h0 : (23 - z7051) < ((0 : Nat) : Int)) (h1 : 1 ≤ z7051 ∧ z7051 ≤ 22) : False := by omega
theorem vc_X12_differ_12 {z5066 z5067 z7051 : Int} (h0 : z5067 ≤ z7051) (h1 : z5067 = 2 * z5066 + 2) (h2 : 0 ≤ z5066 ∧ z5066 ≤ 10) (h3 : 2 ≤ z5067 ∧ z5067 ≤ 22) (h4 : 1 ≤ z7051 ∧ z7051 ≤ 22) : 2 ≤ z7051 ∧ z7051 ≤ 22 := by omega
theorem vc_X12_differ_13 {z7709 : Int} (h0 : (22 - z7709) < ((0 : Nat) : Int)) (h1 : 0 ≤ z7709 ∧ z7709 ≤ 21) : False := by omega
theorem vc_X12_differ_14 {z5066 z5067 z7051 z7709 : Int} (h0 : z5067 ≤ (z7709 + 1)) (h1 : z5067 = 2 * z5066 + 2) (h2 : z5067 ≤ z7051) (h3 : 0 ≤ z5066 ∧ z5066 ≤ 10) (h4 : 2 ≤ z5067 ∧ z5067 ≤ 22) (h5 : 2 ≤ z7051 ∧ z7051 ≤ 22) (h6 : 0 ≤ z7709 ∧ z7709 ≤ 21) : 1 ≤ z7709 ∧ z7709 ≤ 21 := by omega
theorem vc_X12_differ_15 {z5066 z5067 z7051 z7709 : Int} (h0 : (z7709 + 1) < z5067) (h1 : z5067 = 2 * z5066 + 2) (h2 : z5067 ≤ z7051) (h3 : 0 ≤ z5066 ∧ z5066 ≤ 10) (h4 : 2 ≤ z5067 ∧ z5067 ≤ 22) (h5 : 2 ≤ z7051 ∧ z7051 ≤ 22) (h6 : 0 ≤ z7709 ∧ z7709 ≤ 21) : 0 ≤ z7709 ∧ z7709 ≤ 20 := by omega
theorem vc_X12_differ_17 {N z5066 z5067 z7051 z7709 : Int} (h0 : (22 - z7709) < N + 1) (h1 : (z7709 + 1) < z5067) (h2 : z5067 = 2 * z5066 + 2) (h3 : z5067 ≤ z7051) (h4 : 0 ≤ z5066 ∧ z5066 ≤ 10) (h5 : 2 ≤ z5067 ∧ z5067 ≤ 22) (h6 : 2 ≤ z7051 ∧ z7051 ≤ 22) (h7 : 0 ≤ z7709 ∧ z7709 ≤ 20) : (22 - (z7709 + 1)) < N := by omega
theorem vc_X12_differ_19 {z7834 : Int} (h0 : z7834 < 0) (h1 : z7834 = -99999999 ∨ z7834 = -4 ∨ (0 ≤ z7834 ∧ z7834 ≤ 19)) (h2 : (-99999999) ≤ z7834 ∧ z7834 ≤ 19) : (-99999999) ≤ z7834 ∧ z7834 ≤ (-4) := by omega
theorem vc_X12_differ_20 {z7834 z7842 : Int} (h0 : z7834 = z7842) (h1 : z7834 = -99999999 ∨ z7834 = -4 ∨ (0 ≤ z7834 ∧ z7834 ≤ 19)) (h2 : z7842 = -99999999 ∨ z7842 = -4 ∨ (0 ≤ z7842 ∧ z7842 ≤ 19)) (h3 : z7834 < 0) (h4 : (-99999999) ≤ z7834 ∧ z7834 ≤ (-4)) (h5 : (-99999999) ≤ z7842 ∧ z7842 ≤ 19) : (-99999999) ≤ z7842 ∧ z7842 ≤ (-4) := by omega
theorem vc_X12_differ_21 {z7834 : Int} (h0 : 0 ≤ z7834) (h1 : z7834 = -99999999 ∨ z7834 = -4 ∨ (0 ≤ z7834 ∧ z7834 ≤ 19)) (h2 : (-99999999) ≤ z7834 ∧ z7834 ≤ 19) : 0 ≤ z7834 ∧ z7834 ≤ 19 := by omega
theorem vc_X12_differ_24 {z7834 z7842 : Int} (h0 : z7834 = z7842) (h1 : 0 ≤ z7834 ∧ z7834 ≤ 19) (h2 : z7834 = -99999999 ∨ z7834 = -4 ∨ (0 ≤ z7834 ∧ z7834 ≤ 19)) (h3 : (-99999999) ≤ z7842 ∧ z7842 ≤ (-4)) (h4 : z7842 = -99999999 ∨ z7842 = -4 ∨ (0 ≤ z7842 ∧ z7842 ≤ 19)) : False := by omega
theorem vc_X12_differ_26  : (22 - 0) < ((23 : Nat) : Int) := by omega
theorem vc_X12_differ_27 {z5066 z5067 z7051 : Int} (h0 : z7051 < z5067) (h1 : z5067 = 2 * z5066 + 2) (h2 : 0 ≤ z5066 ∧ z5066 ≤ 10) (h3 : 2 ≤ z5067 ∧ z5067 ≤ 22) (h4 : 1 ≤ z7051 ∧ z7051 ≤ 22) : 1 ≤ z7051 ∧ z7051 ≤ 21 := by omega
theorem vc_X12_differ_28 {z7960 : Int} (h0 : (z7960 - (-1)) < ((0 : Nat) : Int)) (h1 : 0 ≤ z7960 ∧ z7960 ≤ 21) : False := by omega
theorem vc_X12_differ_29 {z7960 : Int} (h0 : z7960 ≤ 0) (h1 : 0 ≤ z7960 ∧ z7960 ≤ 21) : 0 ≤ z7960 ∧ z7960 ≤ 0 := by omega
theorem vc_X12_differ_30 {N z5066 z5067 z7051 : Int} (h0 : (23 - z7051) < N + 1) (h1 : z7051 < z5067) (h2 : z5067 = 2 * z5066 + 2) (h3 : 0 ≤ z5066 ∧ z5066 ≤ 10) (h4 : 2 ≤ z5067 ∧ z5067 ≤ 22) (h5 : 1 ≤ z7051 ∧ z7051 ≤ 21) : (23 - (z7051 + 1)) < N := by omega
theorem vc_X12_differ_31 {z7960 : Int} (h0 : 0 < z7960) (h1 : 0 ≤ z7960 ∧ z7960 ≤ 21) : 1 ≤ z7960 ∧ z7960 ≤ 21 := by omega
theorem vc_X12_differ_32 {z7997 : Int} (h0 : 0 ≤ z7997) (h1 : (-1) ≤ z7997 ∧ z7997 ≤ 1) : 0 ≤ z7997 ∧ z7997 ≤ 1 := by omega
theorem vc_X12_differ_33 {z7997 : Int} (h0 : z7997 < 0) (h1 : (-1) ≤ z7997 ∧ z7997 ≤ 1) : (-1) ≤ z7997 ∧ z7997 ≤ (-1) := by omega
theorem vc_X12_differ_34 {N z7960 : Int} (h0 : (z7960 - (-1)) < N + 1) (h1 : 0 < z7960) (h2 : 1 ≤ z7960 ∧ z7960 ≤ 21) : ((z7960 + (-1)) - (-1)) < N := by omega
theorem vc_X12_differ_35 {z5066 z5067 z7051 : Int} (h0 : z7051 < z5067) (h1 : z5067 = 2 * z5066 + 2) (h2 : 0 ≤ z5066 ∧ z5066 ≤ 10) (h3 : 2 ≤ z5067 ∧ z5067 ≤ 22) (h4 : 1 ≤ z7051 ∧ z7051 ≤ 21) : (z7051 - (-1)) < ((23 : Nat) : Int) := by omega
theorem vc_X12_differ_36  : (23 - 1) < ((23 : Nat) : Int) := by omega
theorem vc_X12_differ_37 {z5066 z5067 z5078 : Int} (h0 : z5066 < z5078) (h1 : z5067 = 2 * z5066 + 2) (h2 : 0 ≤ z5066 ∧ z5066 ≤ 10) (h3 : 2 ≤ z5067 ∧ z5067 ≤ 22) (h4 : 0 ≤ z5078 ∧ z5078 ≤ 10) : 0 ≤ z5066 ∧ z5066 ≤ 9 := by omega
theorem vc_X12_differ_38 {z5066 z5067 z5078 : Int} (h0 : z5066 < z5078) (h1 : z5067 = 2 * z5066 + 2) (h2 : 0 ≤ z5066 ∧ z5066 ≤ 9) (h3 : 2 ≤ z5067 ∧ z5067 ≤ 22) (h4 : 0 ≤ z5078 ∧ z5078 ≤ 10) : 1 ≤ z5078 ∧ z5078 ≤ 10 := by omega
theorem vc_X12_differ_39 {z5066 z5067 z5078 : Int} (h0 : z5067 = 2 * z5066 + 2) (h1 : z5066 < z5078) (h2 : 0 ≤ z5066 ∧ z5066 ≤ 9) (h3 : 2 ≤ z5067 ∧ z5067 ≤ 22) (h4 : 1 ≤ z5078 ∧ z5078 ≤ 10) : 2 ≤ ((z5067 + 1) + 1) ∧ ((z5067 + 1) + 1) ≤ 22 := by omega
theorem vc_X12_differ_40 {z5066 z5067 z5078 : Int} (h0 : z5067 = 2 * z5066 + 2) (h1 : z5066 < z5078) (h2 : 0 ≤ z5066 ∧ z5066 ≤ 9) (h3 : 2 ≤ z5067 ∧ z5067 ≤ 22) (h4 : 1 ≤ z5078 ∧ z5078 ≤ 10) : ((z5067 + 1) + 1) = 2 * (z5066 + 1) + 2 := by omega
theorem vc_X12_differ_41 {N z5066 z5067 z5078 : Int} (h0 : (23 - z5067) < N + 1) (h1 : z5067 = 2 * z5066 + 2) (h2 : z5066 < z5078) (h3 : 0 ≤ z5066 ∧ z5066 ≤ 9) (h4 : 2 ≤ z5067 ∧ z5067 ≤ 22) (h5 : 1 ≤ z5078 ∧ z5078 ≤ 10) : (23 - ((z5067 + 1) + 1)) < N := by omega
theorem vc_X12_differ_42  : ((2 : Int) : Int) = (2 : Int) * ((0 : Int) : Int) + (2 : Int) := by omega
theorem vc_X12_differ_43  : (23 - 2) < ((22 : Nat) : Int) := by omega
theorem vc_X12_differ_44 {p2 z1 z20 : Int} (h0 : z20 = 0) (h1 : (z20 = 1 → 0 ≤ p2 ∧ p2 < z1)) (h2 : (z20 = 0 → p2 < 0 ∨ z1 ≤ p2)) (h3 : (-2147483648) ≤ p2 ∧ p2 ≤ 2147483647) (h4 : 1 ≤ z1 ∧ z1 ≤ 10) (h5 : 0 ≤ z20 ∧ z20 ≤ 1) : 0 ≤ z20 ∧ z20 ≤ 0 := by omega
theorem vc_X12_differ_45 {p1 p2 z1 z20 z8 : Int} (h0 : (z20 = 1 → 0 ≤ p2 ∧ p2 < z1)) (h1 : (z20 = 0 → p2 < 0 ∨ z1 ≤ p2)) (h2 : z20 = 0) (h3 : (z8 = 1 → 0 ≤ p1 ∧ p1 < z1)) (h4 : (z8 = 0 → p1 < 0 ∨ z1 ≤ p1)) (h5 : 0 ≤ p1 ∧ p1 < z1) (h6 : 0 ≤ p1 ∧ p1 ≤ 9) (h7 : (-2147483648) ≤ p2 ∧ p2 ≤ 2147483647) (h8 : 1 ≤ z1 ∧ z1 ≤ 10) (h9 : 0 ≤ z20 ∧ z20 ≤ 0) (h10 : 1 ≤ z8 ∧ z8 ≤ 1) : z20 = 0 := by omega
set_option maxRecDepth 4000 in
set_option maxHeartbeats 4000000 in
theorem c_X12_differ {l : Launch} {D : va_G} {c : Nat → ClassId} {H0 : Heap} {sa : Nat × Nat × (Nat → Int32)} {w : mW} {μ : mM} (hw : mWF w) (hT : mT w μ) {p1 : Int} (hp1 : (-2147483648) ≤ p1 ∧ p1 ≤ 2147483647) {p2 : Int} (hp2 : (-2147483648) ≤ p2 ∧ p2 ≤ 2147483647) : sC (gG l D c H0 sa) mX12_differ 4 0 0 [.ref 106, iv p1, iv p2] (mk w μ) (qJ w [183999] μ (fun z μ1 => ((-9223372036854775808) ≤ z ∧ z ≤ 9223372036854775807) ∧ True)) := by
  refine sC.of rfl (by decide) (le_t rfl) ?_
  refine mr_lvE (lv' := [(0, .ref 106), (1, iv p1), (2, iv p2)]) rfl ?_
  refine sv_aload_n (pc := 0) dX12_differ_0 rfl rfl ?_
  refine mr_iload_n (pc := 1) (z := p1) dX12_differ_1 rfl rfl ?_
  obtain ⟨z1, q2⟩ : ∃ z, μ 106 5 = z := ⟨_, rfl⟩
  have h3 : (0 ≤ z1 ∧ z1 ≤ 10) := by rw [← q2]; exact hT 106 106 (A_106 hw) 5
  refine mr_cVP (pc := 2) (c_X12_isDomain hw hT hp1 q2) (gOk _ _ _ _ _) dX12_differ_2 (tX12_isDomain _ _ _ _ _) ⟨wV_X12_isDomain, wL_X12_isDomain⟩ wM_X12_49 (gCX12 _ _ _ _ _) rfl (A_106 hw) rfl ⟨le_t rfl, le_t rfl⟩ ⟨le_t rfl, le_t rfl⟩ rfl (le_t rfl) fun z8 h7 => ?_
  refine mr_if_eq (pc := 5) (tgt := 16) dX12_differ_5 (by decide) (r32 h7.1 rfl) (fun h9 => ?_) (fun h9 => ?_)
  · have h10 : 0 ≤ z8 ∧ z8 ≤ 0 := (vc_X12_write_78 h9 h7.2.1 h7.2.2.1 hp1 h3 h7.1)
    have h11 : p1 < 0 ∨ z1 ≤ p1 := (h7.2.2.1 (vc_X12_write_79 h7.2.1 h7.2.2.1 h9 hp1 h3 h10))
    refine mr_ldc2 (pc := 16) (z := (-1)) dX12_differ_16 wH_X12_710 (by decide) ?_
    exact mr_lret dX12_differ_19 rfl (le_t rfl) (le_t rfl) hT mF.refl ⟨(rW (c := -9223372036854775808) (d := 9223372036854775807) (rR (x := (-1))) rfl), trivial⟩
  have h12 : 1 ≤ z8 ∧ z8 ≤ 1 := (vc_X12_write_12 h9 h7.2.1 h7.2.2.1 hp1 h3 h7.1)
  have h13 : 0 ≤ p1 ∧ p1 < z1 := (h7.2.1 (vc_X12_write_13 h7.2.1 h7.2.2.1 h9 hp1 h3 h12))
  have h14 : 0 ≤ p1 ∧ p1 ≤ 9 := (vc_X12_write_14 h13 h7.2.1 h7.2.2.1 hp1 h3 h12)
  have h15 : 1 ≤ z1 ∧ z1 ≤ 10 := (vc_X12_write_15 h13 h7.2.1 h7.2.2.1 h14 h3 h12)
  refine sv_aload_n (pc := 8) dX12_differ_8 rfl rfl ?_
  refine mr_iload_n (pc := 9) (z := p2) dX12_differ_9 rfl rfl ?_
  refine mr_cVP (pc := 10) (c_X12_isDomain hw hT hp2 q2) (gOk _ _ _ _ _) dX12_differ_10 (tX12_isDomain _ _ _ _ _) ⟨wV_X12_isDomain, wL_X12_isDomain⟩ wM_X12_49 (gCX12 _ _ _ _ _) rfl (A_106 hw) rfl ⟨le_t rfl, le_t rfl⟩ ⟨le_t rfl, le_t rfl⟩ rfl (le_t rfl) fun z20 h19 => ?_
  refine mr_if_ne (pc := 13) (tgt := 20) dX12_differ_13 (by decide) (r32 h19.1 rfl) (fun h21 => ?_) (fun h21 => ?_)
  · have h22 : 1 ≤ z20 ∧ z20 ≤ 1 := (vc_X12_differ_7 h21 h19.2.1 h19.2.2.1 hp2 h15 h19.1)
    have h23 : 0 ≤ p2 ∧ p2 < z1 := (h19.2.1 (vc_X12_differ_8 h19.2.1 h19.2.2.1 h21 h7.2.1 h7.2.2.1 h13 h14 hp2 h15 h22 h12))
    have h24 : 0 ≤ p2 ∧ p2 ≤ 9 := (vc_X12_differ_9 h23 h7.2.1 h7.2.2.1 h13 h19.2.1 h19.2.2.1 h14 hp2 h15 h22 h12)
    refine mr_iconst (pc := 20) (z := 0) dX12_differ_20 ?_
    refine mr_istore_n (pc := 21) (lv' := [(3, iv 0), (0, .ref 106), (1, iv p1), (2, iv p2)]) dX12_differ_21 rfl (by decide) rfl ?_
    refine sv_aload_n (pc := 22) dX12_differ_22 rfl rfl ?_
    refine gf_X12_117 (pc := 23) dX12_differ_23 wF_X12_511 (A_106 hw) hT ?_
    refine mr_iload_n (pc := 26) (z := 0) dX12_differ_26 rfl rfl ?_
    refine mr_iinc (pc := 27) (lv' := [(3, iv 1), (0, .ref 106), (1, iv p1), (2, iv p2)]) dX12_differ_27 rfl (by decide) rfl ?_
    refine mr_lconst (pc := 30) (z := 0) dX12_differ_30 (by decide) ?_
    refine ss_183 (pc := 31) dX12_differ_31 (A_183 hw) hT (rIx (n := 24) (rR (x := 0)) rfl) (rW (c := -9223372036854775808) (d := 9223372036854775807) (rR (x := 0)) rfl) fun μ25 u26 T27 => ?_
    refine sv_aload_n (pc := 32) dX12_differ_32 rfl rfl ?_
    refine gf_X12_117 (pc := 33) dX12_differ_33 wF_X12_511 (A_106 hw) T27 ?_
    refine mr_iload_n (pc := 36) (z := 1) dX12_differ_36 rfl rfl ?_
    refine mr_iinc (pc := 37) (lv' := [(3, iv 2), (0, .ref 106), (1, iv p1), (2, iv p2)]) dX12_differ_37 rfl (by decide) rfl ?_
    refine mr_ldc2 (pc := 40) (z := 4294967296) dX12_differ_40 wH_X12_712 (by decide) ?_
    refine ss_183 (pc := 43) dX12_differ_43 (A_183 hw) T27 (rIx (n := 24) (rR (x := 1)) rfl) (rW (c := -9223372036854775808) (d := 9223372036854775807) (rR (x := 4294967296)) rfl) fun μ28 u29 T30 => ?_
    refine mr_iconst (pc := 44) (z := 0) dX12_differ_44 ?_
    refine mr_istore (pc := 45) (lv' := [(4, iv 0), (3, iv 2), (0, .ref 106), (1, iv p1), (2, iv p2)]) dX12_differ_45 (by decide) rfl ?_
    have L5069 : ∀ (nL5069 : Nat) (z5067 z5066 : Int) (μ5068 : mM), mT w μ5068 → mF [183999] w μ28 μ5068 → (2 ≤ z5067 ∧ z5067 ≤ 22) → (0 ≤ z5066 ∧ z5066 ≤ 10) → (z5067 = 2 * z5066 + 2) → (23 - z5067) < (nL5069 : Int) → sV (gG l D c H0 sa) mX12_differ (sRm 4 0 0) (sZ (gG l D c H0 sa) 0 0 (qJ w [183999] μ (fun z μ1 => ((-9223372036854775808) ≤ z ∧ z ≤ 9223372036854775807) ∧ True))) 47 [(0, .ref 106), (1, iv p1), (2, iv p2), (3, iv z5067), (4, iv z5066)] [] (mk w μ5068) 0 0 := by
      intro nL5069
      induction nL5069 with
      | zero => intro z5067 z5066 μ5068 T5072 F5073 h5070 h5071 h5075 h5076; exact ((vc_X12_differ_10 h5076 h5075 h5071 h5070)).elim
      | succ nL5069 ih5077 =>
        intro z5067 z5066 μ5068 T5072 F5073 h5070 h5071 h5075 h5076
        refine mr_iload (pc := 47) (z := z5066) dX12_differ_47 rfl ?_
        refine sv_aload_n (pc := 49) dX12_differ_49 rfl rfl ?_
        refine gf_X12_2 (pc := 50) dX12_differ_50 wF_X12_15 (A_106 hw) T5072 fun z5078 q5079 h5080 => ?_
        refine mr_icmp_ge (pc := 53) (tgt := 111) dX12_differ_53 (by decide) (r32 h5071 rfl) (r32 h5080 rfl) (fun h5107 => ?_) (fun h5107 => ?_)
        · refine mr_iconst (pc := 111) (z := 1) dX12_differ_111 ?_
          refine mr_istore (pc := 112) (lv' := [(4, iv 1), (0, .ref 106), (1, iv p1), (2, iv p2), (3, iv z5067)]) dX12_differ_112 (by decide) rfl ?_
          have L7053 : ∀ (nL7053 : Nat) (z7051 : Int) (μ7052 : mM), mT w μ7052 → mF [183999] w μ5068 μ7052 → (1 ≤ z7051 ∧ z7051 ≤ 22) → (23 - z7051) < (nL7053 : Int) → sV (gG l D c H0 sa) mX12_differ (sRm 4 0 0) (sZ (gG l D c H0 sa) 0 0 (qJ w [183999] μ (fun z μ1 => ((-9223372036854775808) ≤ z ∧ z ≤ 9223372036854775807) ∧ True))) 114 [(0, .ref 106), (1, iv p1), (2, iv p2), (3, iv z5067), (4, iv z7051)] [] (mk w μ7052) 0 0 := by
            intro nL7053
            induction nL7053 with
            | zero => intro z7051 μ7052 T7055 F7056 h7054 h7058; exact ((vc_X12_differ_11 h7058 h7054)).elim
            | succ nL7053 ih7059 =>
              intro z7051 μ7052 T7055 F7056 h7054 h7058
              refine mr_iload (pc := 114) (z := z7051) dX12_differ_114 rfl ?_
              refine mr_iload_n (pc := 116) (z := z5067) dX12_differ_116 rfl rfl ?_
              refine mr_icmp_ge (pc := 117) (tgt := 197) dX12_differ_117 (by decide) (r32 h7054 rfl) (r32 h5070 rfl) (fun h7104 => ?_) (fun h7104 => ?_)
              · have h7105 : 2 ≤ z7051 ∧ z7051 ≤ 22 := (vc_X12_differ_12 h7104 h5075 h5071 h5070 h7054)
                refine mr_lconst (pc := 197) (z := 0) dX12_differ_197 (by decide) ?_
                refine mr_lstore (pc := 198) (lv' := [(4, jv 0), (0, .ref 106), (1, iv p1), (2, iv p2), (3, iv z5067)]) dX12_differ_198 (by decide) rfl ?_
                refine mr_iconst (pc := 200) (z := 0) dX12_differ_200 ?_
                refine mr_istore (pc := 201) (lv' := [(6, iv 0), (4, jv 0), (0, .ref 106), (1, iv p1), (2, iv p2), (3, iv z5067)]) dX12_differ_201 (by decide) rfl ?_
                have L7711 : ∀ (nL7711 : Nat) (z7710 z7709 : Int), True → ((-9223372036854775808) ≤ z7710 ∧ z7710 ≤ 9223372036854775807) → (0 ≤ z7709 ∧ z7709 ≤ 21) → (22 - z7709) < (nL7711 : Int) → sV (gG l D c H0 sa) mX12_differ (sRm 4 0 0) (sZ (gG l D c H0 sa) 0 0 (qJ w [183999] μ (fun z μ1 => ((-9223372036854775808) ≤ z ∧ z ≤ 9223372036854775807) ∧ True))) 203 [(0, .ref 106), (1, iv p1), (2, iv p2), (3, iv z5067), (4, jv z7710), (6, iv z7709)] [] (mk w μ7052) 0 0 := by
                  intro nL7711
                  induction nL7711 with
                  | zero => intro z7710 z7709 _ h7712 h7713 h7717; exact ((vc_X12_differ_13 h7717 h7713)).elim
                  | succ nL7711 ih7718 =>
                    intro z7710 z7709 _ h7712 h7713 h7717
                    refine mr_iload (pc := 203) (z := z7709) dX12_differ_203 rfl ?_
                    refine mr_iconst (pc := 205) (z := 1) dX12_differ_205 ?_
                    refine mr_iadd (pc := 206) (x := z7709) (y := 1) dX12_differ_206 ?_
                    refine mr_iload_n (pc := 207) (z := z5067) dX12_differ_207 rfl rfl ?_
                    refine mr_icmp_ge (pc := 208) (tgt := 346) dX12_differ_208 (by decide) (r32 (rAdd (e := 1) (f := 22) h7713 (rR (x := 1)) rfl) rfl) (r32 h5070 rfl) (fun h7772 => ?_) (fun h7772 => ?_)
                    · have h7773 : 1 ≤ z7709 ∧ z7709 ≤ 21 := (vc_X12_differ_14 h7772 h5075 h7104 h5071 h5070 h7105 h7713)
                      refine mr_lload (pc := 346) (z := z7710) dX12_differ_346 rfl ?_
                      exact mr_lret dX12_differ_348 rfl (le_t rfl) (le_t rfl) T7055 (mF.call (mF.call (mF.up (mF.up mF.refl (A_183 hw) u26 rfl) (A_183 hw) u29 rfl) F5073 rfl) F7056 rfl) ⟨h7712, trivial⟩
                    have h7774 : 0 ≤ z7709 ∧ z7709 ≤ 20 := (vc_X12_differ_15 h7772 h5075 h7104 h5071 h5070 h7105 h7713)
                    refine sv_aload_n (pc := 211) dX12_differ_211 rfl rfl ?_
                    refine gf_X12_117 (pc := 212) dX12_differ_212 wF_X12_511 (A_106 hw) T7055 ?_
                    refine mr_iload (pc := 215) (z := z7709) dX12_differ_215 rfl ?_
                    refine la_183 (pc := 217) dX12_differ_217 (A_183 hw) T7055 (rIx (n := 24) h7774 rfl) fun z7775 q7776 h7777 => ?_
                    refine sv_aload_n (pc := 218) dX12_differ_218 rfl rfl ?_
                    refine gf_X12_117 (pc := 219) dX12_differ_219 wF_X12_511 (A_106 hw) T7055 ?_
                    refine mr_iload (pc := 222) (z := z7709) dX12_differ_222 rfl ?_
                    refine mr_iconst (pc := 224) (z := 1) dX12_differ_224 ?_
                    refine mr_iadd (pc := 225) (x := z7709) (y := 1) dX12_differ_225 ?_
                    refine la_183 (pc := 226) dX12_differ_226 (A_183 hw) T7055 (rIx (n := 24) (rAdd (e := 1) (f := 21) h7774 (rR (x := 1)) rfl) rfl) fun z7778 q7779 h7780 => ?_
                    refine mr_lcmp (pc := 227) dX12_differ_227 ?_
                    refine mr_gen (P := fun z => (-1) ≤ z ∧ z ≤ 1) (lg_cmp_r _ _) fun z7781 q7782 h7783 => ?_
                    refine mr_if_ne (pc := 228) (tgt := 234) dX12_differ_228 (by decide) (r32 h7783 rfl) (fun h7826 => ?_) (fun h7826 => ?_)
                    · refine sv_aload_n (pc := 234) dX12_differ_234 rfl rfl ?_
                      refine mr_iload_n (pc := 235) (z := p1) dX12_differ_235 rfl rfl ?_
                      refine sv_aload_n (pc := 236) dX12_differ_236 rfl rfl ?_
                      refine gf_X12_117 (pc := 237) dX12_differ_237 wF_X12_511 (A_106 hw) T7055 ?_
                      refine mr_iload (pc := 240) (z := z7709) dX12_differ_240 rfl ?_
                      refine lk_183 (pc := 242) dX12_differ_242 (A_183 hw) (rIx (n := 24) h7774 rfl) q7776 ?_
                      refine mr_l2i (pc := 243) dX12_differ_243 ?_
                      refine mr_gen (P := fun z => (-2147483648) ≤ z ∧ z ≤ 2147483647) (r32i _) fun z7827 q7828 h7829 => ?_
                      refine mr_cVP (pc := 244) (c_X12_sends hw T7055 h14 h7829) (gOk _ _ _ _ _) dX12_differ_244 (tX12_sends _ _ _ _ _) ⟨wV_X12_sends, wL_X12_sends⟩ wM_X12_686 (gCX12 _ _ _ _ _) rfl (A_106 hw) rfl ⟨le_t rfl, le_t rfl⟩ ⟨le_t rfl, le_t rfl⟩ rfl (le_t rfl) fun z7834 h7833 => ?_
                      refine mr_istore (pc := 247) (lv' := [(7, iv z7834), (0, .ref 106), (1, iv p1), (2, iv p2), (3, iv z5067), (4, jv z7710), (6, iv z7709)]) dX12_differ_247 (by decide) rfl ?_
                      refine sv_aload_n (pc := 249) dX12_differ_249 rfl rfl ?_
                      refine mr_iload_n (pc := 250) (z := p2) dX12_differ_250 rfl rfl ?_
                      refine sv_aload_n (pc := 251) dX12_differ_251 rfl rfl ?_
                      refine gf_X12_117 (pc := 252) dX12_differ_252 wF_X12_511 (A_106 hw) T7055 ?_
                      refine mr_iload (pc := 255) (z := z7709) dX12_differ_255 rfl ?_
                      refine lk_183 (pc := 257) dX12_differ_257 (A_183 hw) (rIx (n := 24) h7774 rfl) q7776 ?_
                      refine mr_l2i (pc := 258) dX12_differ_258 ?_
                      refine mr_gen (P := fun z => (-2147483648) ≤ z ∧ z ≤ 2147483647) (r32i _) fun z7835 q7836 h7837 => ?_
                      refine mr_cVP (pc := 259) (c_X12_sends hw T7055 h24 h7837) (gOk _ _ _ _ _) dX12_differ_259 (tX12_sends _ _ _ _ _) ⟨wV_X12_sends, wL_X12_sends⟩ wM_X12_686 (gCX12 _ _ _ _ _) rfl (A_106 hw) rfl ⟨le_t rfl, le_t rfl⟩ ⟨le_t rfl, le_t rfl⟩ rfl (le_t rfl) fun z7842 h7841 => ?_
                      refine mr_istore (pc := 262) (lv' := [(8, iv z7842), (7, iv z7834), (0, .ref 106), (1, iv p1), (2, iv p2), (3, iv z5067), (4, jv z7710), (6, iv z7709)]) dX12_differ_262 (by decide) rfl ?_
                      refine mr_iload (pc := 264) (z := z7834) dX12_differ_264 rfl ?_
                      have J7860 : ∀ (z7858 : Int), ((0 ≤ z7858 ∧ z7858 ≤ 1)) → sV (gG l D c H0 sa) mX12_differ (sRm 4 0 0) (sZ (gG l D c H0 sa) 0 0 (qJ w [183999] μ (fun z μ1 => ((-9223372036854775808) ≤ z ∧ z ≤ 9223372036854775807) ∧ True))) 311 [(0, .ref 106), (1, iv p1), (2, iv p2), (3, iv z5067), (4, jv z7710), (6, iv z7709)] [iv z7858] (mk w μ7052) 0 0 := by
                        intro z7858 h7859
                        refine mr_istore (pc := 311) (lv' := [(9, iv z7858), (0, .ref 106), (1, iv p1), (2, iv p2), (3, iv z5067), (4, jv z7710), (6, iv z7709)]) dX12_differ_311 (by decide) rfl ?_
                        refine mr_iload (pc := 313) (z := z7858) dX12_differ_313 rfl ?_
                        refine mr_if_ne (pc := 315) (tgt := 340) dX12_differ_315 (by decide) (r32 h7859 rfl) (fun h7869 => ?_) (fun h7869 => ?_)
                        · have h7870 : 1 ≤ z7858 ∧ z7858 ≤ 1 := (vc_X12_ring_24 h7869 h7859)
                          refine mr_iinc (pc := 340) (lv' := [(6, iv (z7709 + 1)), (9, iv z7858), (0, .ref 106), (1, iv p1), (2, iv p2), (3, iv z5067), (4, jv z7710)]) dX12_differ_340 rfl (by decide) rfl ?_
                          refine sv_goto (pc := 343) (tgt := 203) dX12_differ_343 (by decide) ?_
                          refine mr_lvS (lv' := [(0, .ref 106), (1, iv p1), (2, iv p2), (3, iv z5067), (4, jv z7710), (6, iv (z7709 + 1))]) (List.forall_mem_cons.mpr ⟨rfl, List.forall_mem_cons.mpr ⟨rfl, List.forall_mem_cons.mpr ⟨rfl, List.forall_mem_cons.mpr ⟨rfl, List.forall_mem_cons.mpr ⟨rfl, List.forall_mem_cons.mpr ⟨rfl, fun _ h => absurd h List.not_mem_nil⟩⟩⟩⟩⟩⟩) ?_
                          exact ih7718 z7710 (z7709 + 1) trivial h7712 (rW (c := 0) (d := 21) (rAdd (e := 1) (f := 21) h7774 (rR (x := 1)) rfl) rfl) (vc_X12_differ_17 (nS h7717) h7772 h5075 h7104 h5071 h5070 h7105 h7774)
                        have h7871 : 0 ≤ z7858 ∧ z7858 ≤ 0 := (vc_X12_ring_22 h7869 h7859)
                        refine mr_lload (pc := 318) (z := z7710) dX12_differ_318 rfl ?_
                        refine sv_aload_n (pc := 320) dX12_differ_320 rfl rfl ?_
                        refine gf_X12_117 (pc := 321) dX12_differ_321 wF_X12_511 (A_106 hw) T7055 ?_
                        refine mr_iload (pc := 324) (z := z7709) dX12_differ_324 rfl ?_
                        refine mr_iconst (pc := 326) (z := 1) dX12_differ_326 ?_
                        refine mr_iadd (pc := 327) (x := z7709) (y := 1) dX12_differ_327 ?_
                        refine lk_183 (pc := 328) dX12_differ_328 (A_183 hw) (rIx (n := 24) (rAdd (e := 1) (f := 21) h7774 (rR (x := 1)) rfl) rfl) q7779 ?_
                        refine sv_aload_n (pc := 329) dX12_differ_329 rfl rfl ?_
                        refine gf_X12_117 (pc := 330) dX12_differ_330 wF_X12_511 (A_106 hw) T7055 ?_
                        refine mr_iload (pc := 333) (z := z7709) dX12_differ_333 rfl ?_
                        refine lk_183 (pc := 335) dX12_differ_335 (A_183 hw) (rIx (n := 24) h7774 rfl) q7776 ?_
                        refine mr_lsub (pc := 336) dX12_differ_336 ?_
                        refine mr_genL (r64i _) fun z7872 q7873 h7874 => ?_
                        refine mr_ladd (pc := 337) dX12_differ_337 ?_
                        refine mr_genL (r64i _) fun z7875 q7876 h7877 => ?_
                        refine mr_lstore (pc := 338) (lv' := [(4, jv z7875), (9, iv z7858), (0, .ref 106), (1, iv p1), (2, iv p2), (3, iv z5067), (6, iv z7709)]) dX12_differ_338 (by decide) rfl ?_
                        refine mr_iinc (pc := 340) (lv' := [(6, iv (z7709 + 1)), (4, jv z7875), (9, iv z7858), (0, .ref 106), (1, iv p1), (2, iv p2), (3, iv z5067)]) dX12_differ_340 rfl (by decide) rfl ?_
                        refine sv_goto (pc := 343) (tgt := 203) dX12_differ_343 (by decide) ?_
                        refine mr_lvS (lv' := [(0, .ref 106), (1, iv p1), (2, iv p2), (3, iv z5067), (4, jv z7875), (6, iv (z7709 + 1))]) (List.forall_mem_cons.mpr ⟨rfl, List.forall_mem_cons.mpr ⟨rfl, List.forall_mem_cons.mpr ⟨rfl, List.forall_mem_cons.mpr ⟨rfl, List.forall_mem_cons.mpr ⟨rfl, List.forall_mem_cons.mpr ⟨rfl, fun _ h => absurd h List.not_mem_nil⟩⟩⟩⟩⟩⟩) ?_
                        exact ih7718 z7875 (z7709 + 1) trivial h7877 (rW (c := 0) (d := 21) (rAdd (e := 1) (f := 21) h7774 (rR (x := 1)) rfl) rfl) (vc_X12_differ_17 (nS h7717) h7772 h5075 h7104 h5071 h5070 h7105 h7774)
                      refine mr_if_lt (pc := 266) (tgt := 274) dX12_differ_266 (by decide) (r32 h7833.1 rfl) (fun h7878 => ?_) (fun h7878 => ?_)
                      · have h7879 : (-99999999) ≤ z7834 ∧ z7834 ≤ (-4) := (vc_X12_differ_19 h7878 h7833.2.1 h7833.1)
                        refine mr_iload (pc := 274) (z := z7834) dX12_differ_274 rfl ?_
                        refine mr_iload (pc := 276) (z := z7842) dX12_differ_276 rfl ?_
                        refine mr_icmp_ne (pc := 278) (tgt := 285) dX12_differ_278 (by decide) (r32 h7879 rfl) (r32 h7841.1 rfl) (fun h7880 => ?_) (fun h7880 => ?_)
                        · refine mr_iconst (pc := 285) (z := 0) dX12_differ_285 ?_
                          refine sv_goto (pc := 286) (tgt := 311) dX12_differ_286 (by decide) ?_
                          refine mr_lvS (lv' := [(0, .ref 106), (1, iv p1), (2, iv p2), (3, iv z5067), (4, jv z7710), (6, iv z7709)]) (List.forall_mem_cons.mpr ⟨rfl, List.forall_mem_cons.mpr ⟨rfl, List.forall_mem_cons.mpr ⟨rfl, List.forall_mem_cons.mpr ⟨rfl, List.forall_mem_cons.mpr ⟨rfl, List.forall_mem_cons.mpr ⟨rfl, fun _ h => absurd h List.not_mem_nil⟩⟩⟩⟩⟩⟩) ?_
                          exact J7860 0 (rW (c := 0) (d := 1) (rR (x := 0)) rfl)
                        have h7881 : (-99999999) ≤ z7842 ∧ z7842 ≤ (-4) := (vc_X12_differ_20 h7880 h7833.2.1 h7841.2.1 h7878 h7879 h7841.1)
                        refine mr_iconst (pc := 281) (z := 1) dX12_differ_281 ?_
                        refine sv_goto (pc := 282) (tgt := 311) dX12_differ_282 (by decide) ?_
                        refine mr_lvS (lv' := [(0, .ref 106), (1, iv p1), (2, iv p2), (3, iv z5067), (4, jv z7710), (6, iv z7709)]) (List.forall_mem_cons.mpr ⟨rfl, List.forall_mem_cons.mpr ⟨rfl, List.forall_mem_cons.mpr ⟨rfl, List.forall_mem_cons.mpr ⟨rfl, List.forall_mem_cons.mpr ⟨rfl, List.forall_mem_cons.mpr ⟨rfl, fun _ h => absurd h List.not_mem_nil⟩⟩⟩⟩⟩⟩) ?_
                        exact J7860 1 (rW (c := 0) (d := 1) (rR (x := 1)) rfl)
                      have h7882 : 0 ≤ z7834 ∧ z7834 ≤ 19 := (vc_X12_differ_21 h7878 h7833.2.1 h7833.1)
                      refine mr_iload (pc := 269) (z := z7842) dX12_differ_269 rfl ?_
                      refine mr_if_ge (pc := 271) (tgt := 289) dX12_differ_271 (by decide) (r32 h7841.1 rfl) (fun h7883 => ?_) (fun h7883 => ?_)
                      · have h7884 : 0 ≤ z7842 ∧ z7842 ≤ 19 := (vc_X12_differ_21 h7883 h7841.2.1 h7841.1)
                        refine sv_aload_n (pc := 289) dX12_differ_289 rfl rfl ?_
                        refine mr_iload (pc := 290) (z := z7834) dX12_differ_290 rfl ?_
                        refine mr_iload_n (pc := 292) (z := p1) dX12_differ_292 rfl rfl ?_
                        refine mr_cVP (pc := 293) (c_X12_partnerOf hw T7055 h7882 (rW (c := (-2147483648)) (d := 2147483647) h14 rfl)) (gOk _ _ _ _ _) dX12_differ_293 (tX12_partnerOf _ _ _ _ _) ⟨wV_X12_partnerOf, wL_X12_partnerOf⟩ wM_X12_553 (gCX12 _ _ _ _ _) rfl (A_106 hw) rfl ⟨le_t rfl, le_t rfl⟩ ⟨le_t rfl, le_t rfl⟩ rfl (le_t rfl) fun z7889 h7888 => ?_
                        refine sv_aload_n (pc := 296) dX12_differ_296 rfl rfl ?_
                        refine mr_iload (pc := 297) (z := z7842) dX12_differ_297 rfl ?_
                        refine mr_iload_n (pc := 299) (z := p2) dX12_differ_299 rfl rfl ?_
                        refine mr_cVP (pc := 300) (c_X12_partnerOf hw T7055 h7884 (rW (c := (-2147483648)) (d := 2147483647) h24 rfl)) (gOk _ _ _ _ _) dX12_differ_300 (tX12_partnerOf _ _ _ _ _) ⟨wV_X12_partnerOf, wL_X12_partnerOf⟩ wM_X12_553 (gCX12 _ _ _ _ _) rfl (A_106 hw) rfl ⟨le_t rfl, le_t rfl⟩ ⟨le_t rfl, le_t rfl⟩ rfl (le_t rfl) fun z7894 h7893 => ?_
                        refine mr_icmp_ne (pc := 303) (tgt := 310) dX12_differ_303 (by decide) (r32 h7888.1 rfl) (r32 h7893.1 rfl) (fun h7895 => ?_) (fun h7895 => ?_)
                        · refine mr_iconst (pc := 310) (z := 0) dX12_differ_310 ?_
                          refine mr_lvS (lv' := [(0, .ref 106), (1, iv p1), (2, iv p2), (3, iv z5067), (4, jv z7710), (6, iv z7709)]) (List.forall_mem_cons.mpr ⟨rfl, List.forall_mem_cons.mpr ⟨rfl, List.forall_mem_cons.mpr ⟨rfl, List.forall_mem_cons.mpr ⟨rfl, List.forall_mem_cons.mpr ⟨rfl, List.forall_mem_cons.mpr ⟨rfl, fun _ h => absurd h List.not_mem_nil⟩⟩⟩⟩⟩⟩) ?_
                          exact J7860 0 (rW (c := 0) (d := 1) (rR (x := 0)) rfl)
                        refine mr_iconst (pc := 306) (z := 1) dX12_differ_306 ?_
                        refine sv_goto (pc := 307) (tgt := 311) dX12_differ_307 (by decide) ?_
                        refine mr_lvS (lv' := [(0, .ref 106), (1, iv p1), (2, iv p2), (3, iv z5067), (4, jv z7710), (6, iv z7709)]) (List.forall_mem_cons.mpr ⟨rfl, List.forall_mem_cons.mpr ⟨rfl, List.forall_mem_cons.mpr ⟨rfl, List.forall_mem_cons.mpr ⟨rfl, List.forall_mem_cons.mpr ⟨rfl, List.forall_mem_cons.mpr ⟨rfl, fun _ h => absurd h List.not_mem_nil⟩⟩⟩⟩⟩⟩) ?_
                        exact J7860 1 (rW (c := 0) (d := 1) (rR (x := 1)) rfl)
                      have h7896 : (-99999999) ≤ z7842 ∧ z7842 ≤ (-4) := (vc_X12_differ_19 h7883 h7841.2.1 h7841.1)
                      refine mr_iload (pc := 274) (z := z7834) dX12_differ_274 rfl ?_
                      refine mr_iload (pc := 276) (z := z7842) dX12_differ_276 rfl ?_
                      refine mr_icmp_ne (pc := 278) (tgt := 285) dX12_differ_278 (by decide) (r32 h7882 rfl) (r32 h7896 rfl) (fun _ => ?_) (fun h => ((vc_X12_differ_24 h h7882 h7833.2.1 h7896 h7841.2.1)).elim)
                      refine mr_iconst (pc := 285) (z := 0) dX12_differ_285 ?_
                      refine sv_goto (pc := 286) (tgt := 311) dX12_differ_286 (by decide) ?_
                      refine mr_lvS (lv' := [(0, .ref 106), (1, iv p1), (2, iv p2), (3, iv z5067), (4, jv z7710), (6, iv z7709)]) (List.forall_mem_cons.mpr ⟨rfl, List.forall_mem_cons.mpr ⟨rfl, List.forall_mem_cons.mpr ⟨rfl, List.forall_mem_cons.mpr ⟨rfl, List.forall_mem_cons.mpr ⟨rfl, List.forall_mem_cons.mpr ⟨rfl, fun _ h => absurd h List.not_mem_nil⟩⟩⟩⟩⟩⟩) ?_
                      exact J7860 0 (rW (c := 0) (d := 1) (rR (x := 0)) rfl)
                    have h7897 : 0 ≤ z7781 ∧ z7781 ≤ 0 := (vc_X12_waysMatch_5 h7826 h7783)
                    refine sv_goto (pc := 231) (tgt := 340) dX12_differ_231 (by decide) ?_
                    refine mr_iinc (pc := 340) (lv' := [(6, iv (z7709 + 1)), (0, .ref 106), (1, iv p1), (2, iv p2), (3, iv z5067), (4, jv z7710)]) dX12_differ_340 rfl (by decide) rfl ?_
                    refine sv_goto (pc := 343) (tgt := 203) dX12_differ_343 (by decide) ?_
                    refine mr_lvS (lv' := [(0, .ref 106), (1, iv p1), (2, iv p2), (3, iv z5067), (4, jv z7710), (6, iv (z7709 + 1))]) (List.forall_mem_cons.mpr ⟨rfl, List.forall_mem_cons.mpr ⟨rfl, List.forall_mem_cons.mpr ⟨rfl, List.forall_mem_cons.mpr ⟨rfl, List.forall_mem_cons.mpr ⟨rfl, List.forall_mem_cons.mpr ⟨rfl, fun _ h => absurd h List.not_mem_nil⟩⟩⟩⟩⟩⟩) ?_
                    exact ih7718 z7710 (z7709 + 1) trivial h7712 (rW (c := 0) (d := 21) (rAdd (e := 1) (f := 21) h7774 (rR (x := 1)) rfl) rfl) (vc_X12_differ_17 (nS h7717) h7772 h5075 h7104 h5071 h5070 h7105 h7774)
                refine mr_lvS (lv' := [(0, .ref 106), (1, iv p1), (2, iv p2), (3, iv z5067), (4, jv 0), (6, iv 0)]) (List.forall_mem_cons.mpr ⟨rfl, List.forall_mem_cons.mpr ⟨rfl, List.forall_mem_cons.mpr ⟨rfl, List.forall_mem_cons.mpr ⟨rfl, List.forall_mem_cons.mpr ⟨rfl, List.forall_mem_cons.mpr ⟨rfl, fun _ h => absurd h List.not_mem_nil⟩⟩⟩⟩⟩⟩) ?_
                exact L7711 23 0 0 trivial (rW (c := -9223372036854775808) (d := 9223372036854775807) (rR (x := 0)) rfl) (rW (c := 0) (d := 21) (rR (x := 0)) rfl) vc_X12_differ_26
              have h7898 : 1 ≤ z7051 ∧ z7051 ≤ 21 := (vc_X12_differ_27 h7104 h5075 h5071 h5070 h7054)
              refine mr_iload (pc := 120) (z := z7051) dX12_differ_120 rfl ?_
              refine mr_istore (pc := 122) (lv' := [(5, iv z7051), (0, .ref 106), (1, iv p1), (2, iv p2), (3, iv z5067), (4, iv z7051)]) dX12_differ_122 (by decide) rfl ?_
              have L7962 : ∀ (nL7962 : Nat) (z7960 : Int) (μ7961 : mM), mT w μ7961 → mF [183999] w μ7052 μ7961 → (0 ≤ z7960 ∧ z7960 ≤ 21) → (z7960 - (-1)) < (nL7962 : Int) → sV (gG l D c H0 sa) mX12_differ (sRm 4 0 0) (sZ (gG l D c H0 sa) 0 0 (qJ w [183999] μ (fun z μ1 => ((-9223372036854775808) ≤ z ∧ z ≤ 9223372036854775807) ∧ True))) 124 [(0, .ref 106), (1, iv p1), (2, iv p2), (3, iv z5067), (4, iv z7051), (5, iv z7960)] [] (mk w μ7961) 0 0 := by
                intro nL7962
                induction nL7962 with
                | zero => intro z7960 μ7961 T7964 F7965 h7963 h7967; exact ((vc_X12_differ_28 h7967 h7963)).elim
                | succ nL7962 ih7968 =>
                  intro z7960 μ7961 T7964 F7965 h7963 h7967
                  refine mr_iload (pc := 124) (z := z7960) dX12_differ_124 rfl ?_
                  refine mr_if_le (pc := 126) (tgt := 191) dX12_differ_126 (by decide) (r32 h7963 rfl) (fun h7988 => ?_) (fun h7988 => ?_)
                  · have h7989 : 0 ≤ z7960 ∧ z7960 ≤ 0 := (vc_X12_differ_29 h7988 h7963)
                    refine mr_iinc (pc := 191) (lv' := [(4, iv (z7051 + 1)), (0, .ref 106), (1, iv p1), (2, iv p2), (3, iv z5067), (5, iv z7960)]) dX12_differ_191 rfl (by decide) rfl ?_
                    refine sv_goto (pc := 194) (tgt := 114) dX12_differ_194 (by decide) ?_
                    refine mr_lvS (lv' := [(0, .ref 106), (1, iv p1), (2, iv p2), (3, iv z5067), (4, iv (z7051 + 1))]) (List.forall_mem_cons.mpr ⟨rfl, List.forall_mem_cons.mpr ⟨rfl, List.forall_mem_cons.mpr ⟨rfl, List.forall_mem_cons.mpr ⟨rfl, List.forall_mem_cons.mpr ⟨rfl, fun _ h => absurd h List.not_mem_nil⟩⟩⟩⟩⟩) ?_
                    exact ih7059 (z7051 + 1) μ7961 T7964 (mF.call (mF.call mF.refl F7056 rfl) F7965 rfl) (rW (c := 1) (d := 22) (rAdd (e := 2) (f := 22) h7898 (rR (x := 1)) rfl) rfl) (vc_X12_differ_30 (nS h7058) h7104 h5075 h5071 h5070 h7898)
                  have h7990 : 1 ≤ z7960 ∧ z7960 ≤ 21 := (vc_X12_differ_31 h7988 h7963)
                  refine sv_aload_n (pc := 129) dX12_differ_129 rfl rfl ?_
                  refine gf_X12_117 (pc := 130) dX12_differ_130 wF_X12_511 (A_106 hw) T7964 ?_
                  refine mr_iload (pc := 133) (z := z7960) dX12_differ_133 rfl ?_
                  refine la_183 (pc := 135) dX12_differ_135 (A_183 hw) T7964 (rIx (n := 24) h7990 rfl) fun z7991 q7992 h7993 => ?_
                  refine sv_aload_n (pc := 136) dX12_differ_136 rfl rfl ?_
                  refine gf_X12_117 (pc := 137) dX12_differ_137 wF_X12_511 (A_106 hw) T7964 ?_
                  refine mr_iload (pc := 140) (z := z7960) dX12_differ_140 rfl ?_
                  refine mr_iconst (pc := 142) (z := 1) dX12_differ_142 ?_
                  refine mr_isub (pc := 143) (x := z7960) (y := 1) dX12_differ_143 ?_
                  refine la_183 (pc := 144) dX12_differ_144 (A_183 hw) T7964 (rIx (n := 24) (rSub (e := 0) (f := 20) h7990 (rR (x := 1)) rfl) rfl) fun z7994 q7995 h7996 => ?_
                  refine mr_lcmp (pc := 145) dX12_differ_145 ?_
                  refine mr_gen (P := fun z => (-1) ≤ z ∧ z ≤ 1) (lg_cmp_r _ _) fun z7997 q7998 h7999 => ?_
                  refine mr_if_ge (pc := 146) (tgt := 191) dX12_differ_146 (by decide) (r32 h7999 rfl) (fun h8008 => ?_) (fun h8008 => ?_)
                  · have h8009 : 0 ≤ z7997 ∧ z7997 ≤ 1 := (vc_X12_differ_32 h8008 h7999)
                    refine mr_iinc (pc := 191) (lv' := [(4, iv (z7051 + 1)), (0, .ref 106), (1, iv p1), (2, iv p2), (3, iv z5067), (5, iv z7960)]) dX12_differ_191 rfl (by decide) rfl ?_
                    refine sv_goto (pc := 194) (tgt := 114) dX12_differ_194 (by decide) ?_
                    refine mr_lvS (lv' := [(0, .ref 106), (1, iv p1), (2, iv p2), (3, iv z5067), (4, iv (z7051 + 1))]) (List.forall_mem_cons.mpr ⟨rfl, List.forall_mem_cons.mpr ⟨rfl, List.forall_mem_cons.mpr ⟨rfl, List.forall_mem_cons.mpr ⟨rfl, List.forall_mem_cons.mpr ⟨rfl, fun _ h => absurd h List.not_mem_nil⟩⟩⟩⟩⟩) ?_
                    exact ih7059 (z7051 + 1) μ7961 T7964 (mF.call (mF.call mF.refl F7056 rfl) F7965 rfl) (rW (c := 1) (d := 22) (rAdd (e := 2) (f := 22) h7898 (rR (x := 1)) rfl) rfl) (vc_X12_differ_30 (nS h7058) h7104 h5075 h5071 h5070 h7898)
                  have h8010 : (-1) ≤ z7997 ∧ z7997 ≤ (-1) := (vc_X12_differ_33 h8008 h7999)
                  refine sv_aload_n (pc := 149) dX12_differ_149 rfl rfl ?_
                  refine gf_X12_117 (pc := 150) dX12_differ_150 wF_X12_511 (A_106 hw) T7964 ?_
                  refine mr_iload (pc := 153) (z := z7960) dX12_differ_153 rfl ?_
                  refine lk_183 (pc := 155) dX12_differ_155 (A_183 hw) (rIx (n := 24) h7990 rfl) q7992 ?_
                  refine mr_lstore (pc := 156) (lv' := [(6, jv z7991), (0, .ref 106), (1, iv p1), (2, iv p2), (3, iv z5067), (4, iv z7051), (5, iv z7960)]) dX12_differ_156 (by decide) rfl ?_
                  refine sv_aload_n (pc := 158) dX12_differ_158 rfl rfl ?_
                  refine gf_X12_117 (pc := 159) dX12_differ_159 wF_X12_511 (A_106 hw) T7964 ?_
                  refine mr_iload (pc := 162) (z := z7960) dX12_differ_162 rfl ?_
                  refine sv_aload_n (pc := 164) dX12_differ_164 rfl rfl ?_
                  refine gf_X12_117 (pc := 165) dX12_differ_165 wF_X12_511 (A_106 hw) T7964 ?_
                  refine mr_iload (pc := 168) (z := z7960) dX12_differ_168 rfl ?_
                  refine mr_iconst (pc := 170) (z := 1) dX12_differ_170 ?_
                  refine mr_isub (pc := 171) (x := z7960) (y := 1) dX12_differ_171 ?_
                  refine lk_183 (pc := 172) dX12_differ_172 (A_183 hw) (rIx (n := 24) (rSub (e := 0) (f := 20) h7990 (rR (x := 1)) rfl) rfl) q7995 ?_
                  refine ss_183 (pc := 173) dX12_differ_173 (A_183 hw) T7964 (rIx (n := 24) h7990 rfl) h7996 fun μ8011 u8012 T8013 => ?_
                  refine sv_aload_n (pc := 174) dX12_differ_174 rfl rfl ?_
                  refine gf_X12_117 (pc := 175) dX12_differ_175 wF_X12_511 (A_106 hw) T8013 ?_
                  refine mr_iload (pc := 178) (z := z7960) dX12_differ_178 rfl ?_
                  refine mr_iconst (pc := 180) (z := 1) dX12_differ_180 ?_
                  refine mr_isub (pc := 181) (x := z7960) (y := 1) dX12_differ_181 ?_
                  refine mr_lload (pc := 182) (z := z7991) dX12_differ_182 rfl ?_
                  refine ss_183 (pc := 184) dX12_differ_184 (A_183 hw) T8013 (rIx (n := 24) (rSub (e := 0) (f := 20) h7990 (rR (x := 1)) rfl) rfl) h7993 fun μ8014 u8015 T8016 => ?_
                  refine mr_iinc (pc := 185) (lv' := [(5, iv (z7960 + (-1))), (6, jv z7991), (0, .ref 106), (1, iv p1), (2, iv p2), (3, iv z5067), (4, iv z7051)]) dX12_differ_185 rfl (by decide) rfl ?_
                  refine sv_goto (pc := 188) (tgt := 124) dX12_differ_188 (by decide) ?_
                  refine mr_lvS (lv' := [(0, .ref 106), (1, iv p1), (2, iv p2), (3, iv z5067), (4, iv z7051), (5, iv (z7960 + (-1)))]) (List.forall_mem_cons.mpr ⟨rfl, List.forall_mem_cons.mpr ⟨rfl, List.forall_mem_cons.mpr ⟨rfl, List.forall_mem_cons.mpr ⟨rfl, List.forall_mem_cons.mpr ⟨rfl, List.forall_mem_cons.mpr ⟨rfl, fun _ h => absurd h List.not_mem_nil⟩⟩⟩⟩⟩⟩) ?_
                  exact ih7968 (z7960 + (-1)) μ8014 T8016 (mF.up (mF.up (mF.call mF.refl F7965 rfl) (A_183 hw) u8012 rfl) (A_183 hw) u8015 rfl) (rW (c := 0) (d := 21) (rAdd (e := 0) (f := 20) h7990 (rR (x := (-1))) rfl) rfl) (vc_X12_differ_34 (nS h7967) h7988 h7990)
              refine mr_lvS (lv' := [(0, .ref 106), (1, iv p1), (2, iv p2), (3, iv z5067), (4, iv z7051), (5, iv z7051)]) (List.forall_mem_cons.mpr ⟨rfl, List.forall_mem_cons.mpr ⟨rfl, List.forall_mem_cons.mpr ⟨rfl, List.forall_mem_cons.mpr ⟨rfl, List.forall_mem_cons.mpr ⟨rfl, List.forall_mem_cons.mpr ⟨rfl, fun _ h => absurd h List.not_mem_nil⟩⟩⟩⟩⟩⟩) ?_
              exact L7962 23 z7051 μ7052 T7055 mF.refl (rW (c := 0) (d := 21) h7898 rfl) (vc_X12_differ_35 h7104 h5075 h5071 h5070 h7898)
          refine mr_lvS (lv' := [(0, .ref 106), (1, iv p1), (2, iv p2), (3, iv z5067), (4, iv 1)]) (List.forall_mem_cons.mpr ⟨rfl, List.forall_mem_cons.mpr ⟨rfl, List.forall_mem_cons.mpr ⟨rfl, List.forall_mem_cons.mpr ⟨rfl, List.forall_mem_cons.mpr ⟨rfl, fun _ h => absurd h List.not_mem_nil⟩⟩⟩⟩⟩) ?_
          exact L7053 23 1 μ5068 T5072 mF.refl (rW (c := 1) (d := 22) (rR (x := 1)) rfl) vc_X12_differ_36
        have h8017 : 0 ≤ z5066 ∧ z5066 ≤ 9 := (vc_X12_differ_37 h5107 h5075 h5071 h5070 h5080)
        have h8018 : 1 ≤ z5078 ∧ z5078 ≤ 10 := (vc_X12_differ_38 h5107 h5075 h8017 h5070 h5080)
        refine sv_aload_n (pc := 56) dX12_differ_56 rfl rfl ?_
        refine gf_X12_3 (pc := 57) dX12_differ_57 wF_X12_22 (A_106 hw) T5072 ?_
        refine mr_iload (pc := 60) (z := z5066) dX12_differ_60 rfl ?_
        refine la_108 (pc := 62) dX12_differ_62 (A_108 hw) T5072 (rIx (n := 10) h8017 rfl) fun z8019 q8020 h8021 => ?_
        refine mr_i2l (pc := 63) dX12_differ_63 h8021 ?_
        refine mr_genL (r3264 h8021) fun z8022 q8023 h8024 => ?_
        refine mr_ldc2 (pc := 64) (z := 4294967295) dX12_differ_64 wH_X12_714 (by decide) ?_
        refine mr_land (pc := 67) dX12_differ_67 ?_
        refine mr_genL (r64i _) fun z8025 q8026 h8027 => ?_
        refine mr_lstore (pc := 68) (lv' := [(5, jv z8025), (0, .ref 106), (1, iv p1), (2, iv p2), (3, iv z5067), (4, iv z5066)]) dX12_differ_68 (by decide) rfl ?_
        refine sv_aload_n (pc := 70) dX12_differ_70 rfl rfl ?_
        refine gf_X12_117 (pc := 71) dX12_differ_71 wF_X12_511 (A_106 hw) T5072 ?_
        refine mr_iload_n (pc := 74) (z := z5067) dX12_differ_74 rfl rfl ?_
        refine mr_iinc (pc := 75) (lv' := [(3, iv (z5067 + 1)), (5, jv z8025), (0, .ref 106), (1, iv p1), (2, iv p2), (4, iv z5066)]) dX12_differ_75 rfl (by decide) rfl ?_
        refine mr_lload (pc := 78) (z := z8025) dX12_differ_78 rfl ?_
        refine ss_183 (pc := 80) dX12_differ_80 (A_183 hw) T5072 (rIx (n := 24) h5070 rfl) h8027 fun μ8028 u8029 T8030 => ?_
        refine sv_aload_n (pc := 81) dX12_differ_81 rfl rfl ?_
        refine gf_X12_117 (pc := 82) dX12_differ_82 wF_X12_511 (A_106 hw) T8030 ?_
        refine mr_iload_n (pc := 85) (z := (z5067 + 1)) dX12_differ_85 rfl rfl ?_
        refine mr_iinc (pc := 86) (lv' := [(3, iv ((z5067 + 1) + 1)), (5, jv z8025), (0, .ref 106), (1, iv p1), (2, iv p2), (4, iv z5066)]) dX12_differ_86 rfl (by decide) rfl ?_
        refine mr_lload (pc := 89) (z := z8025) dX12_differ_89 rfl ?_
        refine mr_lconst (pc := 91) (z := 1) dX12_differ_91 (by decide) ?_
        refine mr_bipush (pc := 92) (z := 32) dX12_differ_92 (by decide) ?_
        refine sv_aload_n (pc := 94) dX12_differ_94 rfl rfl ?_
        refine gf_X12_4 (pc := 95) dX12_differ_95 wF_X12_26 (A_106 hw) T8030 ?_
        refine mr_iload (pc := 98) (z := z5066) dX12_differ_98 rfl ?_
        refine la_109 (pc := 100) dX12_differ_100 (A_109 hw) T8030 (rIx (n := 10) h8017 rfl) fun z8031 q8032 h8033 => ?_
        refine mr_isub (pc := 101) (x := 32) (y := z8031) dX12_differ_101 ?_
        refine mr_lshl (pc := 102) dX12_differ_102 ?_
        refine mr_genL (r64i _) fun z8034 q8035 h8036 => ?_
        refine mr_ladd (pc := 103) dX12_differ_103 ?_
        refine mr_genL (r64i _) fun z8037 q8038 h8039 => ?_
        refine ss_183 (pc := 104) dX12_differ_104 (A_183 hw) T8030 (rIx (n := 24) (rAdd (e := 3) (f := 23) h5070 (rR (x := 1)) rfl) rfl) h8039 fun μ8040 u8041 T8042 => ?_
        refine mr_iinc (pc := 105) (lv' := [(4, iv (z5066 + 1)), (3, iv ((z5067 + 1) + 1)), (5, jv z8025), (0, .ref 106), (1, iv p1), (2, iv p2)]) dX12_differ_105 rfl (by decide) rfl ?_
        refine sv_goto (pc := 108) (tgt := 47) dX12_differ_108 (by decide) ?_
        refine mr_lvS (lv' := [(0, .ref 106), (1, iv p1), (2, iv p2), (3, iv ((z5067 + 1) + 1)), (4, iv (z5066 + 1))]) (List.forall_mem_cons.mpr ⟨rfl, List.forall_mem_cons.mpr ⟨rfl, List.forall_mem_cons.mpr ⟨rfl, List.forall_mem_cons.mpr ⟨rfl, List.forall_mem_cons.mpr ⟨rfl, fun _ h => absurd h List.not_mem_nil⟩⟩⟩⟩⟩) ?_
        exact ih5077 ((z5067 + 1) + 1) (z5066 + 1) μ8040 T8042 (mF.up (mF.up (mF.call mF.refl F5073 rfl) (A_183 hw) u8029 rfl) (A_183 hw) u8041 rfl) (vc_X12_differ_39 h5075 h5107 h8017 h5070 h8018) (rW (c := 0) (d := 10) (rAdd (e := 1) (f := 10) h8017 (rR (x := 1)) rfl) rfl) (vc_X12_differ_40 h5075 h5107 h8017 h5070 h8018) (vc_X12_differ_41 (nS h5076) h5075 h5107 h8017 h5070 h8018)
    refine mr_lvS (lv' := [(0, .ref 106), (1, iv p1), (2, iv p2), (3, iv 2), (4, iv 0)]) (List.forall_mem_cons.mpr ⟨rfl, List.forall_mem_cons.mpr ⟨rfl, List.forall_mem_cons.mpr ⟨rfl, List.forall_mem_cons.mpr ⟨rfl, List.forall_mem_cons.mpr ⟨rfl, fun _ h => absurd h List.not_mem_nil⟩⟩⟩⟩⟩) ?_
    exact L5069 22 2 0 μ28 T30 mF.refl (rW (c := 2) (d := 22) (rR (x := 2)) rfl) (rW (c := 0) (d := 10) (rR (x := 0)) rfl) vc_X12_differ_42 vc_X12_differ_43
  have h8043 : 0 ≤ z20 ∧ z20 ≤ 0 := (vc_X12_differ_44 h21 h19.2.1 h19.2.2.1 hp2 h15 h19.1)
  have h8044 : p2 < 0 ∨ z1 ≤ p2 := (h19.2.2.1 (vc_X12_differ_45 h19.2.1 h19.2.2.1 h21 h7.2.1 h7.2.2.1 h13 h14 hp2 h15 h8043 h12))
  refine mr_ldc2 (pc := 16) (z := (-1)) dX12_differ_16 wH_X12_710 (by decide) ?_
  exact mr_lret dX12_differ_19 rfl (le_t rfl) (le_t rfl) hT mF.refl ⟨(rW (c := -9223372036854775808) (d := 9223372036854775807) (rR (x := (-1))) rfl), trivial⟩
theorem vc_X12_clear_1 {z87 : Int} (h0 : (8 - z87) < ((0 : Nat) : Int)) (h1 : 1 ≤ z87 ∧ z87 ≤ 7) : False := by omega
theorem vc_X12_clear_2 {z87 : Int} (h0 : 6 < z87) (h1 : 1 ≤ z87 ∧ z87 ≤ 7) : 7 ≤ z87 ∧ z87 ≤ 7 := by omega
theorem vc_X12_clear_3 {z87 : Int} (h0 : z87 ≤ 6) (h1 : 1 ≤ z87 ∧ z87 ≤ 7) : 1 ≤ z87 ∧ z87 ≤ 6 := by omega
theorem vc_X12_clear_4 {N z87 : Int} (h0 : (8 - z87) < N + 1) (h1 : z87 ≤ 6) (h2 : 1 ≤ z87 ∧ z87 ≤ 6) : (8 - (z87 + 1)) < N := by omega
theorem vc_X12_clear_5  : (8 - 1) < ((8 : Nat) : Int) := by omega
set_option maxRecDepth 4000 in
set_option maxHeartbeats 4000000 in
theorem c_X12_clear {l : Launch} {D : va_G} {c : Nat → ClassId} {H0 : Heap} {sa : Nat × Nat × (Nat → Int32)} {w : mW} {μ : mM} (hw : mWF w) (hT : mT w μ) : sC (gG l D c H0 sa) mX12_clear 1 0 0 [.ref 106] (mk w μ) (qI w [184999] μ (fun z μ1 => ((-2147483648) ≤ z ∧ z ≤ 2147483647) ∧ True)) := by
  refine sC.of rfl (by decide) (le_t rfl) ?_
  refine mr_lvE (lv' := [(0, .ref 106)]) rfl ?_
  refine mr_iconst (pc := 0) (z := 0) dX12_clear_0 ?_
  refine mr_istore_n (pc := 1) (lv' := [(1, iv 0), (0, .ref 106)]) dX12_clear_1 rfl (by decide) rfl ?_
  refine mr_iconst (pc := 2) (z := 1) dX12_clear_2 ?_
  refine mr_istore_n (pc := 3) (lv' := [(2, iv 1), (1, iv 0), (0, .ref 106)]) dX12_clear_3 rfl (by decide) rfl ?_
  have L90 : ∀ (nL90 : Nat) (z88 z87 : Int) (μ89 : mM), mT w μ89 → mF [184999] w μ μ89 → ((-2147483648) ≤ z88 ∧ z88 ≤ 2147483647) → (1 ≤ z87 ∧ z87 ≤ 7) → (8 - z87) < (nL90 : Int) → sV (gG l D c H0 sa) mX12_clear (sRm 1 0 0) (sZ (gG l D c H0 sa) 0 0 (qI w [184999] μ (fun z μ1 => ((-2147483648) ≤ z ∧ z ≤ 2147483647) ∧ True))) 4 [(0, .ref 106), (1, iv z88), (2, iv z87)] [] (mk w μ89) 0 0 := by
    intro nL90
    induction nL90 with
    | zero => intro z88 z87 μ89 T93 F94 h91 h92 h96; exact ((vc_X12_clear_1 h96 h92)).elim
    | succ nL90 ih97 =>
      intro z88 z87 μ89 T93 F94 h91 h92 h96
      refine mr_iload_n (pc := 4) (z := z87) dX12_clear_4 rfl rfl ?_
      refine mr_bipush (pc := 5) (z := 6) dX12_clear_5 (by decide) ?_
      refine mr_icmp_gt (pc := 7) (tgt := 32) dX12_clear_7 (by decide) (r32 h92 rfl) (r32 (rR (x := 6)) rfl) (fun h108 => ?_) (fun h108 => ?_)
      · have h109 : 7 ≤ z87 ∧ z87 ≤ 7 := (vc_X12_clear_2 h108 h92)
        refine mr_iload_n (pc := 32) (z := z88) dX12_clear_32 rfl rfl ?_
        exact mr_iret dX12_clear_33 rfl (le_t rfl) (le_t rfl) T93 (mF.call mF.refl F94 rfl) ⟨h91, trivial⟩
      have h110 : 1 ≤ z87 ∧ z87 ≤ 6 := (vc_X12_clear_3 h108 h92)
      refine mr_iload_n (pc := 10) (z := z88) dX12_clear_10 rfl rfl ?_
      refine sv_aload_n (pc := 11) dX12_clear_11 rfl rfl ?_
      refine gf_X12_118 (pc := 12) dX12_clear_12 wF_X12_514 (A_106 hw) T93 ?_
      refine mr_iload_n (pc := 15) (z := z87) dX12_clear_15 rfl rfl ?_
      refine la_184 (pc := 16) dX12_clear_16 (A_184 hw) T93 (rIx (n := 7) h110 rfl) fun z111 q112 h113 => ?_
      refine mr_iadd (pc := 17) (x := z88) (y := z111) dX12_clear_17 ?_
      refine mr_wrap fun z114 h115 => ?_
      refine mr_istore_n (pc := 18) (lv' := [(1, iv z114), (0, .ref 106), (2, iv z87)]) dX12_clear_18 rfl (by decide) rfl ?_
      refine sv_aload_n (pc := 19) dX12_clear_19 rfl rfl ?_
      refine gf_X12_118 (pc := 20) dX12_clear_20 wF_X12_514 (A_106 hw) T93 ?_
      refine mr_iload_n (pc := 23) (z := z87) dX12_clear_23 rfl rfl ?_
      refine mr_iconst (pc := 24) (z := 0) dX12_clear_24 ?_
      refine ss_184 (pc := 25) dX12_clear_25 (A_184 hw) T93 (rIx (n := 7) h110 rfl) (rW (c := 0) (d := 5) (rR (x := 0)) rfl) fun μ116 u117 T118 => ?_
      refine mr_iinc (pc := 26) (lv' := [(2, iv (z87 + 1)), (1, iv z114), (0, .ref 106)]) dX12_clear_26 rfl (by decide) rfl ?_
      refine sv_goto (pc := 29) (tgt := 4) dX12_clear_29 (by decide) ?_
      refine mr_lvS (lv' := [(0, .ref 106), (1, iv z114), (2, iv (z87 + 1))]) (List.forall_mem_cons.mpr ⟨rfl, List.forall_mem_cons.mpr ⟨rfl, List.forall_mem_cons.mpr ⟨rfl, fun _ h => absurd h List.not_mem_nil⟩⟩⟩) ?_
      exact ih97 z114 (z87 + 1) μ116 T118 (mF.up (mF.call mF.refl F94 rfl) (A_184 hw) u117 rfl) h115 (rW (c := 1) (d := 7) (rAdd (e := 2) (f := 7) h110 (rR (x := 1)) rfl) rfl) (vc_X12_clear_4 (nS h96) h108 h110)
  refine mr_lvS (lv' := [(0, .ref 106), (1, iv 0), (2, iv 1)]) (List.forall_mem_cons.mpr ⟨rfl, List.forall_mem_cons.mpr ⟨rfl, List.forall_mem_cons.mpr ⟨rfl, fun _ h => absurd h List.not_mem_nil⟩⟩⟩) ?_
  exact L90 8 0 1 μ hT mF.refl (rW (c := (-2147483648)) (d := 2147483647) (rR (x := 0)) rfl) (rW (c := 1) (d := 7) (rR (x := 1)) rfl) vc_X12_clear_5
theorem vc_X12_isWished_1 {f_hands : Int} (h0 : f_hands ≤ 7) (h1 : 0 ≤ f_hands ∧ f_hands ≤ 20) : 0 ≤ f_hands ∧ f_hands ≤ 7 := by omega
theorem vc_X12_isWished_2 {z283 : Int} (h0 : (8 - z283) < ((0 : Nat) : Int)) (h1 : 0 ≤ z283 ∧ z283 ≤ 7) : False := by omega
theorem vc_X12_isWished_3 {f_hands z283 : Int} (h0 : z283 < f_hands) (h1 : f_hands ≤ 7) (h2 : 0 ≤ f_hands ∧ f_hands ≤ 7) (h3 : 0 ≤ z283 ∧ z283 ≤ 7) : 0 ≤ z283 ∧ z283 ≤ 6 := by omega
theorem vc_X12_isWished_4 {f_hands z283 : Int} (h0 : z283 < f_hands) (h1 : f_hands ≤ 7) (h2 : 0 ≤ f_hands ∧ f_hands ≤ 7) (h3 : 0 ≤ z283 ∧ z283 ≤ 6) : 1 ≤ f_hands ∧ f_hands ≤ 7 := by omega
theorem vc_X12_isWished_7 {N f_hands z283 : Int} (h0 : (8 - z283) < N + 1) (h1 : z283 < f_hands) (h2 : f_hands ≤ 7) (h3 : 1 ≤ f_hands ∧ f_hands ≤ 7) (h4 : 0 ≤ z283 ∧ z283 ≤ 6) : (8 - (z283 + 1)) < N := by omega
theorem vc_X12_isWished_8 {z319 z322 : Int} (h0 : z319 = z322) (h1 : 0 ≤ z319 ∧ z319 ≤ 6) (h2 : 0 ≤ z322 ∧ z322 ≤ 9) : 0 ≤ z322 ∧ z322 ≤ 6 := by omega
theorem vc_X12_isWished_9  : (8 - 0) < ((9 : Nat) : Int) := by omega
set_option maxRecDepth 4000 in
set_option maxHeartbeats 4000000 in
theorem c_X12_isWished {l : Launch} {D : va_G} {c : Nat → ClassId} {H0 : Heap} {sa : Nat × Nat × (Nat → Int32)} {w : mW} {μ : mM} (hw : mWF w) (hT : mT w μ) {p1 : Int} (hp1 : 0 ≤ p1 ∧ p1 ≤ 6) {p2 : Int} (hp2 : 0 ≤ p2 ∧ p2 ≤ 4) {f_hands : Int} (q_f_hands : μ 106 15 = f_hands) (hq0 : f_hands ≤ 7) : sC (gG l D c H0 sa) mX12_isWished 1 0 0 [.ref 106, iv p1, iv p2] (mk w μ) (qP w μ (fun z => (0 ≤ z ∧ z ≤ 1) ∧ True)) := by
  refine sC.of rfl (by decide) (le_t rfl) ?_
  have ht_f_hands : (0 ≤ f_hands ∧ f_hands ≤ 20) := by rw [← q_f_hands]; exact hT 106 106 (A_106 hw) 15
  have h1 : 0 ≤ f_hands ∧ f_hands ≤ 7 := (vc_X12_isWished_1 hq0 ht_f_hands)
  refine mr_lvE (lv' := [(0, .ref 106), (1, iv p1), (2, iv p2)]) rfl ?_
  refine sv_aload_n (pc := 0) dX12_isWished_0 rfl rfl ?_
  refine gf_X12_119 (pc := 1) dX12_isWished_1 wF_X12_517 (A_106 hw) hT ?_
  refine mr_iconst (pc := 4) (z := 5) dX12_isWished_4 ?_
  refine mr_iload_n (pc := 5) (z := p1) dX12_isWished_5 rfl rfl ?_
  refine mr_imul (pc := 6) (x := 5) (y := p1) dX12_isWished_6 ?_
  refine mr_iload_n (pc := 7) (z := p2) dX12_isWished_7 rfl rfl ?_
  refine mr_iadd (pc := 8) (x := (5 * p1)) (y := p2) dX12_isWished_8 ?_
  refine la_185 (pc := 9) dX12_isWished_9 (A_185 hw) hT (rIx (n := 35) (rAdd (e := 0) (f := 34) (rMulL (n := 5) (e := 0) (f := 30) hp1 rfl) hp2 rfl) rfl) fun z173 q174 h175 => ?_
  refine sv_aload_n (pc := 10) dX12_isWished_10 rfl rfl ?_
  refine gk_X12_15 (pc := 11) dX12_isWished_11 wF_X12_79 (A_106 hw) q_f_hands ?_
  have J178 : ∀ (z176 : Int), ((0 ≤ z176 ∧ z176 ≤ 1)) → sV (gG l D c H0 sa) mX12_isWished (sRm 1 0 0) (sZ (gG l D c H0 sa) 0 0 (qP w μ (fun z => (0 ≤ z ∧ z ≤ 1) ∧ True))) 22 [(0, .ref 106), (1, iv p1), (2, iv p2)] [iv z176] (mk w μ) 0 0 := by
    intro z176 h177
    refine mr_istore_n (pc := 22) (lv' := [(3, iv z176), (0, .ref 106), (1, iv p1), (2, iv p2)]) dX12_isWished_22 rfl (by decide) rfl ?_
    refine mr_iconst (pc := 23) (z := 0) dX12_isWished_23 ?_
    refine mr_istore (pc := 24) (lv' := [(4, iv 0), (3, iv z176), (0, .ref 106), (1, iv p1), (2, iv p2)]) dX12_isWished_24 (by decide) rfl ?_
    have L285 : ∀ (nL285 : Nat) (z284 z283 : Int), True → (0 ≤ z284 ∧ z284 ≤ 1) → (0 ≤ z283 ∧ z283 ≤ 7) → (8 - z283) < (nL285 : Int) → sV (gG l D c H0 sa) mX12_isWished (sRm 1 0 0) (sZ (gG l D c H0 sa) 0 0 (qP w μ (fun z => (0 ≤ z ∧ z ≤ 1) ∧ True))) 26 [(0, .ref 106), (1, iv p1), (2, iv p2), (3, iv z284), (4, iv z283)] [] (mk w μ) 0 0 := by
      intro nL285
      induction nL285 with
      | zero => intro z284 z283 _ h286 h287 h291; exact ((vc_X12_isWished_2 h291 h287)).elim
      | succ nL285 ih292 =>
        intro z284 z283 _ h286 h287 h291
        refine mr_iload (pc := 26) (z := z283) dX12_isWished_26 rfl ?_
        refine sv_aload_n (pc := 28) dX12_isWished_28 rfl rfl ?_
        refine gk_X12_15 (pc := 29) dX12_isWished_29 wF_X12_79 (A_106 hw) q_f_hands ?_
        refine mr_icmp_ge (pc := 32) (tgt := 77) dX12_isWished_32 (by decide) (r32 h287 rfl) (r32 h1 rfl) (fun h304 => ?_) (fun h304 => ?_)
        · refine mr_iload_n (pc := 77) (z := z284) dX12_isWished_77 rfl rfl ?_
          exact mr_zretP dX12_isWished_78 rfl h286 (le_t rfl) (le_t rfl) ⟨h286, trivial⟩
        have h305 : 0 ≤ z283 ∧ z283 ≤ 6 := (vc_X12_isWished_3 h304 hq0 h1 h287)
        have h306 : 1 ≤ f_hands ∧ f_hands ≤ 7 := (vc_X12_isWished_4 h304 hq0 h1 h305)
        refine mr_iload_n (pc := 35) (z := z284) dX12_isWished_35 rfl rfl ?_
        refine mr_if_eq (pc := 36) (tgt := 77) dX12_isWished_36 (by decide) (r32 h286 rfl) (fun h316 => ?_) (fun h316 => ?_)
        · have h317 : 0 ≤ z284 ∧ z284 ≤ 0 := (vc_X12_ring_22 h316 h286)
          refine mr_iload_n (pc := 77) (z := z284) dX12_isWished_77 rfl rfl ?_
          exact mr_zretP dX12_isWished_78 rfl (rW (c := 0) (d := 1) h317 rfl) (le_t rfl) (le_t rfl) ⟨(rW (c := 0) (d := 1) h317 rfl), trivial⟩
        have h318 : 1 ≤ z284 ∧ z284 ≤ 1 := (vc_X12_ring_24 h316 h286)
        refine sv_aload_n (pc := 39) dX12_isWished_39 rfl rfl ?_
        refine gf_X12_120 (pc := 40) dX12_isWished_40 wF_X12_520 (A_106 hw) hT ?_
        refine mr_bipush (pc := 43) (z := 8) dX12_isWished_43 (by decide) ?_
        refine mr_iconst (pc := 45) (z := 5) dX12_isWished_45 ?_
        refine mr_iload_n (pc := 46) (z := p1) dX12_isWished_46 rfl rfl ?_
        refine mr_imul (pc := 47) (x := 5) (y := p1) dX12_isWished_47 ?_
        refine mr_iload_n (pc := 48) (z := p2) dX12_isWished_48 rfl rfl ?_
        refine mr_iadd (pc := 49) (x := (5 * p1)) (y := p2) dX12_isWished_49 ?_
        refine mr_imul (pc := 50) (x := 8) (y := ((5 * p1) + p2)) dX12_isWished_50 ?_
        refine mr_iload (pc := 51) (z := z283) dX12_isWished_51 rfl ?_
        refine mr_iadd (pc := 53) (x := (8 * ((5 * p1) + p2))) (y := z283) dX12_isWished_53 ?_
        refine la_186 (pc := 54) dX12_isWished_54 (A_186 hw) hT (rIx (n := 280) (rAdd (e := 0) (f := 278) (rMulL (n := 8) (e := 0) (f := 272) (rAdd (e := 0) (f := 34) (rMulL (n := 5) (e := 0) (f := 30) hp1 rfl) hp2 rfl) rfl) h305 rfl) rfl) fun z319 q320 h321 => ?_
        refine sv_aload_n (pc := 55) dX12_isWished_55 rfl rfl ?_
        refine gf_X12_16 (pc := 56) dX12_isWished_56 wF_X12_82 (A_106 hw) hT ?_
        refine mr_iload (pc := 59) (z := z283) dX12_isWished_59 rfl ?_
        refine la_118 (pc := 61) dX12_isWished_61 (A_118 hw) hT (rIx (n := 20) h305 rfl) fun z322 q323 h324 => ?_
        refine mr_icmp_ne (pc := 62) (tgt := 69) dX12_isWished_62 (by decide) (r32 h321 rfl) (r32 h324 rfl) (fun h326 => ?_) (fun h326 => ?_)
        · refine mr_iconst (pc := 69) (z := 0) dX12_isWished_69 ?_
          refine mr_istore_n (pc := 70) (lv' := [(3, iv 0), (0, .ref 106), (1, iv p1), (2, iv p2), (4, iv z283)]) dX12_isWished_70 rfl (by decide) rfl ?_
          refine mr_iinc (pc := 71) (lv' := [(4, iv (z283 + 1)), (3, iv 0), (0, .ref 106), (1, iv p1), (2, iv p2)]) dX12_isWished_71 rfl (by decide) rfl ?_
          refine sv_goto (pc := 74) (tgt := 26) dX12_isWished_74 (by decide) ?_
          refine mr_lvS (lv' := [(0, .ref 106), (1, iv p1), (2, iv p2), (3, iv 0), (4, iv (z283 + 1))]) (List.forall_mem_cons.mpr ⟨rfl, List.forall_mem_cons.mpr ⟨rfl, List.forall_mem_cons.mpr ⟨rfl, List.forall_mem_cons.mpr ⟨rfl, List.forall_mem_cons.mpr ⟨rfl, fun _ h => absurd h List.not_mem_nil⟩⟩⟩⟩⟩) ?_
          exact ih292 0 (z283 + 1) trivial (rW (c := 0) (d := 1) (rR (x := 0)) rfl) (rW (c := 0) (d := 7) (rAdd (e := 1) (f := 7) h305 (rR (x := 1)) rfl) rfl) (vc_X12_isWished_7 (nS h291) h304 hq0 h306 h305)
        have h327 : 0 ≤ z322 ∧ z322 ≤ 6 := (vc_X12_isWished_8 h326 h321 h324)
        refine mr_iconst (pc := 65) (z := 1) dX12_isWished_65 ?_
        refine sv_goto (pc := 66) (tgt := 70) dX12_isWished_66 (by decide) ?_
        refine mr_istore_n (pc := 70) (lv' := [(3, iv 1), (0, .ref 106), (1, iv p1), (2, iv p2), (4, iv z283)]) dX12_isWished_70 rfl (by decide) rfl ?_
        refine mr_iinc (pc := 71) (lv' := [(4, iv (z283 + 1)), (3, iv 1), (0, .ref 106), (1, iv p1), (2, iv p2)]) dX12_isWished_71 rfl (by decide) rfl ?_
        refine sv_goto (pc := 74) (tgt := 26) dX12_isWished_74 (by decide) ?_
        refine mr_lvS (lv' := [(0, .ref 106), (1, iv p1), (2, iv p2), (3, iv 1), (4, iv (z283 + 1))]) (List.forall_mem_cons.mpr ⟨rfl, List.forall_mem_cons.mpr ⟨rfl, List.forall_mem_cons.mpr ⟨rfl, List.forall_mem_cons.mpr ⟨rfl, List.forall_mem_cons.mpr ⟨rfl, fun _ h => absurd h List.not_mem_nil⟩⟩⟩⟩⟩) ?_
        exact ih292 1 (z283 + 1) trivial (rW (c := 0) (d := 1) (rR (x := 1)) rfl) (rW (c := 0) (d := 7) (rAdd (e := 1) (f := 7) h305 (rR (x := 1)) rfl) rfl) (vc_X12_isWished_7 (nS h291) h304 hq0 h306 h305)
    refine mr_lvS (lv' := [(0, .ref 106), (1, iv p1), (2, iv p2), (3, iv z176), (4, iv 0)]) (List.forall_mem_cons.mpr ⟨rfl, List.forall_mem_cons.mpr ⟨rfl, List.forall_mem_cons.mpr ⟨rfl, List.forall_mem_cons.mpr ⟨rfl, List.forall_mem_cons.mpr ⟨rfl, fun _ h => absurd h List.not_mem_nil⟩⟩⟩⟩⟩) ?_
    exact L285 9 z176 0 trivial h177 (rW (c := 0) (d := 7) (rR (x := 0)) rfl) vc_X12_isWished_9
  refine mr_icmp_ne (pc := 14) (tgt := 21) dX12_isWished_14 (by decide) (r32 h175 rfl) (r32 h1 rfl) (fun h328 => ?_) (fun h328 => ?_)
  · refine mr_iconst (pc := 21) (z := 0) dX12_isWished_21 ?_
    exact J178 0 (rW (c := 0) (d := 1) (rR (x := 0)) rfl)
  refine mr_iconst (pc := 17) (z := 1) dX12_isWished_17 ?_
  refine sv_goto (pc := 18) (tgt := 22) dX12_isWished_18 (by decide) ?_
  exact J178 1 (rW (c := 0) (d := 1) (rR (x := 1)) rfl)
theorem vc_X12_states_1 (h0 : (6 : Int) < (1 : Int)) : False := by omega
theorem vc_X12_states_2 (h0 : (5 : Int) < (1 : Int)) : False := by omega
theorem vc_X12_states_3 (h0 : (4 : Int) < (1 : Int)) : False := by omega
theorem vc_X12_states_4 (h0 : (3 : Int) < (1 : Int)) : False := by omega
theorem vc_X12_states_5 (h0 : (2 : Int) < (1 : Int)) : False := by omega
theorem vc_X12_states_6 (h0 : (1 : Int) < (1 : Int)) : False := by omega
theorem vc_X12_states_7 (h0 : (1 : Int) ≤ (0 : Int)) : False := by omega
theorem vc_X12_states_8  : (2 : Int).toNat ≠ (1 : Int).toNat := by omega
theorem vc_X12_states_9  : (3 : Int).toNat ≠ (2 : Int).toNat := by omega
theorem vc_X12_states_10  : (3 : Int).toNat ≠ (1 : Int).toNat := by omega
theorem vc_X12_states_11  : (4 : Int).toNat ≠ (3 : Int).toNat := by omega
theorem vc_X12_states_12  : (4 : Int).toNat ≠ (2 : Int).toNat := by omega
theorem vc_X12_states_13  : (4 : Int).toNat ≠ (1 : Int).toNat := by omega
theorem vc_X12_states_14  : (5 : Int).toNat ≠ (4 : Int).toNat := by omega
theorem vc_X12_states_15  : (5 : Int).toNat ≠ (3 : Int).toNat := by omega
theorem vc_X12_states_16  : (5 : Int).toNat ≠ (2 : Int).toNat := by omega
theorem vc_X12_states_17  : (5 : Int).toNat ≠ (1 : Int).toNat := by omega
theorem vc_X12_states_18  : (6 : Int).toNat ≠ (5 : Int).toNat := by omega
theorem vc_X12_states_19  : (6 : Int).toNat ≠ (4 : Int).toNat := by omega
theorem vc_X12_states_20  : (6 : Int).toNat ≠ (3 : Int).toNat := by omega
theorem vc_X12_states_21  : (6 : Int).toNat ≠ (2 : Int).toNat := by omega
theorem vc_X12_states_22  : (6 : Int).toNat ≠ (1 : Int).toNat := by omega
theorem vc_X12_states_23 {z40 : Int} (h0 : 1 ≤ z40 ∧ z40 ≤ 7776) : 1 ≤ z40 := by omega
theorem vc_X12_states_24 {z31 : Int} (h0 : 1 ≤ z31 ∧ z31 ≤ 1296) : 1 ≤ z31 := by omega
theorem vc_X12_states_25 {z22 : Int} (h0 : 1 ≤ z22 ∧ z22 ≤ 216) : 1 ≤ z22 := by omega
theorem vc_X12_states_26 {z13 : Int} (h0 : 1 ≤ z13 ∧ z13 ≤ 36) : 1 ≤ z13 := by omega
theorem vc_X12_states_27 {z4 : Int} (h0 : 0 ≤ z4 ∧ z4 ≤ 5) : 1 ≤ (1 * (z4 + 1)) := by omega
theorem vc_X12_states_28  : (1 : Int) ≤ ((1 : Int) : Int) := by omega
set_option maxRecDepth 4000 in
set_option maxHeartbeats 4000000 in
theorem c_X12_states {l : Launch} {D : va_G} {c : Nat → ClassId} {H0 : Heap} {sa : Nat × Nat × (Nat → Int32)} {w : mW} {μ : mM} (hw : mWF w) (hT : mT w μ) : sC (gG l D c H0 sa) mX12_states 1 0 0 [.ref 106] (mk w μ) (qI w [187999] μ (fun z μ1 => ∃ o_w1 o_w2 o_w3 o_w4 o_w5 o_w6 : Int, μ1 187 ((1 : Int).toNat) = o_w1 ∧ μ1 187 ((2 : Int).toNat) = o_w2 ∧ μ1 187 ((3 : Int).toNat) = o_w3 ∧ μ1 187 ((4 : Int).toNat) = o_w4 ∧ μ1 187 ((5 : Int).toNat) = o_w5 ∧ μ1 187 ((6 : Int).toNat) = o_w6 ∧ (1 ≤ z ∧ z ≤ 46656) ∧ (1 ≤ o_w1) ∧ (1 ≤ o_w2) ∧ (1 ≤ o_w3) ∧ (1 ≤ o_w4) ∧ (1 ≤ o_w5) ∧ (1 ≤ o_w6) ∧ True)) := by
  refine sC.of rfl (by decide) (le_t rfl) ?_
  refine mr_lvE (lv' := [(0, .ref 106)]) rfl ?_
  refine mr_iconst (pc := 0) (z := 1) dX12_states_0 ?_
  refine mr_istore_n (pc := 1) (lv' := [(1, iv 1), (0, .ref 106)]) dX12_states_1 rfl (by decide) rfl ?_
  refine mr_bipush (pc := 2) (z := 6) dX12_states_2 (by decide) ?_
  refine mr_istore_n (pc := 4) (lv' := [(2, iv 6), (1, iv 1), (0, .ref 106)]) dX12_states_4 rfl (by decide) rfl ?_
  refine mr_iload_n (pc := 5) (z := 6) dX12_states_5 rfl rfl ?_
  refine mr_iconst (pc := 6) (z := 1) dX12_states_6 ?_
  refine mr_icmp_lt (pc := 7) (tgt := 34) dX12_states_7 (by decide) (r32 (rR (x := 6)) rfl) (r32 (rR (x := 1)) rfl) (fun h => ((vc_X12_states_1 h)).elim) (fun _ => ?_)
  refine sv_aload_n (pc := 10) dX12_states_10 rfl rfl ?_
  refine gf_X12_121 (pc := 11) dX12_states_11 wF_X12_523 (A_106 hw) hT ?_
  refine mr_iload_n (pc := 14) (z := 6) dX12_states_14 rfl rfl ?_
  refine mr_iload_n (pc := 15) (z := 1) dX12_states_15 rfl rfl ?_
  refine ss_187 (pc := 16) dX12_states_16 (A_187 hw) hT (rIx (n := 8) (rR (x := 6)) rfl) (rW (c := 0) (d := 46656) (rR (x := 1)) rfl) fun μ1 u2 T3 => ?_
  refine mr_iload_n (pc := 17) (z := 1) dX12_states_17 rfl rfl ?_
  refine sv_aload_n (pc := 18) dX12_states_18 rfl rfl ?_
  refine gf_X12_118 (pc := 19) dX12_states_19 wF_X12_514 (A_106 hw) T3 ?_
  refine mr_iload_n (pc := 22) (z := 6) dX12_states_22 rfl rfl ?_
  refine la_184 (pc := 23) dX12_states_23 (A_184 hw) T3 (rIx (n := 7) (rR (x := 6)) rfl) fun z4 q5 h6 => ?_
  refine mr_iconst (pc := 24) (z := 1) dX12_states_24 ?_
  refine mr_iadd (pc := 25) (x := z4) (y := 1) dX12_states_25 ?_
  refine mr_imul (pc := 26) (x := 1) (y := (z4 + 1)) dX12_states_26 ?_
  refine mr_istore_n (pc := 27) (lv' := [(1, iv (1 * (z4 + 1))), (2, iv 6), (0, .ref 106)]) dX12_states_27 rfl (by decide) rfl ?_
  refine mr_iinc (pc := 28) (lv' := [(2, iv 5), (1, iv (1 * (z4 + 1))), (0, .ref 106)]) dX12_states_28 rfl (by decide) rfl ?_
  refine sv_goto (pc := 31) (tgt := 5) dX12_states_31 (by decide) ?_
  refine mr_iload_n (pc := 5) (z := 5) dX12_states_5 rfl rfl ?_
  refine mr_iconst (pc := 6) (z := 1) dX12_states_6 ?_
  refine mr_icmp_lt (pc := 7) (tgt := 34) dX12_states_7 (by decide) (r32 (rR (x := 5)) rfl) (r32 (rR (x := 1)) rfl) (fun h => ((vc_X12_states_2 h)).elim) (fun _ => ?_)
  refine sv_aload_n (pc := 10) dX12_states_10 rfl rfl ?_
  refine gf_X12_121 (pc := 11) dX12_states_11 wF_X12_523 (A_106 hw) T3 ?_
  refine mr_iload_n (pc := 14) (z := 5) dX12_states_14 rfl rfl ?_
  refine mr_iload_n (pc := 15) (z := (1 * (z4 + 1))) dX12_states_15 rfl rfl ?_
  refine ss_187 (pc := 16) dX12_states_16 (A_187 hw) T3 (rIx (n := 8) (rR (x := 5)) rfl) (rW (c := 0) (d := 46656) (rMulL (n := 1) (e := 1) (f := 6) (rAdd (e := 1) (f := 6) h6 (rR (x := 1)) rfl) rfl) rfl) fun μ7 u8 T9 => ?_
  refine mr_iload_n (pc := 17) (z := (1 * (z4 + 1))) dX12_states_17 rfl rfl ?_
  refine sv_aload_n (pc := 18) dX12_states_18 rfl rfl ?_
  refine gf_X12_118 (pc := 19) dX12_states_19 wF_X12_514 (A_106 hw) T9 ?_
  refine mr_iload_n (pc := 22) (z := 5) dX12_states_22 rfl rfl ?_
  refine la_184 (pc := 23) dX12_states_23 (A_184 hw) T9 (rIx (n := 7) (rR (x := 5)) rfl) fun z10 q11 h12 => ?_
  refine mr_iconst (pc := 24) (z := 1) dX12_states_24 ?_
  refine mr_iadd (pc := 25) (x := z10) (y := 1) dX12_states_25 ?_
  refine mr_imul (pc := 26) (x := (1 * (z4 + 1))) (y := (z10 + 1)) dX12_states_26 ?_
  refine mr_gen (P := fun z => 1 ≤ z ∧ z ≤ 36) (rMulP (rMulL (n := 1) (e := 1) (f := 6) (rAdd (e := 1) (f := 6) h6 (rR (x := 1)) rfl) rfl) (rAdd (e := 1) (f := 6) h12 (rR (x := 1)) rfl) rfl) fun z13 q14 h15 => ?_
  refine mr_istore_n (pc := 27) (lv' := [(1, iv z13), (2, iv 5), (0, .ref 106)]) dX12_states_27 rfl (by decide) rfl ?_
  refine mr_iinc (pc := 28) (lv' := [(2, iv 4), (1, iv z13), (0, .ref 106)]) dX12_states_28 rfl (by decide) rfl ?_
  refine sv_goto (pc := 31) (tgt := 5) dX12_states_31 (by decide) ?_
  refine mr_iload_n (pc := 5) (z := 4) dX12_states_5 rfl rfl ?_
  refine mr_iconst (pc := 6) (z := 1) dX12_states_6 ?_
  refine mr_icmp_lt (pc := 7) (tgt := 34) dX12_states_7 (by decide) (r32 (rR (x := 4)) rfl) (r32 (rR (x := 1)) rfl) (fun h => ((vc_X12_states_3 h)).elim) (fun _ => ?_)
  refine sv_aload_n (pc := 10) dX12_states_10 rfl rfl ?_
  refine gf_X12_121 (pc := 11) dX12_states_11 wF_X12_523 (A_106 hw) T9 ?_
  refine mr_iload_n (pc := 14) (z := 4) dX12_states_14 rfl rfl ?_
  refine mr_iload_n (pc := 15) (z := z13) dX12_states_15 rfl rfl ?_
  refine ss_187 (pc := 16) dX12_states_16 (A_187 hw) T9 (rIx (n := 8) (rR (x := 4)) rfl) (rW (c := 0) (d := 46656) h15 rfl) fun μ16 u17 T18 => ?_
  refine mr_iload_n (pc := 17) (z := z13) dX12_states_17 rfl rfl ?_
  refine sv_aload_n (pc := 18) dX12_states_18 rfl rfl ?_
  refine gf_X12_118 (pc := 19) dX12_states_19 wF_X12_514 (A_106 hw) T18 ?_
  refine mr_iload_n (pc := 22) (z := 4) dX12_states_22 rfl rfl ?_
  refine la_184 (pc := 23) dX12_states_23 (A_184 hw) T18 (rIx (n := 7) (rR (x := 4)) rfl) fun z19 q20 h21 => ?_
  refine mr_iconst (pc := 24) (z := 1) dX12_states_24 ?_
  refine mr_iadd (pc := 25) (x := z19) (y := 1) dX12_states_25 ?_
  refine mr_imul (pc := 26) (x := z13) (y := (z19 + 1)) dX12_states_26 ?_
  refine mr_gen (P := fun z => 1 ≤ z ∧ z ≤ 216) (rMulP h15 (rAdd (e := 1) (f := 6) h21 (rR (x := 1)) rfl) rfl) fun z22 q23 h24 => ?_
  refine mr_istore_n (pc := 27) (lv' := [(1, iv z22), (2, iv 4), (0, .ref 106)]) dX12_states_27 rfl (by decide) rfl ?_
  refine mr_iinc (pc := 28) (lv' := [(2, iv 3), (1, iv z22), (0, .ref 106)]) dX12_states_28 rfl (by decide) rfl ?_
  refine sv_goto (pc := 31) (tgt := 5) dX12_states_31 (by decide) ?_
  refine mr_iload_n (pc := 5) (z := 3) dX12_states_5 rfl rfl ?_
  refine mr_iconst (pc := 6) (z := 1) dX12_states_6 ?_
  refine mr_icmp_lt (pc := 7) (tgt := 34) dX12_states_7 (by decide) (r32 (rR (x := 3)) rfl) (r32 (rR (x := 1)) rfl) (fun h => ((vc_X12_states_4 h)).elim) (fun _ => ?_)
  refine sv_aload_n (pc := 10) dX12_states_10 rfl rfl ?_
  refine gf_X12_121 (pc := 11) dX12_states_11 wF_X12_523 (A_106 hw) T18 ?_
  refine mr_iload_n (pc := 14) (z := 3) dX12_states_14 rfl rfl ?_
  refine mr_iload_n (pc := 15) (z := z22) dX12_states_15 rfl rfl ?_
  refine ss_187 (pc := 16) dX12_states_16 (A_187 hw) T18 (rIx (n := 8) (rR (x := 3)) rfl) (rW (c := 0) (d := 46656) h24 rfl) fun μ25 u26 T27 => ?_
  refine mr_iload_n (pc := 17) (z := z22) dX12_states_17 rfl rfl ?_
  refine sv_aload_n (pc := 18) dX12_states_18 rfl rfl ?_
  refine gf_X12_118 (pc := 19) dX12_states_19 wF_X12_514 (A_106 hw) T27 ?_
  refine mr_iload_n (pc := 22) (z := 3) dX12_states_22 rfl rfl ?_
  refine la_184 (pc := 23) dX12_states_23 (A_184 hw) T27 (rIx (n := 7) (rR (x := 3)) rfl) fun z28 q29 h30 => ?_
  refine mr_iconst (pc := 24) (z := 1) dX12_states_24 ?_
  refine mr_iadd (pc := 25) (x := z28) (y := 1) dX12_states_25 ?_
  refine mr_imul (pc := 26) (x := z22) (y := (z28 + 1)) dX12_states_26 ?_
  refine mr_gen (P := fun z => 1 ≤ z ∧ z ≤ 1296) (rMulP h24 (rAdd (e := 1) (f := 6) h30 (rR (x := 1)) rfl) rfl) fun z31 q32 h33 => ?_
  refine mr_istore_n (pc := 27) (lv' := [(1, iv z31), (2, iv 3), (0, .ref 106)]) dX12_states_27 rfl (by decide) rfl ?_
  refine mr_iinc (pc := 28) (lv' := [(2, iv 2), (1, iv z31), (0, .ref 106)]) dX12_states_28 rfl (by decide) rfl ?_
  refine sv_goto (pc := 31) (tgt := 5) dX12_states_31 (by decide) ?_
  refine mr_iload_n (pc := 5) (z := 2) dX12_states_5 rfl rfl ?_
  refine mr_iconst (pc := 6) (z := 1) dX12_states_6 ?_
  refine mr_icmp_lt (pc := 7) (tgt := 34) dX12_states_7 (by decide) (r32 (rR (x := 2)) rfl) (r32 (rR (x := 1)) rfl) (fun h => ((vc_X12_states_5 h)).elim) (fun _ => ?_)
  refine sv_aload_n (pc := 10) dX12_states_10 rfl rfl ?_
  refine gf_X12_121 (pc := 11) dX12_states_11 wF_X12_523 (A_106 hw) T27 ?_
  refine mr_iload_n (pc := 14) (z := 2) dX12_states_14 rfl rfl ?_
  refine mr_iload_n (pc := 15) (z := z31) dX12_states_15 rfl rfl ?_
  refine ss_187 (pc := 16) dX12_states_16 (A_187 hw) T27 (rIx (n := 8) (rR (x := 2)) rfl) (rW (c := 0) (d := 46656) h33 rfl) fun μ34 u35 T36 => ?_
  refine mr_iload_n (pc := 17) (z := z31) dX12_states_17 rfl rfl ?_
  refine sv_aload_n (pc := 18) dX12_states_18 rfl rfl ?_
  refine gf_X12_118 (pc := 19) dX12_states_19 wF_X12_514 (A_106 hw) T36 ?_
  refine mr_iload_n (pc := 22) (z := 2) dX12_states_22 rfl rfl ?_
  refine la_184 (pc := 23) dX12_states_23 (A_184 hw) T36 (rIx (n := 7) (rR (x := 2)) rfl) fun z37 q38 h39 => ?_
  refine mr_iconst (pc := 24) (z := 1) dX12_states_24 ?_
  refine mr_iadd (pc := 25) (x := z37) (y := 1) dX12_states_25 ?_
  refine mr_imul (pc := 26) (x := z31) (y := (z37 + 1)) dX12_states_26 ?_
  refine mr_gen (P := fun z => 1 ≤ z ∧ z ≤ 7776) (rMulP h33 (rAdd (e := 1) (f := 6) h39 (rR (x := 1)) rfl) rfl) fun z40 q41 h42 => ?_
  refine mr_istore_n (pc := 27) (lv' := [(1, iv z40), (2, iv 2), (0, .ref 106)]) dX12_states_27 rfl (by decide) rfl ?_
  refine mr_iinc (pc := 28) (lv' := [(2, iv 1), (1, iv z40), (0, .ref 106)]) dX12_states_28 rfl (by decide) rfl ?_
  refine sv_goto (pc := 31) (tgt := 5) dX12_states_31 (by decide) ?_
  refine mr_iload_n (pc := 5) (z := 1) dX12_states_5 rfl rfl ?_
  refine mr_iconst (pc := 6) (z := 1) dX12_states_6 ?_
  refine mr_icmp_lt (pc := 7) (tgt := 34) dX12_states_7 (by decide) (r32 (rR (x := 1)) rfl) (r32 (rR (x := 1)) rfl) (fun h => ((vc_X12_states_6 h)).elim) (fun _ => ?_)
  refine sv_aload_n (pc := 10) dX12_states_10 rfl rfl ?_
  refine gf_X12_121 (pc := 11) dX12_states_11 wF_X12_523 (A_106 hw) T36 ?_
  refine mr_iload_n (pc := 14) (z := 1) dX12_states_14 rfl rfl ?_
  refine mr_iload_n (pc := 15) (z := z40) dX12_states_15 rfl rfl ?_
  refine ss_187 (pc := 16) dX12_states_16 (A_187 hw) T36 (rIx (n := 8) (rR (x := 1)) rfl) (rW (c := 0) (d := 46656) h42 rfl) fun μ43 u44 T45 => ?_
  refine mr_iload_n (pc := 17) (z := z40) dX12_states_17 rfl rfl ?_
  refine sv_aload_n (pc := 18) dX12_states_18 rfl rfl ?_
  refine gf_X12_118 (pc := 19) dX12_states_19 wF_X12_514 (A_106 hw) T45 ?_
  refine mr_iload_n (pc := 22) (z := 1) dX12_states_22 rfl rfl ?_
  refine la_184 (pc := 23) dX12_states_23 (A_184 hw) T45 (rIx (n := 7) (rR (x := 1)) rfl) fun z46 q47 h48 => ?_
  refine mr_iconst (pc := 24) (z := 1) dX12_states_24 ?_
  refine mr_iadd (pc := 25) (x := z46) (y := 1) dX12_states_25 ?_
  refine mr_imul (pc := 26) (x := z40) (y := (z46 + 1)) dX12_states_26 ?_
  refine mr_gen (P := fun z => 1 ≤ z ∧ z ≤ 46656) (rMulP h42 (rAdd (e := 1) (f := 6) h48 (rR (x := 1)) rfl) rfl) fun z49 q50 h51 => ?_
  refine mr_istore_n (pc := 27) (lv' := [(1, iv z49), (2, iv 1), (0, .ref 106)]) dX12_states_27 rfl (by decide) rfl ?_
  refine mr_iinc (pc := 28) (lv' := [(2, iv 0), (1, iv z49), (0, .ref 106)]) dX12_states_28 rfl (by decide) rfl ?_
  refine sv_goto (pc := 31) (tgt := 5) dX12_states_31 (by decide) ?_
  refine mr_iload_n (pc := 5) (z := 0) dX12_states_5 rfl rfl ?_
  refine mr_iconst (pc := 6) (z := 1) dX12_states_6 ?_
  refine mr_icmp_lt (pc := 7) (tgt := 34) dX12_states_7 (by decide) (r32 (rR (x := 0)) rfl) (r32 (rR (x := 1)) rfl) (fun _ => ?_) (fun h => ((vc_X12_states_7 h)).elim)
  refine mr_iload_n (pc := 34) (z := z49) dX12_states_34 rfl rfl ?_
  exact mr_iret dX12_states_35 rfl (le_t rfl) (le_t rfl) T45 (mF.up (mF.up (mF.up (mF.up (mF.up (mF.up mF.refl (A_187 hw) u2 rfl) (A_187 hw) u8 rfl) (A_187 hw) u17 rfl) (A_187 hw) u26 rfl) (A_187 hw) u35 rfl) (A_187 hw) u44 rfl) ⟨z40, z31, z22, z13, (1 * (z4 + 1)), 1, u44.1, (u44.f (Or.inr vc_X12_states_8) u35.1), (u44.f (Or.inr vc_X12_states_10) (u35.f (Or.inr vc_X12_states_9) u26.1)), (u44.f (Or.inr vc_X12_states_13) (u35.f (Or.inr vc_X12_states_12) (u26.f (Or.inr vc_X12_states_11) u17.1))), (u44.f (Or.inr vc_X12_states_17) (u35.f (Or.inr vc_X12_states_16) (u26.f (Or.inr vc_X12_states_15) (u17.f (Or.inr vc_X12_states_14) u8.1)))), (u44.f (Or.inr vc_X12_states_22) (u35.f (Or.inr vc_X12_states_21) (u26.f (Or.inr vc_X12_states_20) (u17.f (Or.inr vc_X12_states_19) (u8.f (Or.inr vc_X12_states_18) u2.1))))), h51, (vc_X12_states_23 h42), (vc_X12_states_24 h33), (vc_X12_states_25 h24), (vc_X12_states_26 h15), (vc_X12_states_27 h6), vc_X12_states_28, trivial⟩
theorem vc_X12_open_1 {f_w1 : Int} (h0 : 1 ≤ f_w1) (h1 : 0 ≤ f_w1 ∧ f_w1 ≤ 46656) : 1 ≤ f_w1 ∧ f_w1 ≤ 46656 := by omega
theorem vc_X12_open_8 {f_w1 : Int} (h0 : 1 ≤ f_w1) (h1 : 1 ≤ f_w1 ∧ f_w1 ≤ 46656) : 0 < f_w1 ∧ f_w1 ≤ 2147483647 := by omega
theorem vc_X12_open_9 {f_v1 : Int} (h0 : 0 ≤ f_v1 ∧ f_v1 ≤ 5) : 0 < (f_v1 + 1) ∧ (f_v1 + 1) ≤ 2147483647 := by omega
theorem vc_X12_open_10 (h0 : (6 : Int) < (2 : Int)) : False := by omega
theorem vc_X12_open_13 (h0 : (6 : Int) < (3 : Int)) : False := by omega
theorem vc_X12_open_16 (h0 : (6 : Int) < (4 : Int)) : False := by omega
theorem vc_X12_open_19 (h0 : (6 : Int) < (5 : Int)) : False := by omega
theorem vc_X12_open_22 (h0 : (6 : Int) < (6 : Int)) : False := by omega
theorem vc_X12_open_25 (h0 : (7 : Int) ≤ (6 : Int)) : False := by omega
theorem vc_X12_open_26  : (1 : Int).toNat ≠ (2 : Int).toNat := by omega
theorem vc_X12_open_27  : (1 : Int).toNat ≠ (3 : Int).toNat := by omega
theorem vc_X12_open_28  : (1 : Int).toNat ≠ (4 : Int).toNat := by omega
theorem vc_X12_open_29  : (1 : Int).toNat ≠ (5 : Int).toNat := by omega
theorem vc_X12_open_30  : (1 : Int).toNat ≠ (6 : Int).toNat := by omega
theorem vc_X12_open_31  : (2 : Int).toNat ≠ (3 : Int).toNat := by omega
theorem vc_X12_open_32  : (2 : Int).toNat ≠ (4 : Int).toNat := by omega
theorem vc_X12_open_33  : (2 : Int).toNat ≠ (5 : Int).toNat := by omega
theorem vc_X12_open_34  : (2 : Int).toNat ≠ (6 : Int).toNat := by omega
theorem vc_X12_open_35  : (3 : Int).toNat ≠ (4 : Int).toNat := by omega
theorem vc_X12_open_36  : (3 : Int).toNat ≠ (5 : Int).toNat := by omega
theorem vc_X12_open_37  : (3 : Int).toNat ≠ (6 : Int).toNat := by omega
theorem vc_X12_open_38  : (4 : Int).toNat ≠ (5 : Int).toNat := by omega
theorem vc_X12_open_39  : (4 : Int).toNat ≠ (6 : Int).toNat := by omega
theorem vc_X12_open_40  : (5 : Int).toNat ≠ (6 : Int).toNat := by omega
theorem vc_X12_open_41 {f_v1 z172 : Int} (h0 : z172 < (f_v1 + 1)) (h1 : 0 ≤ f_v1 ∧ f_v1 ≤ 5) (h2 : 0 ≤ z172 ∧ z172 ≤ 5) : z172 ≤ f_v1 := by omega
set_option maxRecDepth 4000 in
set_option maxHeartbeats 4000000 in
theorem c_X12_open {l : Launch} {D : va_G} {c : Nat → ClassId} {H0 : Heap} {sa : Nat × Nat × (Nat → Int32)} {w : mW} {μ : mM} (hw : mWF w) (hT : mT w μ) {p1 : Int} (hp1 : 0 ≤ p1 ∧ p1 ≤ 46655) {f_w1 : Int} (q_f_w1 : μ 187 ((1 : Int).toNat) = f_w1) {f_w2 : Int} (q_f_w2 : μ 187 ((2 : Int).toNat) = f_w2) {f_w3 : Int} (q_f_w3 : μ 187 ((3 : Int).toNat) = f_w3) {f_w4 : Int} (q_f_w4 : μ 187 ((4 : Int).toNat) = f_w4) {f_w5 : Int} (q_f_w5 : μ 187 ((5 : Int).toNat) = f_w5) {f_w6 : Int} (q_f_w6 : μ 187 ((6 : Int).toNat) = f_w6) {f_v1 : Int} (q_f_v1 : μ 184 ((1 : Int).toNat) = f_v1) {f_v2 : Int} (q_f_v2 : μ 184 ((2 : Int).toNat) = f_v2) {f_v3 : Int} (q_f_v3 : μ 184 ((3 : Int).toNat) = f_v3) {f_v4 : Int} (q_f_v4 : μ 184 ((4 : Int).toNat) = f_v4) {f_v5 : Int} (q_f_v5 : μ 184 ((5 : Int).toNat) = f_v5) {f_v6 : Int} (q_f_v6 : μ 184 ((6 : Int).toNat) = f_v6) (hq0 : 1 ≤ f_w1) (hq1 : 1 ≤ f_w2) (hq2 : 1 ≤ f_w3) (hq3 : 1 ≤ f_w4) (hq4 : 1 ≤ f_w5) (hq5 : 1 ≤ f_w6) : sC (gG l D c H0 sa) mX12_open 1 0 0 [.ref 106, iv p1] (mk w μ) (qV w [188999] μ (fun μ1 => ∃ o_h1 o_h2 o_h3 o_h4 o_h5 o_h6 : Int, μ1 188 ((1 : Int).toNat) = o_h1 ∧ μ1 188 ((2 : Int).toNat) = o_h2 ∧ μ1 188 ((3 : Int).toNat) = o_h3 ∧ μ1 188 ((4 : Int).toNat) = o_h4 ∧ μ1 188 ((5 : Int).toNat) = o_h5 ∧ μ1 188 ((6 : Int).toNat) = o_h6 ∧ (o_h1 ≤ f_v1) ∧ (o_h2 ≤ f_v2) ∧ (o_h3 ≤ f_v3) ∧ (o_h4 ≤ f_v4) ∧ (o_h5 ≤ f_v5) ∧ (o_h6 ≤ f_v6) ∧ True)) := by
  refine sC.of rfl (by decide) (le_t rfl) ?_
  have ht_f_w1 : (0 ≤ f_w1 ∧ f_w1 ≤ 46656) := by rw [← q_f_w1]; exact hT 187 187 (A_187 hw) ((1 : Int).toNat)
  have ht_f_w2 : (0 ≤ f_w2 ∧ f_w2 ≤ 46656) := by rw [← q_f_w2]; exact hT 187 187 (A_187 hw) ((2 : Int).toNat)
  have ht_f_w3 : (0 ≤ f_w3 ∧ f_w3 ≤ 46656) := by rw [← q_f_w3]; exact hT 187 187 (A_187 hw) ((3 : Int).toNat)
  have ht_f_w4 : (0 ≤ f_w4 ∧ f_w4 ≤ 46656) := by rw [← q_f_w4]; exact hT 187 187 (A_187 hw) ((4 : Int).toNat)
  have ht_f_w5 : (0 ≤ f_w5 ∧ f_w5 ≤ 46656) := by rw [← q_f_w5]; exact hT 187 187 (A_187 hw) ((5 : Int).toNat)
  have ht_f_w6 : (0 ≤ f_w6 ∧ f_w6 ≤ 46656) := by rw [← q_f_w6]; exact hT 187 187 (A_187 hw) ((6 : Int).toNat)
  have ht_f_v1 : (0 ≤ f_v1 ∧ f_v1 ≤ 5) := by rw [← q_f_v1]; exact hT 184 184 (A_184 hw) ((1 : Int).toNat)
  have ht_f_v2 : (0 ≤ f_v2 ∧ f_v2 ≤ 5) := by rw [← q_f_v2]; exact hT 184 184 (A_184 hw) ((2 : Int).toNat)
  have ht_f_v3 : (0 ≤ f_v3 ∧ f_v3 ≤ 5) := by rw [← q_f_v3]; exact hT 184 184 (A_184 hw) ((3 : Int).toNat)
  have ht_f_v4 : (0 ≤ f_v4 ∧ f_v4 ≤ 5) := by rw [← q_f_v4]; exact hT 184 184 (A_184 hw) ((4 : Int).toNat)
  have ht_f_v5 : (0 ≤ f_v5 ∧ f_v5 ≤ 5) := by rw [← q_f_v5]; exact hT 184 184 (A_184 hw) ((5 : Int).toNat)
  have ht_f_v6 : (0 ≤ f_v6 ∧ f_v6 ≤ 5) := by rw [← q_f_v6]; exact hT 184 184 (A_184 hw) ((6 : Int).toNat)
  have h1 : 1 ≤ f_w1 ∧ f_w1 ≤ 46656 := (vc_X12_open_1 hq0 ht_f_w1)
  have h2 : 1 ≤ f_w2 ∧ f_w2 ≤ 46656 := (vc_X12_open_1 hq1 ht_f_w2)
  have h3 : 1 ≤ f_w3 ∧ f_w3 ≤ 46656 := (vc_X12_open_1 hq2 ht_f_w3)
  have h4 : 1 ≤ f_w4 ∧ f_w4 ≤ 46656 := (vc_X12_open_1 hq3 ht_f_w4)
  have h5 : 1 ≤ f_w5 ∧ f_w5 ≤ 46656 := (vc_X12_open_1 hq4 ht_f_w5)
  have h6 : 1 ≤ f_w6 ∧ f_w6 ≤ 46656 := (vc_X12_open_1 hq5 ht_f_w6)
  refine mr_lvE (lv' := [(0, .ref 106), (1, iv p1)]) rfl ?_
  refine mr_iconst (pc := 0) (z := 1) dX12_open_0 ?_
  refine mr_istore_n (pc := 1) (lv' := [(2, iv 1), (0, .ref 106), (1, iv p1)]) dX12_open_1 rfl (by decide) rfl ?_
  refine mr_iload_n (pc := 2) (z := 1) dX12_open_2 rfl rfl ?_
  refine mr_bipush (pc := 3) (z := 6) dX12_open_3 (by decide) ?_
  refine mr_icmp_gt (pc := 5) (tgt := 37) dX12_open_5 (by decide) (r32 (rR (x := 1)) rfl) (r32 (rR (x := 6)) rfl) (fun h => ((vc_X12_states_1 h)).elim) (fun _ => ?_)
  refine sv_aload_n (pc := 8) dX12_open_8 rfl rfl ?_
  refine gf_X12_122 (pc := 9) dX12_open_9 wF_X12_526 (A_106 hw) hT ?_
  refine mr_iload_n (pc := 12) (z := 1) dX12_open_12 rfl rfl ?_
  refine mr_iload_n (pc := 13) (z := p1) dX12_open_13 rfl rfl ?_
  refine sv_aload_n (pc := 14) dX12_open_14 rfl rfl ?_
  refine gf_X12_121 (pc := 15) dX12_open_15 wF_X12_523 (A_106 hw) hT ?_
  refine mr_iload_n (pc := 18) (z := 1) dX12_open_18 rfl rfl ?_
  refine lk_187 (pc := 19) dX12_open_19 (A_187 hw) (rIx (n := 8) (rR (x := 1)) rfl) q_f_w1 ?_
  refine mr_idiv (pc := 20) (x := p1) (y := f_w1) dX12_open_20 (rW (c := 0) (d := 2147483647) hp1 rfl) (vc_X12_open_8 hq0 h1) ?_
  refine mr_gen (P := fun z => 0 ≤ z ∧ z ≤ 46655) (rDivV hp1 (vc_X12_open_8 hq0 h1) rfl) fun z169 q170 h171 => ?_
  refine sv_aload_n (pc := 21) dX12_open_21 rfl rfl ?_
  refine gf_X12_118 (pc := 22) dX12_open_22 wF_X12_514 (A_106 hw) hT ?_
  refine mr_iload_n (pc := 25) (z := 1) dX12_open_25 rfl rfl ?_
  refine lk_184 (pc := 26) dX12_open_26 (A_184 hw) (rIx (n := 7) (rR (x := 1)) rfl) q_f_v1 ?_
  refine mr_iconst (pc := 27) (z := 1) dX12_open_27 ?_
  refine mr_iadd (pc := 28) (x := f_v1) (y := 1) dX12_open_28 ?_
  refine mr_irem (pc := 29) (x := z169) (y := (f_v1 + 1)) dX12_open_29 (rW (c := 0) (d := 2147483647) h171 rfl) (vc_X12_open_9 ht_f_v1) ?_
  refine mr_gen (P := fun z => 0 ≤ z ∧ z ≤ 5) (rModV (rAdd (e := 1) (f := 6) ht_f_v1 (rR (x := 1)) rfl) (vc_X12_open_9 ht_f_v1) rfl) fun z172 q173 h174 => ?_
  refine ss_188 (pc := 30) dX12_open_30 (A_188 hw) hT (rIx (n := 7) (rR (x := 1)) rfl) h174 fun μ175 u176 T177 => ?_
  refine mr_iinc (pc := 31) (lv' := [(2, iv 2), (0, .ref 106), (1, iv p1)]) dX12_open_31 rfl (by decide) rfl ?_
  refine sv_goto (pc := 34) (tgt := 2) dX12_open_34 (by decide) ?_
  refine mr_iload_n (pc := 2) (z := 2) dX12_open_2 rfl rfl ?_
  refine mr_bipush (pc := 3) (z := 6) dX12_open_3 (by decide) ?_
  refine mr_icmp_gt (pc := 5) (tgt := 37) dX12_open_5 (by decide) (r32 (rR (x := 2)) rfl) (r32 (rR (x := 6)) rfl) (fun h => ((vc_X12_open_10 h)).elim) (fun _ => ?_)
  refine sv_aload_n (pc := 8) dX12_open_8 rfl rfl ?_
  refine gf_X12_122 (pc := 9) dX12_open_9 wF_X12_526 (A_106 hw) T177 ?_
  refine mr_iload_n (pc := 12) (z := 2) dX12_open_12 rfl rfl ?_
  refine mr_iload_n (pc := 13) (z := p1) dX12_open_13 rfl rfl ?_
  refine sv_aload_n (pc := 14) dX12_open_14 rfl rfl ?_
  refine gf_X12_121 (pc := 15) dX12_open_15 wF_X12_523 (A_106 hw) T177 ?_
  refine mr_iload_n (pc := 18) (z := 2) dX12_open_18 rfl rfl ?_
  refine lk_187 (pc := 19) dX12_open_19 (A_187 hw) (rIx (n := 8) (rR (x := 2)) rfl) (u176.f (Or.inl (mAt.ne (A_188 hw) (A_187 hw) rfl)) q_f_w2) ?_
  refine mr_idiv (pc := 20) (x := p1) (y := f_w2) dX12_open_20 (rW (c := 0) (d := 2147483647) hp1 rfl) (vc_X12_open_8 hq1 h2) ?_
  refine mr_gen (P := fun z => 0 ≤ z ∧ z ≤ 46655) (rDivV hp1 (vc_X12_open_8 hq1 h2) rfl) fun z178 q179 h180 => ?_
  refine sv_aload_n (pc := 21) dX12_open_21 rfl rfl ?_
  refine gf_X12_118 (pc := 22) dX12_open_22 wF_X12_514 (A_106 hw) T177 ?_
  refine mr_iload_n (pc := 25) (z := 2) dX12_open_25 rfl rfl ?_
  refine lk_184 (pc := 26) dX12_open_26 (A_184 hw) (rIx (n := 7) (rR (x := 2)) rfl) (u176.f (Or.inl (mAt.ne (A_188 hw) (A_184 hw) rfl)) q_f_v2) ?_
  refine mr_iconst (pc := 27) (z := 1) dX12_open_27 ?_
  refine mr_iadd (pc := 28) (x := f_v2) (y := 1) dX12_open_28 ?_
  refine mr_irem (pc := 29) (x := z178) (y := (f_v2 + 1)) dX12_open_29 (rW (c := 0) (d := 2147483647) h180 rfl) (vc_X12_open_9 ht_f_v2) ?_
  refine mr_gen (P := fun z => 0 ≤ z ∧ z ≤ 5) (rModV (rAdd (e := 1) (f := 6) ht_f_v2 (rR (x := 1)) rfl) (vc_X12_open_9 ht_f_v2) rfl) fun z181 q182 h183 => ?_
  refine ss_188 (pc := 30) dX12_open_30 (A_188 hw) T177 (rIx (n := 7) (rR (x := 2)) rfl) h183 fun μ184 u185 T186 => ?_
  refine mr_iinc (pc := 31) (lv' := [(2, iv 3), (0, .ref 106), (1, iv p1)]) dX12_open_31 rfl (by decide) rfl ?_
  refine sv_goto (pc := 34) (tgt := 2) dX12_open_34 (by decide) ?_
  refine mr_iload_n (pc := 2) (z := 3) dX12_open_2 rfl rfl ?_
  refine mr_bipush (pc := 3) (z := 6) dX12_open_3 (by decide) ?_
  refine mr_icmp_gt (pc := 5) (tgt := 37) dX12_open_5 (by decide) (r32 (rR (x := 3)) rfl) (r32 (rR (x := 6)) rfl) (fun h => ((vc_X12_open_13 h)).elim) (fun _ => ?_)
  refine sv_aload_n (pc := 8) dX12_open_8 rfl rfl ?_
  refine gf_X12_122 (pc := 9) dX12_open_9 wF_X12_526 (A_106 hw) T186 ?_
  refine mr_iload_n (pc := 12) (z := 3) dX12_open_12 rfl rfl ?_
  refine mr_iload_n (pc := 13) (z := p1) dX12_open_13 rfl rfl ?_
  refine sv_aload_n (pc := 14) dX12_open_14 rfl rfl ?_
  refine gf_X12_121 (pc := 15) dX12_open_15 wF_X12_523 (A_106 hw) T186 ?_
  refine mr_iload_n (pc := 18) (z := 3) dX12_open_18 rfl rfl ?_
  refine lk_187 (pc := 19) dX12_open_19 (A_187 hw) (rIx (n := 8) (rR (x := 3)) rfl) (u185.f (Or.inl (mAt.ne (A_188 hw) (A_187 hw) rfl)) (u176.f (Or.inl (mAt.ne (A_188 hw) (A_187 hw) rfl)) q_f_w3)) ?_
  refine mr_idiv (pc := 20) (x := p1) (y := f_w3) dX12_open_20 (rW (c := 0) (d := 2147483647) hp1 rfl) (vc_X12_open_8 hq2 h3) ?_
  refine mr_gen (P := fun z => 0 ≤ z ∧ z ≤ 46655) (rDivV hp1 (vc_X12_open_8 hq2 h3) rfl) fun z187 q188 h189 => ?_
  refine sv_aload_n (pc := 21) dX12_open_21 rfl rfl ?_
  refine gf_X12_118 (pc := 22) dX12_open_22 wF_X12_514 (A_106 hw) T186 ?_
  refine mr_iload_n (pc := 25) (z := 3) dX12_open_25 rfl rfl ?_
  refine lk_184 (pc := 26) dX12_open_26 (A_184 hw) (rIx (n := 7) (rR (x := 3)) rfl) (u185.f (Or.inl (mAt.ne (A_188 hw) (A_184 hw) rfl)) (u176.f (Or.inl (mAt.ne (A_188 hw) (A_184 hw) rfl)) q_f_v3)) ?_
  refine mr_iconst (pc := 27) (z := 1) dX12_open_27 ?_
  refine mr_iadd (pc := 28) (x := f_v3) (y := 1) dX12_open_28 ?_
  refine mr_irem (pc := 29) (x := z187) (y := (f_v3 + 1)) dX12_open_29 (rW (c := 0) (d := 2147483647) h189 rfl) (vc_X12_open_9 ht_f_v3) ?_
  refine mr_gen (P := fun z => 0 ≤ z ∧ z ≤ 5) (rModV (rAdd (e := 1) (f := 6) ht_f_v3 (rR (x := 1)) rfl) (vc_X12_open_9 ht_f_v3) rfl) fun z190 q191 h192 => ?_
  refine ss_188 (pc := 30) dX12_open_30 (A_188 hw) T186 (rIx (n := 7) (rR (x := 3)) rfl) h192 fun μ193 u194 T195 => ?_
  refine mr_iinc (pc := 31) (lv' := [(2, iv 4), (0, .ref 106), (1, iv p1)]) dX12_open_31 rfl (by decide) rfl ?_
  refine sv_goto (pc := 34) (tgt := 2) dX12_open_34 (by decide) ?_
  refine mr_iload_n (pc := 2) (z := 4) dX12_open_2 rfl rfl ?_
  refine mr_bipush (pc := 3) (z := 6) dX12_open_3 (by decide) ?_
  refine mr_icmp_gt (pc := 5) (tgt := 37) dX12_open_5 (by decide) (r32 (rR (x := 4)) rfl) (r32 (rR (x := 6)) rfl) (fun h => ((vc_X12_open_16 h)).elim) (fun _ => ?_)
  refine sv_aload_n (pc := 8) dX12_open_8 rfl rfl ?_
  refine gf_X12_122 (pc := 9) dX12_open_9 wF_X12_526 (A_106 hw) T195 ?_
  refine mr_iload_n (pc := 12) (z := 4) dX12_open_12 rfl rfl ?_
  refine mr_iload_n (pc := 13) (z := p1) dX12_open_13 rfl rfl ?_
  refine sv_aload_n (pc := 14) dX12_open_14 rfl rfl ?_
  refine gf_X12_121 (pc := 15) dX12_open_15 wF_X12_523 (A_106 hw) T195 ?_
  refine mr_iload_n (pc := 18) (z := 4) dX12_open_18 rfl rfl ?_
  refine lk_187 (pc := 19) dX12_open_19 (A_187 hw) (rIx (n := 8) (rR (x := 4)) rfl) (u194.f (Or.inl (mAt.ne (A_188 hw) (A_187 hw) rfl)) (u185.f (Or.inl (mAt.ne (A_188 hw) (A_187 hw) rfl)) (u176.f (Or.inl (mAt.ne (A_188 hw) (A_187 hw) rfl)) q_f_w4))) ?_
  refine mr_idiv (pc := 20) (x := p1) (y := f_w4) dX12_open_20 (rW (c := 0) (d := 2147483647) hp1 rfl) (vc_X12_open_8 hq3 h4) ?_
  refine mr_gen (P := fun z => 0 ≤ z ∧ z ≤ 46655) (rDivV hp1 (vc_X12_open_8 hq3 h4) rfl) fun z196 q197 h198 => ?_
  refine sv_aload_n (pc := 21) dX12_open_21 rfl rfl ?_
  refine gf_X12_118 (pc := 22) dX12_open_22 wF_X12_514 (A_106 hw) T195 ?_
  refine mr_iload_n (pc := 25) (z := 4) dX12_open_25 rfl rfl ?_
  refine lk_184 (pc := 26) dX12_open_26 (A_184 hw) (rIx (n := 7) (rR (x := 4)) rfl) (u194.f (Or.inl (mAt.ne (A_188 hw) (A_184 hw) rfl)) (u185.f (Or.inl (mAt.ne (A_188 hw) (A_184 hw) rfl)) (u176.f (Or.inl (mAt.ne (A_188 hw) (A_184 hw) rfl)) q_f_v4))) ?_
  refine mr_iconst (pc := 27) (z := 1) dX12_open_27 ?_
  refine mr_iadd (pc := 28) (x := f_v4) (y := 1) dX12_open_28 ?_
  refine mr_irem (pc := 29) (x := z196) (y := (f_v4 + 1)) dX12_open_29 (rW (c := 0) (d := 2147483647) h198 rfl) (vc_X12_open_9 ht_f_v4) ?_
  refine mr_gen (P := fun z => 0 ≤ z ∧ z ≤ 5) (rModV (rAdd (e := 1) (f := 6) ht_f_v4 (rR (x := 1)) rfl) (vc_X12_open_9 ht_f_v4) rfl) fun z199 q200 h201 => ?_
  refine ss_188 (pc := 30) dX12_open_30 (A_188 hw) T195 (rIx (n := 7) (rR (x := 4)) rfl) h201 fun μ202 u203 T204 => ?_
  refine mr_iinc (pc := 31) (lv' := [(2, iv 5), (0, .ref 106), (1, iv p1)]) dX12_open_31 rfl (by decide) rfl ?_
  refine sv_goto (pc := 34) (tgt := 2) dX12_open_34 (by decide) ?_
  refine mr_iload_n (pc := 2) (z := 5) dX12_open_2 rfl rfl ?_
  refine mr_bipush (pc := 3) (z := 6) dX12_open_3 (by decide) ?_
  refine mr_icmp_gt (pc := 5) (tgt := 37) dX12_open_5 (by decide) (r32 (rR (x := 5)) rfl) (r32 (rR (x := 6)) rfl) (fun h => ((vc_X12_open_19 h)).elim) (fun _ => ?_)
  refine sv_aload_n (pc := 8) dX12_open_8 rfl rfl ?_
  refine gf_X12_122 (pc := 9) dX12_open_9 wF_X12_526 (A_106 hw) T204 ?_
  refine mr_iload_n (pc := 12) (z := 5) dX12_open_12 rfl rfl ?_
  refine mr_iload_n (pc := 13) (z := p1) dX12_open_13 rfl rfl ?_
  refine sv_aload_n (pc := 14) dX12_open_14 rfl rfl ?_
  refine gf_X12_121 (pc := 15) dX12_open_15 wF_X12_523 (A_106 hw) T204 ?_
  refine mr_iload_n (pc := 18) (z := 5) dX12_open_18 rfl rfl ?_
  refine lk_187 (pc := 19) dX12_open_19 (A_187 hw) (rIx (n := 8) (rR (x := 5)) rfl) (u203.f (Or.inl (mAt.ne (A_188 hw) (A_187 hw) rfl)) (u194.f (Or.inl (mAt.ne (A_188 hw) (A_187 hw) rfl)) (u185.f (Or.inl (mAt.ne (A_188 hw) (A_187 hw) rfl)) (u176.f (Or.inl (mAt.ne (A_188 hw) (A_187 hw) rfl)) q_f_w5)))) ?_
  refine mr_idiv (pc := 20) (x := p1) (y := f_w5) dX12_open_20 (rW (c := 0) (d := 2147483647) hp1 rfl) (vc_X12_open_8 hq4 h5) ?_
  refine mr_gen (P := fun z => 0 ≤ z ∧ z ≤ 46655) (rDivV hp1 (vc_X12_open_8 hq4 h5) rfl) fun z205 q206 h207 => ?_
  refine sv_aload_n (pc := 21) dX12_open_21 rfl rfl ?_
  refine gf_X12_118 (pc := 22) dX12_open_22 wF_X12_514 (A_106 hw) T204 ?_
  refine mr_iload_n (pc := 25) (z := 5) dX12_open_25 rfl rfl ?_
  refine lk_184 (pc := 26) dX12_open_26 (A_184 hw) (rIx (n := 7) (rR (x := 5)) rfl) (u203.f (Or.inl (mAt.ne (A_188 hw) (A_184 hw) rfl)) (u194.f (Or.inl (mAt.ne (A_188 hw) (A_184 hw) rfl)) (u185.f (Or.inl (mAt.ne (A_188 hw) (A_184 hw) rfl)) (u176.f (Or.inl (mAt.ne (A_188 hw) (A_184 hw) rfl)) q_f_v5)))) ?_
  refine mr_iconst (pc := 27) (z := 1) dX12_open_27 ?_
  refine mr_iadd (pc := 28) (x := f_v5) (y := 1) dX12_open_28 ?_
  refine mr_irem (pc := 29) (x := z205) (y := (f_v5 + 1)) dX12_open_29 (rW (c := 0) (d := 2147483647) h207 rfl) (vc_X12_open_9 ht_f_v5) ?_
  refine mr_gen (P := fun z => 0 ≤ z ∧ z ≤ 5) (rModV (rAdd (e := 1) (f := 6) ht_f_v5 (rR (x := 1)) rfl) (vc_X12_open_9 ht_f_v5) rfl) fun z208 q209 h210 => ?_
  refine ss_188 (pc := 30) dX12_open_30 (A_188 hw) T204 (rIx (n := 7) (rR (x := 5)) rfl) h210 fun μ211 u212 T213 => ?_
  refine mr_iinc (pc := 31) (lv' := [(2, iv 6), (0, .ref 106), (1, iv p1)]) dX12_open_31 rfl (by decide) rfl ?_
  refine sv_goto (pc := 34) (tgt := 2) dX12_open_34 (by decide) ?_
  refine mr_iload_n (pc := 2) (z := 6) dX12_open_2 rfl rfl ?_
  refine mr_bipush (pc := 3) (z := 6) dX12_open_3 (by decide) ?_
  refine mr_icmp_gt (pc := 5) (tgt := 37) dX12_open_5 (by decide) (r32 (rR (x := 6)) rfl) (r32 (rR (x := 6)) rfl) (fun h => ((vc_X12_open_22 h)).elim) (fun _ => ?_)
  refine sv_aload_n (pc := 8) dX12_open_8 rfl rfl ?_
  refine gf_X12_122 (pc := 9) dX12_open_9 wF_X12_526 (A_106 hw) T213 ?_
  refine mr_iload_n (pc := 12) (z := 6) dX12_open_12 rfl rfl ?_
  refine mr_iload_n (pc := 13) (z := p1) dX12_open_13 rfl rfl ?_
  refine sv_aload_n (pc := 14) dX12_open_14 rfl rfl ?_
  refine gf_X12_121 (pc := 15) dX12_open_15 wF_X12_523 (A_106 hw) T213 ?_
  refine mr_iload_n (pc := 18) (z := 6) dX12_open_18 rfl rfl ?_
  refine lk_187 (pc := 19) dX12_open_19 (A_187 hw) (rIx (n := 8) (rR (x := 6)) rfl) (u212.f (Or.inl (mAt.ne (A_188 hw) (A_187 hw) rfl)) (u203.f (Or.inl (mAt.ne (A_188 hw) (A_187 hw) rfl)) (u194.f (Or.inl (mAt.ne (A_188 hw) (A_187 hw) rfl)) (u185.f (Or.inl (mAt.ne (A_188 hw) (A_187 hw) rfl)) (u176.f (Or.inl (mAt.ne (A_188 hw) (A_187 hw) rfl)) q_f_w6))))) ?_
  refine mr_idiv (pc := 20) (x := p1) (y := f_w6) dX12_open_20 (rW (c := 0) (d := 2147483647) hp1 rfl) (vc_X12_open_8 hq5 h6) ?_
  refine mr_gen (P := fun z => 0 ≤ z ∧ z ≤ 46655) (rDivV hp1 (vc_X12_open_8 hq5 h6) rfl) fun z214 q215 h216 => ?_
  refine sv_aload_n (pc := 21) dX12_open_21 rfl rfl ?_
  refine gf_X12_118 (pc := 22) dX12_open_22 wF_X12_514 (A_106 hw) T213 ?_
  refine mr_iload_n (pc := 25) (z := 6) dX12_open_25 rfl rfl ?_
  refine lk_184 (pc := 26) dX12_open_26 (A_184 hw) (rIx (n := 7) (rR (x := 6)) rfl) (u212.f (Or.inl (mAt.ne (A_188 hw) (A_184 hw) rfl)) (u203.f (Or.inl (mAt.ne (A_188 hw) (A_184 hw) rfl)) (u194.f (Or.inl (mAt.ne (A_188 hw) (A_184 hw) rfl)) (u185.f (Or.inl (mAt.ne (A_188 hw) (A_184 hw) rfl)) (u176.f (Or.inl (mAt.ne (A_188 hw) (A_184 hw) rfl)) q_f_v6))))) ?_
  refine mr_iconst (pc := 27) (z := 1) dX12_open_27 ?_
  refine mr_iadd (pc := 28) (x := f_v6) (y := 1) dX12_open_28 ?_
  refine mr_irem (pc := 29) (x := z214) (y := (f_v6 + 1)) dX12_open_29 (rW (c := 0) (d := 2147483647) h216 rfl) (vc_X12_open_9 ht_f_v6) ?_
  refine mr_gen (P := fun z => 0 ≤ z ∧ z ≤ 5) (rModV (rAdd (e := 1) (f := 6) ht_f_v6 (rR (x := 1)) rfl) (vc_X12_open_9 ht_f_v6) rfl) fun z217 q218 h219 => ?_
  refine ss_188 (pc := 30) dX12_open_30 (A_188 hw) T213 (rIx (n := 7) (rR (x := 6)) rfl) h219 fun μ220 u221 T222 => ?_
  refine mr_iinc (pc := 31) (lv' := [(2, iv 7), (0, .ref 106), (1, iv p1)]) dX12_open_31 rfl (by decide) rfl ?_
  refine sv_goto (pc := 34) (tgt := 2) dX12_open_34 (by decide) ?_
  refine mr_iload_n (pc := 2) (z := 7) dX12_open_2 rfl rfl ?_
  refine mr_bipush (pc := 3) (z := 6) dX12_open_3 (by decide) ?_
  refine mr_icmp_gt (pc := 5) (tgt := 37) dX12_open_5 (by decide) (r32 (rR (x := 7)) rfl) (r32 (rR (x := 6)) rfl) (fun _ => ?_) (fun h => ((vc_X12_open_25 h)).elim)
  exact mr_vret dX12_open_37 rfl (le_t rfl) (le_t rfl) T222 (mF.up (mF.up (mF.up (mF.up (mF.up (mF.up mF.refl (A_188 hw) u176 rfl) (A_188 hw) u185 rfl) (A_188 hw) u194 rfl) (A_188 hw) u203 rfl) (A_188 hw) u212 rfl) (A_188 hw) u221 rfl) ⟨z172, z181, z190, z199, z208, z217, (u221.f (Or.inr vc_X12_open_30) (u212.f (Or.inr vc_X12_open_29) (u203.f (Or.inr vc_X12_open_28) (u194.f (Or.inr vc_X12_open_27) (u185.f (Or.inr vc_X12_open_26) u176.1))))), (u221.f (Or.inr vc_X12_open_34) (u212.f (Or.inr vc_X12_open_33) (u203.f (Or.inr vc_X12_open_32) (u194.f (Or.inr vc_X12_open_31) u185.1)))), (u221.f (Or.inr vc_X12_open_37) (u212.f (Or.inr vc_X12_open_36) (u203.f (Or.inr vc_X12_open_35) u194.1))), (u221.f (Or.inr vc_X12_open_39) (u212.f (Or.inr vc_X12_open_38) u203.1)), (u221.f (Or.inr vc_X12_open_40) u212.1), u221.1, (vc_X12_open_41 (q173 ▸ Int.emod_lt_of_pos z169 (vc_X12_open_9 ht_f_v1).1) ht_f_v1 h174), (vc_X12_open_41 (q182 ▸ Int.emod_lt_of_pos z178 (vc_X12_open_9 ht_f_v2).1) ht_f_v2 h183), (vc_X12_open_41 (q191 ▸ Int.emod_lt_of_pos z187 (vc_X12_open_9 ht_f_v3).1) ht_f_v3 h192), (vc_X12_open_41 (q200 ▸ Int.emod_lt_of_pos z196 (vc_X12_open_9 ht_f_v4).1) ht_f_v4 h201), (vc_X12_open_41 (q209 ▸ Int.emod_lt_of_pos z205 (vc_X12_open_9 ht_f_v5).1) ht_f_v5 h210), (vc_X12_open_41 (q218 ▸ Int.emod_lt_of_pos z214 (vc_X12_open_9 ht_f_v6).1) ht_f_v6 h219), trivial⟩
theorem vc_X12_isOffered_1 {z232 : Int} (h0 : ¬ z232 = 0) (h1 : 0 ≤ z232 ∧ z232 ≤ 6) : 1 ≤ z232 ∧ z232 ≤ 6 := by omega
theorem vc_X12_isOffered_2 {f_h1 f_h2 f_h3 f_h4 f_h5 f_h6 f_v1 f_v2 f_v3 f_v4 f_v5 f_v6 z232 z237 z240 : Int} (h0 : ¬ z232 = 0) (h1 : (z232 = 1 → z237 = f_h1)) (h2 : (z232 = 2 → z237 = f_h2)) (h3 : (z232 = 3 → z237 = f_h3)) (h4 : (z232 = 4 → z237 = f_h4)) (h5 : (z232 = 5 → z237 = f_h5)) (h6 : (z232 = 6 → z237 = f_h6)) (h7 : (z232 = 1 → z240 = f_v1)) (h8 : (z232 = 2 → z240 = f_v2)) (h9 : (z232 = 3 → z240 = f_v3)) (h10 : (z232 = 4 → z240 = f_v4)) (h11 : (z232 = 5 → z240 = f_v5)) (h12 : (z232 = 6 → z240 = f_v6)) (h13 : ¬ z237 = z240) (h14 : f_h1 ≤ f_v1) (h15 : f_h2 ≤ f_v2) (h16 : f_h3 ≤ f_v3) (h17 : f_h4 ≤ f_v4) (h18 : f_h5 ≤ f_v5) (h19 : f_h6 ≤ f_v6) (h20 : 0 ≤ f_h1 ∧ f_h1 ≤ 5) (h21 : 0 ≤ f_h2 ∧ f_h2 ≤ 5) (h22 : 0 ≤ f_h3 ∧ f_h3 ≤ 5) (h23 : 0 ≤ f_h4 ∧ f_h4 ≤ 5) (h24 : 0 ≤ f_h5 ∧ f_h5 ≤ 5) (h25 : 0 ≤ f_h6 ∧ f_h6 ≤ 5) (h26 : 0 ≤ f_v1 ∧ f_v1 ≤ 5) (h27 : 0 ≤ f_v2 ∧ f_v2 ≤ 5) (h28 : 0 ≤ f_v3 ∧ f_v3 ≤ 5) (h29 : 0 ≤ f_v4 ∧ f_v4 ≤ 5) (h30 : 0 ≤ f_v5 ∧ f_v5 ≤ 5) (h31 : 0 ≤ f_v6 ∧ f_v6 ≤ 5) (h32 : 1 ≤ z232 ∧ z232 ≤ 6) (h33 : 0 ≤ z237 ∧ z237 ≤ 5) (h34 : 0 ≤ z240 ∧ z240 ≤ 5) : 0 ≤ ((5 * z232) + z237) ∧ ((5 * z232) + z237) < 35 := by omega
theorem vc_X12_isOffered_4 {z244 z363 : Int} (h0 : z363 < z244) (h1 : 0 ≤ z244 ∧ z244 ≤ 7) (h2 : 0 ≤ z363 ∧ z363 ≤ 7) : 0 ≤ z363 ∧ z363 ≤ 6 := by omega
theorem vc_X12_isOffered_5 {z244 z363 : Int} (h0 : z363 < z244) (h1 : 0 ≤ z244 ∧ z244 ≤ 7) (h2 : 0 ≤ z363 ∧ z363 ≤ 6) : 1 ≤ z244 ∧ z244 ≤ 7 := by omega
theorem vc_X12_isOffered_8 {f_h1 f_h2 f_h3 f_h4 f_h5 f_h6 f_v1 f_v2 f_v3 f_v4 f_v5 f_v6 z232 z237 z240 z244 z363 : Int} (h0 : ¬ z232 = 0) (h1 : (z232 = 1 → z237 = f_h1)) (h2 : (z232 = 2 → z237 = f_h2)) (h3 : (z232 = 3 → z237 = f_h3)) (h4 : (z232 = 4 → z237 = f_h4)) (h5 : (z232 = 5 → z237 = f_h5)) (h6 : (z232 = 6 → z237 = f_h6)) (h7 : (z232 = 1 → z240 = f_v1)) (h8 : (z232 = 2 → z240 = f_v2)) (h9 : (z232 = 3 → z240 = f_v3)) (h10 : (z232 = 4 → z240 = f_v4)) (h11 : (z232 = 5 → z240 = f_v5)) (h12 : (z232 = 6 → z240 = f_v6)) (h13 : ¬ z237 = z240) (h14 : z363 < z244) (h15 : f_h1 ≤ f_v1) (h16 : f_h2 ≤ f_v2) (h17 : f_h3 ≤ f_v3) (h18 : f_h4 ≤ f_v4) (h19 : f_h5 ≤ f_v5) (h20 : f_h6 ≤ f_v6) (h21 : 0 ≤ f_h1 ∧ f_h1 ≤ 5) (h22 : 0 ≤ f_h2 ∧ f_h2 ≤ 5) (h23 : 0 ≤ f_h3 ∧ f_h3 ≤ 5) (h24 : 0 ≤ f_h4 ∧ f_h4 ≤ 5) (h25 : 0 ≤ f_h5 ∧ f_h5 ≤ 5) (h26 : 0 ≤ f_h6 ∧ f_h6 ≤ 5) (h27 : 0 ≤ f_v1 ∧ f_v1 ≤ 5) (h28 : 0 ≤ f_v2 ∧ f_v2 ≤ 5) (h29 : 0 ≤ f_v3 ∧ f_v3 ≤ 5) (h30 : 0 ≤ f_v4 ∧ f_v4 ≤ 5) (h31 : 0 ≤ f_v5 ∧ f_v5 ≤ 5) (h32 : 0 ≤ f_v6 ∧ f_v6 ≤ 5) (h33 : 1 ≤ z232 ∧ z232 ≤ 6) (h34 : 0 ≤ z237 ∧ z237 ≤ 5) (h35 : 0 ≤ z240 ∧ z240 ≤ 5) (h36 : 1 ≤ z244 ∧ z244 ≤ 7) (h37 : 0 ≤ z363 ∧ z363 ≤ 6) : 0 ≤ ((8 * ((5 * z232) + z237)) + z363) ∧ ((8 * ((5 * z232) + z237)) + z363) < 280 := by omega
theorem vc_X12_isOffered_9 {N z244 z363 : Int} (h0 : (8 - z363) < N + 1) (h1 : z363 < z244) (h2 : 1 ≤ z244 ∧ z244 ≤ 7) (h3 : 0 ≤ z363 ∧ z363 ≤ 6) : (8 - (z363 + 1)) < N := by omega
theorem vc_X12_isOffered_11 {z244 z247 : Int} (h0 : z244 = (z247 - 1)) (h1 : 0 ≤ z244 ∧ z244 ≤ 7) (h2 : 0 ≤ z247 ∧ z247 ≤ 7) : 0 ≤ z244 ∧ z244 ≤ 6 := by omega
theorem vc_X12_isOffered_12 {z244 z247 : Int} (h0 : z244 = (z247 - 1)) (h1 : 0 ≤ z244 ∧ z244 ≤ 6) (h2 : 0 ≤ z247 ∧ z247 ≤ 7) : 1 ≤ z247 ∧ z247 ≤ 7 := by omega
theorem vc_X12_isOffered_13 {z232 : Int} (h0 : z232 = 0) (h1 : 0 ≤ z232 ∧ z232 ≤ 6) : 0 ≤ z232 ∧ z232 ≤ 0 := by omega
theorem vc_X12_isOffered_14 {z408 : Int} (h0 : z408 = 2) (h1 : 0 ≤ z408 ∧ z408 ≤ 7) : 2 ≤ z408 ∧ z408 ≤ 2 := by omega
set_option maxRecDepth 4000 in
set_option maxHeartbeats 4000000 in
theorem c_X12_isOffered {l : Launch} {D : va_G} {c : Nat → ClassId} {H0 : Heap} {sa : Nat × Nat × (Nat → Int32)} {w : mW} {μ : mM} (hw : mWF w) (hT : mT w μ) {p1 : Int} (hp1 : 5 ≤ p1 ∧ p1 ≤ 34) {f_h1 : Int} (q_f_h1 : μ 188 ((1 : Int).toNat) = f_h1) {f_h2 : Int} (q_f_h2 : μ 188 ((2 : Int).toNat) = f_h2) {f_h3 : Int} (q_f_h3 : μ 188 ((3 : Int).toNat) = f_h3) {f_h4 : Int} (q_f_h4 : μ 188 ((4 : Int).toNat) = f_h4) {f_h5 : Int} (q_f_h5 : μ 188 ((5 : Int).toNat) = f_h5) {f_h6 : Int} (q_f_h6 : μ 188 ((6 : Int).toNat) = f_h6) {f_v1 : Int} (q_f_v1 : μ 184 ((1 : Int).toNat) = f_v1) {f_v2 : Int} (q_f_v2 : μ 184 ((2 : Int).toNat) = f_v2) {f_v3 : Int} (q_f_v3 : μ 184 ((3 : Int).toNat) = f_v3) {f_v4 : Int} (q_f_v4 : μ 184 ((4 : Int).toNat) = f_v4) {f_v5 : Int} (q_f_v5 : μ 184 ((5 : Int).toNat) = f_v5) {f_v6 : Int} (q_f_v6 : μ 184 ((6 : Int).toNat) = f_v6) (hq0 : f_h1 ≤ f_v1) (hq1 : f_h2 ≤ f_v2) (hq2 : f_h3 ≤ f_v3) (hq3 : f_h4 ≤ f_v4) (hq4 : f_h5 ≤ f_v5) (hq5 : f_h6 ≤ f_v6) : sC (gG l D c H0 sa) mX12_isOffered 1 0 0 [.ref 106, iv p1] (mk w μ) (qP w μ (fun z => (0 ≤ z ∧ z ≤ 1) ∧ True)) := by
  refine sC.of rfl (by decide) (le_t rfl) ?_
  have ht_f_h1 : (0 ≤ f_h1 ∧ f_h1 ≤ 5) := by rw [← q_f_h1]; exact hT 188 188 (A_188 hw) ((1 : Int).toNat)
  have ht_f_h2 : (0 ≤ f_h2 ∧ f_h2 ≤ 5) := by rw [← q_f_h2]; exact hT 188 188 (A_188 hw) ((2 : Int).toNat)
  have ht_f_h3 : (0 ≤ f_h3 ∧ f_h3 ≤ 5) := by rw [← q_f_h3]; exact hT 188 188 (A_188 hw) ((3 : Int).toNat)
  have ht_f_h4 : (0 ≤ f_h4 ∧ f_h4 ≤ 5) := by rw [← q_f_h4]; exact hT 188 188 (A_188 hw) ((4 : Int).toNat)
  have ht_f_h5 : (0 ≤ f_h5 ∧ f_h5 ≤ 5) := by rw [← q_f_h5]; exact hT 188 188 (A_188 hw) ((5 : Int).toNat)
  have ht_f_h6 : (0 ≤ f_h6 ∧ f_h6 ≤ 5) := by rw [← q_f_h6]; exact hT 188 188 (A_188 hw) ((6 : Int).toNat)
  have ht_f_v1 : (0 ≤ f_v1 ∧ f_v1 ≤ 5) := by rw [← q_f_v1]; exact hT 184 184 (A_184 hw) ((1 : Int).toNat)
  have ht_f_v2 : (0 ≤ f_v2 ∧ f_v2 ≤ 5) := by rw [← q_f_v2]; exact hT 184 184 (A_184 hw) ((2 : Int).toNat)
  have ht_f_v3 : (0 ≤ f_v3 ∧ f_v3 ≤ 5) := by rw [← q_f_v3]; exact hT 184 184 (A_184 hw) ((3 : Int).toNat)
  have ht_f_v4 : (0 ≤ f_v4 ∧ f_v4 ≤ 5) := by rw [← q_f_v4]; exact hT 184 184 (A_184 hw) ((4 : Int).toNat)
  have ht_f_v5 : (0 ≤ f_v5 ∧ f_v5 ≤ 5) := by rw [← q_f_v5]; exact hT 184 184 (A_184 hw) ((5 : Int).toNat)
  have ht_f_v6 : (0 ≤ f_v6 ∧ f_v6 ≤ 5) := by rw [← q_f_v6]; exact hT 184 184 (A_184 hw) ((6 : Int).toNat)
  refine mr_lvE (lv' := [(0, .ref 106), (1, iv p1)]) rfl ?_
  refine sv_aload_n (pc := 0) dX12_isOffered_0 rfl rfl ?_
  refine gf_X12_120 (pc := 1) dX12_isOffered_1 wF_X12_520 (A_106 hw) hT ?_
  refine mr_bipush (pc := 4) (z := 8) dX12_isOffered_4 (by decide) ?_
  refine mr_iload_n (pc := 6) (z := p1) dX12_isOffered_6 rfl rfl ?_
  refine mr_imul (pc := 7) (x := 8) (y := p1) dX12_isOffered_7 ?_
  refine mr_iconst (pc := 8) (z := 1) dX12_isOffered_8 ?_
  refine mr_iadd (pc := 9) (x := (8 * p1)) (y := 1) dX12_isOffered_9 ?_
  refine la_186 (pc := 10) dX12_isOffered_10 (A_186 hw) hT (rIx (n := 280) (rAdd (e := 41) (f := 273) (rMulL (n := 8) (e := 40) (f := 272) hp1 rfl) (rR (x := 1)) rfl) rfl) fun z232 q233 h234 => ?_
  refine mr_istore_n (pc := 11) (lv' := [(2, iv z232), (0, .ref 106), (1, iv p1)]) dX12_isOffered_11 rfl (by decide) rfl ?_
  refine mr_iload_n (pc := 12) (z := z232) dX12_isOffered_12 rfl rfl ?_
  refine mr_if_ne (pc := 13) (tgt := 32) dX12_isOffered_13 (by decide) (r32 h234 rfl) (fun h235 => ?_) (fun h235 => ?_)
  · have h236 : 1 ≤ z232 ∧ z232 ≤ 6 := (vc_X12_isOffered_1 h235 h234)
    refine sv_aload_n (pc := 32) dX12_isOffered_32 rfl rfl ?_
    refine gf_X12_122 (pc := 33) dX12_isOffered_33 wF_X12_526 (A_106 hw) hT ?_
    refine mr_iload_n (pc := 36) (z := z232) dX12_isOffered_36 rfl rfl ?_
    refine la_188 (pc := 37) dX12_isOffered_37 (A_188 hw) hT (rIx (n := 7) h236 rfl) fun z237 q238 h239 => ?_
    refine sv_aload_n (pc := 38) dX12_isOffered_38 rfl rfl ?_
    refine gf_X12_118 (pc := 39) dX12_isOffered_39 wF_X12_514 (A_106 hw) hT ?_
    refine mr_iload_n (pc := 42) (z := z232) dX12_isOffered_42 rfl rfl ?_
    refine la_184 (pc := 43) dX12_isOffered_43 (A_184 hw) hT (rIx (n := 7) h236 rfl) fun z240 q241 h242 => ?_
    refine mr_icmp_ne (pc := 44) (tgt := 49) dX12_isOffered_44 (by decide) (r32 h239 rfl) (r32 h242 rfl) (fun h243 => ?_) (fun h243 => ?_)
    · refine mr_iconst (pc := 49) (z := 5) dX12_isOffered_49 ?_
      refine mr_iload_n (pc := 50) (z := z232) dX12_isOffered_50 rfl rfl ?_
      refine mr_imul (pc := 51) (x := 5) (y := z232) dX12_isOffered_51 ?_
      refine sv_aload_n (pc := 52) dX12_isOffered_52 rfl rfl ?_
      refine gf_X12_122 (pc := 53) dX12_isOffered_53 wF_X12_526 (A_106 hw) hT ?_
      refine mr_iload_n (pc := 56) (z := z232) dX12_isOffered_56 rfl rfl ?_
      refine lk_188 (pc := 57) dX12_isOffered_57 (A_188 hw) (rIx (n := 7) h236 rfl) q238 ?_
      refine mr_iadd (pc := 58) (x := (5 * z232)) (y := z237) dX12_isOffered_58 ?_
      refine mr_istore_n (pc := 59) (lv' := [(3, iv ((5 * z232) + z237)), (2, iv z232), (0, .ref 106), (1, iv p1)]) dX12_isOffered_59 rfl (by decide) rfl ?_
      refine sv_aload_n (pc := 60) dX12_isOffered_60 rfl rfl ?_
      refine gf_X12_119 (pc := 61) dX12_isOffered_61 wF_X12_517 (A_106 hw) hT ?_
      refine mr_iload_n (pc := 64) (z := ((5 * z232) + z237)) dX12_isOffered_64 rfl rfl ?_
      refine la_185 (pc := 65) dX12_isOffered_65 (A_185 hw) hT (vc_X12_isOffered_2 h235 (cgr q238 q_f_h1) (cgr q238 q_f_h2) (cgr q238 q_f_h3) (cgr q238 q_f_h4) (cgr q238 q_f_h5) (cgr q238 q_f_h6) (cgr q241 q_f_v1) (cgr q241 q_f_v2) (cgr q241 q_f_v3) (cgr q241 q_f_v4) (cgr q241 q_f_v5) (cgr q241 q_f_v6) h243 hq0 hq1 hq2 hq3 hq4 hq5 ht_f_h1 ht_f_h2 ht_f_h3 ht_f_h4 ht_f_h5 ht_f_h6 ht_f_v1 ht_f_v2 ht_f_v3 ht_f_v4 ht_f_v5 ht_f_v6 h236 h239 h242) fun z244 q245 h246 => ?_
      refine sv_aload_n (pc := 66) dX12_isOffered_66 rfl rfl ?_
      refine gf_X12_119 (pc := 67) dX12_isOffered_67 wF_X12_517 (A_106 hw) hT ?_
      refine mr_iload_n (pc := 70) (z := p1) dX12_isOffered_70 rfl rfl ?_
      refine la_185 (pc := 71) dX12_isOffered_71 (A_185 hw) hT (rIx (n := 35) hp1 rfl) fun z247 q248 h249 => ?_
      refine mr_iconst (pc := 72) (z := 1) dX12_isOffered_72 ?_
      refine mr_isub (pc := 73) (x := z247) (y := 1) dX12_isOffered_73 ?_
      have J254 : ∀ (z252 : Int), ((0 ≤ z252 ∧ z252 ≤ 1)) → sV (gG l D c H0 sa) mX12_isOffered (sRm 1 0 0) (sZ (gG l D c H0 sa) 0 0 (qP w μ (fun z => (0 ≤ z ∧ z ≤ 1) ∧ True))) 82 [(0, .ref 106), (1, iv p1), (3, iv ((5 * z232) + z237))] [iv z252] (mk w μ) 0 0 := by
        intro z252 h253
        refine mr_istore (pc := 82) (lv' := [(4, iv z252), (0, .ref 106), (1, iv p1), (3, iv ((5 * z232) + z237))]) dX12_isOffered_82 (by decide) rfl ?_
        refine mr_iconst (pc := 84) (z := 0) dX12_isOffered_84 ?_
        refine mr_istore (pc := 85) (lv' := [(5, iv 0), (4, iv z252), (0, .ref 106), (1, iv p1), (3, iv ((5 * z232) + z237))]) dX12_isOffered_85 (by decide) rfl ?_
        have L365 : ∀ (nL365 : Nat) (z364 z363 : Int), True → (0 ≤ z364 ∧ z364 ≤ 1) → (0 ≤ z363 ∧ z363 ≤ 7) → (8 - z363) < (nL365 : Int) → sV (gG l D c H0 sa) mX12_isOffered (sRm 1 0 0) (sZ (gG l D c H0 sa) 0 0 (qP w μ (fun z => (0 ≤ z ∧ z ≤ 1) ∧ True))) 87 [(0, .ref 106), (1, iv p1), (3, iv ((5 * z232) + z237)), (4, iv z364), (5, iv z363)] [] (mk w μ) 0 0 := by
          intro nL365
          induction nL365 with
          | zero => intro z364 z363 _ h366 h367 h371; exact ((vc_X12_isWished_2 h371 h367)).elim
          | succ nL365 ih372 =>
            intro z364 z363 _ h366 h367 h371
            refine mr_iload (pc := 87) (z := z363) dX12_isOffered_87 rfl ?_
            refine sv_aload_n (pc := 89) dX12_isOffered_89 rfl rfl ?_
            refine gf_X12_119 (pc := 90) dX12_isOffered_90 wF_X12_517 (A_106 hw) hT ?_
            refine mr_iload_n (pc := 93) (z := ((5 * z232) + z237)) dX12_isOffered_93 rfl rfl ?_
            refine lk_185 (pc := 94) dX12_isOffered_94 (A_185 hw) (vc_X12_isOffered_2 h235 (cgr q238 q_f_h1) (cgr q238 q_f_h2) (cgr q238 q_f_h3) (cgr q238 q_f_h4) (cgr q238 q_f_h5) (cgr q238 q_f_h6) (cgr q241 q_f_v1) (cgr q241 q_f_v2) (cgr q241 q_f_v3) (cgr q241 q_f_v4) (cgr q241 q_f_v5) (cgr q241 q_f_v6) h243 hq0 hq1 hq2 hq3 hq4 hq5 ht_f_h1 ht_f_h2 ht_f_h3 ht_f_h4 ht_f_h5 ht_f_h6 ht_f_v1 ht_f_v2 ht_f_v3 ht_f_v4 ht_f_v5 ht_f_v6 h236 h239 h242) q245 ?_
            refine mr_icmp_ge (pc := 95) (tgt := 145) dX12_isOffered_95 (by decide) (r32 h367 rfl) (r32 h246 rfl) (fun h383 => ?_) (fun h383 => ?_)
            · refine mr_iload (pc := 145) (z := z364) dX12_isOffered_145 rfl ?_
              exact mr_zretP dX12_isOffered_147 rfl h366 (le_t rfl) (le_t rfl) ⟨h366, trivial⟩
            have h384 : 0 ≤ z363 ∧ z363 ≤ 6 := (vc_X12_isOffered_4 h383 h246 h367)
            have h385 : 1 ≤ z244 ∧ z244 ≤ 7 := (vc_X12_isOffered_5 h383 h246 h384)
            refine mr_iload (pc := 98) (z := z364) dX12_isOffered_98 rfl ?_
            refine mr_if_eq (pc := 100) (tgt := 145) dX12_isOffered_100 (by decide) (r32 h366 rfl) (fun h394 => ?_) (fun h394 => ?_)
            · have h395 : 0 ≤ z364 ∧ z364 ≤ 0 := (vc_X12_ring_22 h394 h366)
              refine mr_iload (pc := 145) (z := z364) dX12_isOffered_145 rfl ?_
              exact mr_zretP dX12_isOffered_147 rfl (rW (c := 0) (d := 1) h395 rfl) (le_t rfl) (le_t rfl) ⟨(rW (c := 0) (d := 1) h395 rfl), trivial⟩
            have h396 : 1 ≤ z364 ∧ z364 ≤ 1 := (vc_X12_ring_24 h394 h366)
            refine sv_aload_n (pc := 103) dX12_isOffered_103 rfl rfl ?_
            refine gf_X12_120 (pc := 104) dX12_isOffered_104 wF_X12_520 (A_106 hw) hT ?_
            refine mr_bipush (pc := 107) (z := 8) dX12_isOffered_107 (by decide) ?_
            refine mr_iload_n (pc := 109) (z := ((5 * z232) + z237)) dX12_isOffered_109 rfl rfl ?_
            refine mr_imul (pc := 110) (x := 8) (y := ((5 * z232) + z237)) dX12_isOffered_110 ?_
            refine mr_iload (pc := 111) (z := z363) dX12_isOffered_111 rfl ?_
            refine mr_iadd (pc := 113) (x := (8 * ((5 * z232) + z237))) (y := z363) dX12_isOffered_113 ?_
            refine la_186 (pc := 114) dX12_isOffered_114 (A_186 hw) hT (vc_X12_isOffered_8 h235 (cgr q238 q_f_h1) (cgr q238 q_f_h2) (cgr q238 q_f_h3) (cgr q238 q_f_h4) (cgr q238 q_f_h5) (cgr q238 q_f_h6) (cgr q241 q_f_v1) (cgr q241 q_f_v2) (cgr q241 q_f_v3) (cgr q241 q_f_v4) (cgr q241 q_f_v5) (cgr q241 q_f_v6) h243 h383 hq0 hq1 hq2 hq3 hq4 hq5 ht_f_h1 ht_f_h2 ht_f_h3 ht_f_h4 ht_f_h5 ht_f_h6 ht_f_v1 ht_f_v2 ht_f_v3 ht_f_v4 ht_f_v5 ht_f_v6 h236 h239 h242 h385 h384) fun z397 q398 h399 => ?_
            refine sv_aload_n (pc := 115) dX12_isOffered_115 rfl rfl ?_
            refine gf_X12_120 (pc := 116) dX12_isOffered_116 wF_X12_520 (A_106 hw) hT ?_
            refine mr_bipush (pc := 119) (z := 8) dX12_isOffered_119 (by decide) ?_
            refine mr_iload_n (pc := 121) (z := p1) dX12_isOffered_121 rfl rfl ?_
            refine mr_imul (pc := 122) (x := 8) (y := p1) dX12_isOffered_122 ?_
            refine mr_iload (pc := 123) (z := z363) dX12_isOffered_123 rfl ?_
            refine mr_iadd (pc := 125) (x := (8 * p1)) (y := z363) dX12_isOffered_125 ?_
            refine mr_iconst (pc := 126) (z := 1) dX12_isOffered_126 ?_
            refine mr_iadd (pc := 127) (x := ((8 * p1) + z363)) (y := 1) dX12_isOffered_127 ?_
            refine la_186 (pc := 128) dX12_isOffered_128 (A_186 hw) hT (rIx (n := 280) (rAdd (e := 41) (f := 279) (rAdd (e := 40) (f := 278) (rMulL (n := 8) (e := 40) (f := 272) hp1 rfl) h384 rfl) (rR (x := 1)) rfl) rfl) fun z400 q401 h402 => ?_
            refine mr_icmp_ne (pc := 129) (tgt := 136) dX12_isOffered_129 (by decide) (r32 h399 rfl) (r32 h402 rfl) (fun h403 => ?_) (fun h403 => ?_)
            · refine mr_iconst (pc := 136) (z := 0) dX12_isOffered_136 ?_
              refine mr_istore (pc := 137) (lv' := [(4, iv 0), (0, .ref 106), (1, iv p1), (3, iv ((5 * z232) + z237)), (5, iv z363)]) dX12_isOffered_137 (by decide) rfl ?_
              refine mr_iinc (pc := 139) (lv' := [(5, iv (z363 + 1)), (4, iv 0), (0, .ref 106), (1, iv p1), (3, iv ((5 * z232) + z237))]) dX12_isOffered_139 rfl (by decide) rfl ?_
              refine sv_goto (pc := 142) (tgt := 87) dX12_isOffered_142 (by decide) ?_
              refine mr_lvS (lv' := [(0, .ref 106), (1, iv p1), (3, iv ((5 * z232) + z237)), (4, iv 0), (5, iv (z363 + 1))]) (List.forall_mem_cons.mpr ⟨rfl, List.forall_mem_cons.mpr ⟨rfl, List.forall_mem_cons.mpr ⟨rfl, List.forall_mem_cons.mpr ⟨rfl, List.forall_mem_cons.mpr ⟨rfl, fun _ h => absurd h List.not_mem_nil⟩⟩⟩⟩⟩) ?_
              exact ih372 0 (z363 + 1) trivial (rW (c := 0) (d := 1) (rR (x := 0)) rfl) (rW (c := 0) (d := 7) (rAdd (e := 1) (f := 7) h384 (rR (x := 1)) rfl) rfl) (vc_X12_isOffered_9 (nS h371) h383 h385 h384)
            refine mr_iconst (pc := 132) (z := 1) dX12_isOffered_132 ?_
            refine sv_goto (pc := 133) (tgt := 137) dX12_isOffered_133 (by decide) ?_
            refine mr_istore (pc := 137) (lv' := [(4, iv 1), (0, .ref 106), (1, iv p1), (3, iv ((5 * z232) + z237)), (5, iv z363)]) dX12_isOffered_137 (by decide) rfl ?_
            refine mr_iinc (pc := 139) (lv' := [(5, iv (z363 + 1)), (4, iv 1), (0, .ref 106), (1, iv p1), (3, iv ((5 * z232) + z237))]) dX12_isOffered_139 rfl (by decide) rfl ?_
            refine sv_goto (pc := 142) (tgt := 87) dX12_isOffered_142 (by decide) ?_
            refine mr_lvS (lv' := [(0, .ref 106), (1, iv p1), (3, iv ((5 * z232) + z237)), (4, iv 1), (5, iv (z363 + 1))]) (List.forall_mem_cons.mpr ⟨rfl, List.forall_mem_cons.mpr ⟨rfl, List.forall_mem_cons.mpr ⟨rfl, List.forall_mem_cons.mpr ⟨rfl, List.forall_mem_cons.mpr ⟨rfl, fun _ h => absurd h List.not_mem_nil⟩⟩⟩⟩⟩) ?_
            exact ih372 1 (z363 + 1) trivial (rW (c := 0) (d := 1) (rR (x := 1)) rfl) (rW (c := 0) (d := 7) (rAdd (e := 1) (f := 7) h384 (rR (x := 1)) rfl) rfl) (vc_X12_isOffered_9 (nS h371) h383 h385 h384)
        refine mr_lvS (lv' := [(0, .ref 106), (1, iv p1), (3, iv ((5 * z232) + z237)), (4, iv z252), (5, iv 0)]) (List.forall_mem_cons.mpr ⟨rfl, List.forall_mem_cons.mpr ⟨rfl, List.forall_mem_cons.mpr ⟨rfl, List.forall_mem_cons.mpr ⟨rfl, List.forall_mem_cons.mpr ⟨rfl, fun _ h => absurd h List.not_mem_nil⟩⟩⟩⟩⟩) ?_
        exact L365 9 z252 0 trivial h253 (rW (c := 0) (d := 7) (rR (x := 0)) rfl) vc_X12_isWished_9
      refine mr_icmp_ne (pc := 74) (tgt := 81) dX12_isOffered_74 (by decide) (r32 h246 rfl) (r32 (rSub (e := (-1)) (f := 6) h249 (rR (x := 1)) rfl) rfl) (fun h404 => ?_) (fun h404 => ?_)
      · refine mr_iconst (pc := 81) (z := 0) dX12_isOffered_81 ?_
        refine mr_lvS (lv' := [(0, .ref 106), (1, iv p1), (3, iv ((5 * z232) + z237))]) (List.forall_mem_cons.mpr ⟨rfl, List.forall_mem_cons.mpr ⟨rfl, List.forall_mem_cons.mpr ⟨rfl, fun _ h => absurd h List.not_mem_nil⟩⟩⟩) ?_
        exact J254 0 (rW (c := 0) (d := 1) (rR (x := 0)) rfl)
      have h405 : 0 ≤ z244 ∧ z244 ≤ 6 := (vc_X12_isOffered_11 h404 h246 h249)
      have h406 : 1 ≤ z247 ∧ z247 ≤ 7 := (vc_X12_isOffered_12 h404 h405 h249)
      refine mr_iconst (pc := 77) (z := 1) dX12_isOffered_77 ?_
      refine sv_goto (pc := 78) (tgt := 82) dX12_isOffered_78 (by decide) ?_
      refine mr_lvS (lv' := [(0, .ref 106), (1, iv p1), (3, iv ((5 * z232) + z237))]) (List.forall_mem_cons.mpr ⟨rfl, List.forall_mem_cons.mpr ⟨rfl, List.forall_mem_cons.mpr ⟨rfl, fun _ h => absurd h List.not_mem_nil⟩⟩⟩) ?_
      exact J254 1 (rW (c := 0) (d := 1) (rR (x := 1)) rfl)
    refine mr_iconst (pc := 47) (z := 0) dX12_isOffered_47 ?_
    exact mr_zretP dX12_isOffered_48 rfl (rW (c := 0) (d := 1) (rR (x := 0)) rfl) (le_t rfl) (le_t rfl) ⟨(rW (c := 0) (d := 1) (rR (x := 0)) rfl), trivial⟩
  have h407 : 0 ≤ z232 ∧ z232 ≤ 0 := (vc_X12_isOffered_13 h235 h234)
  refine sv_aload_n (pc := 16) dX12_isOffered_16 rfl rfl ?_
  refine gf_X12_119 (pc := 17) dX12_isOffered_17 wF_X12_517 (A_106 hw) hT ?_
  refine mr_iload_n (pc := 20) (z := p1) dX12_isOffered_20 rfl rfl ?_
  refine la_185 (pc := 21) dX12_isOffered_21 (A_185 hw) hT (rIx (n := 35) hp1 rfl) fun z408 q409 h410 => ?_
  refine mr_iconst (pc := 22) (z := 2) dX12_isOffered_22 ?_
  refine mr_icmp_ne (pc := 23) (tgt := 30) dX12_isOffered_23 (by decide) (r32 h410 rfl) (r32 (rR (x := 2)) rfl) (fun h412 => ?_) (fun h412 => ?_)
  · refine mr_iconst (pc := 30) (z := 0) dX12_isOffered_30 ?_
    exact mr_zretP dX12_isOffered_31 rfl (rW (c := 0) (d := 1) (rR (x := 0)) rfl) (le_t rfl) (le_t rfl) ⟨(rW (c := 0) (d := 1) (rR (x := 0)) rfl), trivial⟩
  have h413 : 2 ≤ z408 ∧ z408 ≤ 2 := (vc_X12_isOffered_14 h412 h410)
  refine mr_iconst (pc := 26) (z := 1) dX12_isOffered_26 ?_
  refine sv_goto (pc := 27) (tgt := 31) dX12_isOffered_27 (by decide) ?_
  exact mr_zretP dX12_isOffered_31 rfl (rW (c := 0) (d := 1) (rR (x := 1)) rfl) (le_t rfl) (le_t rfl) ⟨(rW (c := 0) (d := 1) (rR (x := 1)) rfl), trivial⟩
theorem vc_X12_acted_1 {z183 : Int} (h0 : (6 - z183) < ((0 : Nat) : Int)) (h1 : 0 ≤ z183 ∧ z183 ≤ 5) : False := by omega
theorem vc_X12_acted_2 {z183 z191 : Int} (h0 : z183 < z191) (h1 : 0 ≤ z183 ∧ z183 ≤ 5) (h2 : 0 ≤ z191 ∧ z191 ≤ 5) : 0 ≤ z183 ∧ z183 ≤ 4 := by omega
theorem vc_X12_acted_3 {z183 z191 : Int} (h0 : z183 < z191) (h1 : 0 ≤ z183 ∧ z183 ≤ 4) (h2 : 0 ≤ z191 ∧ z191 ≤ 5) : 1 ≤ z191 ∧ z191 ≤ 5 := by omega
theorem vc_X12_acted_4 {f_h1 f_v1 : Int} (h0 : f_h1 ≤ f_v1) (h1 : 0 ≤ f_h1 ∧ f_h1 ≤ 5) (h2 : 0 ≤ f_v1 ∧ f_v1 ≤ 5) : f_h1 ≤ f_v1 := by omega
theorem vc_X12_acted_11 {N z183 z191 : Int} (h0 : (6 - z183) < N + 1) (h1 : z183 < z191) (h2 : 0 ≤ z183 ∧ z183 ≤ 4) (h3 : 1 ≤ z191 ∧ z191 ≤ 5) : (6 - (z183 + 1)) < N := by omega
theorem vc_X12_acted_13  : (6 - 0) < ((7 : Nat) : Int) := by omega
set_option maxRecDepth 4000 in
set_option maxHeartbeats 4000000 in
theorem c_X12_acted {l : Launch} {D : va_G} {c : Nat → ClassId} {H0 : Heap} {sa : Nat × Nat × (Nat → Int32)} {w : mW} {μ : mM} (hw : mWF w) (hT : mT w μ) {p1 : Int} (hp1 : 1 ≤ p1 ∧ p1 ≤ 6) {f_h1 : Int} (q_f_h1 : μ 188 ((1 : Int).toNat) = f_h1) {f_h2 : Int} (q_f_h2 : μ 188 ((2 : Int).toNat) = f_h2) {f_h3 : Int} (q_f_h3 : μ 188 ((3 : Int).toNat) = f_h3) {f_h4 : Int} (q_f_h4 : μ 188 ((4 : Int).toNat) = f_h4) {f_h5 : Int} (q_f_h5 : μ 188 ((5 : Int).toNat) = f_h5) {f_h6 : Int} (q_f_h6 : μ 188 ((6 : Int).toNat) = f_h6) {f_v1 : Int} (q_f_v1 : μ 184 ((1 : Int).toNat) = f_v1) {f_v2 : Int} (q_f_v2 : μ 184 ((2 : Int).toNat) = f_v2) {f_v3 : Int} (q_f_v3 : μ 184 ((3 : Int).toNat) = f_v3) {f_v4 : Int} (q_f_v4 : μ 184 ((4 : Int).toNat) = f_v4) {f_v5 : Int} (q_f_v5 : μ 184 ((5 : Int).toNat) = f_v5) {f_v6 : Int} (q_f_v6 : μ 184 ((6 : Int).toNat) = f_v6) (hq0 : f_h1 ≤ f_v1) (hq1 : f_h2 ≤ f_v2) (hq2 : f_h3 ≤ f_v3) (hq3 : f_h4 ≤ f_v4) (hq4 : f_h5 ≤ f_v5) (hq5 : f_h6 ≤ f_v6) : sC (gG l D c H0 sa) mX12_acted 2 0 0 [.ref 106, iv p1] (mk w μ) (qP w μ (fun z => (0 ≤ z ∧ z ≤ 5) ∧ True)) := by
  refine sC.of rfl (by decide) (le_t rfl) ?_
  have ht_f_h1 : (0 ≤ f_h1 ∧ f_h1 ≤ 5) := by rw [← q_f_h1]; exact hT 188 188 (A_188 hw) ((1 : Int).toNat)
  have ht_f_h2 : (0 ≤ f_h2 ∧ f_h2 ≤ 5) := by rw [← q_f_h2]; exact hT 188 188 (A_188 hw) ((2 : Int).toNat)
  have ht_f_h3 : (0 ≤ f_h3 ∧ f_h3 ≤ 5) := by rw [← q_f_h3]; exact hT 188 188 (A_188 hw) ((3 : Int).toNat)
  have ht_f_h4 : (0 ≤ f_h4 ∧ f_h4 ≤ 5) := by rw [← q_f_h4]; exact hT 188 188 (A_188 hw) ((4 : Int).toNat)
  have ht_f_h5 : (0 ≤ f_h5 ∧ f_h5 ≤ 5) := by rw [← q_f_h5]; exact hT 188 188 (A_188 hw) ((5 : Int).toNat)
  have ht_f_h6 : (0 ≤ f_h6 ∧ f_h6 ≤ 5) := by rw [← q_f_h6]; exact hT 188 188 (A_188 hw) ((6 : Int).toNat)
  have ht_f_v1 : (0 ≤ f_v1 ∧ f_v1 ≤ 5) := by rw [← q_f_v1]; exact hT 184 184 (A_184 hw) ((1 : Int).toNat)
  have ht_f_v2 : (0 ≤ f_v2 ∧ f_v2 ≤ 5) := by rw [← q_f_v2]; exact hT 184 184 (A_184 hw) ((2 : Int).toNat)
  have ht_f_v3 : (0 ≤ f_v3 ∧ f_v3 ≤ 5) := by rw [← q_f_v3]; exact hT 184 184 (A_184 hw) ((3 : Int).toNat)
  have ht_f_v4 : (0 ≤ f_v4 ∧ f_v4 ≤ 5) := by rw [← q_f_v4]; exact hT 184 184 (A_184 hw) ((4 : Int).toNat)
  have ht_f_v5 : (0 ≤ f_v5 ∧ f_v5 ≤ 5) := by rw [← q_f_v5]; exact hT 184 184 (A_184 hw) ((5 : Int).toNat)
  have ht_f_v6 : (0 ≤ f_v6 ∧ f_v6 ≤ 5) := by rw [← q_f_v6]; exact hT 184 184 (A_184 hw) ((6 : Int).toNat)
  refine mr_lvE (lv' := [(0, .ref 106), (1, iv p1)]) rfl ?_
  refine mr_iconst (pc := 0) (z := 0) dX12_acted_0 ?_
  refine mr_istore_n (pc := 1) (lv' := [(2, iv 0), (0, .ref 106), (1, iv p1)]) dX12_acted_1 rfl (by decide) rfl ?_
  have L184 : ∀ (nL184 : Nat) (z183 : Int), True → (0 ≤ z183 ∧ z183 ≤ 5) → (6 - z183) < (nL184 : Int) → sV (gG l D c H0 sa) mX12_acted (sRm 2 0 0) (sZ (gG l D c H0 sa) 0 0 (qP w μ (fun z => (0 ≤ z ∧ z ≤ 5) ∧ True))) 2 [(0, .ref 106), (1, iv p1), (2, iv z183)] [] (mk w μ) 0 0 := by
    intro nL184
    induction nL184 with
    | zero => intro z183 _ h185 h189; exact ((vc_X12_acted_1 h189 h185)).elim
    | succ nL184 ih190 =>
      intro z183 _ h185 h189
      refine mr_iload_n (pc := 2) (z := z183) dX12_acted_2 rfl rfl ?_
      refine sv_aload_n (pc := 3) dX12_acted_3 rfl rfl ?_
      refine gf_X12_118 (pc := 4) dX12_acted_4 wF_X12_514 (A_106 hw) hT ?_
      refine mr_iload_n (pc := 7) (z := p1) dX12_acted_7 rfl rfl ?_
      refine la_184 (pc := 8) dX12_acted_8 (A_184 hw) hT (rIx (n := 7) hp1 rfl) fun z191 q192 h193 => ?_
      refine mr_icmp_ge (pc := 9) (tgt := 32) dX12_acted_9 (by decide) (r32 h185 rfl) (r32 h193 rfl) (fun h194 => ?_) (fun h194 => ?_)
      · refine sv_aload_n (pc := 32) dX12_acted_32 rfl rfl ?_
        refine gf_X12_118 (pc := 33) dX12_acted_33 wF_X12_514 (A_106 hw) hT ?_
        refine mr_iload_n (pc := 36) (z := p1) dX12_acted_36 rfl rfl ?_
        refine lk_184 (pc := 37) dX12_acted_37 (A_184 hw) (rIx (n := 7) hp1 rfl) q192 ?_
        exact mr_iretP dX12_acted_38 rfl (le_t rfl) (le_t rfl) ⟨h193, trivial⟩
      have h195 : 0 ≤ z183 ∧ z183 ≤ 4 := (vc_X12_acted_2 h194 h185 h193)
      have h196 : 1 ≤ z191 ∧ z191 ≤ 5 := (vc_X12_acted_3 h194 h195 h193)
      refine sv_aload_n (pc := 12) dX12_acted_12 rfl rfl ?_
      refine mr_iconst (pc := 13) (z := 5) dX12_acted_13 ?_
      refine mr_iload_n (pc := 14) (z := p1) dX12_acted_14 rfl rfl ?_
      refine mr_imul (pc := 15) (x := 5) (y := p1) dX12_acted_15 ?_
      refine mr_iload_n (pc := 16) (z := z183) dX12_acted_16 rfl rfl ?_
      refine mr_iadd (pc := 17) (x := (5 * p1)) (y := z183) dX12_acted_17 ?_
      refine mr_cVP (pc := 18) (c_X12_isOffered hw hT (rAdd (e := 5) (f := 34) (rMulL (n := 5) (e := 5) (f := 30) hp1 rfl) h195 rfl) q_f_h1 q_f_h2 q_f_h3 q_f_h4 q_f_h5 q_f_h6 q_f_v1 q_f_v2 q_f_v3 q_f_v4 q_f_v5 q_f_v6 (vc_X12_acted_4 hq0 ht_f_h1 ht_f_v1) (vc_X12_acted_4 hq1 ht_f_h2 ht_f_v2) (vc_X12_acted_4 hq2 ht_f_h3 ht_f_v3) (vc_X12_acted_4 hq3 ht_f_h4 ht_f_v4) (vc_X12_acted_4 hq4 ht_f_h5 ht_f_v5) (vc_X12_acted_4 hq5 ht_f_h6 ht_f_v6)) (gOk _ _ _ _ _) dX12_acted_18 (tX12_isOffered _ _ _ _ _) ⟨wV_X12_isOffered, wL_X12_isOffered⟩ wM_X12_719 (gCX12 _ _ _ _ _) rfl (A_106 hw) rfl ⟨le_t rfl, le_t rfl⟩ ⟨le_t rfl, le_t rfl⟩ rfl (le_t rfl) fun z201 h200 => ?_
      refine mr_if_eq (pc := 21) (tgt := 26) dX12_acted_21 (by decide) (r32 h200.1 rfl) (fun h202 => ?_) (fun h202 => ?_)
      · have h203 : 0 ≤ z201 ∧ z201 ≤ 0 := (vc_X12_ring_22 h202 h200.1)
        refine mr_iinc (pc := 26) (lv' := [(2, iv (z183 + 1)), (0, .ref 106), (1, iv p1)]) dX12_acted_26 rfl (by decide) rfl ?_
        refine sv_goto (pc := 29) (tgt := 2) dX12_acted_29 (by decide) ?_
        refine mr_lvS (lv' := [(0, .ref 106), (1, iv p1), (2, iv (z183 + 1))]) (List.forall_mem_cons.mpr ⟨rfl, List.forall_mem_cons.mpr ⟨rfl, List.forall_mem_cons.mpr ⟨rfl, fun _ h => absurd h List.not_mem_nil⟩⟩⟩) ?_
        exact ih190 (z183 + 1) trivial (rW (c := 0) (d := 5) (rAdd (e := 1) (f := 5) h195 (rR (x := 1)) rfl) rfl) (vc_X12_acted_11 (nS h189) h194 h195 h196)
      have h204 : 1 ≤ z201 ∧ z201 ≤ 1 := (vc_X12_ring_24 h202 h200.1)
      refine mr_iload_n (pc := 24) (z := z183) dX12_acted_24 rfl rfl ?_
      exact mr_iretP dX12_acted_25 rfl (le_t rfl) (le_t rfl) ⟨(rW (c := 0) (d := 5) h195 rfl), trivial⟩
  refine mr_lvS (lv' := [(0, .ref 106), (1, iv p1), (2, iv 0)]) (List.forall_mem_cons.mpr ⟨rfl, List.forall_mem_cons.mpr ⟨rfl, List.forall_mem_cons.mpr ⟨rfl, fun _ h => absurd h List.not_mem_nil⟩⟩⟩) ?_
  exact L184 7 0 trivial (rW (c := 0) (d := 5) (rR (x := 0)) rfl) vc_X12_acted_13
theorem vc_X12_isRest_7 {f_w1 : Int} (h0 : 1 ≤ f_w1) (h1 : 1 ≤ f_w1 ∧ f_w1 ≤ 46656) : 1 ≤ f_w1 := by omega
theorem vc_X12_isRest_18 {f_v1 z210 : Int} (h0 : z210 ≤ f_v1) (h1 : 0 ≤ f_v1 ∧ f_v1 ≤ 5) (h2 : 0 ≤ z210 ∧ z210 ≤ 5) : z210 ≤ f_v1 := by omega
set_option maxRecDepth 4000 in
set_option maxHeartbeats 4000000 in
theorem c_X12_isRest {l : Launch} {D : va_G} {c : Nat → ClassId} {H0 : Heap} {sa : Nat × Nat × (Nat → Int32)} {w : mW} {μ : mM} (hw : mWF w) (hT : mT w μ) {p1 : Int} (hp1 : 0 ≤ p1 ∧ p1 ≤ 46655) {f_w1 : Int} (q_f_w1 : μ 187 ((1 : Int).toNat) = f_w1) {f_w2 : Int} (q_f_w2 : μ 187 ((2 : Int).toNat) = f_w2) {f_w3 : Int} (q_f_w3 : μ 187 ((3 : Int).toNat) = f_w3) {f_w4 : Int} (q_f_w4 : μ 187 ((4 : Int).toNat) = f_w4) {f_w5 : Int} (q_f_w5 : μ 187 ((5 : Int).toNat) = f_w5) {f_w6 : Int} (q_f_w6 : μ 187 ((6 : Int).toNat) = f_w6) {f_v1 : Int} (q_f_v1 : μ 184 ((1 : Int).toNat) = f_v1) {f_v2 : Int} (q_f_v2 : μ 184 ((2 : Int).toNat) = f_v2) {f_v3 : Int} (q_f_v3 : μ 184 ((3 : Int).toNat) = f_v3) {f_v4 : Int} (q_f_v4 : μ 184 ((4 : Int).toNat) = f_v4) {f_v5 : Int} (q_f_v5 : μ 184 ((5 : Int).toNat) = f_v5) {f_v6 : Int} (q_f_v6 : μ 184 ((6 : Int).toNat) = f_v6) (hq0 : 1 ≤ f_w1) (hq1 : 1 ≤ f_w2) (hq2 : 1 ≤ f_w3) (hq3 : 1 ≤ f_w4) (hq4 : 1 ≤ f_w5) (hq5 : 1 ≤ f_w6) : sC (gG l D c H0 sa) mX12_isRest 3 0 0 [.ref 106, iv p1] (mk w μ) (qI w [188999] μ (fun z μ1 => (0 ≤ z ∧ z ≤ 1) ∧ True)) := by
  refine sC.of rfl (by decide) (le_t rfl) ?_
  have ht_f_w1 : (0 ≤ f_w1 ∧ f_w1 ≤ 46656) := by rw [← q_f_w1]; exact hT 187 187 (A_187 hw) ((1 : Int).toNat)
  have ht_f_w2 : (0 ≤ f_w2 ∧ f_w2 ≤ 46656) := by rw [← q_f_w2]; exact hT 187 187 (A_187 hw) ((2 : Int).toNat)
  have ht_f_w3 : (0 ≤ f_w3 ∧ f_w3 ≤ 46656) := by rw [← q_f_w3]; exact hT 187 187 (A_187 hw) ((3 : Int).toNat)
  have ht_f_w4 : (0 ≤ f_w4 ∧ f_w4 ≤ 46656) := by rw [← q_f_w4]; exact hT 187 187 (A_187 hw) ((4 : Int).toNat)
  have ht_f_w5 : (0 ≤ f_w5 ∧ f_w5 ≤ 46656) := by rw [← q_f_w5]; exact hT 187 187 (A_187 hw) ((5 : Int).toNat)
  have ht_f_w6 : (0 ≤ f_w6 ∧ f_w6 ≤ 46656) := by rw [← q_f_w6]; exact hT 187 187 (A_187 hw) ((6 : Int).toNat)
  have ht_f_v1 : (0 ≤ f_v1 ∧ f_v1 ≤ 5) := by rw [← q_f_v1]; exact hT 184 184 (A_184 hw) ((1 : Int).toNat)
  have ht_f_v2 : (0 ≤ f_v2 ∧ f_v2 ≤ 5) := by rw [← q_f_v2]; exact hT 184 184 (A_184 hw) ((2 : Int).toNat)
  have ht_f_v3 : (0 ≤ f_v3 ∧ f_v3 ≤ 5) := by rw [← q_f_v3]; exact hT 184 184 (A_184 hw) ((3 : Int).toNat)
  have ht_f_v4 : (0 ≤ f_v4 ∧ f_v4 ≤ 5) := by rw [← q_f_v4]; exact hT 184 184 (A_184 hw) ((4 : Int).toNat)
  have ht_f_v5 : (0 ≤ f_v5 ∧ f_v5 ≤ 5) := by rw [← q_f_v5]; exact hT 184 184 (A_184 hw) ((5 : Int).toNat)
  have ht_f_v6 : (0 ≤ f_v6 ∧ f_v6 ≤ 5) := by rw [← q_f_v6]; exact hT 184 184 (A_184 hw) ((6 : Int).toNat)
  have h1 : 1 ≤ f_w1 ∧ f_w1 ≤ 46656 := (vc_X12_open_1 hq0 ht_f_w1)
  have h2 : 1 ≤ f_w2 ∧ f_w2 ≤ 46656 := (vc_X12_open_1 hq1 ht_f_w2)
  have h3 : 1 ≤ f_w3 ∧ f_w3 ≤ 46656 := (vc_X12_open_1 hq2 ht_f_w3)
  have h4 : 1 ≤ f_w4 ∧ f_w4 ≤ 46656 := (vc_X12_open_1 hq3 ht_f_w4)
  have h5 : 1 ≤ f_w5 ∧ f_w5 ≤ 46656 := (vc_X12_open_1 hq4 ht_f_w5)
  have h6 : 1 ≤ f_w6 ∧ f_w6 ≤ 46656 := (vc_X12_open_1 hq5 ht_f_w6)
  refine mr_lvE (lv' := [(0, .ref 106), (1, iv p1)]) rfl ?_
  refine sv_aload_n (pc := 0) dX12_isRest_0 rfl rfl ?_
  refine mr_iload_n (pc := 1) (z := p1) dX12_isRest_1 rfl rfl ?_
  refine mr_cVV (pc := 2) (c_X12_open hw hT hp1 q_f_w1 q_f_w2 q_f_w3 q_f_w4 q_f_w5 q_f_w6 q_f_v1 q_f_v2 q_f_v3 q_f_v4 q_f_v5 q_f_v6 (vc_X12_isRest_7 hq0 h1) (vc_X12_isRest_7 hq1 h2) (vc_X12_isRest_7 hq2 h3) (vc_X12_isRest_7 hq3 h4) (vc_X12_isRest_7 hq4 h5) (vc_X12_isRest_7 hq5 h6)) (gOk _ _ _ _ _) dX12_isRest_2 (tX12_open _ _ _ _ _) ⟨wV_X12_open, wL_X12_open⟩ wM_X12_722 (gCX12 _ _ _ _ _) rfl (A_106 hw) rfl ⟨le_t rfl, le_t rfl⟩ ⟨le_t rfl, le_t rfl⟩ rfl (le_t rfl) fun μ206 T207 F208 h209 => ?_
  obtain ⟨z210, z212, z214, z216, z218, z220, q211, q213, q215, q217, q219, q221, h222⟩ := h209
  have h223 : (0 ≤ z210 ∧ z210 ≤ 5) := by rw [← q211]; exact T207 188 188 (A_188 hw) ((1 : Int).toNat)
  have h224 : (0 ≤ z212 ∧ z212 ≤ 5) := by rw [← q213]; exact T207 188 188 (A_188 hw) ((2 : Int).toNat)
  have h225 : (0 ≤ z214 ∧ z214 ≤ 5) := by rw [← q215]; exact T207 188 188 (A_188 hw) ((3 : Int).toNat)
  have h226 : (0 ≤ z216 ∧ z216 ≤ 5) := by rw [← q217]; exact T207 188 188 (A_188 hw) ((4 : Int).toNat)
  have h227 : (0 ≤ z218 ∧ z218 ≤ 5) := by rw [← q219]; exact T207 188 188 (A_188 hw) ((5 : Int).toNat)
  have h228 : (0 ≤ z220 ∧ z220 ≤ 5) := by rw [← q221]; exact T207 188 188 (A_188 hw) ((6 : Int).toNat)
  refine mr_iconst (pc := 5) (z := 1) dX12_isRest_5 ?_
  refine mr_istore_n (pc := 6) (lv' := [(2, iv 1), (0, .ref 106), (1, iv p1)]) dX12_isRest_6 rfl (by decide) rfl ?_
  refine mr_iconst (pc := 7) (z := 1) dX12_isRest_7 ?_
  refine mr_istore_n (pc := 8) (lv' := [(3, iv 1), (2, iv 1), (0, .ref 106), (1, iv p1)]) dX12_isRest_8 rfl (by decide) rfl ?_
  have L305 : ∀ (nL305 : Nat) (z304 z303 : Int), True → (0 ≤ z304 ∧ z304 ≤ 1) → (1 ≤ z303 ∧ z303 ≤ 7) → (8 - z303) < (nL305 : Int) → sV (gG l D c H0 sa) mX12_isRest (sRm 3 0 0) (sZ (gG l D c H0 sa) 0 0 (qI w [188999] μ (fun z μ1 => (0 ≤ z ∧ z ≤ 1) ∧ True))) 9 [(0, .ref 106), (2, iv z304), (3, iv z303)] [] (mk w μ206) 0 0 := by
    intro nL305
    induction nL305 with
    | zero => intro z304 z303 _ h306 h307 h311; exact ((vc_X12_clear_1 h311 h307)).elim
    | succ nL305 ih312 =>
      intro z304 z303 _ h306 h307 h311
      refine mr_iload_n (pc := 9) (z := z303) dX12_isRest_9 rfl rfl ?_
      refine mr_bipush (pc := 10) (z := 6) dX12_isRest_10 (by decide) ?_
      refine mr_icmp_gt (pc := 12) (tgt := 45) dX12_isRest_12 (by decide) (r32 h307 rfl) (r32 (rR (x := 6)) rfl) (fun h325 => ?_) (fun h325 => ?_)
      · have h326 : 7 ≤ z303 ∧ z303 ≤ 7 := (vc_X12_clear_2 h325 h307)
        refine mr_iload_n (pc := 45) (z := z304) dX12_isRest_45 rfl rfl ?_
        exact mr_zret dX12_isRest_46 rfl h306 (le_t rfl) (le_t rfl) T207 (mF.call mF.refl F208 rfl) ⟨h306, trivial⟩
      have h327 : 1 ≤ z303 ∧ z303 ≤ 6 := (vc_X12_clear_3 h325 h307)
      refine mr_iload_n (pc := 15) (z := z304) dX12_isRest_15 rfl rfl ?_
      refine mr_if_eq (pc := 16) (tgt := 45) dX12_isRest_16 (by decide) (r32 h306 rfl) (fun h338 => ?_) (fun h338 => ?_)
      · have h339 : 0 ≤ z304 ∧ z304 ≤ 0 := (vc_X12_ring_22 h338 h306)
        refine mr_iload_n (pc := 45) (z := z304) dX12_isRest_45 rfl rfl ?_
        exact mr_zret dX12_isRest_46 rfl (rW (c := 0) (d := 1) h339 rfl) (le_t rfl) (le_t rfl) T207 (mF.call mF.refl F208 rfl) ⟨(rW (c := 0) (d := 1) h339 rfl), trivial⟩
      have h340 : 1 ≤ z304 ∧ z304 ≤ 1 := (vc_X12_ring_24 h338 h306)
      refine sv_aload_n (pc := 19) dX12_isRest_19 rfl rfl ?_
      refine mr_iload_n (pc := 20) (z := z303) dX12_isRest_20 rfl rfl ?_
      refine mr_cVP (pc := 21) (c_X12_acted hw T207 h327 q211 q213 q215 q217 q219 q221 (F208.f (A_184 hw) rfl q_f_v1) (F208.f (A_184 hw) rfl q_f_v2) (F208.f (A_184 hw) rfl q_f_v3) (F208.f (A_184 hw) rfl q_f_v4) (F208.f (A_184 hw) rfl q_f_v5) (F208.f (A_184 hw) rfl q_f_v6) (vc_X12_isRest_18 h222.1 ht_f_v1 h223) (vc_X12_isRest_18 h222.2.1 ht_f_v2 h224) (vc_X12_isRest_18 h222.2.2.1 ht_f_v3 h225) (vc_X12_isRest_18 h222.2.2.2.1 ht_f_v4 h226) (vc_X12_isRest_18 h222.2.2.2.2.1 ht_f_v5 h227) (vc_X12_isRest_18 h222.2.2.2.2.2.1 ht_f_v6 h228)) (gOk _ _ _ _ _) dX12_isRest_21 (tX12_acted _ _ _ _ _) ⟨wV_X12_acted, wL_X12_acted⟩ wM_X12_725 (gCX12 _ _ _ _ _) rfl (A_106 hw) rfl ⟨le_t rfl, le_t rfl⟩ ⟨le_t rfl, le_t rfl⟩ rfl (le_t rfl) fun z345 h344 => ?_
      refine sv_aload_n (pc := 24) dX12_isRest_24 rfl rfl ?_
      refine gf_X12_122 (pc := 25) dX12_isRest_25 wF_X12_526 (A_106 hw) T207 ?_
      refine mr_iload_n (pc := 28) (z := z303) dX12_isRest_28 rfl rfl ?_
      refine la_188 (pc := 29) dX12_isRest_29 (A_188 hw) T207 (rIx (n := 7) h327 rfl) fun z346 q347 h348 => ?_
      refine mr_icmp_ne (pc := 30) (tgt := 37) dX12_isRest_30 (by decide) (r32 h344.1 rfl) (r32 h348 rfl) (fun h349 => ?_) (fun h349 => ?_)
      · refine mr_iconst (pc := 37) (z := 0) dX12_isRest_37 ?_
        refine mr_istore_n (pc := 38) (lv' := [(2, iv 0), (0, .ref 106), (3, iv z303)]) dX12_isRest_38 rfl (by decide) rfl ?_
        refine mr_iinc (pc := 39) (lv' := [(3, iv (z303 + 1)), (2, iv 0), (0, .ref 106)]) dX12_isRest_39 rfl (by decide) rfl ?_
        refine sv_goto (pc := 42) (tgt := 9) dX12_isRest_42 (by decide) ?_
        refine mr_lvS (lv' := [(0, .ref 106), (2, iv 0), (3, iv (z303 + 1))]) (List.forall_mem_cons.mpr ⟨rfl, List.forall_mem_cons.mpr ⟨rfl, List.forall_mem_cons.mpr ⟨rfl, fun _ h => absurd h List.not_mem_nil⟩⟩⟩) ?_
        exact ih312 0 (z303 + 1) trivial (rW (c := 0) (d := 1) (rR (x := 0)) rfl) (rW (c := 1) (d := 7) (rAdd (e := 2) (f := 7) h327 (rR (x := 1)) rfl) rfl) (vc_X12_clear_4 (nS h311) h325 h327)
      refine mr_iconst (pc := 33) (z := 1) dX12_isRest_33 ?_
      refine sv_goto (pc := 34) (tgt := 38) dX12_isRest_34 (by decide) ?_
      refine mr_istore_n (pc := 38) (lv' := [(2, iv 1), (0, .ref 106), (3, iv z303)]) dX12_isRest_38 rfl (by decide) rfl ?_
      refine mr_iinc (pc := 39) (lv' := [(3, iv (z303 + 1)), (2, iv 1), (0, .ref 106)]) dX12_isRest_39 rfl (by decide) rfl ?_
      refine sv_goto (pc := 42) (tgt := 9) dX12_isRest_42 (by decide) ?_
      refine mr_lvS (lv' := [(0, .ref 106), (2, iv 1), (3, iv (z303 + 1))]) (List.forall_mem_cons.mpr ⟨rfl, List.forall_mem_cons.mpr ⟨rfl, List.forall_mem_cons.mpr ⟨rfl, fun _ h => absurd h List.not_mem_nil⟩⟩⟩) ?_
      exact ih312 1 (z303 + 1) trivial (rW (c := 0) (d := 1) (rR (x := 1)) rfl) (rW (c := 1) (d := 7) (rAdd (e := 2) (f := 7) h327 (rR (x := 1)) rfl) rfl) (vc_X12_clear_4 (nS h311) h325 h327)
  refine mr_lvS (lv' := [(0, .ref 106), (2, iv 1), (3, iv 1)]) (List.forall_mem_cons.mpr ⟨rfl, List.forall_mem_cons.mpr ⟨rfl, List.forall_mem_cons.mpr ⟨rfl, fun _ h => absurd h List.not_mem_nil⟩⟩⟩) ?_
  exact L305 8 1 1 trivial (rW (c := 0) (d := 1) (rR (x := 1)) rfl) (rW (c := 1) (d := 7) (rR (x := 1)) rfl) vc_X12_clear_5
end
section
theorem vc_X12_rests_7 {z427 : Int} (h0 : (46657 - z427) < ((0 : Nat) : Int)) (h1 : 0 ≤ z427 ∧ z427 ≤ 46656) : False := by omega
theorem vc_X12_rests_8 {z427 z5 : Int} (h0 : z5 ≤ z427) (h1 : 0 ≤ z427 ∧ z427 ≤ 46656) (h2 : 1 ≤ z5 ∧ z5 ≤ 46656) : 1 ≤ z427 ∧ z427 ≤ 46656 := by omega
theorem vc_X12_rests_9 {z427 z5 : Int} (h0 : z427 < z5) (h1 : 0 ≤ z427 ∧ z427 ≤ 46656) (h2 : 1 ≤ z5 ∧ z5 ≤ 46656) : 0 ≤ z427 ∧ z427 ≤ 46655 := by omega
theorem vc_X12_rests_17 {N z427 z5 : Int} (h0 : (46657 - z427) < N + 1) (h1 : z427 < z5) (h2 : 0 ≤ z427 ∧ z427 ≤ 46655) (h3 : 1 ≤ z5 ∧ z5 ≤ 46656) : (46657 - (z427 + 1)) < N := by omega
theorem vc_X12_rests_19  : (46657 - 0) < ((46658 : Nat) : Int) := by omega
set_option maxRecDepth 4000 in
set_option maxHeartbeats 4000000 in
theorem c_X12_rests {l : Launch} {D : va_G} {c : Nat → ClassId} {H0 : Heap} {sa : Nat × Nat × (Nat → Int32)} {w : mW} {μ : mM} (hw : mWF w) (hT : mT w μ) : sC (gG l D c H0 sa) mX12_rests 4 0 0 [.ref 106] (mk w μ) (qI w [187999, 188999] μ (fun z μ1 => ((-2147483648) ≤ z ∧ z ≤ 2147483647) ∧ True)) := by
  refine sC.of rfl (by decide) (le_t rfl) ?_
  refine mr_lvE (lv' := [(0, .ref 106)]) rfl ?_
  refine sv_aload_n (pc := 0) dX12_rests_0 rfl rfl ?_
  refine mr_cVI (pc := 1) (c_X12_states hw hT) (gOk _ _ _ _ _) dX12_rests_1 (tX12_states _ _ _ _ _) ⟨wV_X12_states, wL_X12_states⟩ wM_X12_728 (gCX12 _ _ _ _ _) rfl (A_106 hw) rfl ⟨le_t rfl, le_t rfl⟩ ⟨le_t rfl, le_t rfl⟩ rfl (le_t rfl) fun z5 μ1 T2 F3 h4 => ?_
  obtain ⟨z6, z8, z10, z12, z14, z16, q7, q9, q11, q13, q15, q17, h18⟩ := h4
  have h19 : (0 ≤ z6 ∧ z6 ≤ 46656) := by rw [← q7]; exact T2 187 187 (A_187 hw) ((1 : Int).toNat)
  have h20 : (0 ≤ z8 ∧ z8 ≤ 46656) := by rw [← q9]; exact T2 187 187 (A_187 hw) ((2 : Int).toNat)
  have h21 : (0 ≤ z10 ∧ z10 ≤ 46656) := by rw [← q11]; exact T2 187 187 (A_187 hw) ((3 : Int).toNat)
  have h22 : (0 ≤ z12 ∧ z12 ≤ 46656) := by rw [← q13]; exact T2 187 187 (A_187 hw) ((4 : Int).toNat)
  have h23 : (0 ≤ z14 ∧ z14 ≤ 46656) := by rw [← q15]; exact T2 187 187 (A_187 hw) ((5 : Int).toNat)
  have h24 : (0 ≤ z16 ∧ z16 ≤ 46656) := by rw [← q17]; exact T2 187 187 (A_187 hw) ((6 : Int).toNat)
  have h25 : 1 ≤ z6 ∧ z6 ≤ 46656 := (vc_X12_open_1 h18.2.1 h19)
  have h26 : 1 ≤ z8 ∧ z8 ≤ 46656 := (vc_X12_open_1 h18.2.2.1 h20)
  have h27 : 1 ≤ z10 ∧ z10 ≤ 46656 := (vc_X12_open_1 h18.2.2.2.1 h21)
  have h28 : 1 ≤ z12 ∧ z12 ≤ 46656 := (vc_X12_open_1 h18.2.2.2.2.1 h22)
  have h29 : 1 ≤ z14 ∧ z14 ≤ 46656 := (vc_X12_open_1 h18.2.2.2.2.2.1 h23)
  have h30 : 1 ≤ z16 ∧ z16 ≤ 46656 := (vc_X12_open_1 h18.2.2.2.2.2.2.1 h24)
  refine mr_istore_n (pc := 4) (lv' := [(1, iv z5), (0, .ref 106)]) dX12_rests_4 rfl (by decide) rfl ?_
  refine mr_iconst (pc := 5) (z := 0) dX12_rests_5 ?_
  refine mr_istore_n (pc := 6) (lv' := [(2, iv 0), (1, iv z5), (0, .ref 106)]) dX12_rests_6 rfl (by decide) rfl ?_
  refine mr_iconst (pc := 7) (z := 0) dX12_rests_7 ?_
  refine mr_istore_n (pc := 8) (lv' := [(3, iv 0), (2, iv 0), (1, iv z5), (0, .ref 106)]) dX12_rests_8 rfl (by decide) rfl ?_
  have L430 : ∀ (nL430 : Nat) (z428 z427 : Int) (μ429 : mM), mT w μ429 → mF [188999] w μ1 μ429 → ((-2147483648) ≤ z428 ∧ z428 ≤ 2147483647) → (0 ≤ z427 ∧ z427 ≤ 46656) → (46657 - z427) < (nL430 : Int) → sV (gG l D c H0 sa) mX12_rests (sRm 4 0 0) (sZ (gG l D c H0 sa) 0 0 (qI w [187999, 188999] μ (fun z μ1 => ((-2147483648) ≤ z ∧ z ≤ 2147483647) ∧ True))) 9 [(0, .ref 106), (1, iv z5), (2, iv z428), (3, iv z427)] [] (mk w μ429) 0 0 := by
    intro nL430
    induction nL430 with
    | zero => intro z428 z427 μ429 T433 F434 h431 h432 h436; exact ((vc_X12_rests_7 h436 h432)).elim
    | succ nL430 ih437 =>
      intro z428 z427 μ429 T433 F434 h431 h432 h436
      refine mr_iload_n (pc := 9) (z := z427) dX12_rests_9 rfl rfl ?_
      refine mr_iload_n (pc := 10) (z := z5) dX12_rests_10 rfl rfl ?_
      refine mr_icmp_ge (pc := 11) (tgt := 36) dX12_rests_11 (by decide) (r32 h432 rfl) (r32 h18.1 rfl) (fun h467 => ?_) (fun h467 => ?_)
      · have h468 : 1 ≤ z427 ∧ z427 ≤ 46656 := (vc_X12_rests_8 h467 h432 h18.1)
        refine mr_iload_n (pc := 36) (z := z428) dX12_rests_36 rfl rfl ?_
        exact mr_iret dX12_rests_37 rfl (le_t rfl) (le_t rfl) T433 (mF.call (mF.call mF.refl F3 rfl) F434 rfl) ⟨h431, trivial⟩
      have h469 : 0 ≤ z427 ∧ z427 ≤ 46655 := (vc_X12_rests_9 h467 h432 h18.1)
      refine mr_iload_n (pc := 14) (z := z428) dX12_rests_14 rfl rfl ?_
      refine sv_aload_n (pc := 15) dX12_rests_15 rfl rfl ?_
      refine mr_iload_n (pc := 16) (z := z427) dX12_rests_16 rfl rfl ?_
      obtain ⟨z470, q471⟩ : ∃ z, μ429 184 ((1 : Int).toNat) = z := ⟨_, rfl⟩
      have h472 : (0 ≤ z470 ∧ z470 ≤ 5) := by rw [← q471]; exact T433 184 184 (A_184 hw) ((1 : Int).toNat)
      obtain ⟨z473, q474⟩ : ∃ z, μ429 184 ((2 : Int).toNat) = z := ⟨_, rfl⟩
      have h475 : (0 ≤ z473 ∧ z473 ≤ 5) := by rw [← q474]; exact T433 184 184 (A_184 hw) ((2 : Int).toNat)
      obtain ⟨z476, q477⟩ : ∃ z, μ429 184 ((3 : Int).toNat) = z := ⟨_, rfl⟩
      have h478 : (0 ≤ z476 ∧ z476 ≤ 5) := by rw [← q477]; exact T433 184 184 (A_184 hw) ((3 : Int).toNat)
      obtain ⟨z479, q480⟩ : ∃ z, μ429 184 ((4 : Int).toNat) = z := ⟨_, rfl⟩
      have h481 : (0 ≤ z479 ∧ z479 ≤ 5) := by rw [← q480]; exact T433 184 184 (A_184 hw) ((4 : Int).toNat)
      obtain ⟨z482, q483⟩ : ∃ z, μ429 184 ((5 : Int).toNat) = z := ⟨_, rfl⟩
      have h484 : (0 ≤ z482 ∧ z482 ≤ 5) := by rw [← q483]; exact T433 184 184 (A_184 hw) ((5 : Int).toNat)
      obtain ⟨z485, q486⟩ : ∃ z, μ429 184 ((6 : Int).toNat) = z := ⟨_, rfl⟩
      have h487 : (0 ≤ z485 ∧ z485 ≤ 5) := by rw [← q486]; exact T433 184 184 (A_184 hw) ((6 : Int).toNat)
      refine mr_cVI (pc := 17) (c_X12_isRest hw T433 h469 (F434.f (A_187 hw) rfl q7) (F434.f (A_187 hw) rfl q9) (F434.f (A_187 hw) rfl q11) (F434.f (A_187 hw) rfl q13) (F434.f (A_187 hw) rfl q15) (F434.f (A_187 hw) rfl q17) q471 q474 q477 q480 q483 q486 (vc_X12_isRest_7 h18.2.1 h25) (vc_X12_isRest_7 h18.2.2.1 h26) (vc_X12_isRest_7 h18.2.2.2.1 h27) (vc_X12_isRest_7 h18.2.2.2.2.1 h28) (vc_X12_isRest_7 h18.2.2.2.2.2.1 h29) (vc_X12_isRest_7 h18.2.2.2.2.2.2.1 h30)) (gOk _ _ _ _ _) dX12_rests_17 (tX12_isRest _ _ _ _ _) ⟨wV_X12_isRest, wL_X12_isRest⟩ wM_X12_731 (gCX12 _ _ _ _ _) rfl (A_106 hw) rfl ⟨le_t rfl, le_t rfl⟩ ⟨le_t rfl, le_t rfl⟩ rfl (le_t rfl) fun z492 μ488 T489 F490 h491 => ?_
      refine mr_if_eq (pc := 20) (tgt := 27) dX12_rests_20 (by decide) (r32 h491.1 rfl) (fun h495 => ?_) (fun h495 => ?_)
      · have h496 : 0 ≤ z492 ∧ z492 ≤ 0 := (vc_X12_ring_22 h495 h491.1)
        refine mr_iconst (pc := 27) (z := 0) dX12_rests_27 ?_
        refine mr_iadd (pc := 28) (x := z428) (y := 0) dX12_rests_28 ?_
        refine mr_istore_n (pc := 29) (lv' := [(2, iv (z428 + 0)), (0, .ref 106), (1, iv z5), (3, iv z427)]) dX12_rests_29 rfl (by decide) rfl ?_
        refine mr_iinc (pc := 30) (lv' := [(3, iv (z427 + 1)), (2, iv (z428 + 0)), (0, .ref 106), (1, iv z5)]) dX12_rests_30 rfl (by decide) rfl ?_
        refine sv_goto (pc := 33) (tgt := 9) dX12_rests_33 (by decide) ?_
        refine mr_lvS (lv' := [(0, .ref 106), (1, iv z5), (2, iv (z428 + 0)), (3, iv (z427 + 1))]) (List.forall_mem_cons.mpr ⟨rfl, List.forall_mem_cons.mpr ⟨rfl, List.forall_mem_cons.mpr ⟨rfl, List.forall_mem_cons.mpr ⟨rfl, fun _ h => absurd h List.not_mem_nil⟩⟩⟩⟩) ?_
        exact ih437 (z428 + 0) (z427 + 1) μ488 T489 (mF.call (mF.call mF.refl F434 rfl) F490 rfl) (rAdd (e := (-2147483648)) (f := 2147483647) h431 (rR (x := 0)) rfl) (rW (c := 0) (d := 46656) (rAdd (e := 1) (f := 46656) h469 (rR (x := 1)) rfl) rfl) (vc_X12_rests_17 (nS h436) h467 h469 h18.1)
      have h497 : 1 ≤ z492 ∧ z492 ≤ 1 := (vc_X12_ring_24 h495 h491.1)
      refine mr_iconst (pc := 23) (z := 1) dX12_rests_23 ?_
      refine sv_goto (pc := 24) (tgt := 28) dX12_rests_24 (by decide) ?_
      refine mr_iadd (pc := 28) (x := z428) (y := 1) dX12_rests_28 ?_
      refine mr_wrap fun z498 h499 => ?_
      refine mr_istore_n (pc := 29) (lv' := [(2, iv z498), (0, .ref 106), (1, iv z5), (3, iv z427)]) dX12_rests_29 rfl (by decide) rfl ?_
      refine mr_iinc (pc := 30) (lv' := [(3, iv (z427 + 1)), (2, iv z498), (0, .ref 106), (1, iv z5)]) dX12_rests_30 rfl (by decide) rfl ?_
      refine sv_goto (pc := 33) (tgt := 9) dX12_rests_33 (by decide) ?_
      refine mr_lvS (lv' := [(0, .ref 106), (1, iv z5), (2, iv z498), (3, iv (z427 + 1))]) (List.forall_mem_cons.mpr ⟨rfl, List.forall_mem_cons.mpr ⟨rfl, List.forall_mem_cons.mpr ⟨rfl, List.forall_mem_cons.mpr ⟨rfl, fun _ h => absurd h List.not_mem_nil⟩⟩⟩⟩) ?_
      exact ih437 z498 (z427 + 1) μ488 T489 (mF.call (mF.call mF.refl F434 rfl) F490 rfl) h499 (rW (c := 0) (d := 46656) (rAdd (e := 1) (f := 46656) h469 (rR (x := 1)) rfl) rfl) (vc_X12_rests_17 (nS h436) h467 h469 h18.1)
  refine mr_lvS (lv' := [(0, .ref 106), (1, iv z5), (2, iv 0), (3, iv 0)]) (List.forall_mem_cons.mpr ⟨rfl, List.forall_mem_cons.mpr ⟨rfl, List.forall_mem_cons.mpr ⟨rfl, List.forall_mem_cons.mpr ⟨rfl, fun _ h => absurd h List.not_mem_nil⟩⟩⟩⟩) ?_
  exact L430 46658 0 0 μ1 T2 mF.refl (rW (c := (-2147483648)) (d := 2147483647) (rR (x := 0)) rfl) (rW (c := 0) (d := 46656) (rR (x := 0)) rfl) vc_X12_rests_19
theorem vc_X12_rest_3 {p2 z8 : Int} (h0 : ¬ z8 = 0) (h1 : (z8 = 1 → (1 : Int) ≤ p2 ∧ p2 ≤ (6 : Int))) (h2 : (z8 = 0 → p2 < (1 : Int) ∨ (6 : Int) < p2)) (h3 : (-2147483648) ≤ p2 ∧ p2 ≤ 2147483647) (h4 : 0 ≤ z8 ∧ z8 ≤ 1) : 1 ≤ z8 ∧ z8 ≤ 1 := by omega
theorem vc_X12_rest_4 {p2 z8 : Int} (h0 : (z8 = 1 → (1 : Int) ≤ p2 ∧ p2 ≤ (6 : Int))) (h1 : (z8 = 0 → p2 < (1 : Int) ∨ (6 : Int) < p2)) (h2 : ¬ z8 = 0) (h3 : (-2147483648) ≤ p2 ∧ p2 ≤ 2147483647) (h4 : 1 ≤ z8 ∧ z8 ≤ 1) : z8 = 1 := by omega
theorem vc_X12_rest_5 {p2 z8 : Int} (h0 : (1 : Int) ≤ p2 ∧ p2 ≤ (6 : Int)) (h1 : (z8 = 1 → (1 : Int) ≤ p2 ∧ p2 ≤ (6 : Int))) (h2 : (z8 = 0 → p2 < (1 : Int) ∨ (6 : Int) < p2)) (h3 : (-2147483648) ≤ p2 ∧ p2 ≤ 2147483647) (h4 : 1 ≤ z8 ∧ z8 ≤ 1) : 1 ≤ p2 ∧ p2 ≤ 6 := by omega
theorem vc_X12_rest_13 {z17 z956 : Int} (h0 : z17 ≤ z956) (h1 : 1 ≤ z17 ∧ z17 ≤ 46656) (h2 : 0 ≤ z956 ∧ z956 ≤ 46656) : 1 ≤ z956 ∧ z956 ≤ 46656 := by omega
theorem vc_X12_rest_14 {z17 z956 : Int} (h0 : z956 < z17) (h1 : 1 ≤ z17 ∧ z17 ≤ 46656) (h2 : 0 ≤ z956 ∧ z956 ≤ 46656) : 0 ≤ z956 ∧ z956 ≤ 46655 := by omega
theorem vc_X12_rest_22 {z957 : Int} (h0 : ¬ z957 = 0) (h1 : 0 ≤ z957 ∧ z957 ≤ 2147483647) : 1 ≤ z957 ∧ z957 ≤ 2147483647 := by omega
theorem vc_X12_rest_23 {N z17 z956 : Int} (h0 : (46657 - z956) < N + 1) (h1 : z956 < z17) (h2 : 1 ≤ z17 ∧ z17 ≤ 46656) (h3 : 0 ≤ z956 ∧ z956 ≤ 46655) : (46657 - (z956 + 1)) < N := by omega
theorem vc_X12_rest_24 {z957 : Int} (h0 : z957 = 0) (h1 : 0 ≤ z957 ∧ z957 ≤ 2147483647) : 0 ≤ z957 ∧ z957 ≤ 0 := by omega
theorem vc_X12_rest_27 {p2 z8 : Int} (h0 : z8 = 0) (h1 : (z8 = 1 → (1 : Int) ≤ p2 ∧ p2 ≤ (6 : Int))) (h2 : (z8 = 0 → p2 < (1 : Int) ∨ (6 : Int) < p2)) (h3 : (-2147483648) ≤ p2 ∧ p2 ≤ 2147483647) (h4 : 0 ≤ z8 ∧ z8 ≤ 1) : 0 ≤ z8 ∧ z8 ≤ 0 := by omega
theorem vc_X12_rest_28 {p2 z8 : Int} (h0 : (z8 = 1 → (1 : Int) ≤ p2 ∧ p2 ≤ (6 : Int))) (h1 : (z8 = 0 → p2 < (1 : Int) ∨ (6 : Int) < p2)) (h2 : z8 = 0) (h3 : (-2147483648) ≤ p2 ∧ p2 ≤ 2147483647) (h4 : 0 ≤ z8 ∧ z8 ≤ 0) : z8 = 0 := by omega
set_option maxRecDepth 4000 in
set_option maxHeartbeats 4000000 in
theorem c_X12_rest {l : Launch} {D : va_G} {c : Nat → ClassId} {H0 : Heap} {sa : Nat × Nat × (Nat → Int32)} {w : mW} {μ : mM} (hw : mWF w) (hT : mT w μ) {p1 : Int} (hp1 : (-2147483648) ≤ p1 ∧ p1 ≤ 2147483647) {p2 : Int} (hp2 : (-2147483648) ≤ p2 ∧ p2 ≤ 2147483647) : sC (gG l D c H0 sa) mX12_rest 4 0 0 [.ref 106, iv p1, iv p2] (mk w μ) (qI w [187999, 188999] μ (fun z μ1 => ((-2147483648) ≤ z ∧ z ≤ 2147483647) ∧ True)) := by
  refine sC.of rfl (by decide) (le_t rfl) ?_
  refine mr_lvE (lv' := [(0, .ref 106), (1, iv p1), (2, iv p2)]) rfl ?_
  refine mr_iload_n (pc := 0) (z := p1) dX12_rest_0 rfl rfl ?_
  refine mr_if_lt (pc := 1) (tgt := 14) dX12_rest_1 (by decide) hp1 (fun h1 => ?_) (fun h1 => ?_)
  · have h2 : (-2147483648) ≤ p1 ∧ p1 ≤ (-1) := (vc_X12_ring_60 h1 hp1)
    refine mr_iconst (pc := 14) (z := (-1)) dX12_rest_14 ?_
    exact mr_iret dX12_rest_15 rfl (le_t rfl) (le_t rfl) hT mF.refl ⟨(rW (c := (-2147483648)) (d := 2147483647) (rR (x := (-1))) rfl), trivial⟩
  have h3 : 0 ≤ p1 ∧ p1 ≤ 2147483647 := (vc_X12_ring_1 h1 hp1)
  refine mr_iload_n (pc := 4) (z := p2) dX12_rest_4 rfl rfl ?_
  refine mr_iconst (pc := 5) (z := 1) dX12_rest_5 ?_
  refine mr_bipush (pc := 6) (z := 6) dX12_rest_6 (by decide) ?_
  refine mr_cSP (pc := 8) (c_X12_in hw hT hp2 (rW (c := (-2147483648)) (d := 2147483647) (rR (x := 1)) rfl) (rW (c := (-2147483648)) (d := 2147483647) (rR (x := 6)) rfl)) (gOk _ _ _ _ _) dX12_rest_8 (tX12_in _ _ _ _ _) wS_X12_in wM_X12_18 ⟨le_t rfl, le_t rfl⟩ ⟨le_t rfl, le_t rfl⟩ rfl (le_t rfl) fun z8 h7 => ?_
  refine mr_if_ne (pc := 11) (tgt := 16) dX12_rest_11 (by decide) (r32 h7.1 rfl) (fun h9 => ?_) (fun h9 => ?_)
  · have h10 : 1 ≤ z8 ∧ z8 ≤ 1 := (vc_X12_rest_3 h9 h7.2.1 h7.2.2.1 hp2 h7.1)
    have h11 : (1 : Int) ≤ p2 ∧ p2 ≤ (6 : Int) := (h7.2.1 (vc_X12_rest_4 h7.2.1 h7.2.2.1 h9 hp2 h10))
    have h12 : 1 ≤ p2 ∧ p2 ≤ 6 := (vc_X12_rest_5 h11 h7.2.1 h7.2.2.1 hp2 h10)
    refine sv_aload_n (pc := 16) dX12_rest_16 rfl rfl ?_
    refine mr_cVI (pc := 17) (c_X12_states hw hT) (gOk _ _ _ _ _) dX12_rest_17 (tX12_states _ _ _ _ _) ⟨wV_X12_states, wL_X12_states⟩ wM_X12_728 (gCX12 _ _ _ _ _) rfl (A_106 hw) rfl ⟨le_t rfl, le_t rfl⟩ ⟨le_t rfl, le_t rfl⟩ rfl (le_t rfl) fun z17 μ13 T14 F15 h16 => ?_
    obtain ⟨z18, z20, z22, z24, z26, z28, q19, q21, q23, q25, q27, q29, h30⟩ := h16
    have h31 : (0 ≤ z18 ∧ z18 ≤ 46656) := by rw [← q19]; exact T14 187 187 (A_187 hw) ((1 : Int).toNat)
    have h32 : (0 ≤ z20 ∧ z20 ≤ 46656) := by rw [← q21]; exact T14 187 187 (A_187 hw) ((2 : Int).toNat)
    have h33 : (0 ≤ z22 ∧ z22 ≤ 46656) := by rw [← q23]; exact T14 187 187 (A_187 hw) ((3 : Int).toNat)
    have h34 : (0 ≤ z24 ∧ z24 ≤ 46656) := by rw [← q25]; exact T14 187 187 (A_187 hw) ((4 : Int).toNat)
    have h35 : (0 ≤ z26 ∧ z26 ≤ 46656) := by rw [← q27]; exact T14 187 187 (A_187 hw) ((5 : Int).toNat)
    have h36 : (0 ≤ z28 ∧ z28 ≤ 46656) := by rw [← q29]; exact T14 187 187 (A_187 hw) ((6 : Int).toNat)
    have h37 : 1 ≤ z18 ∧ z18 ≤ 46656 := (vc_X12_open_1 h30.2.1 h31)
    have h38 : 1 ≤ z20 ∧ z20 ≤ 46656 := (vc_X12_open_1 h30.2.2.1 h32)
    have h39 : 1 ≤ z22 ∧ z22 ≤ 46656 := (vc_X12_open_1 h30.2.2.2.1 h33)
    have h40 : 1 ≤ z24 ∧ z24 ≤ 46656 := (vc_X12_open_1 h30.2.2.2.2.1 h34)
    have h41 : 1 ≤ z26 ∧ z26 ≤ 46656 := (vc_X12_open_1 h30.2.2.2.2.2.1 h35)
    have h42 : 1 ≤ z28 ∧ z28 ≤ 46656 := (vc_X12_open_1 h30.2.2.2.2.2.2.1 h36)
    refine mr_istore_n (pc := 20) (lv' := [(3, iv z17), (0, .ref 106), (1, iv p1), (2, iv p2)]) dX12_rest_20 rfl (by decide) rfl ?_
    refine mr_iload_n (pc := 21) (z := p1) dX12_rest_21 rfl rfl ?_
    refine mr_istore (pc := 22) (lv' := [(4, iv p1), (3, iv z17), (0, .ref 106), (1, iv p1), (2, iv p2)]) dX12_rest_22 (by decide) rfl ?_
    refine mr_iconst (pc := 24) (z := 0) dX12_rest_24 ?_
    refine mr_istore (pc := 25) (lv' := [(5, iv 0), (4, iv p1), (3, iv z17), (0, .ref 106), (1, iv p1), (2, iv p2)]) dX12_rest_25 (by decide) rfl ?_
    have L959 : ∀ (nL959 : Nat) (z957 z956 : Int) (μ958 : mM), mT w μ958 → mF [188999] w μ13 μ958 → (0 ≤ z957 ∧ z957 ≤ 2147483647) → (0 ≤ z956 ∧ z956 ≤ 46656) → (46657 - z956) < (nL959 : Int) → sV (gG l D c H0 sa) mX12_rest (sRm 4 0 0) (sZ (gG l D c H0 sa) 0 0 (qI w [187999, 188999] μ (fun z μ1 => ((-2147483648) ≤ z ∧ z ≤ 2147483647) ∧ True))) 27 [(0, .ref 106), (2, iv p2), (3, iv z17), (4, iv z957), (5, iv z956)] [] (mk w μ958) 0 0 := by
      intro nL959
      induction nL959 with
      | zero => intro z957 z956 μ958 T962 F963 h960 h961 h965; exact ((vc_X12_rests_7 h965 h961)).elim
      | succ nL959 ih966 =>
        intro z957 z956 μ958 T962 F963 h960 h961 h965
        refine mr_iload (pc := 27) (z := z956) dX12_rest_27 rfl ?_
        refine mr_iload_n (pc := 29) (z := z17) dX12_rest_29 rfl rfl ?_
        refine mr_icmp_ge (pc := 30) (tgt := 92) dX12_rest_30 (by decide) (r32 h961 rfl) (r32 h30.1 rfl) (fun h967 => ?_) (fun h967 => ?_)
        · have h968 : 1 ≤ z956 ∧ z956 ≤ 46656 := (vc_X12_rest_13 h967 h30.1 h961)
          refine mr_iconst (pc := 92) (z := (-1)) dX12_rest_92 ?_
          exact mr_iret dX12_rest_93 rfl (le_t rfl) (le_t rfl) T962 (mF.call (mF.call mF.refl F15 rfl) F963 rfl) ⟨(rW (c := (-2147483648)) (d := 2147483647) (rR (x := (-1))) rfl), trivial⟩
        have h969 : 0 ≤ z956 ∧ z956 ≤ 46655 := (vc_X12_rest_14 h967 h30.1 h961)
        refine sv_aload_n (pc := 33) dX12_rest_33 rfl rfl ?_
        refine mr_iload (pc := 34) (z := z956) dX12_rest_34 rfl ?_
        obtain ⟨z970, q971⟩ : ∃ z, μ958 184 ((1 : Int).toNat) = z := ⟨_, rfl⟩
        have h972 : (0 ≤ z970 ∧ z970 ≤ 5) := by rw [← q971]; exact T962 184 184 (A_184 hw) ((1 : Int).toNat)
        obtain ⟨z973, q974⟩ : ∃ z, μ958 184 ((2 : Int).toNat) = z := ⟨_, rfl⟩
        have h975 : (0 ≤ z973 ∧ z973 ≤ 5) := by rw [← q974]; exact T962 184 184 (A_184 hw) ((2 : Int).toNat)
        obtain ⟨z976, q977⟩ : ∃ z, μ958 184 ((3 : Int).toNat) = z := ⟨_, rfl⟩
        have h978 : (0 ≤ z976 ∧ z976 ≤ 5) := by rw [← q977]; exact T962 184 184 (A_184 hw) ((3 : Int).toNat)
        obtain ⟨z979, q980⟩ : ∃ z, μ958 184 ((4 : Int).toNat) = z := ⟨_, rfl⟩
        have h981 : (0 ≤ z979 ∧ z979 ≤ 5) := by rw [← q980]; exact T962 184 184 (A_184 hw) ((4 : Int).toNat)
        obtain ⟨z982, q983⟩ : ∃ z, μ958 184 ((5 : Int).toNat) = z := ⟨_, rfl⟩
        have h984 : (0 ≤ z982 ∧ z982 ≤ 5) := by rw [← q983]; exact T962 184 184 (A_184 hw) ((5 : Int).toNat)
        obtain ⟨z985, q986⟩ : ∃ z, μ958 184 ((6 : Int).toNat) = z := ⟨_, rfl⟩
        have h987 : (0 ≤ z985 ∧ z985 ≤ 5) := by rw [← q986]; exact T962 184 184 (A_184 hw) ((6 : Int).toNat)
        refine mr_cVI (pc := 36) (c_X12_isRest hw T962 h969 (F963.f (A_187 hw) rfl q19) (F963.f (A_187 hw) rfl q21) (F963.f (A_187 hw) rfl q23) (F963.f (A_187 hw) rfl q25) (F963.f (A_187 hw) rfl q27) (F963.f (A_187 hw) rfl q29) q971 q974 q977 q980 q983 q986 (vc_X12_isRest_7 h30.2.1 h37) (vc_X12_isRest_7 h30.2.2.1 h38) (vc_X12_isRest_7 h30.2.2.2.1 h39) (vc_X12_isRest_7 h30.2.2.2.2.1 h40) (vc_X12_isRest_7 h30.2.2.2.2.2.1 h41) (vc_X12_isRest_7 h30.2.2.2.2.2.2.1 h42)) (gOk _ _ _ _ _) dX12_rest_36 (tX12_isRest _ _ _ _ _) ⟨wV_X12_isRest, wL_X12_isRest⟩ wM_X12_731 (gCX12 _ _ _ _ _) rfl (A_106 hw) rfl ⟨le_t rfl, le_t rfl⟩ ⟨le_t rfl, le_t rfl⟩ rfl (le_t rfl) fun z992 μ988 T989 F990 h991 => ?_
        refine mr_if_ne (pc := 39) (tgt := 45) dX12_rest_39 (by decide) (r32 h991.1 rfl) (fun h993 => ?_) (fun h993 => ?_)
        · have h994 : 1 ≤ z992 ∧ z992 ≤ 1 := (vc_X12_ring_24 h993 h991.1)
          refine mr_iload (pc := 45) (z := z957) dX12_rest_45 rfl ?_
          refine mr_if_ne (pc := 47) (tgt := 83) dX12_rest_47 (by decide) (r32 h960 rfl) (fun h995 => ?_) (fun h995 => ?_)
          · have h996 : 1 ≤ z957 ∧ z957 ≤ 2147483647 := (vc_X12_rest_22 h995 h960)
            refine mr_iinc (pc := 83) (lv' := [(4, iv (z957 + (-1))), (0, .ref 106), (2, iv p2), (3, iv z17), (5, iv z956)]) dX12_rest_83 rfl (by decide) rfl ?_
            refine mr_iinc (pc := 86) (lv' := [(5, iv (z956 + 1)), (4, iv (z957 + (-1))), (0, .ref 106), (2, iv p2), (3, iv z17)]) dX12_rest_86 rfl (by decide) rfl ?_
            refine sv_goto (pc := 89) (tgt := 27) dX12_rest_89 (by decide) ?_
            refine mr_lvS (lv' := [(0, .ref 106), (2, iv p2), (3, iv z17), (4, iv (z957 + (-1))), (5, iv (z956 + 1))]) (List.forall_mem_cons.mpr ⟨rfl, List.forall_mem_cons.mpr ⟨rfl, List.forall_mem_cons.mpr ⟨rfl, List.forall_mem_cons.mpr ⟨rfl, List.forall_mem_cons.mpr ⟨rfl, fun _ h => absurd h List.not_mem_nil⟩⟩⟩⟩⟩) ?_
            exact ih966 (z957 + (-1)) (z956 + 1) μ988 T989 (mF.call (mF.call mF.refl F963 rfl) F990 rfl) (rW (c := 0) (d := 2147483647) (rAdd (e := 0) (f := 2147483646) h996 (rR (x := (-1))) rfl) rfl) (rW (c := 0) (d := 46656) (rAdd (e := 1) (f := 46656) h969 (rR (x := 1)) rfl) rfl) (vc_X12_rest_23 (nS h965) h967 h30.1 h969)
          have h997 : 0 ≤ z957 ∧ z957 ≤ 0 := (vc_X12_rest_24 h995 h960)
          refine sv_aload_n (pc := 50) dX12_rest_50 rfl rfl ?_
          refine mr_iload (pc := 51) (z := z956) dX12_rest_51 rfl ?_
          refine mr_cVV (pc := 53) (c_X12_open hw T989 h969 (F990.f (A_187 hw) rfl (F963.f (A_187 hw) rfl q19)) (F990.f (A_187 hw) rfl (F963.f (A_187 hw) rfl q21)) (F990.f (A_187 hw) rfl (F963.f (A_187 hw) rfl q23)) (F990.f (A_187 hw) rfl (F963.f (A_187 hw) rfl q25)) (F990.f (A_187 hw) rfl (F963.f (A_187 hw) rfl q27)) (F990.f (A_187 hw) rfl (F963.f (A_187 hw) rfl q29)) (F990.f (A_184 hw) rfl q971) (F990.f (A_184 hw) rfl q974) (F990.f (A_184 hw) rfl q977) (F990.f (A_184 hw) rfl q980) (F990.f (A_184 hw) rfl q983) (F990.f (A_184 hw) rfl q986) (vc_X12_isRest_7 h30.2.1 h37) (vc_X12_isRest_7 h30.2.2.1 h38) (vc_X12_isRest_7 h30.2.2.2.1 h39) (vc_X12_isRest_7 h30.2.2.2.2.1 h40) (vc_X12_isRest_7 h30.2.2.2.2.2.1 h41) (vc_X12_isRest_7 h30.2.2.2.2.2.2.1 h42)) (gOk _ _ _ _ _) dX12_rest_53 (tX12_open _ _ _ _ _) ⟨wV_X12_open, wL_X12_open⟩ wM_X12_722 (gCX12 _ _ _ _ _) rfl (A_106 hw) rfl ⟨le_t rfl, le_t rfl⟩ ⟨le_t rfl, le_t rfl⟩ rfl (le_t rfl) fun μ998 T999 F1000 h1001 => ?_
          obtain ⟨z1002, z1004, z1006, z1008, z1010, z1012, q1003, q1005, q1007, q1009, q1011, q1013, h1014⟩ := h1001
          have h1015 : (0 ≤ z1002 ∧ z1002 ≤ 5) := by rw [← q1003]; exact T999 188 188 (A_188 hw) ((1 : Int).toNat)
          have h1016 : (0 ≤ z1004 ∧ z1004 ≤ 5) := by rw [← q1005]; exact T999 188 188 (A_188 hw) ((2 : Int).toNat)
          have h1017 : (0 ≤ z1006 ∧ z1006 ≤ 5) := by rw [← q1007]; exact T999 188 188 (A_188 hw) ((3 : Int).toNat)
          have h1018 : (0 ≤ z1008 ∧ z1008 ≤ 5) := by rw [← q1009]; exact T999 188 188 (A_188 hw) ((4 : Int).toNat)
          have h1019 : (0 ≤ z1010 ∧ z1010 ≤ 5) := by rw [← q1011]; exact T999 188 188 (A_188 hw) ((5 : Int).toNat)
          have h1020 : (0 ≤ z1012 ∧ z1012 ≤ 5) := by rw [← q1013]; exact T999 188 188 (A_188 hw) ((6 : Int).toNat)
          refine sv_aload_n (pc := 56) dX12_rest_56 rfl rfl ?_
          refine gf_X12_122 (pc := 57) dX12_rest_57 wF_X12_526 (A_106 hw) T999 ?_
          refine mr_iload_n (pc := 60) (z := p2) dX12_rest_60 rfl rfl ?_
          refine la_188 (pc := 61) dX12_rest_61 (A_188 hw) T999 (rIx (n := 7) h12 rfl) fun z1021 q1022 h1023 => ?_
          refine sv_aload_n (pc := 62) dX12_rest_62 rfl rfl ?_
          refine gf_X12_118 (pc := 63) dX12_rest_63 wF_X12_514 (A_106 hw) T999 ?_
          refine mr_iload_n (pc := 66) (z := p2) dX12_rest_66 rfl rfl ?_
          refine la_184 (pc := 67) dX12_rest_67 (A_184 hw) T999 (rIx (n := 7) h12 rfl) fun z1024 q1025 h1026 => ?_
          refine mr_icmp_ne (pc := 68) (tgt := 76) dX12_rest_68 (by decide) (r32 h1023 rfl) (r32 h1026 rfl) (fun h1027 => ?_) (fun h1027 => ?_)
          · refine sv_aload_n (pc := 76) dX12_rest_76 rfl rfl ?_
            refine gf_X12_122 (pc := 77) dX12_rest_77 wF_X12_526 (A_106 hw) T999 ?_
            refine mr_iload_n (pc := 80) (z := p2) dX12_rest_80 rfl rfl ?_
            refine lk_188 (pc := 81) dX12_rest_81 (A_188 hw) (rIx (n := 7) h12 rfl) q1022 ?_
            exact mr_iret dX12_rest_82 rfl (le_t rfl) (le_t rfl) T999 (mF.call (mF.call (mF.call (mF.call mF.refl F15 rfl) F963 rfl) F990 rfl) F1000 rfl) ⟨(rW (c := (-2147483648)) (d := 2147483647) h1023 rfl), trivial⟩
          refine mr_bipush (pc := 71) (z := (-4)) dX12_rest_71 (by decide) ?_
          refine sv_goto (pc := 73) (tgt := 82) dX12_rest_73 (by decide) ?_
          exact mr_iret dX12_rest_82 rfl (le_t rfl) (le_t rfl) T999 (mF.call (mF.call (mF.call (mF.call mF.refl F15 rfl) F963 rfl) F990 rfl) F1000 rfl) ⟨(rW (c := (-2147483648)) (d := 2147483647) (rR (x := (-4))) rfl), trivial⟩
        have h1028 : 0 ≤ z992 ∧ z992 ≤ 0 := (vc_X12_ring_22 h993 h991.1)
        refine sv_goto (pc := 42) (tgt := 86) dX12_rest_42 (by decide) ?_
        refine mr_iinc (pc := 86) (lv' := [(5, iv (z956 + 1)), (0, .ref 106), (2, iv p2), (3, iv z17), (4, iv z957)]) dX12_rest_86 rfl (by decide) rfl ?_
        refine sv_goto (pc := 89) (tgt := 27) dX12_rest_89 (by decide) ?_
        refine mr_lvS (lv' := [(0, .ref 106), (2, iv p2), (3, iv z17), (4, iv z957), (5, iv (z956 + 1))]) (List.forall_mem_cons.mpr ⟨rfl, List.forall_mem_cons.mpr ⟨rfl, List.forall_mem_cons.mpr ⟨rfl, List.forall_mem_cons.mpr ⟨rfl, List.forall_mem_cons.mpr ⟨rfl, fun _ h => absurd h List.not_mem_nil⟩⟩⟩⟩⟩) ?_
        exact ih966 z957 (z956 + 1) μ988 T989 (mF.call (mF.call mF.refl F963 rfl) F990 rfl) h960 (rW (c := 0) (d := 46656) (rAdd (e := 1) (f := 46656) h969 (rR (x := 1)) rfl) rfl) (vc_X12_rest_23 (nS h965) h967 h30.1 h969)
    refine mr_lvS (lv' := [(0, .ref 106), (2, iv p2), (3, iv z17), (4, iv p1), (5, iv 0)]) (List.forall_mem_cons.mpr ⟨rfl, List.forall_mem_cons.mpr ⟨rfl, List.forall_mem_cons.mpr ⟨rfl, List.forall_mem_cons.mpr ⟨rfl, List.forall_mem_cons.mpr ⟨rfl, fun _ h => absurd h List.not_mem_nil⟩⟩⟩⟩⟩) ?_
    exact L959 46658 p1 0 μ13 T14 mF.refl h3 (rW (c := 0) (d := 46656) (rR (x := 0)) rfl) vc_X12_rests_19
  have h1029 : 0 ≤ z8 ∧ z8 ≤ 0 := (vc_X12_rest_27 h9 h7.2.1 h7.2.2.1 hp2 h7.1)
  have h1030 : p2 < (1 : Int) ∨ (6 : Int) < p2 := (h7.2.2.1 (vc_X12_rest_28 h7.2.1 h7.2.2.1 h9 hp2 h1029))
  refine mr_iconst (pc := 14) (z := (-1)) dX12_rest_14 ?_
  exact mr_iret dX12_rest_15 rfl (le_t rfl) (le_t rfl) hT mF.refl ⟨(rW (c := (-2147483648)) (d := 2147483647) (rR (x := (-1))) rfl), trivial⟩
theorem vc_X12_count_1 {z414 : Int} (h0 : (401 - z414) < ((0 : Nat) : Int)) (h1 : 0 ≤ z414 ∧ z414 ≤ 400) : False := by omega
theorem vc_X12_count_2 {z414 : Int} (h0 : 400 ≤ z414) (h1 : 0 ≤ z414 ∧ z414 ≤ 400) : 400 ≤ z414 ∧ z414 ≤ 400 := by omega
theorem vc_X12_count_4 {p1 : Int} (h0 : p1 = 1) (h1 : ¬ p1 = 0) (h2 : (-2147483648) ≤ p1 ∧ p1 ≤ 2147483647) : 1 ≤ p1 ∧ p1 ≤ 1 := by omega
theorem vc_X12_count_5 {p1 : Int} (h0 : p1 = 2) (h1 : ¬ p1 = 0) (h2 : ¬ p1 = 1) (h3 : (-2147483648) ≤ p1 ∧ p1 ≤ 2147483647) : 2 ≤ p1 ∧ p1 ≤ 2 := by omega
theorem vc_X12_count_6 {p1 : Int} (h0 : p1 = 3) (h1 : ¬ p1 = 0) (h2 : ¬ p1 = 1) (h3 : ¬ p1 = 2) (h4 : (-2147483648) ≤ p1 ∧ p1 ≤ 2147483647) : 3 ≤ p1 ∧ p1 ≤ 3 := by omega
theorem vc_X12_count_7 {p1 : Int} (h0 : p1 = 4) (h1 : ¬ p1 = 0) (h2 : ¬ p1 = 1) (h3 : ¬ p1 = 2) (h4 : ¬ p1 = 3) (h5 : (-2147483648) ≤ p1 ∧ p1 ≤ 2147483647) : 4 ≤ p1 ∧ p1 ≤ 4 := by omega
theorem vc_X12_count_8 {p1 : Int} (h0 : p1 = 5) (h1 : ¬ p1 = 0) (h2 : ¬ p1 = 1) (h3 : ¬ p1 = 2) (h4 : ¬ p1 = 3) (h5 : ¬ p1 = 4) (h6 : (-2147483648) ≤ p1 ∧ p1 ≤ 2147483647) : 5 ≤ p1 ∧ p1 ≤ 5 := by omega
theorem vc_X12_count_9 {p1 : Int} (h0 : p1 = 6) (h1 : ¬ p1 = 0) (h2 : ¬ p1 = 1) (h3 : ¬ p1 = 2) (h4 : ¬ p1 = 3) (h5 : ¬ p1 = 4) (h6 : ¬ p1 = 5) (h7 : (-2147483648) ≤ p1 ∧ p1 ≤ 2147483647) : 6 ≤ p1 ∧ p1 ≤ 6 := by omega
theorem vc_X12_count_10 {p1 : Int} (h0 : p1 = 7) (h1 : ¬ p1 = 0) (h2 : ¬ p1 = 1) (h3 : ¬ p1 = 2) (h4 : ¬ p1 = 3) (h5 : ¬ p1 = 4) (h6 : ¬ p1 = 5) (h7 : ¬ p1 = 6) (h8 : (-2147483648) ≤ p1 ∧ p1 ≤ 2147483647) : 7 ≤ p1 ∧ p1 ≤ 7 := by omega
theorem vc_X12_count_11 {p1 : Int} (h0 : p1 = 8) (h1 : ¬ p1 = 1) (h2 : ¬ p1 = 2) (h3 : ¬ p1 = 3) (h4 : ¬ p1 = 4) (h5 : ¬ p1 = 5) (h6 : ¬ p1 = 6) (h7 : ¬ p1 = 7) (h8 : (-2147483648) ≤ p1 ∧ p1 ≤ 2147483647) : 8 ≤ p1 ∧ p1 ≤ 8 := by omega
theorem vc_X12_count_12 {p1 : Int} (h0 : p1 = 9) (h1 : ¬ p1 = 2) (h2 : ¬ p1 = 3) (h3 : ¬ p1 = 4) (h4 : ¬ p1 = 5) (h5 : ¬ p1 = 6) (h6 : ¬ p1 = 7) (h7 : ¬ p1 = 8) (h8 : (-2147483648) ≤ p1 ∧ p1 ≤ 2147483647) : 9 ≤ p1 ∧ p1 ≤ 9 := by omega
theorem vc_X12_count_13 {p1 : Int} (h0 : p1 = 10) (h1 : ¬ p1 = 3) (h2 : ¬ p1 = 4) (h3 : ¬ p1 = 5) (h4 : ¬ p1 = 6) (h5 : ¬ p1 = 7) (h6 : ¬ p1 = 8) (h7 : ¬ p1 = 9) (h8 : (-2147483648) ≤ p1 ∧ p1 ≤ 2147483647) : 10 ≤ p1 ∧ p1 ≤ 10 := by omega
theorem vc_X12_count_14 {p1 : Int} (h0 : p1 = 11) (h1 : ¬ p1 = 4) (h2 : ¬ p1 = 5) (h3 : ¬ p1 = 6) (h4 : ¬ p1 = 7) (h5 : ¬ p1 = 8) (h6 : ¬ p1 = 9) (h7 : ¬ p1 = 10) (h8 : (-2147483648) ≤ p1 ∧ p1 ≤ 2147483647) : 11 ≤ p1 ∧ p1 ≤ 11 := by omega
theorem vc_X12_count_15 {p1 : Int} (h0 : ¬ p1 = 0) (h1 : ¬ p1 = 1) (h2 : ¬ p1 = 2) (h3 : ¬ p1 = 3) (h4 : ¬ p1 = 4) (h5 : ¬ p1 = 5) (h6 : ¬ p1 = 6) (h7 : ¬ p1 = 7) (h8 : ¬ p1 = 8) (h9 : ¬ p1 = 9) (h10 : ¬ p1 = 10) (h11 : ¬ p1 = 11) (h12 : (-2147483648) ≤ p1 ∧ p1 ≤ 2147483647) : p1 < 0 ∨ 11 < p1 := by omega
theorem vc_X12_count_16 {z414 : Int} (h0 : z414 < 400) (h1 : 0 ≤ z414 ∧ z414 ≤ 400) : 0 ≤ z414 ∧ z414 ≤ 399 := by omega
theorem vc_X12_count_17 {z510 : Int} (h0 : z510 < 0) (h1 : (-1) ≤ z510 ∧ z510 ≤ 2000001000) : (-1) ≤ z510 ∧ z510 ≤ (-1) := by omega
theorem vc_X12_count_18 {N z414 : Int} (h0 : (401 - z414) < N + 1) (h1 : z414 < 400) (h2 : 0 ≤ z414 ∧ z414 ≤ 399) : (401 - (z414 + 1)) < N := by omega
theorem vc_X12_count_19 {z510 : Int} (h0 : 0 ≤ z510) (h1 : (-1) ≤ z510 ∧ z510 ≤ 2000001000) : 0 ≤ z510 ∧ z510 ≤ 2000001000 := by omega
theorem vc_X12_count_22  : (401 - 0) < ((402 : Nat) : Int) := by omega
set_option maxRecDepth 4000 in
set_option maxHeartbeats 4000000 in
theorem c_X12_count {l : Launch} {D : va_G} {c : Nat → ClassId} {H0 : Heap} {sa : Nat × Nat × (Nat → Int32)} {w : mW} {μ : mM} (hw : mWF w) (hT : mT w μ) {p1 : Int} (hp1 : (-2147483648) ≤ p1 ∧ p1 ≤ 2147483647) : sC (gG l D c H0 sa) mX12_count 1 0 0 [.ref 106, iv p1] (mk w μ) (qP w μ (fun z => ((-2147483648) ≤ z ∧ z ≤ 2147483647) ∧ True)) := by
  refine sC.of rfl (by decide) (le_t rfl) ?_
  refine mr_lvE (lv' := [(0, .ref 106), (1, iv p1)]) rfl ?_
  refine mr_iconst (pc := 0) (z := 0) dX12_count_0 ?_
  refine mr_istore_n (pc := 1) (lv' := [(2, iv 0), (0, .ref 106), (1, iv p1)]) dX12_count_1 rfl (by decide) rfl ?_
  refine mr_iconst (pc := 2) (z := 0) dX12_count_2 ?_
  refine mr_istore_n (pc := 3) (lv' := [(3, iv 0), (2, iv 0), (0, .ref 106), (1, iv p1)]) dX12_count_3 rfl (by decide) rfl ?_
  have L416 : ∀ (nL416 : Nat) (z415 z414 : Int), True → ((-2147483648) ≤ z415 ∧ z415 ≤ 2147483647) → (0 ≤ z414 ∧ z414 ≤ 400) → (401 - z414) < (nL416 : Int) → sV (gG l D c H0 sa) mX12_count (sRm 1 0 0) (sZ (gG l D c H0 sa) 0 0 (qP w μ (fun z => ((-2147483648) ≤ z ∧ z ≤ 2147483647) ∧ True))) 4 [(0, .ref 106), (1, iv p1), (2, iv z415), (3, iv z414)] [] (mk w μ) 0 0 := by
    intro nL416
    induction nL416 with
    | zero => intro z415 z414 _ h417 h418 h422; exact ((vc_X12_count_1 h422 h418)).elim
    | succ nL416 ih423 =>
      intro z415 z414 _ h417 h418 h422
      refine mr_iload_n (pc := 4) (z := z414) dX12_count_4 rfl rfl ?_
      refine mr_sipush (pc := 5) (z := 400) dX12_count_5 (by decide) ?_
      refine mr_icmp_ge (pc := 8) (tgt := 49) dX12_count_8 (by decide) (r32 h418 rfl) (r32 (rR (x := 400)) rfl) (fun h442 => ?_) (fun h442 => ?_)
      · have h443 : 400 ≤ z414 ∧ z414 ≤ 400 := (vc_X12_count_2 h442 h418)
        refine mr_iload_n (pc := 49) (z := p1) dX12_count_49 rfl rfl ?_
        by_cases h444 : p1 = 0
        · refine mr_tableIn (pc := 50) (v := 0) (tgt := 112) dX12_count_50 h444 rfl rfl (by decide) ?_
          have h445 : 0 ≤ p1 ∧ p1 ≤ 0 := (vc_X12_mask_1 h444 hp1)
          refine sv_aload_n (pc := 112) dX12_count_112 rfl rfl ?_
          refine gf_X12_2 (pc := 113) dX12_count_113 wF_X12_15 (A_106 hw) hT fun z446 q447 h448 => ?_
          exact mr_iretP dX12_count_116 rfl (le_t rfl) (le_t rfl) ⟨(rW (c := (-2147483648)) (d := 2147483647) h448 rfl), trivial⟩
        by_cases h449 : p1 = 1
        · refine mr_tableIn (pc := 50) (v := 1) (tgt := 117) dX12_count_50 h449 rfl rfl (by decide) ?_
          have h450 : 1 ≤ p1 ∧ p1 ≤ 1 := (vc_X12_count_4 h449 h444 hp1)
          refine sv_aload_n (pc := 117) dX12_count_117 rfl rfl ?_
          refine gf_X12_5 (pc := 118) dX12_count_118 wF_X12_34 (A_106 hw) hT fun z451 q452 h453 => ?_
          exact mr_iretP dX12_count_121 rfl (le_t rfl) (le_t rfl) ⟨(rW (c := (-2147483648)) (d := 2147483647) h453 rfl), trivial⟩
        by_cases h454 : p1 = 2
        · refine mr_tableIn (pc := 50) (v := 2) (tgt := 122) dX12_count_50 h454 rfl rfl (by decide) ?_
          have h455 : 2 ≤ p1 ∧ p1 ≤ 2 := (vc_X12_count_5 h454 h444 h449 hp1)
          refine sv_aload_n (pc := 122) dX12_count_122 rfl rfl ?_
          refine gf_X12_6 (pc := 123) dX12_count_123 wF_X12_37 (A_106 hw) hT fun z456 q457 h458 => ?_
          exact mr_iretP dX12_count_126 rfl (le_t rfl) (le_t rfl) ⟨(rW (c := (-2147483648)) (d := 2147483647) h458 rfl), trivial⟩
        by_cases h459 : p1 = 3
        · refine mr_tableIn (pc := 50) (v := 3) (tgt := 127) dX12_count_50 h459 rfl rfl (by decide) ?_
          have h460 : 3 ≤ p1 ∧ p1 ≤ 3 := (vc_X12_count_6 h459 h444 h449 h454 hp1)
          refine sv_aload_n (pc := 127) dX12_count_127 rfl rfl ?_
          refine gf_X12_18 (pc := 128) dX12_count_128 wF_X12_95 (A_106 hw) hT fun z461 q462 h463 => ?_
          exact mr_iretP dX12_count_131 rfl (le_t rfl) (le_t rfl) ⟨(rW (c := (-2147483648)) (d := 2147483647) h463 rfl), trivial⟩
        by_cases h464 : p1 = 4
        · refine mr_tableIn (pc := 50) (v := 4) (tgt := 132) dX12_count_50 h464 rfl rfl (by decide) ?_
          have h465 : 4 ≤ p1 ∧ p1 ≤ 4 := (vc_X12_count_7 h464 h444 h449 h454 h459 hp1)
          refine sv_aload_n (pc := 132) dX12_count_132 rfl rfl ?_
          refine gf_X12_39 (pc := 133) dX12_count_133 wF_X12_355 (A_106 hw) hT fun z466 q467 h468 => ?_
          exact mr_iretP dX12_count_136 rfl (le_t rfl) (le_t rfl) ⟨(rW (c := (-2147483648)) (d := 2147483647) h468 rfl), trivial⟩
        by_cases h469 : p1 = 5
        · refine mr_tableIn (pc := 50) (v := 5) (tgt := 137) dX12_count_50 h469 rfl rfl (by decide) ?_
          have h470 : 5 ≤ p1 ∧ p1 ≤ 5 := (vc_X12_count_8 h469 h444 h449 h454 h459 h464 hp1)
          refine sv_aload_n (pc := 137) dX12_count_137 rfl rfl ?_
          refine gf_X12_109 (pc := 138) dX12_count_138 wF_X12_695 (A_106 hw) hT fun z471 q472 h473 => ?_
          exact mr_iretP dX12_count_141 rfl (le_t rfl) (le_t rfl) ⟨(rW (c := (-2147483648)) (d := 2147483647) h473 rfl), trivial⟩
        by_cases h474 : p1 = 6
        · refine mr_tableIn (pc := 50) (v := 6) (tgt := 142) dX12_count_50 h474 rfl rfl (by decide) ?_
          have h475 : 6 ≤ p1 ∧ p1 ≤ 6 := (vc_X12_count_9 h474 h444 h449 h454 h459 h464 h469 hp1)
          refine sv_aload_n (pc := 142) dX12_count_142 rfl rfl ?_
          refine gf_X12_1 (pc := 143) dX12_count_143 wF_X12_1 (A_106 hw) hT fun z476 q477 h478 => ?_
          exact mr_iretP dX12_count_146 rfl (le_t rfl) (le_t rfl) ⟨(rW (c := (-2147483648)) (d := 2147483647) h478 rfl), trivial⟩
        by_cases h479 : p1 = 7
        · refine mr_tableIn (pc := 50) (v := 7) (tgt := 147) dX12_count_50 h479 rfl rfl (by decide) ?_
          have h480 : 7 ≤ p1 ∧ p1 ≤ 7 := (vc_X12_count_10 h479 h444 h449 h454 h459 h464 h469 h474 hp1)
          refine sv_aload_n (pc := 147) dX12_count_147 rfl rfl ?_
          refine gf_X12_71 (pc := 148) dX12_count_148 wF_X12_591 (A_106 hw) hT fun z481 q482 h483 => ?_
          exact mr_iretP dX12_count_151 rfl (le_t rfl) (le_t rfl) ⟨(rW (c := (-2147483648)) (d := 2147483647) h483 rfl), trivial⟩
        by_cases h484 : p1 = 8
        · refine mr_tableIn (pc := 50) (v := 8) (tgt := 152) dX12_count_50 h484 rfl rfl (by decide) ?_
          have h485 : 8 ≤ p1 ∧ p1 ≤ 8 := (vc_X12_count_11 h484 h449 h454 h459 h464 h469 h474 h479 hp1)
          refine mr_iload_n (pc := 152) (z := z415) dX12_count_152 rfl rfl ?_
          exact mr_iretP dX12_count_153 rfl (le_t rfl) (le_t rfl) ⟨h417, trivial⟩
        by_cases h486 : p1 = 9
        · refine mr_tableIn (pc := 50) (v := 9) (tgt := 154) dX12_count_50 h486 rfl rfl (by decide) ?_
          have h487 : 9 ≤ p1 ∧ p1 ≤ 9 := (vc_X12_count_12 h486 h454 h459 h464 h469 h474 h479 h484 hp1)
          refine sv_aload_n (pc := 154) dX12_count_154 rfl rfl ?_
          refine gf_X12_73 (pc := 155) dX12_count_155 wF_X12_610 (A_106 hw) hT fun z488 q489 h490 => ?_
          exact mr_iretP dX12_count_158 rfl (le_t rfl) (le_t rfl) ⟨h490, trivial⟩
        by_cases h491 : p1 = 10
        · refine mr_tableIn (pc := 50) (v := 10) (tgt := 159) dX12_count_50 h491 rfl rfl (by decide) ?_
          have h492 : 10 ≤ p1 ∧ p1 ≤ 10 := (vc_X12_count_13 h491 h459 h464 h469 h474 h479 h484 h486 hp1)
          refine sv_aload_n (pc := 159) dX12_count_159 rfl rfl ?_
          refine gf_X12_15 (pc := 160) dX12_count_160 wF_X12_79 (A_106 hw) hT fun z493 q494 h495 => ?_
          exact mr_iretP dX12_count_163 rfl (le_t rfl) (le_t rfl) ⟨(rW (c := (-2147483648)) (d := 2147483647) h495 rfl), trivial⟩
        by_cases h496 : p1 = 11
        · refine mr_tableIn (pc := 50) (v := 11) (tgt := 164) dX12_count_50 h496 rfl rfl (by decide) ?_
          have h497 : 11 ≤ p1 ∧ p1 ≤ 11 := (vc_X12_count_14 h496 h464 h469 h474 h479 h484 h486 h491 hp1)
          refine sv_aload_n (pc := 164) dX12_count_164 rfl rfl ?_
          refine gf_X12_17 (pc := 165) dX12_count_165 wF_X12_85 (A_106 hw) hT fun z498 q499 h500 => ?_
          exact mr_iretP dX12_count_168 rfl (le_t rfl) (le_t rfl) ⟨(rW (c := (-2147483648)) (d := 2147483647) h500 rfl), trivial⟩
        refine mr_tableOut (pc := 50) (tgt := 169) dX12_count_50 hp1 (vc_X12_count_15 h444 h449 h454 h459 h464 h469 h474 h479 h484 h486 h491 h496 hp1) (by decide) ?_
        refine mr_iconst (pc := 169) (z := (-1)) dX12_count_169 ?_
        exact mr_iretP dX12_count_170 rfl (le_t rfl) (le_t rfl) ⟨(rW (c := (-2147483648)) (d := 2147483647) (rR (x := (-1))) rfl), trivial⟩
      have h501 : 0 ≤ z414 ∧ z414 ≤ 399 := (vc_X12_count_16 h442 h418)
      refine mr_iload_n (pc := 11) (z := z415) dX12_count_11 rfl rfl ?_
      refine sv_aload_n (pc := 12) dX12_count_12 rfl rfl ?_
      refine gf_X12_77 (pc := 13) dX12_count_13 wF_X12_433 (A_106 hw) hT ?_
      refine mr_iload_n (pc := 16) (z := z414) dX12_count_16 rfl rfl ?_
      refine la_157 (pc := 17) dX12_count_17 (A_157 hw) hT (rIx (n := 400) h501 rfl) fun z502 q503 h504 => ?_
      have J509 : ∀ (z507 : Int), ((0 ≤ z507 ∧ z507 ≤ 1)) → sV (gG l D c H0 sa) mX12_count (sRm 1 0 0) (sZ (gG l D c H0 sa) 0 0 (qP w μ (fun z => ((-2147483648) ≤ z ∧ z ≤ 2147483647) ∧ True))) 26 [(0, .ref 106), (1, iv p1), (3, iv z414)] [iv z507, iv z415] (mk w μ) 0 0 := by
        intro z507 h508
        refine sv_aload_n (pc := 26) dX12_count_26 rfl rfl ?_
        refine gf_X12_79 (pc := 27) dX12_count_27 wF_X12_439 (A_106 hw) hT ?_
        refine mr_iload_n (pc := 30) (z := z414) dX12_count_30 rfl rfl ?_
        refine la_159 (pc := 31) dX12_count_31 (A_159 hw) hT (rIx (n := 400) h501 rfl) fun z510 q511 h512 => ?_
        refine mr_if_lt (pc := 32) (tgt := 39) dX12_count_32 (by decide) (r32 h512 rfl) (fun h515 => ?_) (fun h515 => ?_)
        · have h516 : (-1) ≤ z510 ∧ z510 ≤ (-1) := (vc_X12_count_17 h515 h512)
          refine mr_iconst (pc := 39) (z := 0) dX12_count_39 ?_
          refine mr_iadd (pc := 40) (x := z507) (y := 0) dX12_count_40 ?_
          refine mr_iadd (pc := 41) (x := z415) (y := (z507 + 0)) dX12_count_41 ?_
          refine mr_wrap fun z517 h518 => ?_
          refine mr_istore_n (pc := 42) (lv' := [(2, iv z517), (0, .ref 106), (1, iv p1), (3, iv z414)]) dX12_count_42 rfl (by decide) rfl ?_
          refine mr_iinc (pc := 43) (lv' := [(3, iv (z414 + 1)), (2, iv z517), (0, .ref 106), (1, iv p1)]) dX12_count_43 rfl (by decide) rfl ?_
          refine sv_goto (pc := 46) (tgt := 4) dX12_count_46 (by decide) ?_
          refine mr_lvS (lv' := [(0, .ref 106), (1, iv p1), (2, iv z517), (3, iv (z414 + 1))]) (List.forall_mem_cons.mpr ⟨rfl, List.forall_mem_cons.mpr ⟨rfl, List.forall_mem_cons.mpr ⟨rfl, List.forall_mem_cons.mpr ⟨rfl, fun _ h => absurd h List.not_mem_nil⟩⟩⟩⟩) ?_
          exact ih423 z517 (z414 + 1) trivial h518 (rW (c := 0) (d := 400) (rAdd (e := 1) (f := 400) h501 (rR (x := 1)) rfl) rfl) (vc_X12_count_18 (nS h422) h442 h501)
        have h519 : 0 ≤ z510 ∧ z510 ≤ 2000001000 := (vc_X12_count_19 h515 h512)
        refine mr_iconst (pc := 35) (z := 1) dX12_count_35 ?_
        refine sv_goto (pc := 36) (tgt := 40) dX12_count_36 (by decide) ?_
        refine mr_iadd (pc := 40) (x := z507) (y := 1) dX12_count_40 ?_
        refine mr_iadd (pc := 41) (x := z415) (y := (z507 + 1)) dX12_count_41 ?_
        refine mr_wrap fun z520 h521 => ?_
        refine mr_istore_n (pc := 42) (lv' := [(2, iv z520), (0, .ref 106), (1, iv p1), (3, iv z414)]) dX12_count_42 rfl (by decide) rfl ?_
        refine mr_iinc (pc := 43) (lv' := [(3, iv (z414 + 1)), (2, iv z520), (0, .ref 106), (1, iv p1)]) dX12_count_43 rfl (by decide) rfl ?_
        refine sv_goto (pc := 46) (tgt := 4) dX12_count_46 (by decide) ?_
        refine mr_lvS (lv' := [(0, .ref 106), (1, iv p1), (2, iv z520), (3, iv (z414 + 1))]) (List.forall_mem_cons.mpr ⟨rfl, List.forall_mem_cons.mpr ⟨rfl, List.forall_mem_cons.mpr ⟨rfl, List.forall_mem_cons.mpr ⟨rfl, fun _ h => absurd h List.not_mem_nil⟩⟩⟩⟩) ?_
        exact ih423 z520 (z414 + 1) trivial h521 (rW (c := 0) (d := 400) (rAdd (e := 1) (f := 400) h501 (rR (x := 1)) rfl) rfl) (vc_X12_count_18 (nS h422) h442 h501)
      refine mr_if_lt (pc := 18) (tgt := 25) dX12_count_18 (by decide) (r32 h504 rfl) (fun h522 => ?_) (fun h522 => ?_)
      · have h523 : (-1) ≤ z502 ∧ z502 ≤ (-1) := (vc_X12_count_17 h522 h504)
        refine mr_iconst (pc := 25) (z := 0) dX12_count_25 ?_
        refine mr_lvS (lv' := [(0, .ref 106), (1, iv p1), (3, iv z414)]) (List.forall_mem_cons.mpr ⟨rfl, List.forall_mem_cons.mpr ⟨rfl, List.forall_mem_cons.mpr ⟨rfl, fun _ h => absurd h List.not_mem_nil⟩⟩⟩) ?_
        exact J509 0 (rW (c := 0) (d := 1) (rR (x := 0)) rfl)
      have h524 : 0 ≤ z502 ∧ z502 ≤ 2000001000 := (vc_X12_count_19 h522 h504)
      refine mr_iconst (pc := 21) (z := 1) dX12_count_21 ?_
      refine sv_goto (pc := 22) (tgt := 26) dX12_count_22 (by decide) ?_
      refine mr_lvS (lv' := [(0, .ref 106), (1, iv p1), (3, iv z414)]) (List.forall_mem_cons.mpr ⟨rfl, List.forall_mem_cons.mpr ⟨rfl, List.forall_mem_cons.mpr ⟨rfl, fun _ h => absurd h List.not_mem_nil⟩⟩⟩) ?_
      exact J509 1 (rW (c := 0) (d := 1) (rR (x := 1)) rfl)
  refine mr_lvS (lv' := [(0, .ref 106), (1, iv p1), (2, iv 0), (3, iv 0)]) (List.forall_mem_cons.mpr ⟨rfl, List.forall_mem_cons.mpr ⟨rfl, List.forall_mem_cons.mpr ⟨rfl, List.forall_mem_cons.mpr ⟨rfl, fun _ h => absurd h List.not_mem_nil⟩⟩⟩⟩) ?_
  exact L416 402 0 0 trivial (rW (c := (-2147483648)) (d := 2147483647) (rR (x := 0)) rfl) (rW (c := 0) (d := 400) (rR (x := 0)) rfl) vc_X12_count_22
theorem vc_X12_part_4 {p1 : Int} (h0 : 0 ≤ p1) (h1 : ¬ p1 = 0) (h2 : (-2147483648) ≤ p1 ∧ p1 ≤ 2147483647) : 0 ≤ p1 ∧ p1 ≤ 2147483647 := by omega
theorem vc_X12_part_5  : (0 : Int) < (100 : Int) ∧ (100 : Int) ≤ (2147483647 : Int) := by omega
theorem vc_X12_part_6 {p1 z25 : Int} (h0 : z25 = 1) (h1 : p1 / 100 = z25) (h2 : 0 ≤ p1 ∧ p1 ≤ 2147483647) (h3 : 0 ≤ z25 ∧ z25 ≤ 21474836) : 1 ≤ z25 ∧ z25 ≤ 1 := by omega
theorem vc_X12_part_7 {p1 z22 z30 : Int} (h0 : z30 ≤ z22) (h1 : p1 % 100 = z22) (h2 : 0 ≤ p1 ∧ p1 ≤ 2147483647) (h3 : 0 ≤ z22 ∧ z22 ≤ 99) (h4 : 0 ≤ z30 ∧ z30 ≤ 1000) : 0 ≤ z30 ∧ z30 ≤ 99 := by omega
theorem vc_X12_part_8 {p1 z22 z30 : Int} (h0 : z22 < z30) (h1 : p1 % 100 = z22) (h2 : 0 ≤ p1 ∧ p1 ≤ 2147483647) (h3 : 0 ≤ z22 ∧ z22 ≤ 99) (h4 : 0 ≤ z30 ∧ z30 ≤ 1000) : 1 ≤ z30 ∧ z30 ≤ 1000 := by omega
theorem vc_X12_part_9 {z25 : Int} (h0 : ¬ z25 = 1) (h1 : 1 ≤ z25 ∧ z25 ≤ 1) : False := by omega
theorem vc_X12_part_10 {p1 z25 : Int} (h0 : z25 = 3) (h1 : p1 / 100 = z25) (h2 : ¬ z25 = 1) (h3 : ¬ z25 = 2) (h4 : 0 ≤ p1 ∧ p1 ≤ 2147483647) (h5 : 0 ≤ z25 ∧ z25 ≤ 21474836) : 3 ≤ z25 ∧ z25 ≤ 3 := by omega
theorem vc_X12_part_13 {z25 : Int} (h0 : ¬ z25 = 3) (h1 : 3 ≤ z25 ∧ z25 ≤ 3) : False := by omega
theorem vc_X12_part_14 {p1 z25 : Int} (h0 : z25 = 7) (h1 : p1 / 100 = z25) (h2 : ¬ z25 = 1) (h3 : ¬ z25 = 2) (h4 : ¬ z25 = 3) (h5 : ¬ z25 = 4) (h6 : ¬ z25 = 5) (h7 : ¬ z25 = 6) (h8 : 0 ≤ p1 ∧ p1 ≤ 2147483647) (h9 : 0 ≤ z25 ∧ z25 ≤ 21474836) : 7 ≤ z25 ∧ z25 ≤ 7 := by omega
theorem vc_X12_part_15 {p1 z22 z75 : Int} (h0 : z75 ≤ z22) (h1 : p1 % 100 = z22) (h2 : 0 ≤ p1 ∧ p1 ≤ 2147483647) (h3 : 0 ≤ z22 ∧ z22 ≤ 99) (h4 : 0 ≤ z75 ∧ z75 ≤ 400) : 0 ≤ z75 ∧ z75 ≤ 99 := by omega
theorem vc_X12_part_16 {p1 z22 z75 : Int} (h0 : z22 < z75) (h1 : p1 % 100 = z22) (h2 : 0 ≤ p1 ∧ p1 ≤ 2147483647) (h3 : 0 ≤ z22 ∧ z22 ≤ 99) (h4 : 0 ≤ z75 ∧ z75 ≤ 400) : 1 ≤ z75 ∧ z75 ≤ 400 := by omega
theorem vc_X12_part_17 {p1 z25 : Int} (h0 : z25 = 6) (h1 : p1 / 100 = z25) (h2 : ¬ z25 = 1) (h3 : ¬ z25 = 2) (h4 : ¬ z25 = 3) (h5 : ¬ z25 = 4) (h6 : ¬ z25 = 5) (h7 : 0 ≤ p1 ∧ p1 ≤ 2147483647) (h8 : 0 ≤ z25 ∧ z25 ≤ 21474836) : 6 ≤ z25 ∧ z25 ≤ 6 := by omega
theorem vc_X12_part_18 {p1 z22 z90 : Int} (h0 : z22 < z90) (h1 : p1 % 100 = z22) (h2 : 0 ≤ p1 ∧ p1 ≤ 2147483647) (h3 : 0 ≤ z22 ∧ z22 ≤ 99) (h4 : 0 ≤ z90 ∧ z90 ≤ 8) : 0 ≤ z22 ∧ z22 ≤ 7 := by omega
theorem vc_X12_part_19 {p1 z22 z90 : Int} (h0 : z22 < z90) (h1 : p1 % 100 = z22) (h2 : 0 ≤ p1 ∧ p1 ≤ 2147483647) (h3 : 0 ≤ z22 ∧ z22 ≤ 7) (h4 : 0 ≤ z90 ∧ z90 ≤ 8) : 1 ≤ z90 ∧ z90 ≤ 8 := by omega
theorem vc_X12_part_20 {p1 z25 : Int} (h0 : z25 = 5) (h1 : p1 / 100 = z25) (h2 : ¬ z25 = 1) (h3 : ¬ z25 = 2) (h4 : ¬ z25 = 3) (h5 : ¬ z25 = 4) (h6 : 0 ≤ p1 ∧ p1 ≤ 2147483647) (h7 : 0 ≤ z25 ∧ z25 ≤ 21474836) : 5 ≤ z25 ∧ z25 ≤ 5 := by omega
theorem vc_X12_part_21  : (((960 : Int) + (4 : Int)) : Int) % (40 : Int) = (4 : Int) := by omega
theorem vc_X12_part_22 {p1 z105 z22 : Int} (h0 : z22 < z105) (h1 : p1 % 100 = z22) (h2 : 0 ≤ p1 ∧ p1 ≤ 2147483647) (h3 : 0 ≤ z105 ∧ z105 ≤ 20) (h4 : 0 ≤ z22 ∧ z22 ≤ 99) : 0 ≤ z22 ∧ z22 ≤ 19 := by omega
theorem vc_X12_part_23 {p1 z105 z22 : Int} (h0 : z22 < z105) (h1 : p1 % 100 = z22) (h2 : 0 ≤ p1 ∧ p1 ≤ 2147483647) (h3 : 0 ≤ z105 ∧ z105 ≤ 20) (h4 : 0 ≤ z22 ∧ z22 ≤ 19) : 1 ≤ z105 ∧ z105 ≤ 20 := by omega
theorem vc_X12_part_24 {p1 z25 : Int} (h0 : z25 = 4) (h1 : p1 / 100 = z25) (h2 : ¬ z25 = 1) (h3 : ¬ z25 = 2) (h4 : ¬ z25 = 3) (h5 : 0 ≤ p1 ∧ p1 ≤ 2147483647) (h6 : 0 ≤ z25 ∧ z25 ≤ 21474836) : 4 ≤ z25 ∧ z25 ≤ 4 := by omega
theorem vc_X12_part_25 {p1 z121 z22 : Int} (h0 : z121 ≤ z22) (h1 : p1 % 100 = z22) (h2 : 0 ≤ p1 ∧ p1 ≤ 2147483647) (h3 : 0 ≤ z121 ∧ z121 ≤ 1000) (h4 : 0 ≤ z22 ∧ z22 ≤ 99) : 0 ≤ z121 ∧ z121 ≤ 99 := by omega
theorem vc_X12_part_26 {p1 z121 z22 : Int} (h0 : z22 < z121) (h1 : p1 % 100 = z22) (h2 : 0 ≤ p1 ∧ p1 ≤ 2147483647) (h3 : 0 ≤ z121 ∧ z121 ≤ 1000) (h4 : 0 ≤ z22 ∧ z22 ≤ 99) : 1 ≤ z121 ∧ z121 ≤ 1000 := by omega
theorem vc_X12_part_27 {z25 : Int} (h0 : z25 = 3) (h1 : 4 ≤ z25 ∧ z25 ≤ 4) : False := by omega
theorem vc_X12_part_28 {p1 z25 : Int} (h0 : z25 = 2) (h1 : p1 / 100 = z25) (h2 : ¬ z25 = 1) (h3 : 0 ≤ p1 ∧ p1 ≤ 2147483647) (h4 : 0 ≤ z25 ∧ z25 ≤ 21474836) : 2 ≤ z25 ∧ z25 ≤ 2 := by omega
theorem vc_X12_part_31 {z25 : Int} (h0 : z25 = 1) (h1 : 2 ≤ z25 ∧ z25 ≤ 2) : False := by omega
theorem vc_X12_part_32 {p1 : Int} (h0 : p1 = 7) (h1 : 0 ≤ p1) (h2 : ¬ p1 = 1) (h3 : ¬ p1 = 2) (h4 : ¬ p1 = 3) (h5 : ¬ p1 = 4) (h6 : ¬ p1 = 5) (h7 : ¬ p1 = 6) (h8 : 0 ≤ p1 ∧ p1 ≤ 2147483647) : 7 ≤ p1 ∧ p1 ≤ 7 := by omega
theorem vc_X12_part_33 {p1 : Int} (h0 : p1 = 6) (h1 : ¬ p1 = 0) (h2 : 0 ≤ p1) (h3 : ¬ p1 = 1) (h4 : ¬ p1 = 2) (h5 : ¬ p1 = 3) (h6 : ¬ p1 = 4) (h7 : ¬ p1 = 5) (h8 : 0 ≤ p1 ∧ p1 ≤ 2147483647) : 6 ≤ p1 ∧ p1 ≤ 6 := by omega
theorem vc_X12_part_34 {p1 : Int} (h0 : p1 = 5) (h1 : ¬ p1 = 0) (h2 : 0 ≤ p1) (h3 : ¬ p1 = 1) (h4 : ¬ p1 = 2) (h5 : ¬ p1 = 3) (h6 : ¬ p1 = 4) (h7 : 0 ≤ p1 ∧ p1 ≤ 2147483647) : 5 ≤ p1 ∧ p1 ≤ 5 := by omega
theorem vc_X12_part_35 {p1 : Int} (h0 : p1 = 4) (h1 : ¬ p1 = 0) (h2 : 0 ≤ p1) (h3 : ¬ p1 = 1) (h4 : ¬ p1 = 2) (h5 : ¬ p1 = 3) (h6 : 0 ≤ p1 ∧ p1 ≤ 2147483647) : 4 ≤ p1 ∧ p1 ≤ 4 := by omega
theorem vc_X12_part_36 {p1 : Int} (h0 : p1 = 3) (h1 : ¬ p1 = 0) (h2 : 0 ≤ p1) (h3 : ¬ p1 = 1) (h4 : ¬ p1 = 2) (h5 : 0 ≤ p1 ∧ p1 ≤ 2147483647) : 3 ≤ p1 ∧ p1 ≤ 3 := by omega
theorem vc_X12_part_37 {p1 : Int} (h0 : p1 = 2) (h1 : ¬ p1 = 0) (h2 : 0 ≤ p1) (h3 : ¬ p1 = 1) (h4 : 0 ≤ p1 ∧ p1 ≤ 2147483647) : 2 ≤ p1 ∧ p1 ≤ 2 := by omega
theorem vc_X12_part_38 {p1 : Int} (h0 : p1 = 1) (h1 : ¬ p1 = 0) (h2 : 0 ≤ p1) (h3 : 0 ≤ p1 ∧ p1 ≤ 2147483647) : 1 ≤ p1 ∧ p1 ≤ 1 := by omega
theorem vc_X12_part_39 {p1 : Int} (h0 : p1 < 0) (h1 : ¬ p1 = 0) (h2 : (-2147483648) ≤ p1 ∧ p1 ≤ 2147483647) : (-2147483648) ≤ p1 ∧ p1 ≤ (-1) := by omega
theorem vc_X12_part_41 {z181 : Int} (h0 : ¬ z181 = 0) (h1 : 0 ≤ z181 ∧ z181 ≤ 3) : 1 ≤ z181 ∧ z181 ≤ 3 := by omega
theorem vc_X12_part_42 {z181 : Int} (h0 : z181 = 0) (h1 : 0 ≤ z181 ∧ z181 ≤ 3) : 0 ≤ z181 ∧ z181 ≤ 0 := by omega
set_option maxRecDepth 4000 in
set_option maxHeartbeats 4000000 in
theorem c_X12_part {l : Launch} {D : va_G} {c : Nat → ClassId} {H0 : Heap} {sa : Nat × Nat × (Nat → Int32)} {w : mW} {μ : mM} (hw : mWF w) (hT : mT w μ) {p1 : Int} (hp1 : (-2147483648) ≤ p1 ∧ p1 ≤ 2147483647) : sC (gG l D c H0 sa) mX12_part 1 0 0 [.ref 106, iv p1] (mk w μ) (qP w μ (fun z => ((-2147483648) ≤ z ∧ z ≤ 2147483647) ∧ True)) := by
  refine sC.of rfl (by decide) (le_t rfl) ?_
  refine mr_lvE (lv' := [(0, .ref 106), (1, iv p1)]) rfl ?_
  refine sv_aload_n (pc := 0) dX12_part_0 rfl rfl ?_
  refine gf_X12_96 (pc := 1) dX12_part_1 wF_X12_655 (A_106 hw) hT fun z1 q2 h3 => ?_
  refine mr_if_ne (pc := 4) (tgt := 10) dX12_part_4 (by decide) (r32 h3 rfl) (fun h4 => ?_) (fun h4 => ?_)
  · have h5 : 1 ≤ z1 ∧ z1 ≤ 1 := (vc_X12_ring_24 h4 h3)
    refine mr_iload_n (pc := 10) (z := p1) dX12_part_10 rfl rfl ?_
    refine mr_if_ne (pc := 11) (tgt := 36) dX12_part_11 (by decide) hp1 (fun h6 => ?_) (fun h6 => ?_)
    · refine sv_aload_n (pc := 36) dX12_part_36 rfl rfl ?_
      refine gf_X12_97 (pc := 37) dX12_part_37 wF_X12_665 (A_106 hw) hT fun z7 q8 h9 => ?_
      refine mr_if_ne (pc := 40) (tgt := 47) dX12_part_40 (by decide) (r32 h9 rfl) (fun h10 => ?_) (fun h10 => ?_)
      · have h11 : 1 ≤ z7 ∧ z7 ≤ 1 := (vc_X12_ring_24 h10 h9)
        refine mr_ldc (pc := 47) (z := (-99999999)) dX12_part_47 wG_X12_29 (by decide) ?_
        exact mr_iretP dX12_part_49 rfl (le_t rfl) (le_t rfl) ⟨(rW (c := (-2147483648)) (d := 2147483647) (rR (x := (-99999999))) rfl), trivial⟩
      have h12 : 0 ≤ z7 ∧ z7 ≤ 0 := (vc_X12_ring_22 h10 h9)
      refine mr_iload_n (pc := 43) (z := p1) dX12_part_43 rfl rfl ?_
      refine mr_if_ge (pc := 44) (tgt := 50) dX12_part_44 (by decide) hp1 (fun h13 => ?_) (fun h13 => ?_)
      · have h14 : 0 ≤ p1 ∧ p1 ≤ 2147483647 := (vc_X12_part_4 h13 h6 hp1)
        refine mr_sipush (pc := 50) (z := 960) dX12_part_50 (by decide) ?_
        refine mr_istore_n (pc := 53) (lv' := [(2, iv 960), (0, .ref 106), (1, iv p1)]) dX12_part_53 rfl (by decide) rfl ?_
        refine mr_iload_n (pc := 54) (z := p1) dX12_part_54 rfl rfl ?_
        refine mr_iconst (pc := 55) (z := 1) dX12_part_55 ?_
        refine mr_icmp_ne (pc := 56) (tgt := 64) dX12_part_56 (by decide) (r32 h14 rfl) (r32 (rR (x := 1)) rfl) (fun h15 => ?_) (fun h15 => ?_)
        · refine mr_iload_n (pc := 64) (z := p1) dX12_part_64 rfl rfl ?_
          refine mr_iconst (pc := 65) (z := 2) dX12_part_65 ?_
          refine mr_icmp_ne (pc := 66) (tgt := 74) dX12_part_66 (by decide) (r32 h14 rfl) (r32 (rR (x := 2)) rfl) (fun h16 => ?_) (fun h16 => ?_)
          · refine mr_iload_n (pc := 74) (z := p1) dX12_part_74 rfl rfl ?_
            refine mr_iconst (pc := 75) (z := 3) dX12_part_75 ?_
            refine mr_icmp_ne (pc := 76) (tgt := 84) dX12_part_76 (by decide) (r32 h14 rfl) (r32 (rR (x := 3)) rfl) (fun h17 => ?_) (fun h17 => ?_)
            · refine mr_iload_n (pc := 84) (z := p1) dX12_part_84 rfl rfl ?_
              refine mr_iconst (pc := 85) (z := 4) dX12_part_85 ?_
              refine mr_icmp_ne (pc := 86) (tgt := 98) dX12_part_86 (by decide) (r32 h14 rfl) (r32 (rR (x := 4)) rfl) (fun h18 => ?_) (fun h18 => ?_)
              · refine mr_iload_n (pc := 98) (z := p1) dX12_part_98 rfl rfl ?_
                refine mr_iconst (pc := 99) (z := 5) dX12_part_99 ?_
                refine mr_icmp_ne (pc := 100) (tgt := 112) dX12_part_100 (by decide) (r32 h14 rfl) (r32 (rR (x := 5)) rfl) (fun h19 => ?_) (fun h19 => ?_)
                · refine mr_iload_n (pc := 112) (z := p1) dX12_part_112 rfl rfl ?_
                  refine mr_bipush (pc := 113) (z := 6) dX12_part_113 (by decide) ?_
                  refine mr_icmp_ne (pc := 115) (tgt := 127) dX12_part_115 (by decide) (r32 h14 rfl) (r32 (rR (x := 6)) rfl) (fun h20 => ?_) (fun h20 => ?_)
                  · refine mr_iload_n (pc := 127) (z := p1) dX12_part_127 rfl rfl ?_
                    refine mr_bipush (pc := 128) (z := 7) dX12_part_128 (by decide) ?_
                    refine mr_icmp_ne (pc := 130) (tgt := 138) dX12_part_130 (by decide) (r32 h14 rfl) (r32 (rR (x := 7)) rfl) (fun h21 => ?_) (fun h21 => ?_)
                    · refine mr_iload_n (pc := 138) (z := p1) dX12_part_138 rfl rfl ?_
                      refine mr_bipush (pc := 139) (z := 100) dX12_part_139 (by decide) ?_
                      refine mr_irem (pc := 141) (x := p1) (y := 100) dX12_part_141 h14 vc_X12_part_5 ?_
                      refine mr_gen (P := fun z => 0 ≤ z ∧ z ≤ 99) (rMod h14 rfl) fun z22 q23 h24 => ?_
                      refine mr_istore_n (pc := 142) (lv' := [(3, iv z22), (2, iv 960), (0, .ref 106), (1, iv p1)]) dX12_part_142 rfl (by decide) rfl ?_
                      refine mr_iload_n (pc := 143) (z := p1) dX12_part_143 rfl rfl ?_
                      refine mr_bipush (pc := 144) (z := 100) dX12_part_144 (by decide) ?_
                      refine mr_idiv (pc := 146) (x := p1) (y := 100) dX12_part_146 h14 vc_X12_part_5 ?_
                      refine mr_gen (P := fun z => 0 ≤ z ∧ z ≤ 21474836) (rDiv h14 rfl) fun z25 q26 h27 => ?_
                      refine mr_istore (pc := 147) (lv' := [(4, iv z25), (3, iv z22), (2, iv 960), (0, .ref 106), (1, iv p1)]) dX12_part_147 (by decide) rfl ?_
                      refine mr_iload (pc := 149) (z := z25) dX12_part_149 rfl ?_
                      refine mr_iconst (pc := 151) (z := 1) dX12_part_151 ?_
                      refine mr_icmp_eq (pc := 152) (tgt := 161) dX12_part_152 (by decide) (r32 h27 rfl) (r32 (rR (x := 1)) rfl) (fun h28 => ?_) (fun h28 => ?_)
                      · have h29 : 1 ≤ z25 ∧ z25 ≤ 1 := (vc_X12_part_6 h28 q26 h14 h27)
                        refine mr_iload_n (pc := 161) (z := z22) dX12_part_161 rfl rfl ?_
                        refine sv_aload_n (pc := 162) dX12_part_162 rfl rfl ?_
                        refine gf_X12_88 (pc := 163) dX12_part_163 wF_X12_625 (A_106 hw) hT fun z30 q31 h32 => ?_
                        refine mr_icmp_ge (pc := 166) (tgt := 193) dX12_part_166 (by decide) (r32 h24 rfl) (r32 h32 rfl) (fun h38 => ?_) (fun h38 => ?_)
                        · have h39 : 0 ≤ z30 ∧ z30 ≤ 99 := (vc_X12_part_7 h38 q23 h14 h24 h32)
                          refine mr_ldc (pc := 193) (z := (-99999999)) dX12_part_193 wG_X12_29 (by decide) ?_
                          exact mr_iretP dX12_part_195 rfl (le_t rfl) (le_t rfl) ⟨(rW (c := (-2147483648)) (d := 2147483647) (rR (x := (-99999999))) rfl), trivial⟩
                        have h40 : 1 ≤ z30 ∧ z30 ≤ 1000 := (vc_X12_part_8 h38 q23 h14 h24 h32)
                        refine mr_iload (pc := 169) (z := z25) dX12_part_169 rfl ?_
                        refine mr_iconst (pc := 171) (z := 1) dX12_part_171 ?_
                        refine mr_icmp_ne (pc := 172) (tgt := 184) dX12_part_172 (by decide) (r32 h29 rfl) (r32 (rR (x := 1)) rfl) (fun h => ((vc_X12_part_9 h h29)).elim) (fun _ => ?_)
                        refine sv_aload_n (pc := 175) dX12_part_175 rfl rfl ?_
                        refine gf_X12_86 (pc := 176) dX12_part_176 wF_X12_460 (A_106 hw) hT ?_
                        refine mr_iload_n (pc := 179) (z := z22) dX12_part_179 rfl rfl ?_
                        refine la_166 (pc := 180) dX12_part_180 (A_166 hw) hT (rIx (n := 1000) h24 rfl) fun z41 q42 h43 => ?_
                        refine sv_goto (pc := 181) (tgt := 195) dX12_part_181 (by decide) ?_
                        exact mr_iretP dX12_part_195 rfl (le_t rfl) (le_t rfl) ⟨h43, trivial⟩
                      refine mr_iload (pc := 155) (z := z25) dX12_part_155 rfl ?_
                      refine mr_iconst (pc := 157) (z := 2) dX12_part_157 ?_
                      refine mr_icmp_ne (pc := 158) (tgt := 196) dX12_part_158 (by decide) (r32 h27 rfl) (r32 (rR (x := 2)) rfl) (fun h44 => ?_) (fun h44 => ?_)
                      · refine mr_iload (pc := 196) (z := z25) dX12_part_196 rfl ?_
                        refine mr_iconst (pc := 198) (z := 3) dX12_part_198 ?_
                        refine mr_icmp_eq (pc := 199) (tgt := 208) dX12_part_199 (by decide) (r32 h27 rfl) (r32 (rR (x := 3)) rfl) (fun h45 => ?_) (fun h45 => ?_)
                        · have h46 : 3 ≤ z25 ∧ z25 ≤ 3 := (vc_X12_part_10 h45 q26 h28 h44 h14 h27)
                          refine mr_iload_n (pc := 208) (z := z22) dX12_part_208 rfl rfl ?_
                          refine sv_aload_n (pc := 209) dX12_part_209 rfl rfl ?_
                          refine gf_X12_91 (pc := 210) dX12_part_210 wF_X12_628 (A_106 hw) hT fun z47 q48 h49 => ?_
                          refine mr_icmp_ge (pc := 213) (tgt := 240) dX12_part_213 (by decide) (r32 h24 rfl) (r32 h49 rfl) (fun h55 => ?_) (fun h55 => ?_)
                          · have h56 : 0 ≤ z47 ∧ z47 ≤ 99 := (vc_X12_part_7 h55 q23 h14 h24 h49)
                            refine mr_ldc (pc := 240) (z := (-99999999)) dX12_part_240 wG_X12_29 (by decide) ?_
                            exact mr_iretP dX12_part_242 rfl (le_t rfl) (le_t rfl) ⟨(rW (c := (-2147483648)) (d := 2147483647) (rR (x := (-99999999))) rfl), trivial⟩
                          have h57 : 1 ≤ z47 ∧ z47 ≤ 1000 := (vc_X12_part_8 h55 q23 h14 h24 h49)
                          refine mr_iload (pc := 216) (z := z25) dX12_part_216 rfl ?_
                          refine mr_iconst (pc := 218) (z := 3) dX12_part_218 ?_
                          refine mr_icmp_ne (pc := 219) (tgt := 231) dX12_part_219 (by decide) (r32 h46 rfl) (r32 (rR (x := 3)) rfl) (fun h => ((vc_X12_part_13 h h46)).elim) (fun _ => ?_)
                          refine sv_aload_n (pc := 222) dX12_part_222 rfl rfl ?_
                          refine gf_X12_89 (pc := 223) dX12_part_223 wF_X12_466 (A_106 hw) hT ?_
                          refine mr_iload_n (pc := 226) (z := z22) dX12_part_226 rfl rfl ?_
                          refine la_168 (pc := 227) dX12_part_227 (A_168 hw) hT (rIx (n := 1000) h24 rfl) fun z58 q59 h60 => ?_
                          refine sv_goto (pc := 228) (tgt := 242) dX12_part_228 (by decide) ?_
                          exact mr_iretP dX12_part_242 rfl (le_t rfl) (le_t rfl) ⟨h60, trivial⟩
                        refine mr_iload (pc := 202) (z := z25) dX12_part_202 rfl ?_
                        refine mr_iconst (pc := 204) (z := 4) dX12_part_204 ?_
                        refine mr_icmp_ne (pc := 205) (tgt := 243) dX12_part_205 (by decide) (r32 h27 rfl) (r32 (rR (x := 4)) rfl) (fun h61 => ?_) (fun h61 => ?_)
                        · refine mr_iload (pc := 243) (z := z25) dX12_part_243 rfl ?_
                          refine mr_iconst (pc := 245) (z := 5) dX12_part_245 ?_
                          refine mr_icmp_ne (pc := 246) (tgt := 278) dX12_part_246 (by decide) (r32 h27 rfl) (r32 (rR (x := 5)) rfl) (fun h62 => ?_) (fun h62 => ?_)
                          · refine mr_iload (pc := 278) (z := z25) dX12_part_278 rfl ?_
                            refine mr_bipush (pc := 280) (z := 6) dX12_part_280 (by decide) ?_
                            refine mr_icmp_ne (pc := 282) (tgt := 305) dX12_part_282 (by decide) (r32 h27 rfl) (r32 (rR (x := 6)) rfl) (fun h63 => ?_) (fun h63 => ?_)
                            · refine mr_iload (pc := 305) (z := z25) dX12_part_305 rfl ?_
                              refine mr_bipush (pc := 307) (z := 7) dX12_part_307 (by decide) ?_
                              refine mr_icmp_ne (pc := 309) (tgt := 329) dX12_part_309 (by decide) (r32 h27 rfl) (r32 (rR (x := 7)) rfl) (fun h73 => ?_) (fun h73 => ?_)
                              · refine mr_ldc (pc := 329) (z := (-99999999)) dX12_part_329 wG_X12_29 (by decide) ?_
                                exact mr_iretP dX12_part_331 rfl (le_t rfl) (le_t rfl) ⟨(rW (c := (-2147483648)) (d := 2147483647) (rR (x := (-99999999))) rfl), trivial⟩
                              have h74 : 7 ≤ z25 ∧ z25 ≤ 7 := (vc_X12_part_14 h73 q26 h28 h44 h45 h61 h62 h63 h14 h27)
                              refine mr_iload_n (pc := 312) (z := z22) dX12_part_312 rfl rfl ?_
                              refine sv_aload_n (pc := 313) dX12_part_313 rfl rfl ?_
                              refine gf_X12_93 (pc := 314) dX12_part_314 wF_X12_652 (A_106 hw) hT fun z75 q76 h77 => ?_
                              refine mr_icmp_ge (pc := 317) (tgt := 329) dX12_part_317 (by decide) (r32 h24 rfl) (r32 h77 rfl) (fun h83 => ?_) (fun h83 => ?_)
                              · have h84 : 0 ≤ z75 ∧ z75 ≤ 99 := (vc_X12_part_15 h83 q23 h14 h24 h77)
                                refine mr_ldc (pc := 329) (z := (-99999999)) dX12_part_329 wG_X12_29 (by decide) ?_
                                exact mr_iretP dX12_part_331 rfl (le_t rfl) (le_t rfl) ⟨(rW (c := (-2147483648)) (d := 2147483647) (rR (x := (-99999999))) rfl), trivial⟩
                              have h85 : 1 ≤ z75 ∧ z75 ≤ 400 := (vc_X12_part_16 h83 q23 h14 h24 h77)
                              refine sv_aload_n (pc := 320) dX12_part_320 rfl rfl ?_
                              refine gf_X12_92 (pc := 321) dX12_part_321 wF_X12_472 (A_106 hw) hT ?_
                              refine mr_iload_n (pc := 324) (z := z22) dX12_part_324 rfl rfl ?_
                              refine la_170 (pc := 325) dX12_part_325 (A_170 hw) hT (rIx (n := 400) h24 rfl) fun z86 q87 h88 => ?_
                              refine sv_goto (pc := 326) (tgt := 331) dX12_part_326 (by decide) ?_
                              exact mr_iretP dX12_part_331 rfl (le_t rfl) (le_t rfl) ⟨h88, trivial⟩
                            have h89 : 6 ≤ z25 ∧ z25 ≤ 6 := (vc_X12_part_17 h63 q26 h28 h44 h45 h61 h62 h14 h27)
                            refine mr_iload_n (pc := 285) (z := z22) dX12_part_285 rfl rfl ?_
                            refine sv_aload_n (pc := 286) dX12_part_286 rfl rfl ?_
                            refine gf_X12_101 (pc := 287) dX12_part_287 wF_X12_637 (A_106 hw) hT fun z90 q91 h92 => ?_
                            refine mr_icmp_ge (pc := 290) (tgt := 302) dX12_part_290 (by decide) (r32 h24 rfl) (r32 h92 rfl) (fun h98 => ?_) (fun h98 => ?_)
                            · refine mr_ldc (pc := 302) (z := (-99999999)) dX12_part_302 wG_X12_29 (by decide) ?_
                              exact mr_iretP dX12_part_304 rfl (le_t rfl) (le_t rfl) ⟨(rW (c := (-2147483648)) (d := 2147483647) (rR (x := (-99999999))) rfl), trivial⟩
                            have h99 : 0 ≤ z22 ∧ z22 ≤ 7 := (vc_X12_part_18 h98 q23 h14 h24 h92)
                            have h100 : 1 ≤ z90 ∧ z90 ≤ 8 := (vc_X12_part_19 h98 q23 h14 h99 h92)
                            refine sv_aload_n (pc := 293) dX12_part_293 rfl rfl ?_
                            refine gf_X12_100 (pc := 294) dX12_part_294 wF_X12_481 (A_106 hw) hT ?_
                            refine mr_iload_n (pc := 297) (z := z22) dX12_part_297 rfl rfl ?_
                            refine la_173 (pc := 298) dX12_part_298 (A_173 hw) hT (rIx (n := 8) h99 rfl) fun z101 q102 h103 => ?_
                            refine sv_goto (pc := 299) (tgt := 304) dX12_part_299 (by decide) ?_
                            exact mr_iretP dX12_part_304 rfl (le_t rfl) (le_t rfl) ⟨h103, trivial⟩
                          have h104 : 5 ≤ z25 ∧ z25 ≤ 5 := (vc_X12_part_20 h62 q26 h28 h44 h45 h61 h14 h27)
                          refine mr_iload_n (pc := 249) (z := z22) dX12_part_249 rfl rfl ?_
                          refine sv_aload_n (pc := 250) dX12_part_250 rfl rfl ?_
                          refine gf_X12_32 (pc := 251) dX12_part_251 wF_X12_148 (A_106 hw) hT ?_
                          refine mr_iload_n (pc := 254) (z := 960) dX12_part_254 rfl rfl ?_
                          refine mr_iconst (pc := 255) (z := 4) dX12_part_255 ?_
                          refine mr_iadd (pc := 256) (x := 960) (y := 4) dX12_part_256 ?_
                          refine la_126 (pc := 257) dX12_part_257 (A_126 hw) hT (rIx (n := 84000) (rAdd (e := 964) (f := 964) (rR (x := 960)) (rR (x := 4)) rfl) rfl) fun z105 q106 h107 => ?_
                          have h108 : 0 ≤ z105 ∧ z105 ≤ 20 := h107.2.2.1 vc_X12_part_21
                          refine mr_icmp_ge (pc := 258) (tgt := 275) dX12_part_258 (by decide) (r32 h24 rfl) (r32 h108 rfl) (fun h114 => ?_) (fun h114 => ?_)
                          · refine mr_ldc (pc := 275) (z := (-99999999)) dX12_part_275 wG_X12_29 (by decide) ?_
                            exact mr_iretP dX12_part_277 rfl (le_t rfl) (le_t rfl) ⟨(rW (c := (-2147483648)) (d := 2147483647) (rR (x := (-99999999))) rfl), trivial⟩
                          have h115 : 0 ≤ z22 ∧ z22 ≤ 19 := (vc_X12_part_22 h114 q23 h14 h108 h24)
                          have h116 : 1 ≤ z105 ∧ z105 ≤ 20 := (vc_X12_part_23 h114 q23 h14 h108 h115)
                          refine sv_aload_n (pc := 261) dX12_part_261 rfl rfl ?_
                          refine gf_X12_32 (pc := 262) dX12_part_262 wF_X12_148 (A_106 hw) hT ?_
                          refine mr_iload_n (pc := 265) (z := 960) dX12_part_265 rfl rfl ?_
                          refine mr_bipush (pc := 266) (z := 6) dX12_part_266 (by decide) ?_
                          refine mr_iadd (pc := 268) (x := 960) (y := 6) dX12_part_268 ?_
                          refine mr_iload_n (pc := 269) (z := z22) dX12_part_269 rfl rfl ?_
                          refine mr_iadd (pc := 270) (x := (960 + 6)) (y := z22) dX12_part_270 ?_
                          refine la_126 (pc := 271) dX12_part_271 (A_126 hw) hT (rIx (n := 84000) (rAdd (e := 966) (f := 985) (rAdd (e := 966) (f := 966) (rR (x := 960)) (rR (x := 6)) rfl) h115 rfl) rfl) fun z117 q118 h119 => ?_
                          refine sv_goto (pc := 272) (tgt := 277) dX12_part_272 (by decide) ?_
                          exact mr_iretP dX12_part_277 rfl (le_t rfl) (le_t rfl) ⟨h119.1, trivial⟩
                        have h120 : 4 ≤ z25 ∧ z25 ≤ 4 := (vc_X12_part_24 h61 q26 h28 h44 h45 h14 h27)
                        refine mr_iload_n (pc := 208) (z := z22) dX12_part_208 rfl rfl ?_
                        refine sv_aload_n (pc := 209) dX12_part_209 rfl rfl ?_
                        refine gf_X12_91 (pc := 210) dX12_part_210 wF_X12_628 (A_106 hw) hT fun z121 q122 h123 => ?_
                        refine mr_icmp_ge (pc := 213) (tgt := 240) dX12_part_213 (by decide) (r32 h24 rfl) (r32 h123 rfl) (fun h129 => ?_) (fun h129 => ?_)
                        · have h130 : 0 ≤ z121 ∧ z121 ≤ 99 := (vc_X12_part_25 h129 q23 h14 h123 h24)
                          refine mr_ldc (pc := 240) (z := (-99999999)) dX12_part_240 wG_X12_29 (by decide) ?_
                          exact mr_iretP dX12_part_242 rfl (le_t rfl) (le_t rfl) ⟨(rW (c := (-2147483648)) (d := 2147483647) (rR (x := (-99999999))) rfl), trivial⟩
                        have h131 : 1 ≤ z121 ∧ z121 ≤ 1000 := (vc_X12_part_26 h129 q23 h14 h123 h24)
                        refine mr_iload (pc := 216) (z := z25) dX12_part_216 rfl ?_
                        refine mr_iconst (pc := 218) (z := 3) dX12_part_218 ?_
                        refine mr_icmp_ne (pc := 219) (tgt := 231) dX12_part_219 (by decide) (r32 h120 rfl) (r32 (rR (x := 3)) rfl) (fun _ => ?_) (fun h => ((vc_X12_part_27 h h120)).elim)
                        refine sv_aload_n (pc := 231) dX12_part_231 rfl rfl ?_
                        refine gf_X12_90 (pc := 232) dX12_part_232 wF_X12_469 (A_106 hw) hT ?_
                        refine mr_iload_n (pc := 235) (z := z22) dX12_part_235 rfl rfl ?_
                        refine la_169 (pc := 236) dX12_part_236 (A_169 hw) hT (rIx (n := 1000) h24 rfl) fun z132 q133 h134 => ?_
                        refine sv_goto (pc := 237) (tgt := 242) dX12_part_237 (by decide) ?_
                        exact mr_iretP dX12_part_242 rfl (le_t rfl) (le_t rfl) ⟨h134, trivial⟩
                      have h135 : 2 ≤ z25 ∧ z25 ≤ 2 := (vc_X12_part_28 h44 q26 h28 h14 h27)
                      refine mr_iload_n (pc := 161) (z := z22) dX12_part_161 rfl rfl ?_
                      refine sv_aload_n (pc := 162) dX12_part_162 rfl rfl ?_
                      refine gf_X12_88 (pc := 163) dX12_part_163 wF_X12_625 (A_106 hw) hT fun z136 q137 h138 => ?_
                      refine mr_icmp_ge (pc := 166) (tgt := 193) dX12_part_166 (by decide) (r32 h24 rfl) (r32 h138 rfl) (fun h144 => ?_) (fun h144 => ?_)
                      · have h145 : 0 ≤ z136 ∧ z136 ≤ 99 := (vc_X12_part_25 h144 q23 h14 h138 h24)
                        refine mr_ldc (pc := 193) (z := (-99999999)) dX12_part_193 wG_X12_29 (by decide) ?_
                        exact mr_iretP dX12_part_195 rfl (le_t rfl) (le_t rfl) ⟨(rW (c := (-2147483648)) (d := 2147483647) (rR (x := (-99999999))) rfl), trivial⟩
                      have h146 : 1 ≤ z136 ∧ z136 ≤ 1000 := (vc_X12_part_26 h144 q23 h14 h138 h24)
                      refine mr_iload (pc := 169) (z := z25) dX12_part_169 rfl ?_
                      refine mr_iconst (pc := 171) (z := 1) dX12_part_171 ?_
                      refine mr_icmp_ne (pc := 172) (tgt := 184) dX12_part_172 (by decide) (r32 h135 rfl) (r32 (rR (x := 1)) rfl) (fun _ => ?_) (fun h => ((vc_X12_part_31 h h135)).elim)
                      refine sv_aload_n (pc := 184) dX12_part_184 rfl rfl ?_
                      refine gf_X12_87 (pc := 185) dX12_part_185 wF_X12_463 (A_106 hw) hT ?_
                      refine mr_iload_n (pc := 188) (z := z22) dX12_part_188 rfl rfl ?_
                      refine la_167 (pc := 189) dX12_part_189 (A_167 hw) hT (rIx (n := 1000) h24 rfl) fun z147 q148 h149 => ?_
                      refine sv_goto (pc := 190) (tgt := 195) dX12_part_190 (by decide) ?_
                      exact mr_iretP dX12_part_195 rfl (le_t rfl) (le_t rfl) ⟨h149, trivial⟩
                    have h150 : 7 ≤ p1 ∧ p1 ≤ 7 := (vc_X12_part_32 h21 h13 h15 h16 h17 h18 h19 h20 h14)
                    refine sv_aload_n (pc := 133) dX12_part_133 rfl rfl ?_
                    refine gf_X12_101 (pc := 134) dX12_part_134 wF_X12_637 (A_106 hw) hT fun z151 q152 h153 => ?_
                    exact mr_iretP dX12_part_137 rfl (le_t rfl) (le_t rfl) ⟨(rW (c := (-2147483648)) (d := 2147483647) h153 rfl), trivial⟩
                  have h154 : 6 ≤ p1 ∧ p1 ≤ 6 := (vc_X12_part_33 h20 h6 h13 h15 h16 h17 h18 h19 h14)
                  refine sv_aload_n (pc := 118) dX12_part_118 rfl rfl ?_
                  refine gf_X12_32 (pc := 119) dX12_part_119 wF_X12_148 (A_106 hw) hT ?_
                  refine mr_iload_n (pc := 122) (z := 960) dX12_part_122 rfl rfl ?_
                  refine mr_iconst (pc := 123) (z := 4) dX12_part_123 ?_
                  refine mr_iadd (pc := 124) (x := 960) (y := 4) dX12_part_124 ?_
                  refine la_126 (pc := 125) dX12_part_125 (A_126 hw) hT (rIx (n := 84000) (rAdd (e := 964) (f := 964) (rR (x := 960)) (rR (x := 4)) rfl) rfl) fun z155 q156 h157 => ?_
                  have h158 : 0 ≤ z155 ∧ z155 ≤ 20 := h157.2.2.1 vc_X12_part_21
                  exact mr_iretP dX12_part_126 rfl (le_t rfl) (le_t rfl) ⟨(rW (c := (-2147483648)) (d := 2147483647) h158 rfl), trivial⟩
                have h159 : 5 ≤ p1 ∧ p1 ≤ 5 := (vc_X12_part_34 h19 h6 h13 h15 h16 h17 h18 h14)
                refine sv_aload_n (pc := 103) dX12_part_103 rfl rfl ?_
                refine gf_X12_32 (pc := 104) dX12_part_104 wF_X12_148 (A_106 hw) hT ?_
                refine mr_iload_n (pc := 107) (z := 960) dX12_part_107 rfl rfl ?_
                refine mr_iconst (pc := 108) (z := 3) dX12_part_108 ?_
                refine mr_iadd (pc := 109) (x := 960) (y := 3) dX12_part_109 ?_
                refine la_126 (pc := 110) dX12_part_110 (A_126 hw) hT (rIx (n := 84000) (rAdd (e := 963) (f := 963) (rR (x := 960)) (rR (x := 3)) rfl) rfl) fun z160 q161 h162 => ?_
                exact mr_iretP dX12_part_111 rfl (le_t rfl) (le_t rfl) ⟨h162.1, trivial⟩
              have h163 : 4 ≤ p1 ∧ p1 ≤ 4 := (vc_X12_part_35 h18 h6 h13 h15 h16 h17 h14)
              refine sv_aload_n (pc := 89) dX12_part_89 rfl rfl ?_
              refine gf_X12_32 (pc := 90) dX12_part_90 wF_X12_148 (A_106 hw) hT ?_
              refine mr_iload_n (pc := 93) (z := 960) dX12_part_93 rfl rfl ?_
              refine mr_iconst (pc := 94) (z := 2) dX12_part_94 ?_
              refine mr_iadd (pc := 95) (x := 960) (y := 2) dX12_part_95 ?_
              refine la_126 (pc := 96) dX12_part_96 (A_126 hw) hT (rIx (n := 84000) (rAdd (e := 962) (f := 962) (rR (x := 960)) (rR (x := 2)) rfl) rfl) fun z164 q165 h166 => ?_
              exact mr_iretP dX12_part_97 rfl (le_t rfl) (le_t rfl) ⟨h166.1, trivial⟩
            have h167 : 3 ≤ p1 ∧ p1 ≤ 3 := (vc_X12_part_36 h17 h6 h13 h15 h16 h14)
            refine sv_aload_n (pc := 79) dX12_part_79 rfl rfl ?_
            refine gf_X12_93 (pc := 80) dX12_part_80 wF_X12_652 (A_106 hw) hT fun z168 q169 h170 => ?_
            exact mr_iretP dX12_part_83 rfl (le_t rfl) (le_t rfl) ⟨(rW (c := (-2147483648)) (d := 2147483647) h170 rfl), trivial⟩
          have h171 : 2 ≤ p1 ∧ p1 ≤ 2 := (vc_X12_part_37 h16 h6 h13 h15 h14)
          refine sv_aload_n (pc := 69) dX12_part_69 rfl rfl ?_
          refine gf_X12_91 (pc := 70) dX12_part_70 wF_X12_628 (A_106 hw) hT fun z172 q173 h174 => ?_
          exact mr_iretP dX12_part_73 rfl (le_t rfl) (le_t rfl) ⟨(rW (c := (-2147483648)) (d := 2147483647) h174 rfl), trivial⟩
        have h175 : 1 ≤ p1 ∧ p1 ≤ 1 := (vc_X12_part_38 h15 h6 h13 h14)
        refine sv_aload_n (pc := 59) dX12_part_59 rfl rfl ?_
        refine gf_X12_88 (pc := 60) dX12_part_60 wF_X12_625 (A_106 hw) hT fun z176 q177 h178 => ?_
        exact mr_iretP dX12_part_63 rfl (le_t rfl) (le_t rfl) ⟨(rW (c := (-2147483648)) (d := 2147483647) h178 rfl), trivial⟩
      have h179 : (-2147483648) ≤ p1 ∧ p1 ≤ (-1) := (vc_X12_part_39 h13 h6 hp1)
      refine mr_ldc (pc := 47) (z := (-99999999)) dX12_part_47 wG_X12_29 (by decide) ?_
      exact mr_iretP dX12_part_49 rfl (le_t rfl) (le_t rfl) ⟨(rW (c := (-2147483648)) (d := 2147483647) (rR (x := (-99999999))) rfl), trivial⟩
    have h180 : 0 ≤ p1 ∧ p1 ≤ 0 := (vc_X12_mask_1 h6 hp1)
    refine sv_aload_n (pc := 14) dX12_part_14 rfl rfl ?_
    refine gf_X12_102 (pc := 15) dX12_part_15 wF_X12_668 (A_106 hw) hT fun z181 q182 h183 => ?_
    refine mr_if_ne (pc := 18) (tgt := 26) dX12_part_18 (by decide) (r32 h183 rfl) (fun h189 => ?_) (fun h189 => ?_)
    · have h190 : 1 ≤ z181 ∧ z181 ≤ 3 := (vc_X12_part_41 h189 h183)
      refine sv_aload_n (pc := 26) dX12_part_26 rfl rfl ?_
      refine gf_X12_95 (pc := 27) dX12_part_27 wF_X12_478 (A_106 hw) hT ?_
      refine sv_aload_n (pc := 30) dX12_part_30 rfl rfl ?_
      refine gk_X12_102 (pc := 31) dX12_part_31 wF_X12_668 (A_106 hw) q182 ?_
      refine la_172 (pc := 34) dX12_part_34 (A_172 hw) hT (rIx (n := 4) h190 rfl) fun z191 q192 h193 => ?_
      exact mr_iretP dX12_part_35 rfl (le_t rfl) (le_t rfl) ⟨h193, trivial⟩
    have h194 : 0 ≤ z181 ∧ z181 ≤ 0 := (vc_X12_part_42 h189 h183)
    refine mr_ldc (pc := 21) (z := (-99999999)) dX12_part_21 wG_X12_29 (by decide) ?_
    refine sv_goto (pc := 23) (tgt := 35) dX12_part_23 (by decide) ?_
    exact mr_iretP dX12_part_35 rfl (le_t rfl) (le_t rfl) ⟨(rW (c := (-2147483648)) (d := 2147483647) (rR (x := (-99999999))) rfl), trivial⟩
  have h195 : 0 ≤ z1 ∧ z1 ≤ 0 := (vc_X12_ring_22 h4 h3)
  refine mr_ldc (pc := 7) (z := (-99999999)) dX12_part_7 wG_X12_29 (by decide) ?_
  exact mr_iretP dX12_part_9 rfl (le_t rfl) (le_t rfl) ⟨(rW (c := (-2147483648)) (d := 2147483647) (rR (x := (-99999999))) rfl), trivial⟩
end
section
/-! The JDK's methods over memory. -/
theorem mF.cell {w : mW} {μ μ1 : mM} {a s : Nat} (h : ∀ b j, b ≠ a → μ1 b j = μ b j) (hA : mAt w a s) (hs : mArr s = true) : mF [1000 * s + 999] w μ μ1 := by
  intro b j hb
  refine h b j (fun e => ?_)
  subst e
  simp only [mRg, hA.1, hs, if_true] at hb
  simp at hb
def qJ1 (x y z : Int) : Prop := (-1 ≤ z ∧ z ≤ 1) ∧ (x < y → z = -1) ∧ (x = y → z = 0) ∧ (y < x → z = 1)
theorem c_J_cmp {l : Launch} {D : va_G} {c : Nat → ClassId} {H0 : Heap} {sa : Nat × Nat × (Nat → Int32)} {w : mW} {μ : mM} {x y : Int} (hx : -2147483648 ≤ x ∧ x ≤ 2147483647) (hy : -2147483648 ≤ y ∧ y ≤ 2147483647) : sC (gG l D c H0 sa) mJ_cmp 0 0 0 [iv x, iv y] (mk w μ) (qP w μ (qJ1 x y)) := by
  refine sC.weak (c_cmp l D c H0 sa (d := 0) (x := Int32.ofInt x) (y := Int32.ofInt y)) ?_
  rintro r hp' ⟨rfl, rfl⟩
  have h1 := iv_lt hx hy
  have h2 := iv_eq hx hy
  by_cases q : x < y
  · rw [if_pos (h1.mpr q)]
    exact ⟨-1, rfl, rfl, by decide, fun _ => rfl, fun _ => by omega, fun _ => by omega⟩
  · rw [if_neg (fun z => q (h1.mp z))]
    by_cases q2 : x = y
    · rw [if_pos (h2.mpr q2)]
      exact ⟨0, rfl, rfl, by decide, fun _ => by omega, fun _ => rfl, fun _ => by omega⟩
    · rw [if_neg (fun z => q2 (h2.mp z))]
      exact ⟨1, rfl, rfl, by decide, fun _ => by omega, fun _ => by omega, fun _ => rfl⟩
theorem iv_natE {e : Int} (h : 0 ≤ e ∧ e ≤ 2147483647) : (Int32.ofInt e).toNatClampNeg = e.toNat := by
  show (Int32.ofInt e).toInt.toNat = e.toNat
  rw [ivI (by omega)]
theorem iv_nn {e : Int} (h : 0 ≤ e ∧ e ≤ 2147483647) : ¬ Int32.ofInt e < 0 := by
  intro q
  have q : Int32.ofInt e < Int32.ofInt 0 := q
  rw [iv_lt (by omega) (by omega)] at q; omega
section MJ
variable {g : sG} {M : sM} {R : Room} {Z : sZT} {pc : Nat} {lv : List (Nat × Value)} {st : List Value} {hp : sHp} {w : mW} {μ : mM} {ce sl : Nat}
theorem mr_min {index : Nat} {x y : Int} (hd : decode M.2.1 pc = .ok (.invokestatic index, 3)) (hlk : Cond.methodLink M.1.cls index yJ_min ∈ sg_ws g) (hs : Cond.static yJ_min ∈ sg_ws g) (hi : Cond.initialized "java/lang/Math" ∈ sg_ws g) (hk : Cond.code yJ_min cJ_min 2 (some .int) ∈ sg_ws g) (hR : 1 ≤ R.frames ∧ 21 ≤ R.locals) (hc : ce ≤ R.cells ∧ sl ≤ R.slots) (hr8 : (st.map fun v => v.category).sum ≤ 8) (hx : -2147483648 ≤ x ∧ x ≤ 2147483647) (hy : -2147483648 ≤ y ∧ y ≤ 2147483647)
    (kk : ∀ z, ((z = x ∨ z = y) ∧ z ≤ x ∧ z ≤ y) → sV g M R Z (pc + 3) lv (iv z :: st) hp ce sl) : sV g M R Z pc lv (iv y :: iv x :: st) hp ce sl := by
  refine sv_min hd hlk hs hi hk hR hc hr8 rfl ?_
  have h1 := iv_lt hy hx
  by_cases q : y < x
  · rw [if_pos (h1.mpr q)]; exact kk y ⟨Or.inr rfl, by omega, by omega⟩
  · rw [if_neg (fun z => q (h1.mp z))]; exact kk x ⟨Or.inl rfl, by omega, by omega⟩
theorem mr_max {index : Nat} {x y : Int} (hd : decode M.2.1 pc = .ok (.invokestatic index, 3)) (hlk : Cond.methodLink M.1.cls index yJ_max ∈ sg_ws g) (hs : Cond.static yJ_max ∈ sg_ws g) (hi : Cond.initialized "java/lang/Math" ∈ sg_ws g) (hk : Cond.code yJ_max cJ_max 2 (some .int) ∈ sg_ws g) (hR : 1 ≤ R.frames ∧ 21 ≤ R.locals) (hc : ce ≤ R.cells ∧ sl ≤ R.slots) (hr8 : (st.map fun v => v.category).sum ≤ 8) (hx : -2147483648 ≤ x ∧ x ≤ 2147483647) (hy : -2147483648 ≤ y ∧ y ≤ 2147483647)
    (kk : ∀ z, ((z = x ∨ z = y) ∧ x ≤ z ∧ y ≤ z) → sV g M R Z (pc + 3) lv (iv z :: st) hp ce sl) : sV g M R Z pc lv (iv y :: iv x :: st) hp ce sl := by
  refine sv_max hd hlk hs hi hk hR hc hr8 rfl ?_
  have h1 := iv_lt hx hy
  by_cases q : x < y
  · rw [if_pos (h1.mpr q)]; exact kk y ⟨Or.inr rfl, by omega, by omega⟩
  · rw [if_neg (fun z => q (h1.mp z))]; exact kk x ⟨Or.inl rfl, by omega, by omega⟩
/-- memory behind a copy of n elements -/
def mCp (μ : mM) (a0 a sp dp n : Nat) : mM := fun b j => if b = a then (if dp ≤ j ∧ j < dp + n then μ a0 (sp + (j - dp)) else μ a j) else μ b j
def mQ (μ : mM) (a0 a : Nat) (sp dp n : Int) (μ1 : mM) : Prop := (∀ b j, b ≠ a → μ1 b j = μ b j) ∧ ∀ j : Nat, μ1 a j = if dp ≤ (j : Int) ∧ (j : Int) < dp + n then μ a0 (sp.toNat + (j - dp.toNat)) else μ a j
theorem mr_ac {index a0 a s0 s1 : Nat} {cA : ClassId} {sp dp n : Int} (hd : decode M.2.1 pc = .ok (.invokestatic index, 3)) (hlk : Cond.methodLink M.1.cls index arraycopyName ∈ sg_ws g) (hw1 : Cond.native arraycopyName ∈ sg_ws g) (hw2 : Cond.static arraycopyName ∈ sg_ws g) (hw3 : Cond.initialized "java/lang/System" ∈ sg_ws g) (ht : g.2.2.1[0]? = some (cA, .int)) (hA0 : mAt w a0 s0) (hs0 : mTab s0 = .inr (0, 0)) (hA : mAt w a s1) (hs1 : mTab s1 = .inr (0, 0)) (h1 : 0 ≤ sp) (h2 : 0 ≤ dp) (h3 : 0 ≤ n) (h4 : sp + n ≤ (w.2.2.1 a0 : Int)) (h5 : dp + n ≤ (w.2.2.1 a : Int)) (hb0 : w.2.2.1 a0 ≤ 2147483647) (hb : w.2.2.1 a ≤ 2147483647) (hfr : 1 ≤ R.frames) (hlo : nativeFrameWords "java/lang/System" "arraycopy" 5 + 19 ≤ R.locals) (hr8 : (st.map fun v => v.category).sum ≤ 8) (hT : mT w μ) (hty : ∀ i j : Nat, dp ≤ (j : Int) → (j : Int) < dp + n → tyP w a j (mTy s1 j) (μ a0 i))
    (kk : ∀ μ1, mQ μ a0 a sp dp n μ1 → mT w μ1 → sV g M R Z (pc + 3) lv st (mk w μ1) ce sl) : sV g M R Z pc lv (iv n :: iv dp :: .ref a :: iv sp :: .ref a0 :: st) (mk w μ) ce sl := by
  have e1 := iv_natE (e := sp) ⟨h1, by omega⟩
  have e2 := iv_natE (e := dp) ⟨h2, by omega⟩
  have e3 := iv_natE (e := n) ⟨h3, by omega⟩
  refine sv_copyI (hf := (mk w μ).2) (hn := (mk w μ).1) (q := fun i => Int32.ofInt (μ a0 i)) (q' := fun i => Int32.ofInt (μ a i)) hd hlk hw1 hw2 hw3 ht hA0.2.1 hA.2.1 (mk_arr hA0 hs0) (mk_arr hA hs1) (iv_nn ⟨h1, by omega⟩) (iv_nn ⟨h2, by omega⟩) (iv_nn ⟨h3, by omega⟩) (by rw [e1, e3]; omega) (by rw [e2, e3]; omega) hfr hlo hr8 ?_
  rw [e1, e2, e3]
  refine sv_heap (hp' := mk w (mCp μ a0 a sp.toNat dp.toNat n.toNat)) rfl (fun j _ => ?_) (kk _ ⟨fun b j hb => if_neg hb, fun j => ?_⟩ ?_)
  · show sUp (mk w μ).2 a _ j = (mk w (mCp μ a0 a sp.toNat dp.toNat n.toNat)).2 j
    by_cases h : j = a
    · subst h
      rw [sUp_at, mk_arr hA hs1]
      congr 3
      funext i
      simp only [sI, va_cpy, mv, iv, mCp, if_true]
      split <;> rfl
    · rw [sUp_ne _ _ h]
      have : mCp μ a0 a sp.toNat dp.toNat n.toNat j = μ j := by funext i; simp only [mCp, if_neg h]
      simp only [mk, this]
  · simp only [mCp, if_true]
    by_cases q : dp ≤ (j : Int) ∧ (j : Int) < dp + n
    · rw [if_pos q, if_pos (by omega)]
    · rw [if_neg q, if_neg (by omega)]
  · intro b t hB i
    by_cases h : b = a
    · subst h
      have hst : t = s1 := hB.1.symm.trans hA.1
      subst hst
      simp only [mCp, if_true]
      split
      next q => exact hty _ i (by omega) (by omega)
      next q => exact hT b t hB i
    · have : mCp μ a0 a sp.toNat dp.toNat n.toNat b i = μ b i := by simp only [mCp, if_neg h]
      rw [this]; exact hT b t hB i
/-- memory behind a fill -/
def mFl (μ : mM) (a n : Nat) (z : Int) : mM := fun b j => if b = a ∧ j < n then z else μ b j
theorem mT.fill {a s n : Nat} {z : Int} (hT : mT w μ) (hA : mAt w a s) (hz : ∀ j, tyP w a j (mTy s j) z) : mT w (mFl μ a n z) := by
  intro b t hB i
  by_cases h : b = a ∧ i < n
  · simp only [mFl, if_pos h]
    obtain ⟨rfl, -⟩ := h
    have hst : t = s := hB.1.symm.trans hA.1
    subst hst
    exact hz i
  · simp only [mFl, if_neg h]; exact hT b t hB i
def mQF (μ : mM) (a n : Nat) (z : Int) (μ1 : mM) : Prop := (∀ b j, b ≠ a → μ1 b j = μ b j) ∧ ∀ j : Nat, j < n → μ1 a j = z
theorem mr_heapF {a s kd n : Nat} {z : Int} {v : Value} (hA : mAt w a s) (hs : mTab s = .inr (kd, 0)) (hn : w.2.2.1 a = n) (hv : v = iv z) (k : sV g M R Z pc lv st (mk w (mFl μ a n z)) ce sl) : sV g M R Z pc lv st ((mk w μ).1, sUp (mk w μ).2 a (.inl (kd, n, sFill n v (fun i => mv 0 (μ a i))))) ce sl := by
  subst hv
  refine sv_heap (hp' := mk w (mFl μ a n z)) rfl (fun j _ => ?_) k
  show sUp (mk w μ).2 a _ j = (mk w (mFl μ a n z)).2 j
  by_cases h : j = a
  · subst h
    rw [sUp_at, mk_arr hA hs, hn]
    congr 3
    funext i
    simp only [sFill, mv, mFl, true_and]
    split <;> rfl
  · rw [sUp_ne _ _ h]
    have : mFl μ a n z j = μ j := by funext i; simp only [mFl, h, false_and, if_false]
    simp only [mk, this]
end MJ
section MJ2
variable {l : Launch} {D : va_G} {c : Nat → ClassId} {H0 : Heap} {sa : Nat × Nat × (Nat → Int32)} {M : sM} {R : Room} {Z : sZT} {pc : Nat} {lv : List (Nat × Value)} {st : List Value} {w : mW} {μ : mM} {ce sl : Nat}
theorem mr_fillI {index a s n : Nat} {z : Int} (hd : decode M.2.1 pc = .ok (.invokestatic index, 3)) (hlk : Cond.methodLink M.1.cls index yJ_fillI ∈ lw_ok) (hA : mAt w a s) (hs : mTab s = .inr (0, 0)) (hn : w.2.2.1 a = n) (hn2 : n < 2 ^ 31) (hT : mT w μ) (hz : ∀ j, tyP w a j (mTy s j) z) (hR : 1 ≤ R.frames ∧ 60 * 0 + 4 + 19 ≤ R.locals) (hce : ce ≤ R.cells ∧ sl ≤ R.slots) (hr8 : (st.map fun v => v.category).sum ≤ 8)
    (kk : ∀ μ1, mQF μ a n z μ1 → mT w μ1 → sV (gG l D c H0 sa) M R Z (pc + 3) lv st (mk w μ1) ce sl) : sV (gG l D c H0 sa) M R Z pc lv (iv z :: .ref a :: st) (mk w μ) ce sl := by
  refine sv_callS (c_fillI l D c H0 sa (d := 0) (f := fun i => mv 0 (μ a i)) hA.2.1 (by rw [mk_arr hA hs, hn]) hn2) (gOk _ _ _ _ _) hd (tJ_fillI _ _ _ _ _) wS_J_fillI hlk hR hce rfl hr8 ?_
  rintro r hp' ⟨rfl, rfl⟩
  exact mr_heapF hA hs hn rfl (kk _ ⟨fun b j hb => if_neg (fun q => hb q.1), fun j hj => if_pos ⟨rfl, hj⟩⟩ (hT.fill hA hz))
theorem mr_fillB {index a s n : Nat} {z : Int} (hd : decode M.2.1 pc = .ok (.invokestatic index, 3)) (hlk : Cond.methodLink M.1.cls index yJ_fillB ∈ lw_ok) (hA : mAt w a s) (hs : mTab s = .inr (2, 0)) (hn : w.2.2.1 a = n) (hn2 : n < 2 ^ 31) (hT : mT w μ) (hb : -128 ≤ z ∧ z ≤ 127) (hz : ∀ j, tyP w a j (mTy s j) z) (hR : 1 ≤ R.frames ∧ 60 * 0 + 4 + 19 ≤ R.locals) (hce : ce ≤ R.cells ∧ sl ≤ R.slots) (hr8 : (st.map fun v => v.category).sum ≤ 8)
    (kk : ∀ μ1, mQF μ a n z μ1 → mT w μ1 → sV (gG l D c H0 sa) M R Z (pc + 3) lv st (mk w μ1) ce sl) : sV (gG l D c H0 sa) M R Z pc lv (iv z :: .ref a :: st) (mk w μ) ce sl := by
  refine sv_callS (c_fillB l D c H0 sa (d := 0) (f := fun i => mv 0 (μ a i)) hA.2.1 (by rw [mk_arr hA hs, hn]) hn2) (gOk _ _ _ _ _) hd (tJ_fillB _ _ _ _ _) wS_J_fillB hlk hR hce rfl hr8 ?_
  rintro r hp' ⟨rfl, rfl⟩
  exact mr_heapF hA hs hn (by rw [narB hb]; rfl) (kk _ ⟨fun b j hb => if_neg (fun q => hb q.1), fun j hj => if_pos ⟨rfl, hj⟩⟩ (hT.fill hA hz))
end MJ2
end
section
/-! A rule's figures: no figure twice, so six at most. -/
def pc7 (s : Int) : Int := s / 2 % 2 + s / 4 % 2 + s / 8 % 2 + s / 16 % 2 + s / 32 % 2 + s / 64 % 2
def sOK (s n : Int) : Prop := 0 ≤ s ∧ s ≤ 126 ∧ s % 2 = 0 ∧ pc7 s = n
theorem sOK.le {s n : Int} (h : sOK s n) : 0 ≤ n ∧ n ≤ 6 := by
  obtain ⟨h1, h2, h3, h4⟩ := h
  simp only [pc7] at h4
  omega
theorem sOK_fin : ∀ (s : Fin 127) (f : Fin 7), f.val ≠ 0 → s.val % 2 = 0 → bAnd (bShr ((s.val : Nat) : Int) ((f.val : Nat) : Int)) 1 ≠ 1 → (0 ≤ bOr ((s.val : Nat) : Int) (bShl 1 ((f.val : Nat) : Int)) ∧ bOr ((s.val : Nat) : Int) (bShl 1 ((f.val : Nat) : Int)) ≤ 126 ∧ bOr ((s.val : Nat) : Int) (bShl 1 ((f.val : Nat) : Int)) % 2 = 0 ∧ pc7 (bOr ((s.val : Nat) : Int) (bShl 1 ((f.val : Nat) : Int))) = pc7 ((s.val : Nat) : Int) + 1) := by decide +kernel
theorem sOK.add {s n f a b c d : Int} (h : sOK s n) (hf : 1 ≤ f ∧ f ≤ 6) (q1 : bShr s f = a) (q2 : bAnd a 1 = b) (hb : ¬ b = 1) (q3 : bShl 1 f = c) (q4 : bOr s c = d) : sOK d (n + 1) := by
  subst q1; subst q2; subst q3; subst q4
  obtain ⟨h1, h2, h3, h4⟩ := h
  have hs : ((s.toNat : Nat) : Int) = s := Int.toNat_of_nonneg h1
  have hf' : ((f.toNat : Nat) : Int) = f := Int.toNat_of_nonneg (by omega)
  have := sOK_fin ⟨s.toNat, by omega⟩ ⟨f.toNat, by omega⟩ (by show f.toNat ≠ 0; omega) (by show s.toNat % 2 = 0; omega)
  simp only [hs, hf'] at this
  obtain ⟨k1, k2, k3, k4⟩ := this hb
  exact ⟨k1, k2, k3, by rw [k4, h4]⟩
theorem sOK.zero : sOK 0 0 := ⟨by decide, by decide, by decide, by decide⟩
theorem bAnd1 {a b : Int} (q : bAnd a 1 = b) (h : b = 0) : ¬ b = 1 := by omega
def rOK (p l s : Int) : Prop := ∃ k : Nat, sOK s (k : Int) ∧ l * 10 ^ k ≤ p ∧ p < (l + 1) * 10 ^ k
theorem rOK.init {p : Int} : rOK p p 0 := ⟨0, sOK.zero, by simp, by simp; omega⟩
theorem rOK.step {p l s d m : Int} (h : rOK p l s) (ha : ∀ n, sOK s n → sOK d (n + 1)) (q : l / 10 = m) : rOK p m d := by
  obtain ⟨k, h1, h2, h3⟩ := h
  have ht : (0 : Int) < 10 ^ k := Int.pow_pos (by decide)
  refine ⟨k + 1, by have := ha _ h1; simpa using this, ?_, ?_⟩
  · rw [Int.pow_succ]
    have e : m * 10 ≤ l := by omega
    have := Int.mul_le_mul_of_nonneg_right e (Int.le_of_lt ht)
    have e2 : m * (10 ^ k * 10) = m * 10 * 10 ^ k := by rw [Int.mul_comm (10 ^ k) 10, Int.mul_assoc]
    omega
  · rw [Int.pow_succ]
    have e : l + 1 ≤ (m + 1) * 10 := by omega
    have := Int.mul_le_mul_of_nonneg_right e (Int.le_of_lt ht)
    have e2 : (m + 1) * (10 ^ k * 10) = (m + 1) * 10 * 10 ^ k := by rw [Int.mul_comm (10 ^ k) 10, Int.mul_assoc]
    omega
theorem rOK.done {p l s : Int} (h : rOK p l s) (hl : l ≤ 0) : p ≤ 999999 := by
  obtain ⟨k, h1, h2, h3⟩ := h
  have hk : k ≤ 6 := by have := h1.le; omega
  have ht : (0 : Int) < 10 ^ k := Int.pow_pos (by decide)
  have e : l + 1 ≤ 1 := by omega
  have := Int.mul_le_mul_of_nonneg_right e (Int.le_of_lt ht)
  have h6 : ∀ k : Nat, k < 7 → (10 : Int) ^ k ≤ 1000000 := by decide
  have := h6 k (by omega)
  omega
end
section
/-! Policies of the class as they must be kept: rows one behind another in their code. -/
def wfR (m : Nat → Int) (len : Nat) : Nat → Nat → Prop
  | at_, 0 => at_ ≤ len
  | at_, n + 1 => at_ + 1 < len ∧ 0 ≤ m at_ ∧ 0 ≤ m (at_ + 1) ∧ at_ + 2 + 5 * (m at_).toNat + 2 * (m (at_ + 1)).toNat ≤ len ∧ (∀ i, i < (m (at_ + 1)).toNat → 0 ≤ m (at_ + 2 + 5 * (m at_).toNat + 2 * i + 1) ∧ m (at_ + 2 + 5 * (m at_).toNat + 2 * i + 1) ≤ 1000000) ∧ wfR m len (at_ + 2 + 5 * (m at_).toNat + 2 * (m (at_ + 1)).toNat) n
/-- the policy at address b -/
def wfP (w : mW) (μ : mM) (b : Nat) : Prop := mAt w b 230 ∧ mAt w (μ b 1).toNat 231 ∧ wfR (μ (μ b 1).toNat) (w.2.2.1 (μ b 1).toNat) 0 (μ b 0).toNat ∧ w.2.2.1 (μ b 2).toNat = w.2.2.1 (μ b 3).toNat ∧ w.2.2.1 (μ b 4).toNat = w.2.2.1 (μ b 5).toNat
def PC (w : mW) (μ : mM) : Prop := ∀ p : Nat, (p : Int) < w.2.2.2 2 → wfP w μ (μ 22 p).toNat
def pcFree (l : List Nat) : Bool := !(l.elem 22999) && (!(l.elem 230000) && (!(l.elem 230001) && (!(l.elem 230002) && (!(l.elem 230003) && (!(l.elem 230004) && (!(l.elem 230005) && !(l.elem 231999)))))))
theorem PC.keep {l : List Nat} {w : mW} {μ μ1 : mM} (h : PC w μ) (hw : mWF w) (hF : mF l w μ μ1) (hl : pcFree l = true) : PC w μ1 := by
  simp only [pcFree, Bool.and_eq_true, Bool.not_eq_true'] at hl
  obtain ⟨l1, l2, l3, l4, l5, l6, l7, l8⟩ := hl
  intro p hp
  have e22 : μ1 22 p = μ 22 p := hF.f (A_22 hw) l1 rfl
  rw [e22]
  obtain ⟨hA, hA1, h1, h2, h3⟩ := h p hp
  have f0 : μ1 (μ 22 p).toNat 0 = μ (μ 22 p).toNat 0 := hF.f hA l2 rfl
  have f1 : μ1 (μ 22 p).toNat 1 = μ (μ 22 p).toNat 1 := hF.f hA l3 rfl
  have f2 : μ1 (μ 22 p).toNat 2 = μ (μ 22 p).toNat 2 := hF.f hA l4 rfl
  have f3 : μ1 (μ 22 p).toNat 3 = μ (μ 22 p).toNat 3 := hF.f hA l5 rfl
  have f4 : μ1 (μ 22 p).toNat 4 = μ (μ 22 p).toNat 4 := hF.f hA l6 rfl
  have f5 : μ1 (μ 22 p).toNat 5 = μ (μ 22 p).toNat 5 := hF.f hA l7 rfl
  have fc : μ1 (μ (μ 22 p).toNat 1).toNat = μ (μ (μ 22 p).toNat 1).toNat := funext fun i => hF.f hA1 l8 rfl
  refine ⟨hA, by rw [f1]; exact hA1, by rw [f0, f1, fc]; exact h1, by rw [f2, f3]; exact h2, by rw [f4, f5]; exact h3⟩
def OC (μ : mM) : Prop := 0 ≤ μ 76 4
theorem OC.keep {l : List Nat} {w : mW} {μ μ1 : mM} (h : OC μ) (hw : mWF w) (hF : mF l w μ μ1) (hl : l.elem 76004 = false) : OC μ1 := by
  have e : μ1 76 4 = μ 76 4 := hF.f (A_76 hw) hl rfl
  simp only [OC, e]; exact h
def RT (μ : mM) : Prop := 0 ≤ μ 21 2
theorem RT.keep {l : List Nat} {w : mW} {μ μ1 : mM} (h : RT μ) (hw : mWF w) (hF : mF l w μ μ1) (hl : l.elem 21002 = false) : RT μ1 := by
  have e : μ1 21 2 = μ 21 2 := hF.f (A_21 hw) hl rfl
  simp only [RT, e]; exact h
end
section
/-! Rows of changing length; a policy's rows read. -/
theorem lnR {w : mW} {b s m : Nat} {n : Int} (h : (w.2.2.1 b : Int) = n) (hA : mAt w b s) (hm : Nat.ble (mLen s) m = true) : 0 ≤ n ∧ n ≤ (m : Int) := by
  have h1 := hA.2.2.1
  have h2 := le_t hm
  omega
theorem lnC {e n : Int} {m : Nat} (h : (m : Int) = n) (p : 0 ≤ e ∧ e < n) : 0 ≤ e ∧ e < (m : Int) := by rw [h]; exact p
theorem lnE {w : mW} {μ : mM} {a k b : Nat} {e : Int} (q : μ a k = (b : Int)) (h : e < (w.2.2.1 (μ a k).toNat : Int)) : e < (w.2.2.1 b : Int) := by
  rw [q] at h; exact h
section MV8
variable {g : sG} {M : sM} {R : Room} {Z : sZT} {pc : Nat} {lv : List (Nat × Value)} {st : List Value} {w : mW} {μ : mM} {ce sl : Nat}
theorem mr_alen {a s kd k : Nat} {cA : ClassId} {ty : FieldType} {z : Int} (hd : decode M.2.1 pc = .ok (.arraylength, 1)) (ht : g.2.2.1[kd]? = some (cA, ty)) (hA : mAt w a s) (hs : mTab s = .inr (kd, k)) (q : (w.2.2.1 a : Int) = z) (kt : sV g M R Z (pc + 1) lv (iv z :: st) (mk w μ) ce sl) : sV g M R Z pc lv (.ref a :: st) (mk w μ) ce sl :=
  sv_arraylength hd ht hA.2.1 (mk_arr hA hs) (v := Int32.ofInt z) (by rw [← q]; rfl) kt
end MV8
theorem PC.read {w : mW} {μ : mM} {b : Nat} {p : Int} (h : PC w μ) (hT : mT w μ) (hB : mAt w b 230) (h0 : 0 ≤ p) (hp : p < w.2.2.2 2) (q : μ 22 p.toNat = (b : Int)) : ∃ (c : Nat) (r : Int), μ b 1 = (c : Int) ∧ mAt w c 231 ∧ μ b 0 = r ∧ wfR (μ c) (w.2.2.1 c) (0 : Int).toNat (r - 0).toNat ∧ w.2.2.1 (μ b 2).toNat = w.2.2.1 (μ b 3).toNat ∧ w.2.2.1 (μ b 4).toNat = w.2.2.1 (μ b 5).toNat := by
  have hh := h p.toNat (by rw [Int.toNat_of_nonneg h0]; exact hp)
  rw [q] at hh
  have e : ((b : Int)).toNat = b := rfl
  have hb : μ b 1 = ((μ b 1).toNat : Int) := (Int.toNat_of_nonneg (hT b 230 hB 1).1).symm
  rw [e] at hh
  obtain ⟨hA, hA1, h1, h2, h3⟩ := hh
  exact ⟨(μ b 1).toNat, μ b 0, hb, hA1, rfl, by rw [Int.sub_zero]; exact h1, h2, h3⟩
theorem wfR.hd {m : Nat → Int} {len : Nat} {a r row : Int} (h : wfR m len a.toNat (r - row).toNat) (h0 : 0 ≤ a) (hr : row < r) : a + 1 < (len : Int) := by
  obtain ⟨k, hk⟩ : ∃ k, (r - row).toNat = k + 1 := ⟨(r - row).toNat - 1, by omega⟩
  rw [hk] at h
  have h1 : a.toNat + 1 < len := h.1
  omega
theorem wfR.bd {m : Nat → Int} {len : Nat} {a r row t k : Int} (h : wfR m len a.toNat (r - row).toNat) (h0 : 0 ≤ a) (hr : row < r) (q : m a.toNat = t) (q' : m (a + 1).toNat = k) : (0 ≤ t ∧ 0 ≤ k ∧ a + 2 + 5 * t + 2 * k ≤ (len : Int)) ∧ (∀ i : Int, 0 ≤ i → i < k → 0 ≤ m (a + 2 + 5 * t + 2 * i + 1).toNat ∧ m (a + 2 + 5 * t + 2 * i + 1).toNat ≤ 1000000) ∧ wfR m len (a + 2 + 5 * t + 2 * k).toNat (r - (row + 1)).toNat := by
  obtain ⟨n, hn⟩ : ∃ n, (r - row).toNat = n + 1 := ⟨(r - row).toNat - 1, by omega⟩
  rw [hn] at h
  have e1 : (a + 1).toNat = a.toNat + 1 := by omega
  rw [e1] at q'
  obtain ⟨h1, h2, h3, h4, h5, h6⟩ := h
  rw [q, q'] at h4 h5 h6
  rw [q] at h2
  rw [q'] at h3
  refine ⟨⟨h2, h3, by omega⟩, fun i hi hk => ?_, ?_⟩
  · have := h5 i.toNat (by omega)
    have e : (a + 2 + 5 * t + 2 * i + 1).toNat = a.toNat + 2 + 5 * t.toNat + 2 * i.toNat + 1 := by omega
    rw [e]; exact this
  · have e : (a + 2 + 5 * t + 2 * k).toNat = a.toNat + 2 + 5 * t.toNat + 2 * k.toNat := by omega
    have e2 : (r - (row + 1)).toNat = n := by omega
    rw [e, e2]; exact h6
end
section
/-! Rows of changing length: more. -/
theorem lnQ {w : mW} {μ : mM} {a k1 k2 b1 b2 : Nat} {n1 n2 : Int} (q1 : μ a k1 = (b1 : Int)) (q2 : μ a k2 = (b2 : Int)) (h : w.2.2.1 (μ a k1).toNat = w.2.2.1 (μ a k2).toNat) (h1 : (w.2.2.1 b1 : Int) = n1) (h2 : (w.2.2.1 b2 : Int) = n2) : n2 = n1 := by
  rw [q1, q2] at h
  have h : w.2.2.1 b1 = w.2.2.1 b2 := h
  omega
theorem lnF {w : mW} {μ : mM} {a k c : Nat} {e n : Int} (q : μ a k = (c : Int)) (h : (w.2.2.1 c : Int) = n) (p : e < n) : e < (w.2.2.1 (μ a k).toNat : Int) := by
  rw [q]
  show e < (w.2.2.1 c : Int)
  omega
theorem lnL {w : mW} {c : Nat} {e n : Int} (h : (w.2.2.1 c : Int) = n) (p : e ≤ n) : e ≤ (w.2.2.1 c : Int) := by omega
theorem lnLt {w : mW} {c : Nat} {e n : Int} (h : (w.2.2.1 c : Int) = n) (p : e < (w.2.2.1 c : Int)) : e < n := by omega
theorem lnLe {w : mW} {c : Nat} {e n : Int} (h : (w.2.2.1 c : Int) = n) (p : e ≤ (w.2.2.1 c : Int)) : e ≤ n := by omega
theorem argB {μ0 μ : mM} {c : Nat} {f k i e z : Int} (h : ∀ i : Int, 0 ≤ i → i < k → 0 ≤ μ0 c (f + 2 * i + 1).toNat ∧ μ0 c (f + 2 * i + 1).toNat ≤ 1000000) (h0 : 0 ≤ i) (h1 : i < k) (he : e = f + 2 * i + 1) (hm : μ c e.toNat = μ0 c e.toNat) (q : μ c e.toNat = z) : 0 ≤ z ∧ z ≤ 1000000 := by
  subst he
  have := h i h0 h1
  rw [← hm, q] at this; exact this
theorem argC {μ0 μ : mM} {c : Nat} {f k g : Int} (h : ∀ i : Int, 0 ≤ i → i < k → 0 ≤ μ0 c (g + 2 * i + 1).toNat ∧ μ0 c (g + 2 * i + 1).toNat ≤ 1000000) (he : f = g) (hm : μ c = μ0 c) : ∀ i : Int, 0 ≤ i → i < k → 0 ≤ μ c (f + 2 * i + 1).toNat ∧ μ c (f + 2 * i + 1).toNat ≤ 1000000 := by
  subst he
  rw [hm]; exact h
theorem wfR.cg {m : Nat → Int} {len n : Nat} {a b : Int} (h : wfR m len a.toNat n) (e : b = a) : wfR m len b.toNat n := by rw [e]; exact h
end
