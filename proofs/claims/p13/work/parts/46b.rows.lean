theorem vc_X12_hand_1 {z1 : Int} (h0 : z1 = 0) (h1 : 0 ≤ z1 ∧ z1 ≤ 1) : 0 ≤ z1 ∧ z1 ≤ 0 := by omega
theorem vc_X12_hand_2 {z1 : Int} (h0 : ¬ z1 = 0) (h1 : 0 ≤ z1 ∧ z1 ≤ 1) : 1 ≤ z1 ∧ z1 ≤ 1 := by omega
theorem vc_X12_hand_3 {p1 : Int} (h0 : 0 ≤ p1) (h1 : (-2147483648) ≤ p1 ∧ p1 ≤ 2147483647) : 0 ≤ p1 ∧ p1 ≤ 2147483647 := by omega
theorem vc_X12_hand_4 {p1 : Int} (h0 : 5 < p1) (h1 : 0 ≤ p1) (h2 : 0 ≤ p1 ∧ p1 ≤ 2147483647) : 6 ≤ p1 ∧ p1 ≤ 2147483647 := by omega
theorem vc_X12_hand_5 {p1 : Int} (h0 : p1 < 10) (h1 : 0 ≤ p1) (h2 : 5 < p1) (h3 : 6 ≤ p1 ∧ p1 ≤ 2147483647) : 6 ≤ p1 ∧ p1 ≤ 9 := by omega
theorem vc_X12_hand_6 {p1 : Int} (h0 : 100 ≤ p1) (h1 : 6 ≤ p1 ∧ p1 ≤ 9) : False := by omega
theorem vc_X12_hand_7 {p1 : Int} (h0 : 10 ≤ p1) (h1 : 0 ≤ p1) (h2 : 5 < p1) (h3 : 6 ≤ p1 ∧ p1 ≤ 2147483647) : 10 ≤ p1 ∧ p1 ≤ 2147483647 := by omega
theorem vc_X12_hand_8  : ((4 : Int) : Int) % (40 : Int) = (4 : Int) := by omega
theorem vc_X12_hand_9 {p1 z14 : Int} (h0 : p1 < 100) (h1 : 0 ≤ p1) (h2 : 5 < p1) (h3 : 10 ≤ p1) (h4 : z14 ≤ (p1 - 10)) (h5 : 10 ≤ p1 ∧ p1 ≤ 2147483647) (h6 : 0 ≤ z14 ∧ z14 ≤ 20) : 10 ≤ p1 ∧ p1 ≤ 99 := by omega
theorem vc_X12_hand_10 {p1 z14 : Int} (h0 : 100 ≤ p1) (h1 : 0 ≤ p1) (h2 : 5 < p1) (h3 : 10 ≤ p1) (h4 : z14 ≤ (p1 - 10)) (h5 : 10 ≤ p1 ∧ p1 ≤ 2147483647) (h6 : 0 ≤ z14 ∧ z14 ≤ 20) : 100 ≤ p1 ∧ p1 ≤ 2147483647 := by omega
theorem vc_X12_hand_11  : ((5 : Int) : Int) % (40 : Int) = (5 : Int) := by omega
theorem vc_X12_hand_12 {p1 z14 z33 : Int} (h0 : (p1 - 100) < z33) (h1 : 0 ≤ p1) (h2 : 5 < p1) (h3 : 10 ≤ p1) (h4 : z14 ≤ (p1 - 10)) (h5 : 100 ≤ p1) (h6 : 100 ≤ p1 ∧ p1 ≤ 2147483647) (h7 : 0 ≤ z14 ∧ z14 ≤ 20) (h8 : 0 ≤ z33 ∧ z33 ≤ 8) : 100 ≤ p1 ∧ p1 ≤ 107 := by omega
theorem vc_X12_hand_13 {p1 z14 z33 : Int} (h0 : (p1 - 100) < z33) (h1 : 0 ≤ p1) (h2 : 5 < p1) (h3 : 10 ≤ p1) (h4 : z14 ≤ (p1 - 10)) (h5 : 100 ≤ p1) (h6 : 100 ≤ p1 ∧ p1 ≤ 107) (h7 : 0 ≤ z14 ∧ z14 ≤ 20) (h8 : 0 ≤ z33 ∧ z33 ≤ 8) : 1 ≤ z33 ∧ z33 ≤ 8 := by omega
theorem vc_X12_hand_14 {p1 z14 : Int} (h0 : (p1 - 10) < z14) (h1 : 0 ≤ p1) (h2 : 5 < p1) (h3 : 10 ≤ p1) (h4 : 10 ≤ p1 ∧ p1 ≤ 2147483647) (h5 : 0 ≤ z14 ∧ z14 ≤ 20) : 10 ≤ p1 ∧ p1 ≤ 29 := by omega
theorem vc_X12_hand_15 {p1 z14 : Int} (h0 : (p1 - 10) < z14) (h1 : 0 ≤ p1) (h2 : 5 < p1) (h3 : 10 ≤ p1) (h4 : 10 ≤ p1 ∧ p1 ≤ 29) (h5 : 0 ≤ z14 ∧ z14 ≤ 20) : 1 ≤ z14 ∧ z14 ≤ 20 := by omega
theorem vc_X12_hand_16 {p1 : Int} (h0 : p1 ≤ 5) (h1 : 0 ≤ p1) (h2 : 0 ≤ p1 ∧ p1 ≤ 2147483647) : 0 ≤ p1 ∧ p1 ≤ 5 := by omega
theorem vc_X12_hand_17 {p1 : Int} (h0 : p1 < 0) (h1 : (-2147483648) ≤ p1 ∧ p1 ≤ 2147483647) : (-2147483648) ≤ p1 ∧ p1 ≤ (-1) := by omega
set_option maxRecDepth 4000 in
set_option maxHeartbeats 4000000 in
theorem c_X12_hand {l : Launch} {D : va_G} {c : Nat → ClassId} {H0 : Heap} {sa : Nat × Nat × (Nat → Int32)} {w : mW} {μ : mM} (hw : mWF w) (hT : mT w μ) {p1 : Int} (hp1 : (-2147483648) ≤ p1 ∧ p1 ≤ 2147483647) : sC (gG l D c H0 sa) mX12_hand 1 0 0 [.ref 106, iv p1] (mk w μ) (qP w μ (fun z => ((-2147483648) ≤ z ∧ z ≤ 2147483647) ∧ True)) := by
  refine sC.of rfl (by decide) (le_t rfl) ?_
  refine mr_lvE (lv' := [(0, .ref 106), (1, iv p1)]) rfl ?_
  refine sv_aload_n (pc := 0) dX12_hand_0 rfl rfl ?_
  refine gf_X12_70 (pc := 1) dX12_hand_1 wF_X12_411 (A_106 hw) hT fun z1 q2 h3 => ?_
  refine mr_if_eq (pc := 4) (tgt := 11) dX12_hand_4 (by decide) (r32 h3 rfl) (fun h4 => ?_) (fun h4 => ?_)
  · have h5 : 0 ≤ z1 ∧ z1 ≤ 0 := (vc_X12_hand_1 h4 h3)
    refine mr_ldc (pc := 11) (z := (-99999999)) dX12_hand_11 wG_X12_29 (by decide) ?_
    exact mr_iretP dX12_hand_13 rfl (le_t rfl) (le_t rfl) ⟨(rW (c := (-2147483648)) (d := 2147483647) (rR (x := (-99999999))) rfl), trivial⟩
  have h6 : 1 ≤ z1 ∧ z1 ≤ 1 := (vc_X12_hand_2 h4 h3)
  refine mr_iload_n (pc := 7) (z := p1) dX12_hand_7 rfl rfl ?_
  refine mr_if_ge (pc := 8) (tgt := 14) dX12_hand_8 (by decide) hp1 (fun h7 => ?_) (fun h7 => ?_)
  · have h8 : 0 ≤ p1 ∧ p1 ≤ 2147483647 := (vc_X12_hand_3 h7 hp1)
    refine mr_iload_n (pc := 14) (z := p1) dX12_hand_14 rfl rfl ?_
    refine mr_iconst (pc := 15) (z := 5) dX12_hand_15 ?_
    refine mr_icmp_gt (pc := 16) (tgt := 26) dX12_hand_16 (by decide) (r32 h8 rfl) (r32 (rR (x := 5)) rfl) (fun h9 => ?_) (fun h9 => ?_)
    · have h10 : 6 ≤ p1 ∧ p1 ≤ 2147483647 := (vc_X12_hand_4 h9 h7 h8)
      refine mr_iload_n (pc := 26) (z := p1) dX12_hand_26 rfl rfl ?_
      refine mr_bipush (pc := 27) (z := 10) dX12_hand_27 (by decide) ?_
      refine mr_icmp_lt (pc := 29) (tgt := 58) dX12_hand_29 (by decide) (r32 h10 rfl) (r32 (rR (x := 10)) rfl) (fun h11 => ?_) (fun h11 => ?_)
      · have h12 : 6 ≤ p1 ∧ p1 ≤ 9 := (vc_X12_hand_5 h11 h7 h9 h10)
        refine mr_iload_n (pc := 58) (z := p1) dX12_hand_58 rfl rfl ?_
        refine mr_bipush (pc := 59) (z := 100) dX12_hand_59 (by decide) ?_
        refine mr_icmp_lt (pc := 61) (tgt := 92) dX12_hand_61 (by decide) (r32 h12 rfl) (r32 (rR (x := 100)) rfl) (fun _ => ?_) (fun h => ((vc_X12_hand_6 h h12)).elim)
        refine mr_ldc (pc := 92) (z := (-99999999)) dX12_hand_92 wG_X12_29 (by decide) ?_
        exact mr_iretP dX12_hand_94 rfl (le_t rfl) (le_t rfl) ⟨(rW (c := (-2147483648)) (d := 2147483647) (rR (x := (-99999999))) rfl), trivial⟩
      have h13 : 10 ≤ p1 ∧ p1 ≤ 2147483647 := (vc_X12_hand_7 h11 h7 h9 h10)
      refine mr_iload_n (pc := 32) (z := p1) dX12_hand_32 rfl rfl ?_
      refine mr_bipush (pc := 33) (z := 10) dX12_hand_33 (by decide) ?_
      refine mr_isub (pc := 35) (x := p1) (y := 10) dX12_hand_35 ?_
      refine sv_aload_n (pc := 36) dX12_hand_36 rfl rfl ?_
      refine gf_X12_32 (pc := 37) dX12_hand_37 wF_X12_148 (A_106 hw) hT ?_
      refine mr_iconst (pc := 40) (z := 4) dX12_hand_40 ?_
      refine la_126 (pc := 41) dX12_hand_41 (A_126 hw) hT (rIx (n := 84000) (rR (x := 4)) rfl) fun z14 q15 h16 => ?_
      have h17 : 0 ≤ z14 ∧ z14 ≤ 20 := h16.2.2.1 vc_X12_hand_8
      refine mr_icmp_ge (pc := 42) (tgt := 58) dX12_hand_42 (by decide) (r32 (rSub (e := 0) (f := 2147483637) h13 (rR (x := 10)) rfl) rfl) (r32 h17 rfl) (fun h18 => ?_) (fun h18 => ?_)
      · refine mr_iload_n (pc := 58) (z := p1) dX12_hand_58 rfl rfl ?_
        refine mr_bipush (pc := 59) (z := 100) dX12_hand_59 (by decide) ?_
        refine mr_icmp_lt (pc := 61) (tgt := 92) dX12_hand_61 (by decide) (r32 h13 rfl) (r32 (rR (x := 100)) rfl) (fun h30 => ?_) (fun h30 => ?_)
        · have h31 : 10 ≤ p1 ∧ p1 ≤ 99 := (vc_X12_hand_9 h30 h7 h9 h11 h18 h13 h17)
          refine mr_ldc (pc := 92) (z := (-99999999)) dX12_hand_92 wG_X12_29 (by decide) ?_
          exact mr_iretP dX12_hand_94 rfl (le_t rfl) (le_t rfl) ⟨(rW (c := (-2147483648)) (d := 2147483647) (rR (x := (-99999999))) rfl), trivial⟩
        have h32 : 100 ≤ p1 ∧ p1 ≤ 2147483647 := (vc_X12_hand_10 h30 h7 h9 h11 h18 h13 h17)
        refine mr_iload_n (pc := 64) (z := p1) dX12_hand_64 rfl rfl ?_
        refine mr_bipush (pc := 65) (z := 100) dX12_hand_65 (by decide) ?_
        refine mr_isub (pc := 67) (x := p1) (y := 100) dX12_hand_67 ?_
        refine sv_aload_n (pc := 68) dX12_hand_68 rfl rfl ?_
        refine gf_X12_32 (pc := 69) dX12_hand_69 wF_X12_148 (A_106 hw) hT ?_
        refine mr_iconst (pc := 72) (z := 5) dX12_hand_72 ?_
        refine la_126 (pc := 73) dX12_hand_73 (A_126 hw) hT (rIx (n := 84000) (rR (x := 5)) rfl) fun z33 q34 h35 => ?_
        have h36 : 0 ≤ z33 ∧ z33 ≤ 8 := h35.2.2.2 vc_X12_hand_11
        refine mr_icmp_ge (pc := 74) (tgt := 92) dX12_hand_74 (by decide) (r32 (rSub (e := 0) (f := 2147483547) h32 (rR (x := 100)) rfl) rfl) (r32 h36 rfl) (fun h42 => ?_) (fun h42 => ?_)
        · refine mr_ldc (pc := 92) (z := (-99999999)) dX12_hand_92 wG_X12_29 (by decide) ?_
          exact mr_iretP dX12_hand_94 rfl (le_t rfl) (le_t rfl) ⟨(rW (c := (-2147483648)) (d := 2147483647) (rR (x := (-99999999))) rfl), trivial⟩
        have h43 : 100 ≤ p1 ∧ p1 ≤ 107 := (vc_X12_hand_12 h42 h7 h9 h11 h18 h30 h32 h17 h36)
        have h44 : 1 ≤ z33 ∧ z33 ≤ 8 := (vc_X12_hand_13 h42 h7 h9 h11 h18 h30 h43 h17 h36)
        refine sv_aload_n (pc := 77) dX12_hand_77 rfl rfl ?_
        refine gf_X12_32 (pc := 78) dX12_hand_78 wF_X12_148 (A_106 hw) hT ?_
        refine mr_bipush (pc := 81) (z := 26) dX12_hand_81 (by decide) ?_
        refine mr_iload_n (pc := 83) (z := p1) dX12_hand_83 rfl rfl ?_
        refine mr_iadd (pc := 84) (x := 26) (y := p1) dX12_hand_84 ?_
        refine mr_bipush (pc := 85) (z := 100) dX12_hand_85 (by decide) ?_
        refine mr_isub (pc := 87) (x := (26 + p1)) (y := 100) dX12_hand_87 ?_
        refine la_126 (pc := 88) dX12_hand_88 (A_126 hw) hT (rIx (n := 84000) (rSub (e := 26) (f := 33) (rAdd (e := 126) (f := 133) (rR (x := 26)) h43 rfl) (rR (x := 100)) rfl) rfl) fun z45 q46 h47 => ?_
        refine sv_goto (pc := 89) (tgt := 94) dX12_hand_89 (by decide) ?_
        exact mr_iretP dX12_hand_94 rfl (le_t rfl) (le_t rfl) ⟨h47.1, trivial⟩
      have h48 : 10 ≤ p1 ∧ p1 ≤ 29 := (vc_X12_hand_14 h18 h7 h9 h11 h13 h17)
      have h49 : 1 ≤ z14 ∧ z14 ≤ 20 := (vc_X12_hand_15 h18 h7 h9 h11 h48 h17)
      refine sv_aload_n (pc := 45) dX12_hand_45 rfl rfl ?_
      refine gf_X12_32 (pc := 46) dX12_hand_46 wF_X12_148 (A_106 hw) hT ?_
      refine mr_bipush (pc := 49) (z := 6) dX12_hand_49 (by decide) ?_
      refine mr_iload_n (pc := 51) (z := p1) dX12_hand_51 rfl rfl ?_
      refine mr_iadd (pc := 52) (x := 6) (y := p1) dX12_hand_52 ?_
      refine mr_bipush (pc := 53) (z := 10) dX12_hand_53 (by decide) ?_
      refine mr_isub (pc := 55) (x := (6 + p1)) (y := 10) dX12_hand_55 ?_
      refine la_126 (pc := 56) dX12_hand_56 (A_126 hw) hT (rIx (n := 84000) (rSub (e := 6) (f := 25) (rAdd (e := 16) (f := 35) (rR (x := 6)) h48 rfl) (rR (x := 10)) rfl) rfl) fun z50 q51 h52 => ?_
      exact mr_iretP dX12_hand_57 rfl (le_t rfl) (le_t rfl) ⟨h52.1, trivial⟩
    have h53 : 0 ≤ p1 ∧ p1 ≤ 5 := (vc_X12_hand_16 h9 h7 h8)
    refine sv_aload_n (pc := 19) dX12_hand_19 rfl rfl ?_
    refine gf_X12_32 (pc := 20) dX12_hand_20 wF_X12_148 (A_106 hw) hT ?_
    refine mr_iload_n (pc := 23) (z := p1) dX12_hand_23 rfl rfl ?_
    refine la_126 (pc := 24) dX12_hand_24 (A_126 hw) hT (rIx (n := 84000) h53 rfl) fun z54 q55 h56 => ?_
    exact mr_iretP dX12_hand_25 rfl (le_t rfl) (le_t rfl) ⟨h56.1, trivial⟩
  have h57 : (-2147483648) ≤ p1 ∧ p1 ≤ (-1) := (vc_X12_hand_17 h7 hp1)
  refine mr_ldc (pc := 11) (z := (-99999999)) dX12_hand_11 wG_X12_29 (by decide) ?_
  exact mr_iretP dX12_hand_13 rfl (le_t rfl) (le_t rfl) ⟨(rW (c := (-2147483648)) (d := 2147483647) (rR (x := (-99999999))) rfl), trivial⟩
theorem vc_X12_eventAt_1 {p1 : Int} (h0 : 400 ≤ p1) (h1 : 0 ≤ p1 ∧ p1 ≤ 799) : 400 ≤ p1 ∧ p1 ≤ 799 := by omega
theorem vc_X12_eventAt_2 {p1 : Int} (h0 : p1 < 400) (h1 : 0 ≤ p1 ∧ p1 ≤ 799) : 0 ≤ p1 ∧ p1 ≤ 399 := by omega
set_option maxRecDepth 4000 in
set_option maxHeartbeats 4000000 in
theorem c_X12_eventAt {l : Launch} {D : va_G} {c : Nat → ClassId} {H0 : Heap} {sa : Nat × Nat × (Nat → Int32)} {w : mW} {μ : mM} (hw : mWF w) (hT : mT w μ) {p1 : Int} (hp1 : 0 ≤ p1 ∧ p1 ≤ 799) : sC (gG l D c H0 sa) mX12_eventAt 1 0 0 [.ref 106, iv p1] (mk w μ) (qP w μ (fun z => ((-1) ≤ z ∧ z ≤ 2000001000) ∧ True)) := by
  refine sC.of rfl (by decide) (le_t rfl) ?_
  refine mr_lvE (lv' := [(0, .ref 106), (1, iv p1)]) rfl ?_
  refine mr_iload_n (pc := 0) (z := p1) dX12_eventAt_0 rfl rfl ?_
  refine mr_sipush (pc := 1) (z := 400) dX12_eventAt_1 (by decide) ?_
  refine mr_icmp_ge (pc := 4) (tgt := 16) dX12_eventAt_4 (by decide) (r32 hp1 rfl) (r32 (rR (x := 400)) rfl) (fun h9 => ?_) (fun h9 => ?_)
  · have h10 : 400 ≤ p1 ∧ p1 ≤ 799 := (vc_X12_eventAt_1 h9 hp1)
    refine sv_aload_n (pc := 16) dX12_eventAt_16 rfl rfl ?_
    refine gf_X12_79 (pc := 17) dX12_eventAt_17 wF_X12_439 (A_106 hw) hT ?_
    refine mr_iload_n (pc := 20) (z := p1) dX12_eventAt_20 rfl rfl ?_
    refine mr_sipush (pc := 21) (z := 400) dX12_eventAt_21 (by decide) ?_
    refine mr_isub (pc := 24) (x := p1) (y := 400) dX12_eventAt_24 ?_
    refine la_159 (pc := 25) dX12_eventAt_25 (A_159 hw) hT (rIx (n := 400) (rSub (e := 0) (f := 399) h10 (rR (x := 400)) rfl) rfl) fun z11 q12 h13 => ?_
    exact mr_iretP dX12_eventAt_26 rfl (le_t rfl) (le_t rfl) ⟨h13, trivial⟩
  have h14 : 0 ≤ p1 ∧ p1 ≤ 399 := (vc_X12_eventAt_2 h9 hp1)
  refine sv_aload_n (pc := 7) dX12_eventAt_7 rfl rfl ?_
  refine gf_X12_77 (pc := 8) dX12_eventAt_8 wF_X12_433 (A_106 hw) hT ?_
  refine mr_iload_n (pc := 11) (z := p1) dX12_eventAt_11 rfl rfl ?_
  refine la_157 (pc := 12) dX12_eventAt_12 (A_157 hw) hT (rIx (n := 400) h14 rfl) fun z15 q16 h17 => ?_
  refine sv_goto (pc := 13) (tgt := 26) dX12_eventAt_13 (by decide) ?_
  exact mr_iretP dX12_eventAt_26 rfl (le_t rfl) (le_t rfl) ⟨h17, trivial⟩
theorem vc_X12_octet1_1 {f_w : Int} (h0 : f_w ≤ 299) (h1 : 0 ≤ f_w ∧ f_w ≤ 300) : 0 ≤ f_w ∧ f_w ≤ 299 := by omega
theorem vc_X12_octet1_2 {f_w : Int} (h0 : f_w ≤ 299) (h1 : 0 ≤ f_w ∧ f_w ≤ 299) : (f_w + 1) = f_w + 1 := by omega
set_option maxRecDepth 4000 in
set_option maxHeartbeats 4000000 in
theorem c_X12_octet1 {l : Launch} {D : va_G} {c : Nat → ClassId} {H0 : Heap} {sa : Nat × Nat × (Nat → Int32)} {w : mW} {μ : mM} (hw : mWF w) (hT : mT w μ) {p1 : Int} (hp1 : (-2147483648) ≤ p1 ∧ p1 ≤ 2147483647) {f_w : Int} (q_f_w : μ 106 104 = f_w) (hq0 : f_w ≤ 299) : sC (gG l D c H0 sa) mX12_octet1 1 0 0 [.ref 106, iv p1] (mk w μ) (qV w [106104, 174999] μ (fun μ1 => ∃ o_w : Int, μ1 106 104 = o_w ∧ (o_w = f_w + 1) ∧ True)) := by
  refine sC.of rfl (by decide) (le_t rfl) ?_
  have ht_f_w : (0 ≤ f_w ∧ f_w ≤ 300) := by rw [← q_f_w]; exact hT 106 106 (A_106 hw) 104
  have h1 : 0 ≤ f_w ∧ f_w ≤ 299 := (vc_X12_octet1_1 hq0 ht_f_w)
  refine mr_lvE (lv' := [(0, .ref 106), (1, iv p1)]) rfl ?_
  refine sv_aload_n (pc := 0) dX12_octet1_0 rfl rfl ?_
  refine gf_X12_103 (pc := 1) dX12_octet1_1 wF_X12_484 (A_106 hw) hT ?_
  refine sv_aload_n (pc := 4) dX12_octet1_4 rfl rfl ?_
  refine gk_X12_104 (pc := 5) dX12_octet1_5 wF_X12_671 (A_106 hw) q_f_w ?_
  refine mr_iload_n (pc := 8) (z := p1) dX12_octet1_8 rfl rfl ?_
  refine mr_sipush (pc := 9) (z := 255) dX12_octet1_9 (by decide) ?_
  refine mr_iand (pc := 12) (x := p1) (y := 255) dX12_octet1_12 ?_
  refine mr_gen (P := fun z => 0 ≤ z ∧ z ≤ 255) (rAndR (rR (x := 255)) rfl) fun z29 q30 h31 => ?_
  refine ss_174 (pc := 13) dX12_octet1_13 (A_174 hw) hT (rIx (n := 300) h1 rfl) (rW (c := (-2147483648)) (d := 2147483647) h31 rfl) fun μ32 u33 T34 => ?_
  refine sv_aload_n (pc := 14) dX12_octet1_14 rfl rfl ?_
  refine sv_dup (pc := 15) dX12_octet1_15 rfl ?_
  refine gk_X12_104 (pc := 16) dX12_octet1_16 wF_X12_671 (A_106 hw) (u33.f (Or.inl (mAt.ne (A_174 hw) (A_106 hw) rfl)) q_f_w) ?_
  refine mr_iconst (pc := 19) (z := 1) dX12_octet1_19 ?_
  refine mr_iadd (pc := 20) (x := f_w) (y := 1) dX12_octet1_20 ?_
  refine pf_X12_104 (pc := 21) dX12_octet1_21 wF_X12_671 (A_106 hw) T34 (rW (c := 0) (d := 300) (rAdd (e := 1) (f := 300) h1 (rR (x := 1)) rfl) rfl) fun μ35 u36 T37 => ?_
  exact mr_vret dX12_octet1_24 rfl (le_t rfl) (le_t rfl) T37 (mF.up (mF.up mF.refl (A_174 hw) u33 rfl) (A_106 hw) u36 rfl) ⟨(f_w + 1), u36.1, (vc_X12_octet1_2 hq0 h1), trivial⟩
theorem vc_X12_octet4_1 {f_w0 : Int} (h0 : f_w0 ≤ 295) (h1 : 0 ≤ f_w0 ∧ f_w0 ≤ 300) : 0 ≤ f_w0 ∧ f_w0 ≤ 295 := by omega
theorem vc_X12_octet4_2 {f_w f_w0 z310 : Int} (h0 : (z310 - (-9)) < ((0 : Nat) : Int)) (h1 : 8 * f_w + z310 = 8 * f_w0 + 24) (h2 : f_w0 ≤ 295) (h3 : 0 ≤ f_w0 ∧ f_w0 ≤ 295) (h4 : (-8) ≤ z310 ∧ z310 ≤ 24) : False := by omega
theorem vc_X12_octet4_3 {f_w f_w0 z310 : Int} (h0 : z310 < 0) (h1 : 8 * f_w + z310 = 8 * f_w0 + 24) (h2 : 0 ≤ f_w ∧ f_w ≤ 300) (h3 : 0 ≤ f_w0 ∧ f_w0 ≤ 295) (h4 : (-8) ≤ z310 ∧ z310 ≤ 24) : (-8) ≤ z310 ∧ z310 ≤ (-1) := by omega
theorem vc_X12_octet4_4 {f_w f_w0 z310 : Int} (h0 : f_w0 ≤ 295) (h1 : 8 * f_w + z310 = 8 * f_w0 + 24) (h2 : z310 < 0) (h3 : 0 ≤ f_w ∧ f_w ≤ 300) (h4 : 0 ≤ f_w0 ∧ f_w0 ≤ 295) (h5 : (-8) ≤ z310 ∧ z310 ≤ (-1)) : f_w = f_w0 + 4 := by omega
theorem vc_X12_octet4_5 {f_w f_w0 z310 : Int} (h0 : 0 ≤ z310) (h1 : 8 * f_w + z310 = 8 * f_w0 + 24) (h2 : 0 ≤ f_w ∧ f_w ≤ 300) (h3 : 0 ≤ f_w0 ∧ f_w0 ≤ 295) (h4 : (-8) ≤ z310 ∧ z310 ≤ 24) : 0 ≤ z310 ∧ z310 ≤ 24 := by omega
theorem vc_X12_octet4_6 {f_w f_w0 z310 : Int} (h0 : 8 * f_w + z310 = 8 * f_w0 + 24) (h1 : f_w0 ≤ 295) (h2 : 0 ≤ z310) (h3 : 0 ≤ f_w ∧ f_w ≤ 300) (h4 : 0 ≤ f_w0 ∧ f_w0 ≤ 295) (h5 : 0 ≤ z310 ∧ z310 ≤ 24) : f_w ≤ 299 := by omega
theorem vc_X12_octet4_7 {f_w f_w0 z310 z346 : Int} (h0 : f_w0 ≤ 295) (h1 : 8 * f_w + z310 = 8 * f_w0 + 24) (h2 : 0 ≤ z310) (h3 : z346 = f_w + 1) (h4 : 0 ≤ f_w ∧ f_w ≤ 300) (h5 : 0 ≤ f_w0 ∧ f_w0 ≤ 295) (h6 : 0 ≤ z310 ∧ z310 ≤ 24) (h7 : 0 ≤ z346 ∧ z346 ≤ 300) : 8 * (f_w + 1) + (z310 + (-8)) = 8 * f_w0 + 24 := by omega
theorem vc_X12_octet4_8 {N f_w f_w0 z310 z346 : Int} (h0 : (z310 - (-9)) < N + 1) (h1 : 8 * f_w + z310 = 8 * f_w0 + 24) (h2 : 0 ≤ z310) (h3 : f_w0 ≤ 295) (h4 : z346 = f_w + 1) (h5 : 0 ≤ f_w ∧ f_w ≤ 300) (h6 : 0 ≤ f_w0 ∧ f_w0 ≤ 295) (h7 : 0 ≤ z310 ∧ z310 ≤ 24) (h8 : 0 ≤ z346 ∧ z346 ≤ 300) : ((z310 + (-8)) - (-9)) < N := by omega
theorem vc_X12_octet4_9 {f_w0 : Int} (h0 : f_w0 ≤ 295) (h1 : 0 ≤ f_w0 ∧ f_w0 ≤ 295) : 8 * f_w0 + (24 : Int) = 8 * f_w0 + 24 := by omega
theorem vc_X12_octet4_10  : (24 - (-9)) < ((34 : Nat) : Int) := by omega
set_option maxRecDepth 4000 in
set_option maxHeartbeats 4000000 in
theorem c_X12_octet4 {l : Launch} {D : va_G} {c : Nat → ClassId} {H0 : Heap} {sa : Nat × Nat × (Nat → Int32)} {w : mW} {μ : mM} (hw : mWF w) (hT : mT w μ) {p1 : Int} (hp1 : (-2147483648) ≤ p1 ∧ p1 ≤ 2147483647) {f_w0 : Int} (q_f_w0 : μ 106 104 = f_w0) (hq0 : f_w0 ≤ 295) : sC (gG l D c H0 sa) mX12_octet4 2 0 0 [.ref 106, iv p1] (mk w μ) (qV w [106104, 174999] μ (fun μ1 => ∃ o_w : Int, μ1 106 104 = o_w ∧ (o_w = f_w0 + 4) ∧ True)) := by
  refine sC.of rfl (by decide) (le_t rfl) ?_
  have ht_f_w0 : (0 ≤ f_w0 ∧ f_w0 ≤ 300) := by rw [← q_f_w0]; exact hT 106 106 (A_106 hw) 104
  have h1 : 0 ≤ f_w0 ∧ f_w0 ≤ 295 := (vc_X12_octet4_1 hq0 ht_f_w0)
  refine mr_lvE (lv' := [(0, .ref 106), (1, iv p1)]) rfl ?_
  refine mr_bipush (pc := 0) (z := 24) dX12_octet4_0 (by decide) ?_
  refine mr_istore_n (pc := 2) (lv' := [(2, iv 24), (0, .ref 106), (1, iv p1)]) dX12_octet4_2 rfl (by decide) rfl ?_
  have L312 : ∀ (nL312 : Nat) (z310 : Int) (μ311 : mM) (f_w : Int), mT w μ311 → mF [106104, 174999] w μ μ311 → μ311 106 (104) = f_w → ((-8) ≤ z310 ∧ z310 ≤ 24) → (8 * f_w + z310 = 8 * f_w0 + 24) → (z310 - (-9)) < (nL312 : Int) → sV (gG l D c H0 sa) mX12_octet4 (sRm 2 0 0) (sZ (gG l D c H0 sa) 0 0 (qV w [106104, 174999] μ (fun μ1 => ∃ o_w : Int, μ1 106 104 = o_w ∧ (o_w = f_w0 + 4) ∧ True))) 3 [(0, .ref 106), (1, iv p1), (2, iv z310)] [] (mk w μ311) 0 0 := by
    intro nL312
    induction nL312 with
    | zero => intro z310 μ311 f_w T314 F315 q319 h313 h317 h318; exact ((vc_X12_octet4_2 h318 h317 hq0 h1 h313)).elim
    | succ nL312 ih320 =>
      intro z310 μ311 f_w T314 F315 q319 h313 h317 h318
      have h321 : (0 ≤ f_w ∧ f_w ≤ 300) := by rw [← q319]; exact T314 106 106 (A_106 hw) (104)
      refine mr_iload_n (pc := 3) (z := z310) dX12_octet4_3 rfl rfl ?_
      refine mr_if_lt (pc := 4) (tgt := 20) dX12_octet4_4 (by decide) (r32 h313 rfl) (fun h336 => ?_) (fun h336 => ?_)
      · have h337 : (-8) ≤ z310 ∧ z310 ≤ (-1) := (vc_X12_octet4_3 h336 h317 h321 h1 h313)
        exact mr_vret dX12_octet4_20 rfl (le_t rfl) (le_t rfl) T314 (mF.call mF.refl F315 rfl) ⟨f_w, q319, (vc_X12_octet4_4 hq0 h317 h336 h321 h1 h337), trivial⟩
      have h338 : 0 ≤ z310 ∧ z310 ≤ 24 := (vc_X12_octet4_5 h336 h317 h321 h1 h313)
      refine sv_aload_n (pc := 7) dX12_octet4_7 rfl rfl ?_
      refine mr_iload_n (pc := 8) (z := p1) dX12_octet4_8 rfl rfl ?_
      refine mr_iload_n (pc := 9) (z := z310) dX12_octet4_9 rfl rfl ?_
      refine mr_ishr (pc := 10) (x := p1) (y := z310) dX12_octet4_10 ?_
      refine mr_gen (P := fun z => (-2147483648) ≤ z ∧ z ≤ 2147483647) (r32i _) fun z339 q340 h341 => ?_
      refine mr_cVV (pc := 11) (c_X12_octet1 hw T314 h341 q319 (vc_X12_octet4_6 h317 hq0 h336 h321 h1 h338)) (gOk _ _ _ _ _) dX12_octet4_11 (tX12_octet1 _ _ _ _ _) ⟨wV_X12_octet1, wL_X12_octet1⟩ wM_X12_674 (gCX12 _ _ _ _ _) rfl (A_106 hw) rfl ⟨le_t rfl, le_t rfl⟩ ⟨le_t rfl, le_t rfl⟩ rfl (le_t rfl) fun μ342 T343 F344 h345 => ?_
      obtain ⟨z346, q347, h348⟩ := h345
      have h349 : (0 ≤ z346 ∧ z346 ≤ 300) := by rw [← q347]; exact T343 106 106 (A_106 hw) 104
      have q350 : μ342 106 104 = (f_w + 1) := q347.trans h348.1
      refine mr_iinc (pc := 14) (lv' := [(2, iv (z310 + (-8))), (0, .ref 106), (1, iv p1)]) dX12_octet4_14 rfl (by decide) rfl ?_
      refine sv_goto (pc := 17) (tgt := 3) dX12_octet4_17 (by decide) ?_
      refine mr_lvS (lv' := [(0, .ref 106), (1, iv p1), (2, iv (z310 + (-8)))]) (List.forall_mem_cons.mpr ⟨rfl, List.forall_mem_cons.mpr ⟨rfl, List.forall_mem_cons.mpr ⟨rfl, fun _ h => absurd h List.not_mem_nil⟩⟩⟩) ?_
      exact ih320 (z310 + (-8)) μ342 (f_w + 1) T343 (mF.call (mF.call mF.refl F315 rfl) F344 rfl) q350 (rW (c := (-8)) (d := 24) (rAdd (e := (-8)) (f := 16) h338 (rR (x := (-8))) rfl) rfl) (vc_X12_octet4_7 hq0 h317 h336 h348.1 h321 h1 h338 h349) (vc_X12_octet4_8 (nS h318) h317 h336 hq0 h348.1 h321 h1 h338 h349)
  refine mr_lvS (lv' := [(0, .ref 106), (1, iv p1), (2, iv 24)]) (List.forall_mem_cons.mpr ⟨rfl, List.forall_mem_cons.mpr ⟨rfl, List.forall_mem_cons.mpr ⟨rfl, fun _ h => absurd h List.not_mem_nil⟩⟩⟩) ?_
  exact L312 34 24 μ f_w0 hT mF.refl q_f_w0 (rW (c := (-8)) (d := 24) (rR (x := 24)) rfl) (vc_X12_octet4_9 hq0 h1) vc_X12_octet4_10
theorem vc_X12_prefixOut_1 {f_w0 : Int} (h0 : f_w0 ≤ 290) (h1 : 0 ≤ f_w0 ∧ f_w0 ≤ 300) : 0 ≤ f_w0 ∧ f_w0 ≤ 290 := by omega
theorem vc_X12_prefixOut_2 {f_w0 : Int} (h0 : f_w0 ≤ 290) (h1 : 0 ≤ f_w0 ∧ f_w0 ≤ 290) : f_w0 ≤ 299 := by omega
theorem vc_X12_prefixOut_3 {f_w f_w0 z270 z400 : Int} (h0 : (5 - z400) < ((0 : Nat) : Int)) (h1 : f_w = f_w0 + 1 + z400) (h2 : z400 ≤ 4) (h3 : f_w0 ≤ 290) (h4 : z270 = f_w0 + 1) (h5 : 0 ≤ f_w0 ∧ f_w0 ≤ 290) (h6 : 0 ≤ z270 ∧ z270 ≤ 300) (h7 : 0 ≤ z400 ∧ z400 ≤ 4) : False := by omega
theorem vc_X12_prefixOut_4  : (0 : Int) < (8 : Int) ∧ (8 : Int) ≤ (2147483647 : Int) := by omega
theorem vc_X12_prefixOut_5 {f_w f_w0 z270 z400 z413 : Int} (h0 : f_w0 ≤ 290) (h1 : z270 = f_w0 + 1) (h2 : f_w = f_w0 + 1 + z400) (h3 : z400 ≤ 4) (h4 : z413 ≤ z400) (h5 : 0 ≤ f_w ∧ f_w ≤ 300) (h6 : 0 ≤ f_w0 ∧ f_w0 ≤ 290) (h7 : 0 ≤ z270 ∧ z270 ≤ 300) (h8 : 0 ≤ z400 ∧ z400 ≤ 4) (h9 : 0 ≤ z413 ∧ z413 ≤ 4) : f_w ≤ f_w0 + 5 := by omega
theorem vc_X12_prefixOut_6 {f_w f_w0 z263 z400 z413 : Int} (h0 : z400 < z413) (h1 : f_w = f_w0 + 1 + z400) (h2 : z400 ≤ 4) (h3 : (z263 + 7) / 8 = z413) (h4 : 0 ≤ f_w ∧ f_w ≤ 300) (h5 : 0 ≤ f_w0 ∧ f_w0 ≤ 290) (h6 : 0 ≤ z263 ∧ z263 ≤ 32) (h7 : 0 ≤ z400 ∧ z400 ≤ 4) (h8 : 0 ≤ z413 ∧ z413 ≤ 4) : 0 ≤ z400 ∧ z400 ≤ 3 := by omega
theorem vc_X12_prefixOut_7 {f_w f_w0 z263 z400 z413 : Int} (h0 : z400 < z413) (h1 : f_w = f_w0 + 1 + z400) (h2 : z400 ≤ 4) (h3 : (z263 + 7) / 8 = z413) (h4 : 0 ≤ f_w ∧ f_w ≤ 300) (h5 : 0 ≤ f_w0 ∧ f_w0 ≤ 290) (h6 : 0 ≤ z263 ∧ z263 ≤ 32) (h7 : 0 ≤ z400 ∧ z400 ≤ 3) (h8 : 0 ≤ z413 ∧ z413 ≤ 4) : 1 ≤ z413 ∧ z413 ≤ 4 := by omega
theorem vc_X12_prefixOut_8 {f_w f_w0 z270 z400 z413 : Int} (h0 : f_w = f_w0 + 1 + z400) (h1 : f_w0 ≤ 290) (h2 : z270 = f_w0 + 1) (h3 : z400 ≤ 4) (h4 : z400 < z413) (h5 : 0 ≤ f_w ∧ f_w ≤ 300) (h6 : 0 ≤ f_w0 ∧ f_w0 ≤ 290) (h7 : 0 ≤ z270 ∧ z270 ≤ 300) (h8 : 0 ≤ z400 ∧ z400 ≤ 3) (h9 : 1 ≤ z413 ∧ z413 ≤ 4) : f_w ≤ 299 := by omega
theorem vc_X12_prefixOut_9 {f_w f_w0 z263 z270 z400 z413 z446 : Int} (h0 : f_w0 ≤ 290) (h1 : z270 = f_w0 + 1) (h2 : f_w = f_w0 + 1 + z400) (h3 : z400 ≤ 4) (h4 : z400 < z413) (h5 : z446 = f_w + 1) (h6 : (z263 + 7) / 8 = z413) (h7 : 0 ≤ f_w ∧ f_w ≤ 300) (h8 : 0 ≤ f_w0 ∧ f_w0 ≤ 290) (h9 : 0 ≤ z263 ∧ z263 ≤ 32) (h10 : 0 ≤ z270 ∧ z270 ≤ 300) (h11 : 0 ≤ z400 ∧ z400 ≤ 3) (h12 : 1 ≤ z413 ∧ z413 ≤ 4) (h13 : 0 ≤ z446 ∧ z446 ≤ 300) : (f_w + 1) = f_w0 + 1 + (z400 + 1) := by omega
theorem vc_X12_prefixOut_10 {f_w f_w0 z263 z270 z400 z413 z446 : Int} (h0 : f_w = f_w0 + 1 + z400) (h1 : z400 ≤ 4) (h2 : z400 < z413) (h3 : f_w0 ≤ 290) (h4 : z270 = f_w0 + 1) (h5 : (z263 + 7) / 8 = z413) (h6 : z446 = f_w + 1) (h7 : 0 ≤ f_w ∧ f_w ≤ 300) (h8 : 0 ≤ f_w0 ∧ f_w0 ≤ 290) (h9 : 0 ≤ z263 ∧ z263 ≤ 32) (h10 : 0 ≤ z270 ∧ z270 ≤ 300) (h11 : 0 ≤ z400 ∧ z400 ≤ 3) (h12 : 1 ≤ z413 ∧ z413 ≤ 4) (h13 : 0 ≤ z446 ∧ z446 ≤ 300) : (z400 + 1) ≤ 4 := by omega
theorem vc_X12_prefixOut_11 {N f_w f_w0 z263 z270 z400 z413 z446 : Int} (h0 : (5 - z400) < N + 1) (h1 : f_w = f_w0 + 1 + z400) (h2 : z400 ≤ 4) (h3 : z400 < z413) (h4 : f_w0 ≤ 290) (h5 : z270 = f_w0 + 1) (h6 : (z263 + 7) / 8 = z413) (h7 : z446 = f_w + 1) (h8 : 0 ≤ f_w ∧ f_w ≤ 300) (h9 : 0 ≤ f_w0 ∧ f_w0 ≤ 290) (h10 : 0 ≤ z263 ∧ z263 ≤ 32) (h11 : 0 ≤ z270 ∧ z270 ≤ 300) (h12 : 0 ≤ z400 ∧ z400 ≤ 3) (h13 : 1 ≤ z413 ∧ z413 ≤ 4) (h14 : 0 ≤ z446 ∧ z446 ≤ 300) : (5 - (z400 + 1)) < N := by omega
theorem vc_X12_prefixOut_12 {f_w0 z270 : Int} (h0 : f_w0 ≤ 290) (h1 : z270 = f_w0 + 1) (h2 : 0 ≤ f_w0 ∧ f_w0 ≤ 290) (h3 : 0 ≤ z270 ∧ z270 ≤ 300) : (f_w0 + 1) = f_w0 + 1 + (0 : Int) := by omega
theorem vc_X12_prefixOut_13  : ((0 : Int) : Int) ≤ (4 : Int) := by omega
theorem vc_X12_prefixOut_14  : (5 - 0) < ((6 : Nat) : Int) := by omega
set_option maxRecDepth 4000 in
set_option maxHeartbeats 4000000 in
theorem c_X12_prefixOut {l : Launch} {D : va_G} {c : Nat → ClassId} {H0 : Heap} {sa : Nat × Nat × (Nat → Int32)} {w : mW} {μ : mM} (hw : mWF w) (hT : mT w μ) {p1 : Int} (hp1 : 0 ≤ p1 ∧ p1 ≤ 9) {f_w0 : Int} (q_f_w0 : μ 106 104 = f_w0) (hq0 : f_w0 ≤ 290) : sC (gG l D c H0 sa) mX12_prefixOut 2 0 0 [.ref 106, iv p1] (mk w μ) (qV w [106104, 174999] μ (fun μ1 => ∃ o_w : Int, μ1 106 104 = o_w ∧ (o_w ≤ f_w0 + 5) ∧ True)) := by
  refine sC.of rfl (by decide) (le_t rfl) ?_
  have ht_f_w0 : (0 ≤ f_w0 ∧ f_w0 ≤ 300) := by rw [← q_f_w0]; exact hT 106 106 (A_106 hw) 104
  have h1 : 0 ≤ f_w0 ∧ f_w0 ≤ 290 := (vc_X12_prefixOut_1 hq0 ht_f_w0)
  refine mr_lvE (lv' := [(0, .ref 106), (1, iv p1)]) rfl ?_
  refine sv_aload_n (pc := 0) dX12_prefixOut_0 rfl rfl ?_
  refine sv_aload_n (pc := 1) dX12_prefixOut_1 rfl rfl ?_
  refine gf_X12_4 (pc := 2) dX12_prefixOut_2 wF_X12_26 (A_106 hw) hT ?_
  refine mr_iload_n (pc := 5) (z := p1) dX12_prefixOut_5 rfl rfl ?_
  refine la_109 (pc := 6) dX12_prefixOut_6 (A_109 hw) hT (rIx (n := 10) hp1 rfl) fun z263 q264 h265 => ?_
  refine mr_cVV (pc := 7) (c_X12_octet1 hw hT (rW (c := (-2147483648)) (d := 2147483647) h265 rfl) q_f_w0 (vc_X12_prefixOut_2 hq0 h1)) (gOk _ _ _ _ _) dX12_prefixOut_7 (tX12_octet1 _ _ _ _ _) ⟨wV_X12_octet1, wL_X12_octet1⟩ wM_X12_674 (gCX12 _ _ _ _ _) rfl (A_106 hw) rfl ⟨le_t rfl, le_t rfl⟩ ⟨le_t rfl, le_t rfl⟩ rfl (le_t rfl) fun μ266 T267 F268 h269 => ?_
  obtain ⟨z270, q271, h272⟩ := h269
  have h273 : (0 ≤ z270 ∧ z270 ≤ 300) := by rw [← q271]; exact T267 106 106 (A_106 hw) 104
  have q274 : μ266 106 104 = (f_w0 + 1) := q271.trans h272.1
  refine mr_iconst (pc := 10) (z := 0) dX12_prefixOut_10 ?_
  refine mr_istore_n (pc := 11) (lv' := [(2, iv 0), (0, .ref 106), (1, iv p1)]) dX12_prefixOut_11 rfl (by decide) rfl ?_
  have L402 : ∀ (nL402 : Nat) (z400 : Int) (μ401 : mM) (f_w : Int), mT w μ401 → mF [106104, 174999] w μ266 μ401 → μ401 106 (104) = f_w → (0 ≤ z400 ∧ z400 ≤ 4) → (f_w = f_w0 + 1 + z400) → (z400 ≤ 4) → (5 - z400) < (nL402 : Int) → sV (gG l D c H0 sa) mX12_prefixOut (sRm 2 0 0) (sZ (gG l D c H0 sa) 0 0 (qV w [106104, 174999] μ (fun μ1 => ∃ o_w : Int, μ1 106 104 = o_w ∧ (o_w ≤ f_w0 + 5) ∧ True))) 12 [(0, .ref 106), (1, iv p1), (2, iv z400)] [] (mk w μ401) 0 0 := by
    intro nL402
    induction nL402 with
    | zero => intro z400 μ401 f_w T404 F405 q410 h403 h407 h408 h409; exact ((vc_X12_prefixOut_3 h409 h407 h408 hq0 h272.1 h1 h273 h403)).elim
    | succ nL402 ih411 =>
      intro z400 μ401 f_w T404 F405 q410 h403 h407 h408 h409
      have h412 : (0 ≤ f_w ∧ f_w ≤ 300) := by rw [← q410]; exact T404 106 106 (A_106 hw) (104)
      refine mr_iload_n (pc := 12) (z := z400) dX12_prefixOut_12 rfl rfl ?_
      refine sv_aload_n (pc := 13) dX12_prefixOut_13 rfl rfl ?_
      refine gf_X12_4 (pc := 14) dX12_prefixOut_14 wF_X12_26 (A_106 hw) T404 ?_
      refine mr_iload_n (pc := 17) (z := p1) dX12_prefixOut_17 rfl rfl ?_
      refine lk_109 (pc := 18) dX12_prefixOut_18 (A_109 hw) (rIx (n := 10) hp1 rfl) (F405.f (A_109 hw) rfl (F268.f (A_109 hw) rfl q264)) ?_
      refine mr_bipush (pc := 19) (z := 7) dX12_prefixOut_19 (by decide) ?_
      refine mr_iadd (pc := 21) (x := z263) (y := 7) dX12_prefixOut_21 ?_
      refine mr_bipush (pc := 22) (z := 8) dX12_prefixOut_22 (by decide) ?_
      refine mr_idiv (pc := 24) (x := (z263 + 7)) (y := 8) dX12_prefixOut_24 (rW (c := 0) (d := 2147483647) (rAdd (e := 7) (f := 39) h265 (rR (x := 7)) rfl) rfl) vc_X12_prefixOut_4 ?_
      refine mr_gen (P := fun z => 0 ≤ z ∧ z ≤ 4) (rDiv (rAdd (e := 7) (f := 39) h265 (rR (x := 7)) rfl) rfl) fun z413 q414 h415 => ?_
      refine mr_icmp_ge (pc := 25) (tgt := 52) dX12_prefixOut_25 (by decide) (r32 h403 rfl) (r32 h415 rfl) (fun h433 => ?_) (fun h433 => ?_)
      · exact mr_vret dX12_prefixOut_52 rfl (le_t rfl) (le_t rfl) T404 (mF.call (mF.call mF.refl F268 rfl) F405 rfl) ⟨f_w, q410, (vc_X12_prefixOut_5 hq0 h272.1 h407 h408 h433 h412 h1 h273 h403 h415), trivial⟩
      have h434 : 0 ≤ z400 ∧ z400 ≤ 3 := (vc_X12_prefixOut_6 h433 h407 h408 q414 h412 h1 h265 h403 h415)
      have h435 : 1 ≤ z413 ∧ z413 ≤ 4 := (vc_X12_prefixOut_7 h433 h407 h408 q414 h412 h1 h265 h434 h415)
      refine sv_aload_n (pc := 28) dX12_prefixOut_28 rfl rfl ?_
      refine sv_aload_n (pc := 29) dX12_prefixOut_29 rfl rfl ?_
      refine gf_X12_3 (pc := 30) dX12_prefixOut_30 wF_X12_22 (A_106 hw) T404 ?_
      refine mr_iload_n (pc := 33) (z := p1) dX12_prefixOut_33 rfl rfl ?_
      refine la_108 (pc := 34) dX12_prefixOut_34 (A_108 hw) T404 (rIx (n := 10) hp1 rfl) fun z436 q437 h438 => ?_
      refine mr_bipush (pc := 35) (z := 24) dX12_prefixOut_35 (by decide) ?_
      refine mr_bipush (pc := 37) (z := 8) dX12_prefixOut_37 (by decide) ?_
      refine mr_iload_n (pc := 39) (z := z400) dX12_prefixOut_39 rfl rfl ?_
      refine mr_imul (pc := 40) (x := 8) (y := z400) dX12_prefixOut_40 ?_
      refine mr_isub (pc := 41) (x := 24) (y := (8 * z400)) dX12_prefixOut_41 ?_
      refine mr_ishr (pc := 42) (x := z436) (y := (24 - (8 * z400))) dX12_prefixOut_42 ?_
      refine mr_gen (P := fun z => (-2147483648) ≤ z ∧ z ≤ 2147483647) (r32i _) fun z439 q440 h441 => ?_
      refine mr_cVV (pc := 43) (c_X12_octet1 hw T404 h441 q410 (vc_X12_prefixOut_8 h407 hq0 h272.1 h408 h433 h412 h1 h273 h434 h435)) (gOk _ _ _ _ _) dX12_prefixOut_43 (tX12_octet1 _ _ _ _ _) ⟨wV_X12_octet1, wL_X12_octet1⟩ wM_X12_674 (gCX12 _ _ _ _ _) rfl (A_106 hw) rfl ⟨le_t rfl, le_t rfl⟩ ⟨le_t rfl, le_t rfl⟩ rfl (le_t rfl) fun μ442 T443 F444 h445 => ?_
      obtain ⟨z446, q447, h448⟩ := h445
      have h449 : (0 ≤ z446 ∧ z446 ≤ 300) := by rw [← q447]; exact T443 106 106 (A_106 hw) 104
      have q450 : μ442 106 104 = (f_w + 1) := q447.trans h448.1
      refine mr_iinc (pc := 46) (lv' := [(2, iv (z400 + 1)), (0, .ref 106), (1, iv p1)]) dX12_prefixOut_46 rfl (by decide) rfl ?_
      refine sv_goto (pc := 49) (tgt := 12) dX12_prefixOut_49 (by decide) ?_
      refine mr_lvS (lv' := [(0, .ref 106), (1, iv p1), (2, iv (z400 + 1))]) (List.forall_mem_cons.mpr ⟨rfl, List.forall_mem_cons.mpr ⟨rfl, List.forall_mem_cons.mpr ⟨rfl, fun _ h => absurd h List.not_mem_nil⟩⟩⟩) ?_
      exact ih411 (z400 + 1) μ442 (f_w + 1) T443 (mF.call (mF.call mF.refl F405 rfl) F444 rfl) q450 (rW (c := 0) (d := 4) (rAdd (e := 1) (f := 4) h434 (rR (x := 1)) rfl) rfl) (vc_X12_prefixOut_9 hq0 h272.1 h407 h408 h433 h448.1 q414 h412 h1 h265 h273 h434 h435 h449) (vc_X12_prefixOut_10 h407 h408 h433 hq0 h272.1 q414 h448.1 h412 h1 h265 h273 h434 h435 h449) (vc_X12_prefixOut_11 (nS h409) h407 h408 h433 hq0 h272.1 q414 h448.1 h412 h1 h265 h273 h434 h435 h449)
  refine mr_lvS (lv' := [(0, .ref 106), (1, iv p1), (2, iv 0)]) (List.forall_mem_cons.mpr ⟨rfl, List.forall_mem_cons.mpr ⟨rfl, List.forall_mem_cons.mpr ⟨rfl, fun _ h => absurd h List.not_mem_nil⟩⟩⟩) ?_
  exact L402 6 0 μ266 (f_w0 + 1) T267 mF.refl q274 (rW (c := 0) (d := 4) (rR (x := 0)) rfl) (vc_X12_prefixOut_12 hq0 h272.1 h1 h273) vc_X12_prefixOut_13 vc_X12_prefixOut_14
theorem vc_X12_write_1 {p1 z1 z8 : Int} (h0 : z8 = 0) (h1 : (z8 = 1 → 0 ≤ p1 ∧ p1 < z1)) (h2 : (z8 = 0 → p1 < 0 ∨ z1 ≤ p1)) (h3 : (-2147483648) ≤ p1 ∧ p1 ≤ 2147483647) (h4 : 0 ≤ z1 ∧ z1 ≤ 20) (h5 : 0 ≤ z8 ∧ z8 ≤ 1) : 0 ≤ z8 ∧ z8 ≤ 0 := by omega
theorem vc_X12_write_2 {p1 z1 z8 : Int} (h0 : (z8 = 1 → 0 ≤ p1 ∧ p1 < z1)) (h1 : (z8 = 0 → p1 < 0 ∨ z1 ≤ p1)) (h2 : z8 = 0) (h3 : (-2147483648) ≤ p1 ∧ p1 ≤ 2147483647) (h4 : 0 ≤ z1 ∧ z1 ≤ 20) (h5 : 0 ≤ z8 ∧ z8 ≤ 0) : z8 = 0 := by omega
theorem vc_X12_write_3 {p1 z1 z8 : Int} (h0 : ¬ z8 = 0) (h1 : (z8 = 1 → 0 ≤ p1 ∧ p1 < z1)) (h2 : (z8 = 0 → p1 < 0 ∨ z1 ≤ p1)) (h3 : (-2147483648) ≤ p1 ∧ p1 ≤ 2147483647) (h4 : 0 ≤ z1 ∧ z1 ≤ 20) (h5 : 0 ≤ z8 ∧ z8 ≤ 1) : 1 ≤ z8 ∧ z8 ≤ 1 := by omega
theorem vc_X12_write_4 {p1 z1 z8 : Int} (h0 : (z8 = 1 → 0 ≤ p1 ∧ p1 < z1)) (h1 : (z8 = 0 → p1 < 0 ∨ z1 ≤ p1)) (h2 : ¬ z8 = 0) (h3 : (-2147483648) ≤ p1 ∧ p1 ≤ 2147483647) (h4 : 0 ≤ z1 ∧ z1 ≤ 20) (h5 : 1 ≤ z8 ∧ z8 ≤ 1) : z8 = 1 := by omega
theorem vc_X12_write_5 {p1 z1 z8 : Int} (h0 : 0 ≤ p1 ∧ p1 < z1) (h1 : (z8 = 1 → 0 ≤ p1 ∧ p1 < z1)) (h2 : (z8 = 0 → p1 < 0 ∨ z1 ≤ p1)) (h3 : (-2147483648) ≤ p1 ∧ p1 ≤ 2147483647) (h4 : 0 ≤ z1 ∧ z1 ≤ 20) (h5 : 1 ≤ z8 ∧ z8 ≤ 1) : 0 ≤ p1 ∧ p1 ≤ 19 := by omega
theorem vc_X12_write_6 {p1 z1 z8 : Int} (h0 : 0 ≤ p1 ∧ p1 < z1) (h1 : (z8 = 1 → 0 ≤ p1 ∧ p1 < z1)) (h2 : (z8 = 0 → p1 < 0 ∨ z1 ≤ p1)) (h3 : 0 ≤ p1 ∧ p1 ≤ 19) (h4 : 0 ≤ z1 ∧ z1 ≤ 20) (h5 : 1 ≤ z8 ∧ z8 ≤ 1) : 1 ≤ z1 ∧ z1 ≤ 20 := by omega
theorem vc_X12_write_7 {p2 z20 : Int} (h0 : z20 = 0) (h1 : (z20 = 1 → (0 : Int) ≤ p2 ∧ p2 ≤ (1 : Int))) (h2 : (z20 = 0 → p2 < (0 : Int) ∨ (1 : Int) < p2)) (h3 : (-2147483648) ≤ p2 ∧ p2 ≤ 2147483647) (h4 : 0 ≤ z20 ∧ z20 ≤ 1) : 0 ≤ z20 ∧ z20 ≤ 0 := by omega
theorem vc_X12_write_8 {p2 z20 : Int} (h0 : (z20 = 1 → (0 : Int) ≤ p2 ∧ p2 ≤ (1 : Int))) (h1 : (z20 = 0 → p2 < (0 : Int) ∨ (1 : Int) < p2)) (h2 : z20 = 0) (h3 : (-2147483648) ≤ p2 ∧ p2 ≤ 2147483647) (h4 : 0 ≤ z20 ∧ z20 ≤ 0) : z20 = 0 := by omega
theorem vc_X12_write_9 {p2 z20 : Int} (h0 : ¬ z20 = 0) (h1 : (z20 = 1 → (0 : Int) ≤ p2 ∧ p2 ≤ (1 : Int))) (h2 : (z20 = 0 → p2 < (0 : Int) ∨ (1 : Int) < p2)) (h3 : (-2147483648) ≤ p2 ∧ p2 ≤ 2147483647) (h4 : 0 ≤ z20 ∧ z20 ≤ 1) : 1 ≤ z20 ∧ z20 ≤ 1 := by omega
theorem vc_X12_write_10 {p2 z20 : Int} (h0 : (z20 = 1 → (0 : Int) ≤ p2 ∧ p2 ≤ (1 : Int))) (h1 : (z20 = 0 → p2 < (0 : Int) ∨ (1 : Int) < p2)) (h2 : ¬ z20 = 0) (h3 : (-2147483648) ≤ p2 ∧ p2 ≤ 2147483647) (h4 : 1 ≤ z20 ∧ z20 ≤ 1) : z20 = 1 := by omega
theorem vc_X12_write_11 {p2 z20 : Int} (h0 : (0 : Int) ≤ p2 ∧ p2 ≤ (1 : Int)) (h1 : (z20 = 1 → (0 : Int) ≤ p2 ∧ p2 ≤ (1 : Int))) (h2 : (z20 = 0 → p2 < (0 : Int) ∨ (1 : Int) < p2)) (h3 : (-2147483648) ≤ p2 ∧ p2 ≤ 2147483647) (h4 : 1 ≤ z20 ∧ z20 ≤ 1) : 0 ≤ p2 ∧ p2 ≤ 1 := by omega
theorem vc_X12_write_12 {p3 z27 z34 : Int} (h0 : ¬ z34 = 0) (h1 : (z34 = 1 → 0 ≤ p3 ∧ p3 < z27)) (h2 : (z34 = 0 → p3 < 0 ∨ z27 ≤ p3)) (h3 : (-2147483648) ≤ p3 ∧ p3 ≤ 2147483647) (h4 : 0 ≤ z27 ∧ z27 ≤ 10) (h5 : 0 ≤ z34 ∧ z34 ≤ 1) : 1 ≤ z34 ∧ z34 ≤ 1 := by omega
theorem vc_X12_write_13 {p3 z27 z34 : Int} (h0 : (z34 = 1 → 0 ≤ p3 ∧ p3 < z27)) (h1 : (z34 = 0 → p3 < 0 ∨ z27 ≤ p3)) (h2 : ¬ z34 = 0) (h3 : (-2147483648) ≤ p3 ∧ p3 ≤ 2147483647) (h4 : 0 ≤ z27 ∧ z27 ≤ 10) (h5 : 1 ≤ z34 ∧ z34 ≤ 1) : z34 = 1 := by omega
theorem vc_X12_write_14 {p3 z27 z34 : Int} (h0 : 0 ≤ p3 ∧ p3 < z27) (h1 : (z34 = 1 → 0 ≤ p3 ∧ p3 < z27)) (h2 : (z34 = 0 → p3 < 0 ∨ z27 ≤ p3)) (h3 : (-2147483648) ≤ p3 ∧ p3 ≤ 2147483647) (h4 : 0 ≤ z27 ∧ z27 ≤ 10) (h5 : 1 ≤ z34 ∧ z34 ≤ 1) : 0 ≤ p3 ∧ p3 ≤ 9 := by omega
theorem vc_X12_write_15 {p3 z27 z34 : Int} (h0 : 0 ≤ p3 ∧ p3 < z27) (h1 : (z34 = 1 → 0 ≤ p3 ∧ p3 < z27)) (h2 : (z34 = 0 → p3 < 0 ∨ z27 ≤ p3)) (h3 : 0 ≤ p3 ∧ p3 ≤ 9) (h4 : 0 ≤ z27 ∧ z27 ≤ 10) (h5 : 1 ≤ z34 ∧ z34 ≤ 1) : 1 ≤ z27 ∧ z27 ≤ 10 := by omega
theorem vc_X12_write_16 {p1 p2 p3 z1 z20 z27 z34 z44 : Int} (h0 : z44 = (((20 * p1) + (10 * p2)) + p3)) (h1 : 0 ≤ p1 ∧ p1 < z1) (h2 : (z20 = 1 → (0 : Int) ≤ p2 ∧ p2 ≤ (1 : Int))) (h3 : (z20 = 0 → p2 < (0 : Int) ∨ (1 : Int) < p2)) (h4 : (0 : Int) ≤ p2 ∧ p2 ≤ (1 : Int)) (h5 : (z34 = 1 → 0 ≤ p3 ∧ p3 < z27)) (h6 : (z34 = 0 → p3 < 0 ∨ z27 ≤ p3)) (h7 : 0 ≤ p3 ∧ p3 < z27) (h8 : 0 ≤ p1 ∧ p1 ≤ 19) (h9 : 0 ≤ p2 ∧ p2 ≤ 1) (h10 : 0 ≤ p3 ∧ p3 ≤ 9) (h11 : 1 ≤ z1 ∧ z1 ≤ 20) (h12 : 1 ≤ z20 ∧ z20 ≤ 1) (h13 : 1 ≤ z27 ∧ z27 ≤ 10) (h14 : 1 ≤ z34 ∧ z34 ≤ 1) (h15 : 0 ≤ z44 ∧ z44 ≤ 449) : 0 ≤ z44 ∧ z44 ≤ 399 := by omega
theorem vc_X12_write_17 {p1 p2 p3 z1 z20 z27 z34 z44 z8 : Int} (h0 : z44 = (((20 * p1) + (10 * p2)) + p3)) (h1 : (z8 = 1 → 0 ≤ p1 ∧ p1 < z1)) (h2 : (z8 = 0 → p1 < 0 ∨ z1 ≤ p1)) (h3 : 0 ≤ p1 ∧ p1 < z1) (h4 : (z20 = 1 → (0 : Int) ≤ p2 ∧ p2 ≤ (1 : Int))) (h5 : (z20 = 0 → p2 < (0 : Int) ∨ (1 : Int) < p2)) (h6 : (0 : Int) ≤ p2 ∧ p2 ≤ (1 : Int)) (h7 : (z34 = 1 → 0 ≤ p3 ∧ p3 < z27)) (h8 : (z34 = 0 → p3 < 0 ∨ z27 ≤ p3)) (h9 : 0 ≤ p3 ∧ p3 < z27) (h10 : 0 ≤ p1 ∧ p1 ≤ 19) (h11 : 0 ≤ p2 ∧ p2 ≤ 1) (h12 : 0 ≤ p3 ∧ p3 ≤ 9) (h13 : 1 ≤ z1 ∧ z1 ≤ 20) (h14 : 1 ≤ z20 ∧ z20 ≤ 1) (h15 : 1 ≤ z27 ∧ z27 ≤ 10) (h16 : 1 ≤ z34 ∧ z34 ≤ 1) (h17 : 0 ≤ z44 ∧ z44 ≤ 399) (h18 : 1 ≤ z8 ∧ z8 ≤ 1) : (40 * (530 + z44)) % 40 = 0 := by omega
theorem vc_X12_write_18 {z49 : Int} (h0 : 0 ≤ z49) (h1 : (-1) ≤ z49 ∧ z49 ≤ 9) : 0 ≤ z49 ∧ z49 ≤ 9 := by omega
theorem vc_X12_write_19 {p1 p2 p3 z1 z20 z27 z34 z44 z8 : Int} (h0 : z44 = (((20 * p1) + (10 * p2)) + p3)) (h1 : (z8 = 1 → 0 ≤ p1 ∧ p1 < z1)) (h2 : (z8 = 0 → p1 < 0 ∨ z1 ≤ p1)) (h3 : 0 ≤ p1 ∧ p1 < z1) (h4 : (z20 = 1 → (0 : Int) ≤ p2 ∧ p2 ≤ (1 : Int))) (h5 : (z20 = 0 → p2 < (0 : Int) ∨ (1 : Int) < p2)) (h6 : (0 : Int) ≤ p2 ∧ p2 ≤ (1 : Int)) (h7 : (z34 = 1 → 0 ≤ p3 ∧ p3 < z27)) (h8 : (z34 = 0 → p3 < 0 ∨ z27 ≤ p3)) (h9 : 0 ≤ p3 ∧ p3 < z27) (h10 : 0 ≤ p1 ∧ p1 ≤ 19) (h11 : 0 ≤ p2 ∧ p2 ≤ 1) (h12 : 0 ≤ p3 ∧ p3 ≤ 9) (h13 : 1 ≤ z1 ∧ z1 ≤ 20) (h14 : 1 ≤ z20 ∧ z20 ≤ 1) (h15 : 1 ≤ z27 ∧ z27 ≤ 10) (h16 : 1 ≤ z34 ∧ z34 ≤ 1) (h17 : 0 ≤ z44 ∧ z44 ≤ 399) (h18 : 1 ≤ z8 ∧ z8 ≤ 1) : ((40 * (530 + z44)) + 4) % 40 = 4 := by omega
theorem vc_X12_write_20 {p1 p2 p3 z1 z20 z27 z34 z44 z8 : Int} (h0 : z44 = (((20 * p1) + (10 * p2)) + p3)) (h1 : (z8 = 1 → 0 ≤ p1 ∧ p1 < z1)) (h2 : (z8 = 0 → p1 < 0 ∨ z1 ≤ p1)) (h3 : 0 ≤ p1 ∧ p1 < z1) (h4 : (z20 = 1 → (0 : Int) ≤ p2 ∧ p2 ≤ (1 : Int))) (h5 : (z20 = 0 → p2 < (0 : Int) ∨ (1 : Int) < p2)) (h6 : (0 : Int) ≤ p2 ∧ p2 ≤ (1 : Int)) (h7 : (z34 = 1 → 0 ≤ p3 ∧ p3 < z27)) (h8 : (z34 = 0 → p3 < 0 ∨ z27 ≤ p3)) (h9 : 0 ≤ p3 ∧ p3 < z27) (h10 : 0 ≤ p1 ∧ p1 ≤ 19) (h11 : 0 ≤ p2 ∧ p2 ≤ 1) (h12 : 0 ≤ p3 ∧ p3 ≤ 9) (h13 : 1 ≤ z1 ∧ z1 ≤ 20) (h14 : 1 ≤ z20 ∧ z20 ≤ 1) (h15 : 1 ≤ z27 ∧ z27 ≤ 10) (h16 : 1 ≤ z34 ∧ z34 ≤ 1) (h17 : 0 ≤ z44 ∧ z44 ≤ 399) (h18 : 1 ≤ z8 ∧ z8 ≤ 1) : ((40 * (530 + z44)) + 5) % 40 = 5 := by omega
theorem vc_X12_write_21  : ((0 : Int) : Int) ≤ (299 : Int) := by omega
theorem vc_X12_write_22  : (((0 : Int) + (1 : Int)) : Int) ≤ (299 : Int) := by omega
theorem vc_X12_write_23  : ((((0 : Int) + (1 : Int)) + (1 : Int)) : Int) ≤ (299 : Int) := by omega
theorem vc_X12_write_24  : (((((0 : Int) + (1 : Int)) + (1 : Int)) + (1 : Int)) : Int) ≤ (299 : Int) := by omega
theorem vc_X12_write_25  : ((((((0 : Int) + (1 : Int)) + (1 : Int)) + (1 : Int)) + (1 : Int)) : Int) ≤ (299 : Int) := by omega
theorem vc_X12_write_26  : (((((((0 : Int) + (1 : Int)) + (1 : Int)) + (1 : Int)) + (1 : Int)) + (1 : Int)) : Int) ≤ (299 : Int) := by omega
theorem vc_X12_write_27  : ((((((((0 : Int) + (1 : Int)) + (1 : Int)) + (1 : Int)) + (1 : Int)) + (1 : Int)) + (1 : Int)) : Int) ≤ (299 : Int) := by omega
theorem vc_X12_write_28  : (((((((((0 : Int) + (1 : Int)) + (1 : Int)) + (1 : Int)) + (1 : Int)) + (1 : Int)) + (1 : Int)) + (1 : Int)) : Int) ≤ (299 : Int) := by omega
theorem vc_X12_write_29  : ((((((((((0 : Int) + (1 : Int)) + (1 : Int)) + (1 : Int)) + (1 : Int)) + (1 : Int)) + (1 : Int)) + (1 : Int)) + (1 : Int)) : Int) ≤ (299 : Int) := by omega
theorem vc_X12_write_30  : (((((((((((0 : Int) + (1 : Int)) + (1 : Int)) + (1 : Int)) + (1 : Int)) + (1 : Int)) + (1 : Int)) + (1 : Int)) + (1 : Int)) + (1 : Int)) : Int) ≤ (299 : Int) := by omega
theorem vc_X12_write_31  : ((((((((((((0 : Int) + (1 : Int)) + (1 : Int)) + (1 : Int)) + (1 : Int)) + (1 : Int)) + (1 : Int)) + (1 : Int)) + (1 : Int)) + (1 : Int)) + (1 : Int)) : Int) ≤ (299 : Int) := by omega
theorem vc_X12_write_32 {z248 : Int} (h0 : z248 ≤ 100) (h1 : 0 ≤ z248 ∧ z248 ≤ 300) : 0 ≤ z248 ∧ z248 ≤ 100 := by omega
theorem vc_X12_write_33 {z297 : Int} (h0 : z297 ≤ 107) (h1 : 0 ≤ z297 ∧ z297 ≤ 300) : 0 ≤ z297 ∧ z297 ≤ 107 := by omega
theorem vc_X12_write_34 {z59 : Int} (h0 : z59 ≤ 0) (h1 : 0 ≤ z59 ∧ z59 ≤ 8) : 0 ≤ z59 ∧ z59 ≤ 0 := by omega
theorem vc_X12_write_35 {z297 : Int} (h0 : z297 ≤ 107) (h1 : 0 ≤ z297 ∧ z297 ≤ 107) : z297 ≤ 290 := by omega
theorem vc_X12_write_36 {z59 : Int} (h0 : 0 < z59) (h1 : 0 ≤ z59 ∧ z59 ≤ 8) : 1 ≤ z59 ∧ z59 ≤ 8 := by omega
theorem vc_X12_write_37 {z297 : Int} (h0 : z297 ≤ 107) (h1 : 0 ≤ z297 ∧ z297 ≤ 107) : z297 ≤ 299 := by omega
theorem vc_X12_write_38 {z297 z382 : Int} (h0 : z297 ≤ 107) (h1 : z382 = z297 + 1) (h2 : 0 ≤ z297 ∧ z297 ≤ 107) (h3 : 0 ≤ z382 ∧ z382 ≤ 300) : (z297 + 1) ≤ 299 := by omega
theorem vc_X12_write_39 {z297 z382 z391 : Int} (h0 : z297 ≤ 107) (h1 : z382 = z297 + 1) (h2 : z391 = (z297 + 1) + 1) (h3 : 0 ≤ z297 ∧ z297 ≤ 107) (h4 : 0 ≤ z382 ∧ z382 ≤ 300) (h5 : 0 ≤ z391 ∧ z391 ≤ 300) : ((z297 + 1) + 1) ≤ 299 := by omega
theorem vc_X12_write_40 {f_w z655 : Int} (h0 : (9 - z655) < ((0 : Nat) : Int)) (h1 : f_w ≤ 120 + 4 * z655) (h2 : 0 ≤ z655 ∧ z655 ≤ 8) : False := by omega
theorem vc_X12_write_41 {f_w z59 z655 : Int} (h0 : z59 ≤ z655) (h1 : 0 < z59) (h2 : f_w ≤ 120 + 4 * z655) (h3 : 0 ≤ f_w ∧ f_w ≤ 300) (h4 : 1 ≤ z59 ∧ z59 ≤ 8) (h5 : 0 ≤ z655 ∧ z655 ≤ 8) : 1 ≤ z655 ∧ z655 ≤ 8 := by omega
theorem vc_X12_write_42 {f_w z59 z655 : Int} (h0 : f_w ≤ 120 + 4 * z655) (h1 : z59 ≤ z655) (h2 : 0 ≤ f_w ∧ f_w ≤ 300) (h3 : 1 ≤ z59 ∧ z59 ≤ 8) (h4 : 1 ≤ z655 ∧ z655 ≤ 8) : f_w ≤ 290 := by omega
theorem vc_X12_write_43 {f_w z59 z655 : Int} (h0 : z655 < z59) (h1 : 0 < z59) (h2 : f_w ≤ 120 + 4 * z655) (h3 : 0 ≤ f_w ∧ f_w ≤ 300) (h4 : 1 ≤ z59 ∧ z59 ≤ 8) (h5 : 0 ≤ z655 ∧ z655 ≤ 8) : 0 ≤ z655 ∧ z655 ≤ 7 := by omega
theorem vc_X12_write_44 {f_w z44 z59 z655 z692 : Int} (h0 : f_w ≤ 120 + 4 * z655) (h1 : z655 < z59) (h2 : ((((40 * (530 + z44)) + 26) + z655) % 40 = 0 → -1 ≤ z692 ∧ z692 ≤ 9)) (h3 : ((((40 * (530 + z44)) + 26) + z655) % 40 = 4 → 0 ≤ z692 ∧ z692 ≤ 20)) (h4 : ((((40 * (530 + z44)) + 26) + z655) % 40 = 5 → 0 ≤ z692 ∧ z692 ≤ 8)) (h5 : 0 ≤ f_w ∧ f_w ≤ 300) (h6 : 0 ≤ z44 ∧ z44 ≤ 399) (h7 : 1 ≤ z59 ∧ z59 ≤ 8) (h8 : 0 ≤ z655 ∧ z655 ≤ 7) (h9 : (-2147483648) ≤ z692 ∧ z692 ≤ 2147483647) : f_w ≤ 295 := by omega
theorem vc_X12_write_45 {f_w p1 p2 p3 z44 z59 z655 z692 z699 : Int} (h0 : f_w ≤ 120 + 4 * z655) (h1 : z655 < z59) (h2 : ((((40 * (530 + z44)) + 26) + z655) % 40 = 0 → -1 ≤ z692 ∧ z692 ≤ 9)) (h3 : ((((40 * (530 + z44)) + 26) + z655) % 40 = 4 → 0 ≤ z692 ∧ z692 ≤ 20)) (h4 : ((((40 * (530 + z44)) + 26) + z655) % 40 = 5 → 0 ≤ z692 ∧ z692 ≤ 8)) (h5 : z699 = f_w + 4) (h6 : z44 = (((20 * p1) + (10 * p2)) + p3)) (h7 : 0 < z59) (h8 : 0 ≤ f_w ∧ f_w ≤ 300) (h9 : 0 ≤ p1 ∧ p1 ≤ 19) (h10 : 0 ≤ p2 ∧ p2 ≤ 1) (h11 : 0 ≤ p3 ∧ p3 ≤ 9) (h12 : 0 ≤ z44 ∧ z44 ≤ 399) (h13 : 1 ≤ z59 ∧ z59 ≤ 8) (h14 : 0 ≤ z655 ∧ z655 ≤ 7) (h15 : (-2147483648) ≤ z692 ∧ z692 ≤ 2147483647) (h16 : 0 ≤ z699 ∧ z699 ≤ 300) : (f_w + 4) ≤ 120 + 4 * (z655 + 1) := by omega
theorem vc_X12_write_46 {N f_w p1 p2 p3 z44 z59 z655 z692 z699 : Int} (h0 : (9 - z655) < N + 1) (h1 : f_w ≤ 120 + 4 * z655) (h2 : z655 < z59) (h3 : ((((40 * (530 + z44)) + 26) + z655) % 40 = 0 → -1 ≤ z692 ∧ z692 ≤ 9)) (h4 : ((((40 * (530 + z44)) + 26) + z655) % 40 = 4 → 0 ≤ z692 ∧ z692 ≤ 20)) (h5 : ((((40 * (530 + z44)) + 26) + z655) % 40 = 5 → 0 ≤ z692 ∧ z692 ≤ 8)) (h6 : z44 = (((20 * p1) + (10 * p2)) + p3)) (h7 : 0 < z59) (h8 : z699 = f_w + 4) (h9 : 0 ≤ f_w ∧ f_w ≤ 300) (h10 : 0 ≤ p1 ∧ p1 ≤ 19) (h11 : 0 ≤ p2 ∧ p2 ≤ 1) (h12 : 0 ≤ p3 ∧ p3 ≤ 9) (h13 : 0 ≤ z44 ∧ z44 ≤ 399) (h14 : 1 ≤ z59 ∧ z59 ≤ 8) (h15 : 0 ≤ z655 ∧ z655 ≤ 7) (h16 : (-2147483648) ≤ z692 ∧ z692 ≤ 2147483647) (h17 : 0 ≤ z699 ∧ z699 ≤ 300) : (9 - (z655 + 1)) < N := by omega
theorem vc_X12_write_47 {z297 z382 z391 z400 : Int} (h0 : z297 ≤ 107) (h1 : z382 = z297 + 1) (h2 : z391 = (z297 + 1) + 1) (h3 : z400 = ((z297 + 1) + 1) + 1) (h4 : 0 ≤ z297 ∧ z297 ≤ 107) (h5 : 0 ≤ z382 ∧ z382 ≤ 300) (h6 : 0 ≤ z391 ∧ z391 ≤ 300) (h7 : 0 ≤ z400 ∧ z400 ≤ 300) : (((z297 + 1) + 1) + 1) ≤ 120 + 4 * (0 : Int) := by omega
theorem vc_X12_write_48  : (9 - 0) < ((10 : Nat) : Int) := by omega
theorem vc_X12_write_49 {z68 : Int} (h0 : z68 ≤ 0) (h1 : (-2147483648) ≤ z68 ∧ z68 ≤ 2147483647) : (-2147483648) ≤ z68 ∧ z68 ≤ 0 := by omega
theorem vc_X12_write_50 {z248 : Int} (h0 : z248 ≤ 100) (h1 : 0 ≤ z248 ∧ z248 ≤ 100) : z248 ≤ 107 := by omega
theorem vc_X12_write_51 {z68 : Int} (h0 : 0 < z68) (h1 : (-2147483648) ≤ z68 ∧ z68 ≤ 2147483647) : 1 ≤ z68 ∧ z68 ≤ 2147483647 := by omega
theorem vc_X12_write_52 {z248 : Int} (h0 : z248 ≤ 100) (h1 : 0 ≤ z248 ∧ z248 ≤ 100) : z248 ≤ 299 := by omega
theorem vc_X12_write_53 {z248 z711 : Int} (h0 : z248 ≤ 100) (h1 : z711 = z248 + 1) (h2 : 0 ≤ z248 ∧ z248 ≤ 100) (h3 : 0 ≤ z711 ∧ z711 ≤ 300) : (z248 + 1) ≤ 299 := by omega
theorem vc_X12_write_54 {z248 z711 z720 : Int} (h0 : z248 ≤ 100) (h1 : z711 = z248 + 1) (h2 : z720 = (z248 + 1) + 1) (h3 : 0 ≤ z248 ∧ z248 ≤ 100) (h4 : 0 ≤ z711 ∧ z711 ≤ 300) (h5 : 0 ≤ z720 ∧ z720 ≤ 300) : ((z248 + 1) + 1) ≤ 299 := by omega
theorem vc_X12_write_55 {z248 z711 z720 z729 : Int} (h0 : z248 ≤ 100) (h1 : z711 = z248 + 1) (h2 : z720 = (z248 + 1) + 1) (h3 : z729 = ((z248 + 1) + 1) + 1) (h4 : 0 ≤ z248 ∧ z248 ≤ 100) (h5 : 0 ≤ z711 ∧ z711 ≤ 300) (h6 : 0 ≤ z720 ∧ z720 ≤ 300) (h7 : 0 ≤ z729 ∧ z729 ≤ 300) : (((z248 + 1) + 1) + 1) ≤ 295 := by omega
theorem vc_X12_write_56 {z248 z711 z720 z729 z738 : Int} (h0 : z248 ≤ 100) (h1 : z711 = z248 + 1) (h2 : z720 = (z248 + 1) + 1) (h3 : z729 = ((z248 + 1) + 1) + 1) (h4 : z738 = (((z248 + 1) + 1) + 1) + 4) (h5 : 0 ≤ z248 ∧ z248 ≤ 100) (h6 : 0 ≤ z711 ∧ z711 ≤ 300) (h7 : 0 ≤ z720 ∧ z720 ≤ 300) (h8 : 0 ≤ z729 ∧ z729 ≤ 300) (h9 : 0 ≤ z738 ∧ z738 ≤ 300) : ((((z248 + 1) + 1) + 1) + 4) ≤ 107 := by omega
theorem vc_X12_write_57 {z55 : Int} (h0 : z55 ≤ 0) (h1 : 0 ≤ z55 ∧ z55 ≤ 20) : 0 ≤ z55 ∧ z55 ≤ 0 := by omega
theorem vc_X12_write_58  : (((((((((((((0 : Int) + (1 : Int)) + (1 : Int)) + (1 : Int)) + (1 : Int)) + (1 : Int)) + (1 : Int)) + (1 : Int)) + (1 : Int)) + (1 : Int)) + (1 : Int)) + (1 : Int)) : Int) ≤ (100 : Int) := by omega
theorem vc_X12_write_59 {z55 : Int} (h0 : 0 < z55) (h1 : 0 ≤ z55 ∧ z55 ≤ 20) : 1 ≤ z55 ∧ z55 ≤ 20 := by omega
theorem vc_X12_write_60  : (((((((((((((0 : Int) + (1 : Int)) + (1 : Int)) + (1 : Int)) + (1 : Int)) + (1 : Int)) + (1 : Int)) + (1 : Int)) + (1 : Int)) + (1 : Int)) + (1 : Int)) + (1 : Int)) : Int) ≤ (299 : Int) := by omega
theorem vc_X12_write_61  : ((((((((((((((0 : Int) + (1 : Int)) + (1 : Int)) + (1 : Int)) + (1 : Int)) + (1 : Int)) + (1 : Int)) + (1 : Int)) + (1 : Int)) + (1 : Int)) + (1 : Int)) + (1 : Int)) + (1 : Int)) : Int) ≤ (299 : Int) := by omega
theorem vc_X12_write_62 {f_w z1014 : Int} (h0 : (21 - z1014) < ((0 : Nat) : Int)) (h1 : f_w ≤ 20 + 4 * z1014) (h2 : 0 ≤ z1014 ∧ z1014 ≤ 20) : False := by omega
theorem vc_X12_write_63 {f_w z1014 z55 : Int} (h0 : z55 ≤ z1014) (h1 : 0 < z55) (h2 : f_w ≤ 20 + 4 * z1014) (h3 : 0 ≤ f_w ∧ f_w ≤ 300) (h4 : 0 ≤ z1014 ∧ z1014 ≤ 20) (h5 : 1 ≤ z55 ∧ z55 ≤ 20) : 1 ≤ z1014 ∧ z1014 ≤ 20 := by omega
theorem vc_X12_write_64 {f_w z1014 z55 : Int} (h0 : f_w ≤ 20 + 4 * z1014) (h1 : z55 ≤ z1014) (h2 : 0 ≤ f_w ∧ f_w ≤ 300) (h3 : 1 ≤ z1014 ∧ z1014 ≤ 20) (h4 : 1 ≤ z55 ∧ z55 ≤ 20) : f_w ≤ 100 := by omega
theorem vc_X12_write_65 {f_w z1014 z55 : Int} (h0 : z1014 < z55) (h1 : 0 < z55) (h2 : f_w ≤ 20 + 4 * z1014) (h3 : 0 ≤ f_w ∧ f_w ≤ 300) (h4 : 0 ≤ z1014 ∧ z1014 ≤ 20) (h5 : 1 ≤ z55 ∧ z55 ≤ 20) : 0 ≤ z1014 ∧ z1014 ≤ 19 := by omega
theorem vc_X12_write_66 {f_w z1014 z1029 z44 z55 : Int} (h0 : f_w ≤ 20 + 4 * z1014) (h1 : z1014 < z55) (h2 : ((((40 * (530 + z44)) + 6) + z1014) % 40 = 0 → -1 ≤ z1029 ∧ z1029 ≤ 9)) (h3 : ((((40 * (530 + z44)) + 6) + z1014) % 40 = 4 → 0 ≤ z1029 ∧ z1029 ≤ 20)) (h4 : ((((40 * (530 + z44)) + 6) + z1014) % 40 = 5 → 0 ≤ z1029 ∧ z1029 ≤ 8)) (h5 : 0 ≤ f_w ∧ f_w ≤ 300) (h6 : 0 ≤ z1014 ∧ z1014 ≤ 19) (h7 : (-2147483648) ≤ z1029 ∧ z1029 ≤ 2147483647) (h8 : 0 ≤ z44 ∧ z44 ≤ 399) (h9 : 1 ≤ z55 ∧ z55 ≤ 20) : f_w ≤ 295 := by omega
theorem vc_X12_write_67 {f_w p1 p2 p3 z1014 z1029 z1036 z44 z55 : Int} (h0 : f_w ≤ 20 + 4 * z1014) (h1 : z1014 < z55) (h2 : ((((40 * (530 + z44)) + 6) + z1014) % 40 = 0 → -1 ≤ z1029 ∧ z1029 ≤ 9)) (h3 : ((((40 * (530 + z44)) + 6) + z1014) % 40 = 4 → 0 ≤ z1029 ∧ z1029 ≤ 20)) (h4 : ((((40 * (530 + z44)) + 6) + z1014) % 40 = 5 → 0 ≤ z1029 ∧ z1029 ≤ 8)) (h5 : z1036 = f_w + 4) (h6 : z44 = (((20 * p1) + (10 * p2)) + p3)) (h7 : 0 < z55) (h8 : 0 ≤ f_w ∧ f_w ≤ 300) (h9 : 0 ≤ p1 ∧ p1 ≤ 19) (h10 : 0 ≤ p2 ∧ p2 ≤ 1) (h11 : 0 ≤ p3 ∧ p3 ≤ 9) (h12 : 0 ≤ z1014 ∧ z1014 ≤ 19) (h13 : (-2147483648) ≤ z1029 ∧ z1029 ≤ 2147483647) (h14 : 0 ≤ z1036 ∧ z1036 ≤ 300) (h15 : 0 ≤ z44 ∧ z44 ≤ 399) (h16 : 1 ≤ z55 ∧ z55 ≤ 20) : (f_w + 4) ≤ 20 + 4 * (z1014 + 1) := by omega
theorem vc_X12_write_68 {N f_w p1 p2 p3 z1014 z1029 z1036 z44 z55 : Int} (h0 : (21 - z1014) < N + 1) (h1 : f_w ≤ 20 + 4 * z1014) (h2 : z1014 < z55) (h3 : ((((40 * (530 + z44)) + 6) + z1014) % 40 = 0 → -1 ≤ z1029 ∧ z1029 ≤ 9)) (h4 : ((((40 * (530 + z44)) + 6) + z1014) % 40 = 4 → 0 ≤ z1029 ∧ z1029 ≤ 20)) (h5 : ((((40 * (530 + z44)) + 6) + z1014) % 40 = 5 → 0 ≤ z1029 ∧ z1029 ≤ 8)) (h6 : z44 = (((20 * p1) + (10 * p2)) + p3)) (h7 : 0 < z55) (h8 : z1036 = f_w + 4) (h9 : 0 ≤ f_w ∧ f_w ≤ 300) (h10 : 0 ≤ p1 ∧ p1 ≤ 19) (h11 : 0 ≤ p2 ∧ p2 ≤ 1) (h12 : 0 ≤ p3 ∧ p3 ≤ 9) (h13 : 0 ≤ z1014 ∧ z1014 ≤ 19) (h14 : (-2147483648) ≤ z1029 ∧ z1029 ≤ 2147483647) (h15 : 0 ≤ z1036 ∧ z1036 ≤ 300) (h16 : 0 ≤ z44 ∧ z44 ≤ 399) (h17 : 1 ≤ z55 ∧ z55 ≤ 20) : (21 - (z1014 + 1)) < N := by omega
theorem vc_X12_write_69  : (((((((((((((((0 : Int) + (1 : Int)) + (1 : Int)) + (1 : Int)) + (1 : Int)) + (1 : Int)) + (1 : Int)) + (1 : Int)) + (1 : Int)) + (1 : Int)) + (1 : Int)) + (1 : Int)) + (1 : Int)) + (1 : Int)) : Int) ≤ (20 : Int) + (4 : Int) * ((0 : Int) : Int) := by omega
theorem vc_X12_write_70  : (21 - 0) < ((22 : Nat) : Int) := by omega
theorem vc_X12_write_71 {z55 : Int} (h0 : ¬ z55 = 0) (h1 : 0 ≤ z55 ∧ z55 ≤ 20) : 1 ≤ z55 ∧ z55 ≤ 20 := by omega
theorem vc_X12_write_72 {z55 : Int} (h0 : z55 = 0) (h1 : 0 ≤ z55 ∧ z55 ≤ 20) : 0 ≤ z55 ∧ z55 ≤ 0 := by omega
theorem vc_X12_write_73 {z49 : Int} (h0 : z49 < 0) (h1 : (-1) ≤ z49 ∧ z49 ≤ 9) : (-1) ≤ z49 ∧ z49 ≤ (-1) := by omega
theorem vc_X12_write_74  : (0 : Int) < (8 : Int) ∧ (8 : Int) ≤ (2147483647 : Int) := by omega
theorem vc_X12_write_75  : ((((0 : Int) + (1 : Int)) + (1 : Int)) : Int) ≤ (290 : Int) := by omega
theorem vc_X12_write_76 {z1079 : Int} (h0 : z1079 ≤ (((0 + 1) + 1) : Int) + 5) (h1 : 0 ≤ z1079 ∧ z1079 ≤ 300) : z1079 ≤ 299 := by omega
theorem vc_X12_write_77 {z1079 z1087 : Int} (h0 : z1079 ≤ (((0 + 1) + 1) : Int) + 5) (h1 : z1087 = z1079 + 1) (h2 : 0 ≤ z1079 ∧ z1079 ≤ 300) (h3 : 0 ≤ z1087 ∧ z1087 ≤ 300) : (z1079 + 1) ≤ 299 := by omega
theorem vc_X12_write_78 {p3 z27 z34 : Int} (h0 : z34 = 0) (h1 : (z34 = 1 → 0 ≤ p3 ∧ p3 < z27)) (h2 : (z34 = 0 → p3 < 0 ∨ z27 ≤ p3)) (h3 : (-2147483648) ≤ p3 ∧ p3 ≤ 2147483647) (h4 : 0 ≤ z27 ∧ z27 ≤ 10) (h5 : 0 ≤ z34 ∧ z34 ≤ 1) : 0 ≤ z34 ∧ z34 ≤ 0 := by omega
theorem vc_X12_write_79 {p3 z27 z34 : Int} (h0 : (z34 = 1 → 0 ≤ p3 ∧ p3 < z27)) (h1 : (z34 = 0 → p3 < 0 ∨ z27 ≤ p3)) (h2 : z34 = 0) (h3 : (-2147483648) ≤ p3 ∧ p3 ≤ 2147483647) (h4 : 0 ≤ z27 ∧ z27 ≤ 10) (h5 : 0 ≤ z34 ∧ z34 ≤ 0) : z34 = 0 := by omega
set_option maxRecDepth 4000 in
set_option maxHeartbeats 4000000 in
theorem c_X12_write {l : Launch} {D : va_G} {c : Nat → ClassId} {H0 : Heap} {sa : Nat × Nat × (Nat → Int32)} {w : mW} {μ : mM} (hw : mWF w) (hT : mT w μ) {p1 : Int} (hp1 : (-2147483648) ≤ p1 ∧ p1 ≤ 2147483647) {p2 : Int} (hp2 : (-2147483648) ≤ p2 ∧ p2 ≤ 2147483647) {p3 : Int} (hp3 : (-2147483648) ≤ p3 ∧ p3 ≤ 2147483647) : sC (gG l D c H0 sa) mX12_write 3 0 0 [.ref 106, iv p1, iv p2, iv p3] (mk w μ) (qI w [106104, 174999] μ (fun z μ1 => ((-2147483648) ≤ z ∧ z ≤ 2147483647) ∧ True)) := by
  refine sC.of rfl (by decide) (le_t rfl) ?_
  refine mr_lvE (lv' := [(0, .ref 106), (1, iv p1), (2, iv p2), (3, iv p3)]) rfl ?_
  refine sv_aload_n (pc := 0) dX12_write_0 rfl rfl ?_
  refine mr_iload_n (pc := 1) (z := p1) dX12_write_1 rfl rfl ?_
  obtain ⟨z1, q2⟩ : ∃ z, μ 106 6 = z := ⟨_, rfl⟩
  have h3 : (0 ≤ z1 ∧ z1 ≤ 20) := by rw [← q2]; exact hT 106 106 (A_106 hw) 6
  refine mr_cVP (pc := 2) (c_X12_isTie hw hT hp1 q2) (gOk _ _ _ _ _) dX12_write_2 (tX12_isTie _ _ _ _ _) ⟨wV_X12_isTie, wL_X12_isTie⟩ wM_X12_66 (gCX12 _ _ _ _ _) rfl (A_106 hw) rfl ⟨le_t rfl, le_t rfl⟩ ⟨le_t rfl, le_t rfl⟩ rfl (le_t rfl) fun z8 h7 => ?_
  refine mr_if_eq (pc := 5) (tgt := 25) dX12_write_5 (by decide) (r32 h7.1 rfl) (fun h9 => ?_) (fun h9 => ?_)
  · have h10 : 0 ≤ z8 ∧ z8 ≤ 0 := (vc_X12_write_1 h9 h7.2.1 h7.2.2.1 hp1 h3 h7.1)
    have h11 : p1 < 0 ∨ z1 ≤ p1 := (h7.2.2.1 (vc_X12_write_2 h7.2.1 h7.2.2.1 h9 hp1 h3 h10))
    refine mr_iconst (pc := 25) (z := (-1)) dX12_write_25 ?_
    exact mr_iret dX12_write_26 rfl (le_t rfl) (le_t rfl) hT mF.refl ⟨(rW (c := (-2147483648)) (d := 2147483647) (rR (x := (-1))) rfl), trivial⟩
  have h12 : 1 ≤ z8 ∧ z8 ≤ 1 := (vc_X12_write_3 h9 h7.2.1 h7.2.2.1 hp1 h3 h7.1)
  have h13 : 0 ≤ p1 ∧ p1 < z1 := (h7.2.1 (vc_X12_write_4 h7.2.1 h7.2.2.1 h9 hp1 h3 h12))
  have h14 : 0 ≤ p1 ∧ p1 ≤ 19 := (vc_X12_write_5 h13 h7.2.1 h7.2.2.1 hp1 h3 h12)
  have h15 : 1 ≤ z1 ∧ z1 ≤ 20 := (vc_X12_write_6 h13 h7.2.1 h7.2.2.1 h14 h3 h12)
  refine mr_iload_n (pc := 8) (z := p2) dX12_write_8 rfl rfl ?_
  refine mr_iconst (pc := 9) (z := 0) dX12_write_9 ?_
  refine mr_iconst (pc := 10) (z := 1) dX12_write_10 ?_
  refine mr_cSP (pc := 11) (c_X12_in hw hT hp2 (rW (c := (-2147483648)) (d := 2147483647) (rR (x := 0)) rfl) (rW (c := (-2147483648)) (d := 2147483647) (rR (x := 1)) rfl)) (gOk _ _ _ _ _) dX12_write_11 (tX12_in _ _ _ _ _) wS_X12_in wM_X12_18 ⟨le_t rfl, le_t rfl⟩ ⟨le_t rfl, le_t rfl⟩ rfl (le_t rfl) fun z20 h19 => ?_
  refine mr_if_eq (pc := 14) (tgt := 25) dX12_write_14 (by decide) (r32 h19.1 rfl) (fun h21 => ?_) (fun h21 => ?_)
  · have h22 : 0 ≤ z20 ∧ z20 ≤ 0 := (vc_X12_write_7 h21 h19.2.1 h19.2.2.1 hp2 h19.1)
    have h23 : p2 < (0 : Int) ∨ (1 : Int) < p2 := (h19.2.2.1 (vc_X12_write_8 h19.2.1 h19.2.2.1 h21 hp2 h22))
    refine mr_iconst (pc := 25) (z := (-1)) dX12_write_25 ?_
    exact mr_iret dX12_write_26 rfl (le_t rfl) (le_t rfl) hT mF.refl ⟨(rW (c := (-2147483648)) (d := 2147483647) (rR (x := (-1))) rfl), trivial⟩
  have h24 : 1 ≤ z20 ∧ z20 ≤ 1 := (vc_X12_write_9 h21 h19.2.1 h19.2.2.1 hp2 h19.1)
  have h25 : (0 : Int) ≤ p2 ∧ p2 ≤ (1 : Int) := (h19.2.1 (vc_X12_write_10 h19.2.1 h19.2.2.1 h21 hp2 h24))
  have h26 : 0 ≤ p2 ∧ p2 ≤ 1 := (vc_X12_write_11 h25 h19.2.1 h19.2.2.1 hp2 h24)
  refine sv_aload_n (pc := 17) dX12_write_17 rfl rfl ?_
  refine mr_iload_n (pc := 18) (z := p3) dX12_write_18 rfl rfl ?_
  obtain ⟨z27, q28⟩ : ∃ z, μ 106 2 = z := ⟨_, rfl⟩
  have h29 : (0 ≤ z27 ∧ z27 ≤ 10) := by rw [← q28]; exact hT 106 106 (A_106 hw) 2
  refine mr_cVP (pc := 19) (c_X12_isPrefix hw hT hp3 q28) (gOk _ _ _ _ _) dX12_write_19 (tX12_isPrefix _ _ _ _ _) ⟨wV_X12_isPrefix, wL_X12_isPrefix⟩ wM_X12_92 (gCX12 _ _ _ _ _) rfl (A_106 hw) rfl ⟨le_t rfl, le_t rfl⟩ ⟨le_t rfl, le_t rfl⟩ rfl (le_t rfl) fun z34 h33 => ?_
  refine mr_if_ne (pc := 22) (tgt := 27) dX12_write_22 (by decide) (r32 h33.1 rfl) (fun h35 => ?_) (fun h35 => ?_)
  · have h36 : 1 ≤ z34 ∧ z34 ≤ 1 := (vc_X12_write_12 h35 h33.2.1 h33.2.2.1 hp3 h29 h33.1)
    have h37 : 0 ≤ p3 ∧ p3 < z27 := (h33.2.1 (vc_X12_write_13 h33.2.1 h33.2.2.1 h35 hp3 h29 h36))
    have h38 : 0 ≤ p3 ∧ p3 ≤ 9 := (vc_X12_write_14 h37 h33.2.1 h33.2.2.1 hp3 h29 h36)
    have h39 : 1 ≤ z27 ∧ z27 ≤ 10 := (vc_X12_write_15 h37 h33.2.1 h33.2.2.1 h38 h29 h36)
    refine mr_bipush (pc := 27) (z := 40) dX12_write_27 (by decide) ?_
    refine mr_sipush (pc := 29) (z := 530) dX12_write_29 (by decide) ?_
    refine mr_iload_n (pc := 32) (z := p1) dX12_write_32 rfl rfl ?_
    refine mr_iload_n (pc := 33) (z := p2) dX12_write_33 rfl rfl ?_
    refine mr_iload_n (pc := 34) (z := p3) dX12_write_34 rfl rfl ?_
    refine mr_cSP (pc := 35) (c_X12_slot hw hT (rW (c := 0) (d := 20) h14 rfl) (rW (c := 0) (d := 2) h26 rfl) h38) (gOk _ _ _ _ _) dX12_write_35 (tX12_slot _ _ _ _ _) wS_X12_slot wM_X12_545 ⟨le_t rfl, le_t rfl⟩ ⟨le_t rfl, le_t rfl⟩ rfl (le_t rfl) fun z44 h43 => ?_
    have h45 : 0 ≤ z44 ∧ z44 ≤ 399 := (vc_X12_write_16 h43.2.1 h13 h19.2.1 h19.2.2.1 h25 h33.2.1 h33.2.2.1 h37 h14 h26 h38 h15 h24 h39 h36 h43.1)
    refine mr_iadd (pc := 38) (x := 530) (y := z44) dX12_write_38 ?_
    refine mr_imul (pc := 39) (x := 40) (y := (530 + z44)) dX12_write_39 ?_
    refine mr_istore (pc := 40) (lv' := [(4, iv (40 * (530 + z44))), (0, .ref 106), (1, iv p1), (2, iv p2), (3, iv p3)]) dX12_write_40 (by decide) rfl ?_
    refine sv_aload_n (pc := 42) dX12_write_42 rfl rfl ?_
    refine mr_iconst (pc := 43) (z := 0) dX12_write_43 ?_
    refine pf_X12_104 (pc := 44) dX12_write_44 wF_X12_671 (A_106 hw) hT (rW (c := 0) (d := 300) (rR (x := 0)) rfl) fun μ46 u47 T48 => ?_
    refine sv_aload_n (pc := 47) dX12_write_47 rfl rfl ?_
    refine gf_X12_32 (pc := 48) dX12_write_48 wF_X12_148 (A_106 hw) T48 ?_
    refine mr_iload (pc := 51) (z := (40 * (530 + z44))) dX12_write_51 rfl ?_
    refine la_126 (pc := 53) dX12_write_53 (A_126 hw) T48 (rIx (n := 84000) (rMulL (n := 40) (e := 21200) (f := 37160) (rAdd (e := 530) (f := 929) (rR (x := 530)) h45 rfl) rfl) rfl) fun z49 q50 h51 => ?_
    have h52 : (-1) ≤ z49 ∧ z49 ≤ 9 := h51.2.1 (vc_X12_write_17 h43.2.1 h7.2.1 h7.2.2.1 h13 h19.2.1 h19.2.2.1 h25 h33.2.1 h33.2.2.1 h37 h14 h26 h38 h15 h24 h39 h36 h45 h12)
    refine mr_if_ge (pc := 54) (tgt := 100) dX12_write_54 (by decide) (r32 h52 rfl) (fun h53 => ?_) (fun h53 => ?_)
    · have h54 : 0 ≤ z49 ∧ z49 ≤ 9 := (vc_X12_write_18 h53 h52)
      refine sv_aload_n (pc := 100) dX12_write_100 rfl rfl ?_
      refine gf_X12_32 (pc := 101) dX12_write_101 wF_X12_148 (A_106 hw) T48 ?_
      refine mr_iload (pc := 104) (z := (40 * (530 + z44))) dX12_write_104 rfl ?_
      refine mr_iconst (pc := 106) (z := 4) dX12_write_106 ?_
      refine mr_iadd (pc := 107) (x := (40 * (530 + z44))) (y := 4) dX12_write_107 ?_
      refine la_126 (pc := 108) dX12_write_108 (A_126 hw) T48 (rIx (n := 84000) (rAdd (e := 21204) (f := 37164) (rMulL (n := 40) (e := 21200) (f := 37160) (rAdd (e := 530) (f := 929) (rR (x := 530)) h45 rfl) rfl) (rR (x := 4)) rfl) rfl) fun z55 q56 h57 => ?_
      have h58 : 0 ≤ z55 ∧ z55 ≤ 20 := h57.2.2.1 (vc_X12_write_19 h43.2.1 h7.2.1 h7.2.2.1 h13 h19.2.1 h19.2.2.1 h25 h33.2.1 h33.2.2.1 h37 h14 h26 h38 h15 h24 h39 h36 h45 h12)
      refine mr_istore (pc := 109) (lv' := [(5, iv z55), (4, iv (40 * (530 + z44))), (0, .ref 106), (1, iv p1), (2, iv p2), (3, iv p3)]) dX12_write_109 (by decide) rfl ?_
      refine sv_aload_n (pc := 111) dX12_write_111 rfl rfl ?_
      refine gf_X12_32 (pc := 112) dX12_write_112 wF_X12_148 (A_106 hw) T48 ?_
      refine mr_iload (pc := 115) (z := (40 * (530 + z44))) dX12_write_115 rfl ?_
      refine mr_iconst (pc := 117) (z := 5) dX12_write_117 ?_
      refine mr_iadd (pc := 118) (x := (40 * (530 + z44))) (y := 5) dX12_write_118 ?_
      refine la_126 (pc := 119) dX12_write_119 (A_126 hw) T48 (rIx (n := 84000) (rAdd (e := 21205) (f := 37165) (rMulL (n := 40) (e := 21200) (f := 37160) (rAdd (e := 530) (f := 929) (rR (x := 530)) h45 rfl) rfl) (rR (x := 5)) rfl) rfl) fun z59 q60 h61 => ?_
      have h62 : 0 ≤ z59 ∧ z59 ≤ 8 := h61.2.2.2 (vc_X12_write_20 h43.2.1 h7.2.1 h7.2.2.1 h13 h19.2.1 h19.2.2.1 h25 h33.2.1 h33.2.2.1 h37 h14 h26 h38 h15 h24 h39 h36 h45 h12)
      refine mr_istore (pc := 120) (lv' := [(6, iv z59), (5, iv z55), (4, iv (40 * (530 + z44))), (0, .ref 106), (1, iv p1), (2, iv p2), (3, iv p3)]) dX12_write_120 (by decide) rfl ?_
      refine mr_iload (pc := 122) (z := z55) dX12_write_122 rfl ?_
      have J67 : ∀ (z65 : Int), ((0 ≤ z65 ∧ z65 ≤ 82)) → sV (gG l D c H0 sa) mX12_write (sRm 3 0 0) (sZ (gG l D c H0 sa) 0 0 (qI w [106104, 174999] μ (fun z μ1 => ((-2147483648) ≤ z ∧ z ≤ 2147483647) ∧ True))) 137 [(0, .ref 106), (3, iv p3), (4, iv (40 * (530 + z44))), (5, iv z55), (6, iv z59)] [iv z65] (mk w μ46) 0 0 := by
        intro z65 h66
        refine mr_istore (pc := 137) (lv' := [(7, iv z65), (0, .ref 106), (3, iv p3), (4, iv (40 * (530 + z44))), (5, iv z55), (6, iv z59)]) dX12_write_137 (by decide) rfl ?_
        refine mr_bipush (pc := 139) (z := 7) dX12_write_139 (by decide) ?_
        refine mr_iload (pc := 141) (z := z65) dX12_write_141 rfl ?_
        refine mr_iadd (pc := 143) (x := 7) (y := z65) dX12_write_143 ?_
        refine sv_aload_n (pc := 144) dX12_write_144 rfl rfl ?_
        refine gf_X12_32 (pc := 145) dX12_write_145 wF_X12_148 (A_106 hw) T48 ?_
        refine mr_iload (pc := 148) (z := (40 * (530 + z44))) dX12_write_148 rfl ?_
        refine mr_iconst (pc := 150) (z := 3) dX12_write_150 ?_
        refine mr_iadd (pc := 151) (x := (40 * (530 + z44))) (y := 3) dX12_write_151 ?_
        refine la_126 (pc := 152) dX12_write_152 (A_126 hw) T48 (rIx (n := 84000) (rAdd (e := 21203) (f := 37163) (rMulL (n := 40) (e := 21200) (f := 37160) (rAdd (e := 530) (f := 929) (rR (x := 530)) h45 rfl) rfl) (rR (x := 3)) rfl) rfl) fun z68 q69 h70 => ?_
        have J75 : ∀ (z73 : Int), ((0 ≤ z73 ∧ z73 ≤ 7)) → sV (gG l D c H0 sa) mX12_write (sRm 3 0 0) (sZ (gG l D c H0 sa) 0 0 (qI w [106104, 174999] μ (fun z μ1 => ((-2147483648) ≤ z ∧ z ≤ 2147483647) ∧ True))) 162 [(0, .ref 106), (3, iv p3), (4, iv (40 * (530 + z44))), (5, iv z55), (6, iv z59), (7, iv z65)] [iv z73, iv (7 + z65)] (mk w μ46) 0 0 := by
          intro z73 h74
          refine mr_iadd (pc := 162) (x := (7 + z65)) (y := z73) dX12_write_162 ?_
          refine mr_iload (pc := 163) (z := z59) dX12_write_163 rfl ?_
          have J80 : ∀ (z78 : Int), ((0 ≤ z78 ∧ z78 ≤ 35)) → sV (gG l D c H0 sa) mX12_write (sRm 3 0 0) (sZ (gG l D c H0 sa) 0 0 (qI w [106104, 174999] μ (fun z μ1 => ((-2147483648) ≤ z ∧ z ≤ 2147483647) ∧ True))) 178 [(0, .ref 106), (3, iv p3), (4, iv (40 * (530 + z44))), (5, iv z55), (6, iv z59), (7, iv z65)] [iv z78, iv ((7 + z65) + z73)] (mk w μ46) 0 0 := by
            intro z78 h79
            refine mr_iadd (pc := 178) (x := ((7 + z65) + z73)) (y := z78) dX12_write_178 ?_
            refine mr_istore (pc := 179) (lv' := [(8, iv (((7 + z65) + z73) + z78)), (0, .ref 106), (3, iv p3), (4, iv (40 * (530 + z44))), (5, iv z55), (6, iv z59), (7, iv z65)]) dX12_write_179 (by decide) rfl ?_
            refine sv_aload_n (pc := 181) dX12_write_181 rfl rfl ?_
            refine mr_iconst (pc := 182) (z := 0) dX12_write_182 ?_
            refine mr_cVV (pc := 183) (c_X12_octet1 hw T48 (rW (c := (-2147483648)) (d := 2147483647) (rR (x := 0)) rfl) u47.1 vc_X12_write_21) (gOk _ _ _ _ _) dX12_write_183 (tX12_octet1 _ _ _ _ _) ⟨wV_X12_octet1, wL_X12_octet1⟩ wM_X12_674 (gCX12 _ _ _ _ _) rfl (A_106 hw) rfl ⟨le_t rfl, le_t rfl⟩ ⟨le_t rfl, le_t rfl⟩ rfl (le_t rfl) fun μ81 T82 F83 h84 => ?_
            obtain ⟨z85, q86, h87⟩ := h84
            have h88 : (0 ≤ z85 ∧ z85 ≤ 300) := by rw [← q86]; exact T82 106 106 (A_106 hw) 104
            have q89 : μ81 106 104 = (0 + 1) := q86.trans h87.1
            refine sv_aload_n (pc := 186) dX12_write_186 rfl rfl ?_
            refine mr_iconst (pc := 187) (z := 0) dX12_write_187 ?_
            refine mr_cVV (pc := 188) (c_X12_octet1 hw T82 (rW (c := (-2147483648)) (d := 2147483647) (rR (x := 0)) rfl) q89 vc_X12_write_22) (gOk _ _ _ _ _) dX12_write_188 (tX12_octet1 _ _ _ _ _) ⟨wV_X12_octet1, wL_X12_octet1⟩ wM_X12_674 (gCX12 _ _ _ _ _) rfl (A_106 hw) rfl ⟨le_t rfl, le_t rfl⟩ ⟨le_t rfl, le_t rfl⟩ rfl (le_t rfl) fun μ90 T91 F92 h93 => ?_
            obtain ⟨z94, q95, h96⟩ := h93
            have h97 : (0 ≤ z94 ∧ z94 ≤ 300) := by rw [← q95]; exact T91 106 106 (A_106 hw) 104
            have q98 : μ90 106 104 = ((0 + 1) + 1) := q95.trans h96.1
            refine sv_aload_n (pc := 191) dX12_write_191 rfl rfl ?_
            refine mr_iload (pc := 192) (z := (((7 + z65) + z73) + z78)) dX12_write_192 rfl ?_
            refine mr_bipush (pc := 194) (z := 8) dX12_write_194 (by decide) ?_
            refine mr_ishr (pc := 196) (x := (((7 + z65) + z73) + z78)) (y := 8) dX12_write_196 ?_
            refine mr_gen (P := fun z => (-2147483648) ≤ z ∧ z ≤ 2147483647) (r32i _) fun z99 q100 h101 => ?_
            refine mr_cVV (pc := 197) (c_X12_octet1 hw T91 h101 q98 vc_X12_write_23) (gOk _ _ _ _ _) dX12_write_197 (tX12_octet1 _ _ _ _ _) ⟨wV_X12_octet1, wL_X12_octet1⟩ wM_X12_674 (gCX12 _ _ _ _ _) rfl (A_106 hw) rfl ⟨le_t rfl, le_t rfl⟩ ⟨le_t rfl, le_t rfl⟩ rfl (le_t rfl) fun μ102 T103 F104 h105 => ?_
            obtain ⟨z106, q107, h108⟩ := h105
            have h109 : (0 ≤ z106 ∧ z106 ≤ 300) := by rw [← q107]; exact T103 106 106 (A_106 hw) 104
            have q110 : μ102 106 104 = (((0 + 1) + 1) + 1) := q107.trans h108.1
            refine sv_aload_n (pc := 200) dX12_write_200 rfl rfl ?_
            refine mr_iload (pc := 201) (z := (((7 + z65) + z73) + z78)) dX12_write_201 rfl ?_
            refine mr_cVV (pc := 203) (c_X12_octet1 hw T103 (rW (c := (-2147483648)) (d := 2147483647) (rAdd (e := 7) (f := 131) (rAdd (e := 7) (f := 96) (rAdd (e := 7) (f := 89) (rR (x := 7)) h66 rfl) h74 rfl) h79 rfl) rfl) q110 vc_X12_write_24) (gOk _ _ _ _ _) dX12_write_203 (tX12_octet1 _ _ _ _ _) ⟨wV_X12_octet1, wL_X12_octet1⟩ wM_X12_674 (gCX12 _ _ _ _ _) rfl (A_106 hw) rfl ⟨le_t rfl, le_t rfl⟩ ⟨le_t rfl, le_t rfl⟩ rfl (le_t rfl) fun μ111 T112 F113 h114 => ?_
            obtain ⟨z115, q116, h117⟩ := h114
            have h118 : (0 ≤ z115 ∧ z115 ≤ 300) := by rw [← q116]; exact T112 106 106 (A_106 hw) 104
            have q119 : μ111 106 104 = ((((0 + 1) + 1) + 1) + 1) := q116.trans h117.1
            refine sv_aload_n (pc := 206) dX12_write_206 rfl rfl ?_
            refine mr_bipush (pc := 207) (z := 64) dX12_write_207 (by decide) ?_
            refine mr_cVV (pc := 209) (c_X12_octet1 hw T112 (rW (c := (-2147483648)) (d := 2147483647) (rR (x := 64)) rfl) q119 vc_X12_write_25) (gOk _ _ _ _ _) dX12_write_209 (tX12_octet1 _ _ _ _ _) ⟨wV_X12_octet1, wL_X12_octet1⟩ wM_X12_674 (gCX12 _ _ _ _ _) rfl (A_106 hw) rfl ⟨le_t rfl, le_t rfl⟩ ⟨le_t rfl, le_t rfl⟩ rfl (le_t rfl) fun μ120 T121 F122 h123 => ?_
            obtain ⟨z124, q125, h126⟩ := h123
            have h127 : (0 ≤ z124 ∧ z124 ≤ 300) := by rw [← q125]; exact T121 106 106 (A_106 hw) 104
            have q128 : μ120 106 104 = (((((0 + 1) + 1) + 1) + 1) + 1) := q125.trans h126.1
            refine sv_aload_n (pc := 212) dX12_write_212 rfl rfl ?_
            refine mr_iconst (pc := 213) (z := 1) dX12_write_213 ?_
            refine mr_cVV (pc := 214) (c_X12_octet1 hw T121 (rW (c := (-2147483648)) (d := 2147483647) (rR (x := 1)) rfl) q128 vc_X12_write_26) (gOk _ _ _ _ _) dX12_write_214 (tX12_octet1 _ _ _ _ _) ⟨wV_X12_octet1, wL_X12_octet1⟩ wM_X12_674 (gCX12 _ _ _ _ _) rfl (A_106 hw) rfl ⟨le_t rfl, le_t rfl⟩ ⟨le_t rfl, le_t rfl⟩ rfl (le_t rfl) fun μ129 T130 F131 h132 => ?_
            obtain ⟨z133, q134, h135⟩ := h132
            have h136 : (0 ≤ z133 ∧ z133 ≤ 300) := by rw [← q134]; exact T130 106 106 (A_106 hw) 104
            have q137 : μ129 106 104 = ((((((0 + 1) + 1) + 1) + 1) + 1) + 1) := q134.trans h135.1
            refine sv_aload_n (pc := 217) dX12_write_217 rfl rfl ?_
            refine mr_iconst (pc := 218) (z := 1) dX12_write_218 ?_
            refine mr_cVV (pc := 219) (c_X12_octet1 hw T130 (rW (c := (-2147483648)) (d := 2147483647) (rR (x := 1)) rfl) q137 vc_X12_write_27) (gOk _ _ _ _ _) dX12_write_219 (tX12_octet1 _ _ _ _ _) ⟨wV_X12_octet1, wL_X12_octet1⟩ wM_X12_674 (gCX12 _ _ _ _ _) rfl (A_106 hw) rfl ⟨le_t rfl, le_t rfl⟩ ⟨le_t rfl, le_t rfl⟩ rfl (le_t rfl) fun μ138 T139 F140 h141 => ?_
            obtain ⟨z142, q143, h144⟩ := h141
            have h145 : (0 ≤ z142 ∧ z142 ≤ 300) := by rw [← q143]; exact T139 106 106 (A_106 hw) 104
            have q146 : μ138 106 104 = (((((((0 + 1) + 1) + 1) + 1) + 1) + 1) + 1) := q143.trans h144.1
            refine sv_aload_n (pc := 222) dX12_write_222 rfl rfl ?_
            refine sv_aload_n (pc := 223) dX12_write_223 rfl rfl ?_
            refine gf_X12_32 (pc := 224) dX12_write_224 wF_X12_148 (A_106 hw) T139 ?_
            refine mr_iload (pc := 227) (z := (40 * (530 + z44))) dX12_write_227 rfl ?_
            refine mr_iconst (pc := 229) (z := 2) dX12_write_229 ?_
            refine mr_iadd (pc := 230) (x := (40 * (530 + z44))) (y := 2) dX12_write_230 ?_
            refine la_126 (pc := 231) dX12_write_231 (A_126 hw) T139 (rIx (n := 84000) (rAdd (e := 21202) (f := 37162) (rMulL (n := 40) (e := 21200) (f := 37160) (rAdd (e := 530) (f := 929) (rR (x := 530)) h45 rfl) rfl) (rR (x := 2)) rfl) rfl) fun z147 q148 h149 => ?_
            refine mr_cVV (pc := 232) (c_X12_octet1 hw T139 h149.1 q146 vc_X12_write_28) (gOk _ _ _ _ _) dX12_write_232 (tX12_octet1 _ _ _ _ _) ⟨wV_X12_octet1, wL_X12_octet1⟩ wM_X12_674 (gCX12 _ _ _ _ _) rfl (A_106 hw) rfl ⟨le_t rfl, le_t rfl⟩ ⟨le_t rfl, le_t rfl⟩ rfl (le_t rfl) fun μ150 T151 F152 h153 => ?_
            obtain ⟨z154, q155, h156⟩ := h153
            have h157 : (0 ≤ z154 ∧ z154 ≤ 300) := by rw [← q155]; exact T151 106 106 (A_106 hw) 104
            have q158 : μ150 106 104 = ((((((((0 + 1) + 1) + 1) + 1) + 1) + 1) + 1) + 1) := q155.trans h156.1
            refine sv_aload_n (pc := 235) dX12_write_235 rfl rfl ?_
            refine mr_bipush (pc := 236) (z := 64) dX12_write_236 (by decide) ?_
            refine mr_cVV (pc := 238) (c_X12_octet1 hw T151 (rW (c := (-2147483648)) (d := 2147483647) (rR (x := 64)) rfl) q158 vc_X12_write_29) (gOk _ _ _ _ _) dX12_write_238 (tX12_octet1 _ _ _ _ _) ⟨wV_X12_octet1, wL_X12_octet1⟩ wM_X12_674 (gCX12 _ _ _ _ _) rfl (A_106 hw) rfl ⟨le_t rfl, le_t rfl⟩ ⟨le_t rfl, le_t rfl⟩ rfl (le_t rfl) fun μ159 T160 F161 h162 => ?_
            obtain ⟨z163, q164, h165⟩ := h162
            have h166 : (0 ≤ z163 ∧ z163 ≤ 300) := by rw [← q164]; exact T160 106 106 (A_106 hw) 104
            have q167 : μ159 106 104 = (((((((((0 + 1) + 1) + 1) + 1) + 1) + 1) + 1) + 1) + 1) := q164.trans h165.1
            refine sv_aload_n (pc := 241) dX12_write_241 rfl rfl ?_
            refine mr_iconst (pc := 242) (z := 2) dX12_write_242 ?_
            refine mr_cVV (pc := 243) (c_X12_octet1 hw T160 (rW (c := (-2147483648)) (d := 2147483647) (rR (x := 2)) rfl) q167 vc_X12_write_30) (gOk _ _ _ _ _) dX12_write_243 (tX12_octet1 _ _ _ _ _) ⟨wV_X12_octet1, wL_X12_octet1⟩ wM_X12_674 (gCX12 _ _ _ _ _) rfl (A_106 hw) rfl ⟨le_t rfl, le_t rfl⟩ ⟨le_t rfl, le_t rfl⟩ rfl (le_t rfl) fun μ168 T169 F170 h171 => ?_
            obtain ⟨z172, q173, h174⟩ := h171
            have h175 : (0 ≤ z172 ∧ z172 ≤ 300) := by rw [← q173]; exact T169 106 106 (A_106 hw) 104
            have q176 : μ168 106 104 = ((((((((((0 + 1) + 1) + 1) + 1) + 1) + 1) + 1) + 1) + 1) + 1) := q173.trans h174.1
            refine sv_aload_n (pc := 246) dX12_write_246 rfl rfl ?_
            refine mr_iload (pc := 247) (z := z65) dX12_write_247 rfl ?_
            refine mr_cVV (pc := 249) (c_X12_octet1 hw T169 (rW (c := (-2147483648)) (d := 2147483647) h66 rfl) q176 vc_X12_write_31) (gOk _ _ _ _ _) dX12_write_249 (tX12_octet1 _ _ _ _ _) ⟨wV_X12_octet1, wL_X12_octet1⟩ wM_X12_674 (gCX12 _ _ _ _ _) rfl (A_106 hw) rfl ⟨le_t rfl, le_t rfl⟩ ⟨le_t rfl, le_t rfl⟩ rfl (le_t rfl) fun μ177 T178 F179 h180 => ?_
            obtain ⟨z181, q182, h183⟩ := h180
            have h184 : (0 ≤ z181 ∧ z181 ≤ 300) := by rw [← q182]; exact T178 106 106 (A_106 hw) 104
            have q185 : μ177 106 104 = (((((((((((0 + 1) + 1) + 1) + 1) + 1) + 1) + 1) + 1) + 1) + 1) + 1) := q182.trans h183.1
            refine mr_iload (pc := 252) (z := z55) dX12_write_252 rfl ?_
            have J247 : ∀ (μ242 : mM), (mT w μ242) → (mF [106104, 174999] w μ177 μ242) → (μ242 106 104 ≤ 100) → sV (gG l D c H0 sa) mX12_write (sRm 3 0 0) (sZ (gG l D c H0 sa) 0 0 (qI w [106104, 174999] μ (fun z μ1 => ((-2147483648) ≤ z ∧ z ≤ 2147483647) ∧ True))) 301 [(0, .ref 106), (3, iv p3), (4, iv (40 * (530 + z44))), (6, iv z59)] [] (mk w μ242) 0 0 := by
              intro μ242 T243 F244 h246
              obtain ⟨z248, q249⟩ : ∃ z, μ242 106 104 = z := ⟨_, rfl⟩
              have h250 : (0 ≤ z248 ∧ z248 ≤ 300) := by rw [← q249]; exact T243 106 106 (A_106 hw) 104
              have h251 : z248 ≤ 100 := q249 ▸ h246
              have h252 : 0 ≤ z248 ∧ z248 ≤ 100 := (vc_X12_write_32 h251 h250)
              refine sv_aload_n (pc := 301) dX12_write_301 rfl rfl ?_
              refine gf_X12_32 (pc := 302) dX12_write_302 wF_X12_148 (A_106 hw) T243 ?_
              refine mr_iload (pc := 305) (z := (40 * (530 + z44))) dX12_write_305 rfl ?_
              refine mr_iconst (pc := 307) (z := 3) dX12_write_307 ?_
              refine mr_iadd (pc := 308) (x := (40 * (530 + z44))) (y := 3) dX12_write_308 ?_
              refine lk_126 (pc := 309) dX12_write_309 (A_126 hw) (rIx (n := 84000) (rAdd (e := 21203) (f := 37163) (rMulL (n := 40) (e := 21200) (f := 37160) (rAdd (e := 530) (f := 929) (rR (x := 530)) h45 rfl) rfl) (rR (x := 3)) rfl) rfl) (F244.f (A_126 hw) rfl (F179.f (A_126 hw) rfl (F170.f (A_126 hw) rfl (F161.f (A_126 hw) rfl (F152.f (A_126 hw) rfl (F140.f (A_126 hw) rfl (F131.f (A_126 hw) rfl (F122.f (A_126 hw) rfl (F113.f (A_126 hw) rfl (F104.f (A_126 hw) rfl (F92.f (A_126 hw) rfl (F83.f (A_126 hw) rfl q69)))))))))))) ?_
              have J296 : ∀ (μ291 : mM), (mT w μ291) → (mF [106104, 174999] w μ242 μ291) → (μ291 106 104 ≤ 107) → sV (gG l D c H0 sa) mX12_write (sRm 3 0 0) (sZ (gG l D c H0 sa) 0 0 (qI w [106104, 174999] μ (fun z μ1 => ((-2147483648) ≤ z ∧ z ≤ 2147483647) ∧ True))) 343 [(0, .ref 106), (3, iv p3), (4, iv (40 * (530 + z44))), (6, iv z59)] [] (mk w μ291) 0 0 := by
                intro μ291 T292 F293 h295
                obtain ⟨z297, q298⟩ : ∃ z, μ291 106 104 = z := ⟨_, rfl⟩
                have h299 : (0 ≤ z297 ∧ z297 ≤ 300) := by rw [← q298]; exact T292 106 106 (A_106 hw) 104
                have h300 : z297 ≤ 107 := q298 ▸ h295
                have h301 : 0 ≤ z297 ∧ z297 ≤ 107 := (vc_X12_write_33 h300 h299)
                refine mr_iload (pc := 343) (z := z59) dX12_write_343 rfl ?_
                refine mr_if_le (pc := 345) (tgt := 402) dX12_write_345 (by decide) (r32 h62 rfl) (fun h367 => ?_) (fun h367 => ?_)
                · have h368 : 0 ≤ z59 ∧ z59 ≤ 0 := (vc_X12_write_34 h367 h62)
                  refine sv_aload_n (pc := 402) dX12_write_402 rfl rfl ?_
                  refine mr_iload_n (pc := 403) (z := p3) dX12_write_403 rfl rfl ?_
                  refine mr_cVV (pc := 404) (c_X12_prefixOut hw T292 h38 q298 (vc_X12_write_35 h300 h301)) (gOk _ _ _ _ _) dX12_write_404 (tX12_prefixOut _ _ _ _ _) ⟨wV_X12_prefixOut, wL_X12_prefixOut⟩ wM_X12_677 (gCX12 _ _ _ _ _) rfl (A_106 hw) rfl ⟨le_t rfl, le_t rfl⟩ ⟨le_t rfl, le_t rfl⟩ rfl (le_t rfl) fun μ369 T370 F371 h372 => ?_
                  obtain ⟨z373, q374, h375⟩ := h372
                  have h376 : (0 ≤ z373 ∧ z373 ≤ 300) := by rw [← q374]; exact T370 106 106 (A_106 hw) 104
                  refine sv_aload_n (pc := 407) dX12_write_407 rfl rfl ?_
                  refine gk_X12_104 (pc := 408) dX12_write_408 wF_X12_671 (A_106 hw) q374 ?_
                  exact mr_iret dX12_write_411 rfl (le_t rfl) (le_t rfl) T370 (mF.call (mF.call (mF.call (mF.call (mF.call (mF.call (mF.call (mF.call (mF.call (mF.call (mF.call (mF.call (mF.call (mF.call (mF.up mF.refl (A_106 hw) u47 rfl) F83 rfl) F92 rfl) F104 rfl) F113 rfl) F122 rfl) F131 rfl) F140 rfl) F152 rfl) F161 rfl) F170 rfl) F179 rfl) F244 rfl) F293 rfl) F371 rfl) ⟨(rW (c := (-2147483648)) (d := 2147483647) h376 rfl), trivial⟩
                have h377 : 1 ≤ z59 ∧ z59 ≤ 8 := (vc_X12_write_36 h367 h62)
                refine sv_aload_n (pc := 348) dX12_write_348 rfl rfl ?_
                refine mr_sipush (pc := 349) (z := 192) dX12_write_349 (by decide) ?_
                refine mr_cVV (pc := 352) (c_X12_octet1 hw T292 (rW (c := (-2147483648)) (d := 2147483647) (rR (x := 192)) rfl) q298 (vc_X12_write_37 h300 h301)) (gOk _ _ _ _ _) dX12_write_352 (tX12_octet1 _ _ _ _ _) ⟨wV_X12_octet1, wL_X12_octet1⟩ wM_X12_674 (gCX12 _ _ _ _ _) rfl (A_106 hw) rfl ⟨le_t rfl, le_t rfl⟩ ⟨le_t rfl, le_t rfl⟩ rfl (le_t rfl) fun μ378 T379 F380 h381 => ?_
                obtain ⟨z382, q383, h384⟩ := h381
                have h385 : (0 ≤ z382 ∧ z382 ≤ 300) := by rw [← q383]; exact T379 106 106 (A_106 hw) 104
                have q386 : μ378 106 104 = (z297 + 1) := q383.trans h384.1
                refine sv_aload_n (pc := 355) dX12_write_355 rfl rfl ?_
                refine mr_bipush (pc := 356) (z := 8) dX12_write_356 (by decide) ?_
                refine mr_cVV (pc := 358) (c_X12_octet1 hw T379 (rW (c := (-2147483648)) (d := 2147483647) (rR (x := 8)) rfl) q386 (vc_X12_write_38 h300 h384.1 h301 h385)) (gOk _ _ _ _ _) dX12_write_358 (tX12_octet1 _ _ _ _ _) ⟨wV_X12_octet1, wL_X12_octet1⟩ wM_X12_674 (gCX12 _ _ _ _ _) rfl (A_106 hw) rfl ⟨le_t rfl, le_t rfl⟩ ⟨le_t rfl, le_t rfl⟩ rfl (le_t rfl) fun μ387 T388 F389 h390 => ?_
                obtain ⟨z391, q392, h393⟩ := h390
                have h394 : (0 ≤ z391 ∧ z391 ≤ 300) := by rw [← q392]; exact T388 106 106 (A_106 hw) 104
                have q395 : μ387 106 104 = ((z297 + 1) + 1) := q392.trans h393.1
                refine sv_aload_n (pc := 361) dX12_write_361 rfl rfl ?_
                refine mr_iconst (pc := 362) (z := 4) dX12_write_362 ?_
                refine mr_iload (pc := 363) (z := z59) dX12_write_363 rfl ?_
                refine mr_imul (pc := 365) (x := 4) (y := z59) dX12_write_365 ?_
                refine mr_cVV (pc := 366) (c_X12_octet1 hw T388 (rW (c := (-2147483648)) (d := 2147483647) (rMulL (n := 4) (e := 4) (f := 32) h377 rfl) rfl) q395 (vc_X12_write_39 h300 h384.1 h393.1 h301 h385 h394)) (gOk _ _ _ _ _) dX12_write_366 (tX12_octet1 _ _ _ _ _) ⟨wV_X12_octet1, wL_X12_octet1⟩ wM_X12_674 (gCX12 _ _ _ _ _) rfl (A_106 hw) rfl ⟨le_t rfl, le_t rfl⟩ ⟨le_t rfl, le_t rfl⟩ rfl (le_t rfl) fun μ396 T397 F398 h399 => ?_
                obtain ⟨z400, q401, h402⟩ := h399
                have h403 : (0 ≤ z400 ∧ z400 ≤ 300) := by rw [← q401]; exact T397 106 106 (A_106 hw) 104
                have q404 : μ396 106 104 = (((z297 + 1) + 1) + 1) := q401.trans h402.1
                refine mr_iconst (pc := 369) (z := 0) dX12_write_369 ?_
                refine mr_istore (pc := 370) (lv' := [(9, iv 0), (0, .ref 106), (3, iv p3), (4, iv (40 * (530 + z44))), (6, iv z59)]) dX12_write_370 (by decide) rfl ?_
                have L657 : ∀ (nL657 : Nat) (z655 : Int) (μ656 : mM) (f_w : Int), mT w μ656 → mF [106104, 174999] w μ396 μ656 → μ656 106 (104) = f_w → (0 ≤ z655 ∧ z655 ≤ 8) → (f_w ≤ 120 + 4 * z655) → (9 - z655) < (nL657 : Int) → sV (gG l D c H0 sa) mX12_write (sRm 3 0 0) (sZ (gG l D c H0 sa) 0 0 (qI w [106104, 174999] μ (fun z μ1 => ((-2147483648) ≤ z ∧ z ≤ 2147483647) ∧ True))) 372 [(0, .ref 106), (3, iv p3), (4, iv (40 * (530 + z44))), (6, iv z59), (9, iv z655)] [] (mk w μ656) 0 0 := by
                  intro nL657
                  induction nL657 with
                  | zero => intro z655 μ656 f_w T659 F660 q664 h658 h662 h663; exact ((vc_X12_write_40 h663 h662 h658)).elim
                  | succ nL657 ih665 =>
                    intro z655 μ656 f_w T659 F660 q664 h658 h662 h663
                    have h666 : (0 ≤ f_w ∧ f_w ≤ 300) := by rw [← q664]; exact T659 106 106 (A_106 hw) (104)
                    refine mr_iload (pc := 372) (z := z655) dX12_write_372 rfl ?_
                    refine mr_iload (pc := 374) (z := z59) dX12_write_374 rfl ?_
                    refine mr_icmp_ge (pc := 376) (tgt := 402) dX12_write_376 (by decide) (r32 h658 rfl) (r32 h377 rfl) (fun h681 => ?_) (fun h681 => ?_)
                    · have h682 : 1 ≤ z655 ∧ z655 ≤ 8 := (vc_X12_write_41 h681 h367 h662 h666 h377 h658)
                      refine sv_aload_n (pc := 402) dX12_write_402 rfl rfl ?_
                      refine mr_iload_n (pc := 403) (z := p3) dX12_write_403 rfl rfl ?_
                      refine mr_cVV (pc := 404) (c_X12_prefixOut hw T659 h38 q664 (vc_X12_write_42 h662 h681 h666 h377 h682)) (gOk _ _ _ _ _) dX12_write_404 (tX12_prefixOut _ _ _ _ _) ⟨wV_X12_prefixOut, wL_X12_prefixOut⟩ wM_X12_677 (gCX12 _ _ _ _ _) rfl (A_106 hw) rfl ⟨le_t rfl, le_t rfl⟩ ⟨le_t rfl, le_t rfl⟩ rfl (le_t rfl) fun μ683 T684 F685 h686 => ?_
                      obtain ⟨z687, q688, h689⟩ := h686
                      have h690 : (0 ≤ z687 ∧ z687 ≤ 300) := by rw [← q688]; exact T684 106 106 (A_106 hw) 104
                      refine sv_aload_n (pc := 407) dX12_write_407 rfl rfl ?_
                      refine gk_X12_104 (pc := 408) dX12_write_408 wF_X12_671 (A_106 hw) q688 ?_
                      exact mr_iret dX12_write_411 rfl (le_t rfl) (le_t rfl) T684 (mF.call (mF.call (mF.call (mF.call (mF.call (mF.call (mF.call (mF.call (mF.call (mF.call (mF.call (mF.call (mF.call (mF.call (mF.call (mF.call (mF.call (mF.call (mF.up mF.refl (A_106 hw) u47 rfl) F83 rfl) F92 rfl) F104 rfl) F113 rfl) F122 rfl) F131 rfl) F140 rfl) F152 rfl) F161 rfl) F170 rfl) F179 rfl) F244 rfl) F293 rfl) F380 rfl) F389 rfl) F398 rfl) F660 rfl) F685 rfl) ⟨(rW (c := (-2147483648)) (d := 2147483647) h690 rfl), trivial⟩
                    have h691 : 0 ≤ z655 ∧ z655 ≤ 7 := (vc_X12_write_43 h681 h367 h662 h666 h377 h658)
                    refine sv_aload_n (pc := 379) dX12_write_379 rfl rfl ?_
                    refine sv_aload_n (pc := 380) dX12_write_380 rfl rfl ?_
                    refine gf_X12_32 (pc := 381) dX12_write_381 wF_X12_148 (A_106 hw) T659 ?_
                    refine mr_iload (pc := 384) (z := (40 * (530 + z44))) dX12_write_384 rfl ?_
                    refine mr_bipush (pc := 386) (z := 26) dX12_write_386 (by decide) ?_
                    refine mr_iadd (pc := 388) (x := (40 * (530 + z44))) (y := 26) dX12_write_388 ?_
                    refine mr_iload (pc := 389) (z := z655) dX12_write_389 rfl ?_
                    refine mr_iadd (pc := 391) (x := ((40 * (530 + z44)) + 26)) (y := z655) dX12_write_391 ?_
                    refine la_126 (pc := 392) dX12_write_392 (A_126 hw) T659 (rIx (n := 84000) (rAdd (e := 21226) (f := 37193) (rAdd (e := 21226) (f := 37186) (rMulL (n := 40) (e := 21200) (f := 37160) (rAdd (e := 530) (f := 929) (rR (x := 530)) h45 rfl) rfl) (rR (x := 26)) rfl) h691 rfl) rfl) fun z692 q693 h694 => ?_
                    refine mr_cVV (pc := 393) (c_X12_octet4 hw T659 h694.1 q664 (vc_X12_write_44 h662 h681 h694.2.1 h694.2.2.1 h694.2.2.2 h666 h45 h377 h691 h694.1)) (gOk _ _ _ _ _) dX12_write_393 (tX12_octet4 _ _ _ _ _) ⟨wV_X12_octet4, wL_X12_octet4⟩ wM_X12_680 (gCX12 _ _ _ _ _) rfl (A_106 hw) rfl ⟨le_t rfl, le_t rfl⟩ ⟨le_t rfl, le_t rfl⟩ rfl (le_t rfl) fun μ695 T696 F697 h698 => ?_
                    obtain ⟨z699, q700, h701⟩ := h698
                    have h702 : (0 ≤ z699 ∧ z699 ≤ 300) := by rw [← q700]; exact T696 106 106 (A_106 hw) 104
                    have q703 : μ695 106 104 = (f_w + 4) := q700.trans h701.1
                    refine mr_iinc (pc := 396) (lv' := [(9, iv (z655 + 1)), (0, .ref 106), (3, iv p3), (4, iv (40 * (530 + z44))), (6, iv z59)]) dX12_write_396 rfl (by decide) rfl ?_
                    refine sv_goto (pc := 399) (tgt := 372) dX12_write_399 (by decide) ?_
                    refine mr_lvS (lv' := [(0, .ref 106), (3, iv p3), (4, iv (40 * (530 + z44))), (6, iv z59), (9, iv (z655 + 1))]) (List.forall_mem_cons.mpr ⟨rfl, List.forall_mem_cons.mpr ⟨rfl, List.forall_mem_cons.mpr ⟨rfl, List.forall_mem_cons.mpr ⟨rfl, List.forall_mem_cons.mpr ⟨rfl, fun _ h => absurd h List.not_mem_nil⟩⟩⟩⟩⟩) ?_
                    exact ih665 (z655 + 1) μ695 (f_w + 4) T696 (mF.call (mF.call mF.refl F660 rfl) F697 rfl) q703 (rW (c := 0) (d := 8) (rAdd (e := 1) (f := 8) h691 (rR (x := 1)) rfl) rfl) (vc_X12_write_45 h662 h681 h694.2.1 h694.2.2.1 h694.2.2.2 h701.1 h43.2.1 h367 h666 h14 h26 h38 h45 h377 h691 h694.1 h702) (vc_X12_write_46 (nS h663) h662 h681 h694.2.1 h694.2.2.1 h694.2.2.2 h43.2.1 h367 h701.1 h666 h14 h26 h38 h45 h377 h691 h694.1 h702)
                refine mr_lvS (lv' := [(0, .ref 106), (3, iv p3), (4, iv (40 * (530 + z44))), (6, iv z59), (9, iv 0)]) (List.forall_mem_cons.mpr ⟨rfl, List.forall_mem_cons.mpr ⟨rfl, List.forall_mem_cons.mpr ⟨rfl, List.forall_mem_cons.mpr ⟨rfl, List.forall_mem_cons.mpr ⟨rfl, fun _ h => absurd h List.not_mem_nil⟩⟩⟩⟩⟩) ?_
                exact L657 10 0 μ396 (((z297 + 1) + 1) + 1) T397 mF.refl q404 (rW (c := 0) (d := 8) (rR (x := 0)) rfl) (vc_X12_write_47 h300 h384.1 h393.1 h402.1 h301 h385 h394 h403) vc_X12_write_48
              refine mr_if_le (pc := 310) (tgt := 343) dX12_write_310 (by decide) h70.1 (fun h704 => ?_) (fun h704 => ?_)
              · have h705 : (-2147483648) ≤ z68 ∧ z68 ≤ 0 := (vc_X12_write_49 h704 h70.1)
                exact J296 μ242 T243 mF.refl (by rw [q249]; exact (vc_X12_write_50 h251 h252))
              have h706 : 1 ≤ z68 ∧ z68 ≤ 2147483647 := (vc_X12_write_51 h704 h70.1)
              refine sv_aload_n (pc := 313) dX12_write_313 rfl rfl ?_
              refine mr_sipush (pc := 314) (z := 128) dX12_write_314 (by decide) ?_
              refine mr_cVV (pc := 317) (c_X12_octet1 hw T243 (rW (c := (-2147483648)) (d := 2147483647) (rR (x := 128)) rfl) q249 (vc_X12_write_52 h251 h252)) (gOk _ _ _ _ _) dX12_write_317 (tX12_octet1 _ _ _ _ _) ⟨wV_X12_octet1, wL_X12_octet1⟩ wM_X12_674 (gCX12 _ _ _ _ _) rfl (A_106 hw) rfl ⟨le_t rfl, le_t rfl⟩ ⟨le_t rfl, le_t rfl⟩ rfl (le_t rfl) fun μ707 T708 F709 h710 => ?_
              obtain ⟨z711, q712, h713⟩ := h710
              have h714 : (0 ≤ z711 ∧ z711 ≤ 300) := by rw [← q712]; exact T708 106 106 (A_106 hw) 104
              have q715 : μ707 106 104 = (z248 + 1) := q712.trans h713.1
              refine sv_aload_n (pc := 320) dX12_write_320 rfl rfl ?_
              refine mr_iconst (pc := 321) (z := 4) dX12_write_321 ?_
              refine mr_cVV (pc := 322) (c_X12_octet1 hw T708 (rW (c := (-2147483648)) (d := 2147483647) (rR (x := 4)) rfl) q715 (vc_X12_write_53 h251 h713.1 h252 h714)) (gOk _ _ _ _ _) dX12_write_322 (tX12_octet1 _ _ _ _ _) ⟨wV_X12_octet1, wL_X12_octet1⟩ wM_X12_674 (gCX12 _ _ _ _ _) rfl (A_106 hw) rfl ⟨le_t rfl, le_t rfl⟩ ⟨le_t rfl, le_t rfl⟩ rfl (le_t rfl) fun μ716 T717 F718 h719 => ?_
              obtain ⟨z720, q721, h722⟩ := h719
              have h723 : (0 ≤ z720 ∧ z720 ≤ 300) := by rw [← q721]; exact T717 106 106 (A_106 hw) 104
              have q724 : μ716 106 104 = ((z248 + 1) + 1) := q721.trans h722.1
              refine sv_aload_n (pc := 325) dX12_write_325 rfl rfl ?_
              refine mr_iconst (pc := 326) (z := 4) dX12_write_326 ?_
              refine mr_cVV (pc := 327) (c_X12_octet1 hw T717 (rW (c := (-2147483648)) (d := 2147483647) (rR (x := 4)) rfl) q724 (vc_X12_write_54 h251 h713.1 h722.1 h252 h714 h723)) (gOk _ _ _ _ _) dX12_write_327 (tX12_octet1 _ _ _ _ _) ⟨wV_X12_octet1, wL_X12_octet1⟩ wM_X12_674 (gCX12 _ _ _ _ _) rfl (A_106 hw) rfl ⟨le_t rfl, le_t rfl⟩ ⟨le_t rfl, le_t rfl⟩ rfl (le_t rfl) fun μ725 T726 F727 h728 => ?_
              obtain ⟨z729, q730, h731⟩ := h728
              have h732 : (0 ≤ z729 ∧ z729 ≤ 300) := by rw [← q730]; exact T726 106 106 (A_106 hw) 104
              have q733 : μ725 106 104 = (((z248 + 1) + 1) + 1) := q730.trans h731.1
              refine sv_aload_n (pc := 330) dX12_write_330 rfl rfl ?_
              refine sv_aload_n (pc := 331) dX12_write_331 rfl rfl ?_
              refine gf_X12_32 (pc := 332) dX12_write_332 wF_X12_148 (A_106 hw) T726 ?_
              refine mr_iload (pc := 335) (z := (40 * (530 + z44))) dX12_write_335 rfl ?_
              refine mr_iconst (pc := 337) (z := 3) dX12_write_337 ?_
              refine mr_iadd (pc := 338) (x := (40 * (530 + z44))) (y := 3) dX12_write_338 ?_
              refine lk_126 (pc := 339) dX12_write_339 (A_126 hw) (rIx (n := 84000) (rAdd (e := 21203) (f := 37163) (rMulL (n := 40) (e := 21200) (f := 37160) (rAdd (e := 530) (f := 929) (rR (x := 530)) h45 rfl) rfl) (rR (x := 3)) rfl) rfl) (F727.f (A_126 hw) rfl (F718.f (A_126 hw) rfl (F709.f (A_126 hw) rfl (F244.f (A_126 hw) rfl (F179.f (A_126 hw) rfl (F170.f (A_126 hw) rfl (F161.f (A_126 hw) rfl (F152.f (A_126 hw) rfl (F140.f (A_126 hw) rfl (F131.f (A_126 hw) rfl (F122.f (A_126 hw) rfl (F113.f (A_126 hw) rfl (F104.f (A_126 hw) rfl (F92.f (A_126 hw) rfl (F83.f (A_126 hw) rfl q69))))))))))))))) ?_
              refine mr_cVV (pc := 340) (c_X12_octet4 hw T726 (rW (c := (-2147483648)) (d := 2147483647) h706 rfl) q733 (vc_X12_write_55 h251 h713.1 h722.1 h731.1 h252 h714 h723 h732)) (gOk _ _ _ _ _) dX12_write_340 (tX12_octet4 _ _ _ _ _) ⟨wV_X12_octet4, wL_X12_octet4⟩ wM_X12_680 (gCX12 _ _ _ _ _) rfl (A_106 hw) rfl ⟨le_t rfl, le_t rfl⟩ ⟨le_t rfl, le_t rfl⟩ rfl (le_t rfl) fun μ734 T735 F736 h737 => ?_
              obtain ⟨z738, q739, h740⟩ := h737
              have h741 : (0 ≤ z738 ∧ z738 ≤ 300) := by rw [← q739]; exact T735 106 106 (A_106 hw) 104
              have q742 : μ734 106 104 = ((((z248 + 1) + 1) + 1) + 4) := q739.trans h740.1
              exact J296 μ734 T735 (mF.call (mF.call (mF.call (mF.call mF.refl F709 rfl) F718 rfl) F727 rfl) F736 rfl) (by rw [q742]; exact (vc_X12_write_56 h251 h713.1 h722.1 h731.1 h740.1 h252 h714 h723 h732 h741))
            refine mr_if_le (pc := 254) (tgt := 301) dX12_write_254 (by decide) (r32 h58 rfl) (fun h743 => ?_) (fun h743 => ?_)
            · have h744 : 0 ≤ z55 ∧ z55 ≤ 0 := (vc_X12_write_57 h743 h58)
              refine mr_lvS (lv' := [(0, .ref 106), (3, iv p3), (4, iv (40 * (530 + z44))), (6, iv z59)]) (List.forall_mem_cons.mpr ⟨rfl, List.forall_mem_cons.mpr ⟨rfl, List.forall_mem_cons.mpr ⟨rfl, List.forall_mem_cons.mpr ⟨rfl, fun _ h => absurd h List.not_mem_nil⟩⟩⟩⟩) ?_
              exact J247 μ177 T178 mF.refl (by rw [q185]; exact vc_X12_write_58)
            have h745 : 1 ≤ z55 ∧ z55 ≤ 20 := (vc_X12_write_59 h743 h58)
            refine sv_aload_n (pc := 257) dX12_write_257 rfl rfl ?_
            refine mr_iconst (pc := 258) (z := 2) dX12_write_258 ?_
            refine mr_cVV (pc := 259) (c_X12_octet1 hw T178 (rW (c := (-2147483648)) (d := 2147483647) (rR (x := 2)) rfl) q185 vc_X12_write_60) (gOk _ _ _ _ _) dX12_write_259 (tX12_octet1 _ _ _ _ _) ⟨wV_X12_octet1, wL_X12_octet1⟩ wM_X12_674 (gCX12 _ _ _ _ _) rfl (A_106 hw) rfl ⟨le_t rfl, le_t rfl⟩ ⟨le_t rfl, le_t rfl⟩ rfl (le_t rfl) fun μ746 T747 F748 h749 => ?_
            obtain ⟨z750, q751, h752⟩ := h749
            have h753 : (0 ≤ z750 ∧ z750 ≤ 300) := by rw [← q751]; exact T747 106 106 (A_106 hw) 104
            have q754 : μ746 106 104 = ((((((((((((0 + 1) + 1) + 1) + 1) + 1) + 1) + 1) + 1) + 1) + 1) + 1) + 1) := q751.trans h752.1
            refine sv_aload_n (pc := 262) dX12_write_262 rfl rfl ?_
            refine mr_iload (pc := 263) (z := z55) dX12_write_263 rfl ?_
            refine mr_cVV (pc := 265) (c_X12_octet1 hw T747 (rW (c := (-2147483648)) (d := 2147483647) h745 rfl) q754 vc_X12_write_61) (gOk _ _ _ _ _) dX12_write_265 (tX12_octet1 _ _ _ _ _) ⟨wV_X12_octet1, wL_X12_octet1⟩ wM_X12_674 (gCX12 _ _ _ _ _) rfl (A_106 hw) rfl ⟨le_t rfl, le_t rfl⟩ ⟨le_t rfl, le_t rfl⟩ rfl (le_t rfl) fun μ755 T756 F757 h758 => ?_
            obtain ⟨z759, q760, h761⟩ := h758
            have h762 : (0 ≤ z759 ∧ z759 ≤ 300) := by rw [← q760]; exact T756 106 106 (A_106 hw) 104
            have q763 : μ755 106 104 = (((((((((((((0 + 1) + 1) + 1) + 1) + 1) + 1) + 1) + 1) + 1) + 1) + 1) + 1) + 1) := q760.trans h761.1
            refine mr_iconst (pc := 268) (z := 0) dX12_write_268 ?_
            refine mr_istore (pc := 269) (lv' := [(9, iv 0), (8, iv (((7 + z65) + z73) + z78)), (0, .ref 106), (3, iv p3), (4, iv (40 * (530 + z44))), (5, iv z55), (6, iv z59), (7, iv z65)]) dX12_write_269 (by decide) rfl ?_
            have L1016 : ∀ (nL1016 : Nat) (z1014 : Int) (μ1015 : mM) (f_w : Int), mT w μ1015 → mF [106104, 174999] w μ755 μ1015 → μ1015 106 (104) = f_w → (0 ≤ z1014 ∧ z1014 ≤ 20) → (f_w ≤ 20 + 4 * z1014) → (21 - z1014) < (nL1016 : Int) → sV (gG l D c H0 sa) mX12_write (sRm 3 0 0) (sZ (gG l D c H0 sa) 0 0 (qI w [106104, 174999] μ (fun z μ1 => ((-2147483648) ≤ z ∧ z ≤ 2147483647) ∧ True))) 271 [(0, .ref 106), (3, iv p3), (4, iv (40 * (530 + z44))), (5, iv z55), (6, iv z59), (9, iv z1014)] [] (mk w μ1015) 0 0 := by
              intro nL1016
              induction nL1016 with
              | zero => intro z1014 μ1015 f_w T1018 F1019 q1023 h1017 h1021 h1022; exact ((vc_X12_write_62 h1022 h1021 h1017)).elim
              | succ nL1016 ih1024 =>
                intro z1014 μ1015 f_w T1018 F1019 q1023 h1017 h1021 h1022
                have h1025 : (0 ≤ f_w ∧ f_w ≤ 300) := by rw [← q1023]; exact T1018 106 106 (A_106 hw) (104)
                refine mr_iload (pc := 271) (z := z1014) dX12_write_271 rfl ?_
                refine mr_iload (pc := 273) (z := z55) dX12_write_273 rfl ?_
                refine mr_icmp_ge (pc := 275) (tgt := 301) dX12_write_275 (by decide) (r32 h1017 rfl) (r32 h745 rfl) (fun h1026 => ?_) (fun h1026 => ?_)
                · have h1027 : 1 ≤ z1014 ∧ z1014 ≤ 20 := (vc_X12_write_63 h1026 h743 h1021 h1025 h1017 h745)
                  refine mr_lvS (lv' := [(0, .ref 106), (3, iv p3), (4, iv (40 * (530 + z44))), (6, iv z59)]) (List.forall_mem_cons.mpr ⟨rfl, List.forall_mem_cons.mpr ⟨rfl, List.forall_mem_cons.mpr ⟨rfl, List.forall_mem_cons.mpr ⟨rfl, fun _ h => absurd h List.not_mem_nil⟩⟩⟩⟩) ?_
                  exact J247 μ1015 T1018 (mF.call (mF.call (mF.call mF.refl F748 rfl) F757 rfl) F1019 rfl) (by rw [q1023]; exact (vc_X12_write_64 h1021 h1026 h1025 h1027 h745))
                have h1028 : 0 ≤ z1014 ∧ z1014 ≤ 19 := (vc_X12_write_65 h1026 h743 h1021 h1025 h1017 h745)
                refine sv_aload_n (pc := 278) dX12_write_278 rfl rfl ?_
                refine sv_aload_n (pc := 279) dX12_write_279 rfl rfl ?_
                refine gf_X12_32 (pc := 280) dX12_write_280 wF_X12_148 (A_106 hw) T1018 ?_
                refine mr_iload (pc := 283) (z := (40 * (530 + z44))) dX12_write_283 rfl ?_
                refine mr_bipush (pc := 285) (z := 6) dX12_write_285 (by decide) ?_
                refine mr_iadd (pc := 287) (x := (40 * (530 + z44))) (y := 6) dX12_write_287 ?_
                refine mr_iload (pc := 288) (z := z1014) dX12_write_288 rfl ?_
                refine mr_iadd (pc := 290) (x := ((40 * (530 + z44)) + 6)) (y := z1014) dX12_write_290 ?_
                refine la_126 (pc := 291) dX12_write_291 (A_126 hw) T1018 (rIx (n := 84000) (rAdd (e := 21206) (f := 37185) (rAdd (e := 21206) (f := 37166) (rMulL (n := 40) (e := 21200) (f := 37160) (rAdd (e := 530) (f := 929) (rR (x := 530)) h45 rfl) rfl) (rR (x := 6)) rfl) h1028 rfl) rfl) fun z1029 q1030 h1031 => ?_
                refine mr_cVV (pc := 292) (c_X12_octet4 hw T1018 h1031.1 q1023 (vc_X12_write_66 h1021 h1026 h1031.2.1 h1031.2.2.1 h1031.2.2.2 h1025 h1028 h1031.1 h45 h745)) (gOk _ _ _ _ _) dX12_write_292 (tX12_octet4 _ _ _ _ _) ⟨wV_X12_octet4, wL_X12_octet4⟩ wM_X12_680 (gCX12 _ _ _ _ _) rfl (A_106 hw) rfl ⟨le_t rfl, le_t rfl⟩ ⟨le_t rfl, le_t rfl⟩ rfl (le_t rfl) fun μ1032 T1033 F1034 h1035 => ?_
                obtain ⟨z1036, q1037, h1038⟩ := h1035
                have h1039 : (0 ≤ z1036 ∧ z1036 ≤ 300) := by rw [← q1037]; exact T1033 106 106 (A_106 hw) 104
                have q1040 : μ1032 106 104 = (f_w + 4) := q1037.trans h1038.1
                refine mr_iinc (pc := 295) (lv' := [(9, iv (z1014 + 1)), (0, .ref 106), (3, iv p3), (4, iv (40 * (530 + z44))), (5, iv z55), (6, iv z59)]) dX12_write_295 rfl (by decide) rfl ?_
                refine sv_goto (pc := 298) (tgt := 271) dX12_write_298 (by decide) ?_
                refine mr_lvS (lv' := [(0, .ref 106), (3, iv p3), (4, iv (40 * (530 + z44))), (5, iv z55), (6, iv z59), (9, iv (z1014 + 1))]) (List.forall_mem_cons.mpr ⟨rfl, List.forall_mem_cons.mpr ⟨rfl, List.forall_mem_cons.mpr ⟨rfl, List.forall_mem_cons.mpr ⟨rfl, List.forall_mem_cons.mpr ⟨rfl, List.forall_mem_cons.mpr ⟨rfl, fun _ h => absurd h List.not_mem_nil⟩⟩⟩⟩⟩⟩) ?_
                exact ih1024 (z1014 + 1) μ1032 (f_w + 4) T1033 (mF.call (mF.call mF.refl F1019 rfl) F1034 rfl) q1040 (rW (c := 0) (d := 20) (rAdd (e := 1) (f := 20) h1028 (rR (x := 1)) rfl) rfl) (vc_X12_write_67 h1021 h1026 h1031.2.1 h1031.2.2.1 h1031.2.2.2 h1038.1 h43.2.1 h743 h1025 h14 h26 h38 h1028 h1031.1 h1039 h45 h745) (vc_X12_write_68 (nS h1022) h1021 h1026 h1031.2.1 h1031.2.2.1 h1031.2.2.2 h43.2.1 h743 h1038.1 h1025 h14 h26 h38 h1028 h1031.1 h1039 h45 h745)
            refine mr_lvS (lv' := [(0, .ref 106), (3, iv p3), (4, iv (40 * (530 + z44))), (5, iv z55), (6, iv z59), (9, iv 0)]) (List.forall_mem_cons.mpr ⟨rfl, List.forall_mem_cons.mpr ⟨rfl, List.forall_mem_cons.mpr ⟨rfl, List.forall_mem_cons.mpr ⟨rfl, List.forall_mem_cons.mpr ⟨rfl, List.forall_mem_cons.mpr ⟨rfl, fun _ h => absurd h List.not_mem_nil⟩⟩⟩⟩⟩⟩) ?_
            exact L1016 22 0 μ755 (((((((((((((0 + 1) + 1) + 1) + 1) + 1) + 1) + 1) + 1) + 1) + 1) + 1) + 1) + 1) T756 mF.refl q763 (rW (c := 0) (d := 20) (rR (x := 0)) rfl) vc_X12_write_69 vc_X12_write_70
          refine mr_if_le (pc := 165) (tgt := 177) dX12_write_165 (by decide) (r32 h62 rfl) (fun h1041 => ?_) (fun h1041 => ?_)
          · have h1042 : 0 ≤ z59 ∧ z59 ≤ 0 := (vc_X12_write_34 h1041 h62)
            refine mr_iconst (pc := 177) (z := 0) dX12_write_177 ?_
            exact J80 0 (rW (c := 0) (d := 35) (rR (x := 0)) rfl)
          have h1043 : 1 ≤ z59 ∧ z59 ≤ 8 := (vc_X12_write_36 h1041 h62)
          refine mr_iconst (pc := 168) (z := 3) dX12_write_168 ?_
          refine mr_iconst (pc := 169) (z := 4) dX12_write_169 ?_
          refine mr_iload (pc := 170) (z := z59) dX12_write_170 rfl ?_
          refine mr_imul (pc := 172) (x := 4) (y := z59) dX12_write_172 ?_
          refine mr_iadd (pc := 173) (x := 3) (y := (4 * z59)) dX12_write_173 ?_
          refine sv_goto (pc := 174) (tgt := 178) dX12_write_174 (by decide) ?_
          exact J80 (3 + (4 * z59)) (rW (c := 0) (d := 35) (rAdd (e := 7) (f := 35) (rR (x := 3)) (rMulL (n := 4) (e := 4) (f := 32) h1043 rfl) rfl) rfl)
        refine mr_if_le (pc := 153) (tgt := 161) dX12_write_153 (by decide) h70.1 (fun h1044 => ?_) (fun h1044 => ?_)
        · have h1045 : (-2147483648) ≤ z68 ∧ z68 ≤ 0 := (vc_X12_write_49 h1044 h70.1)
          refine mr_iconst (pc := 161) (z := 0) dX12_write_161 ?_
          refine mr_lvS (lv' := [(0, .ref 106), (3, iv p3), (4, iv (40 * (530 + z44))), (5, iv z55), (6, iv z59), (7, iv z65)]) (List.forall_mem_cons.mpr ⟨rfl, List.forall_mem_cons.mpr ⟨rfl, List.forall_mem_cons.mpr ⟨rfl, List.forall_mem_cons.mpr ⟨rfl, List.forall_mem_cons.mpr ⟨rfl, List.forall_mem_cons.mpr ⟨rfl, fun _ h => absurd h List.not_mem_nil⟩⟩⟩⟩⟩⟩) ?_
          exact J75 0 (rW (c := 0) (d := 7) (rR (x := 0)) rfl)
        have h1046 : 1 ≤ z68 ∧ z68 ≤ 2147483647 := (vc_X12_write_51 h1044 h70.1)
        refine mr_bipush (pc := 156) (z := 7) dX12_write_156 (by decide) ?_
        refine sv_goto (pc := 158) (tgt := 162) dX12_write_158 (by decide) ?_
        refine mr_lvS (lv' := [(0, .ref 106), (3, iv p3), (4, iv (40 * (530 + z44))), (5, iv z55), (6, iv z59), (7, iv z65)]) (List.forall_mem_cons.mpr ⟨rfl, List.forall_mem_cons.mpr ⟨rfl, List.forall_mem_cons.mpr ⟨rfl, List.forall_mem_cons.mpr ⟨rfl, List.forall_mem_cons.mpr ⟨rfl, List.forall_mem_cons.mpr ⟨rfl, fun _ h => absurd h List.not_mem_nil⟩⟩⟩⟩⟩⟩) ?_
        exact J75 7 (rW (c := 0) (d := 7) (rR (x := 7)) rfl)
      refine mr_if_ne (pc := 124) (tgt := 131) dX12_write_124 (by decide) (r32 h58 rfl) (fun h1047 => ?_) (fun h1047 => ?_)
      · have h1048 : 1 ≤ z55 ∧ z55 ≤ 20 := (vc_X12_write_71 h1047 h58)
        refine mr_iconst (pc := 131) (z := 2) dX12_write_131 ?_
        refine mr_iconst (pc := 132) (z := 4) dX12_write_132 ?_
        refine mr_iload (pc := 133) (z := z55) dX12_write_133 rfl ?_
        refine mr_imul (pc := 135) (x := 4) (y := z55) dX12_write_135 ?_
        refine mr_iadd (pc := 136) (x := 2) (y := (4 * z55)) dX12_write_136 ?_
        refine mr_lvS (lv' := [(0, .ref 106), (3, iv p3), (4, iv (40 * (530 + z44))), (5, iv z55), (6, iv z59)]) (List.forall_mem_cons.mpr ⟨rfl, List.forall_mem_cons.mpr ⟨rfl, List.forall_mem_cons.mpr ⟨rfl, List.forall_mem_cons.mpr ⟨rfl, List.forall_mem_cons.mpr ⟨rfl, fun _ h => absurd h List.not_mem_nil⟩⟩⟩⟩⟩) ?_
        exact J67 (2 + (4 * z55)) (rW (c := 0) (d := 82) (rAdd (e := 6) (f := 82) (rR (x := 2)) (rMulL (n := 4) (e := 4) (f := 80) h1048 rfl) rfl) rfl)
      have h1049 : 0 ≤ z55 ∧ z55 ≤ 0 := (vc_X12_write_72 h1047 h58)
      refine mr_iconst (pc := 127) (z := 0) dX12_write_127 ?_
      refine sv_goto (pc := 128) (tgt := 137) dX12_write_128 (by decide) ?_
      refine mr_lvS (lv' := [(0, .ref 106), (3, iv p3), (4, iv (40 * (530 + z44))), (5, iv z55), (6, iv z59)]) (List.forall_mem_cons.mpr ⟨rfl, List.forall_mem_cons.mpr ⟨rfl, List.forall_mem_cons.mpr ⟨rfl, List.forall_mem_cons.mpr ⟨rfl, List.forall_mem_cons.mpr ⟨rfl, fun _ h => absurd h List.not_mem_nil⟩⟩⟩⟩⟩) ?_
      exact J67 0 (rW (c := 0) (d := 82) (rR (x := 0)) rfl)
    have h1050 : (-1) ≤ z49 ∧ z49 ≤ (-1) := (vc_X12_write_73 h53 h52)
    refine sv_aload_n (pc := 57) dX12_write_57 rfl rfl ?_
    refine mr_iconst (pc := 58) (z := 0) dX12_write_58 ?_
    refine mr_cVV (pc := 59) (c_X12_octet1 hw T48 (rW (c := (-2147483648)) (d := 2147483647) (rR (x := 0)) rfl) u47.1 vc_X12_write_21) (gOk _ _ _ _ _) dX12_write_59 (tX12_octet1 _ _ _ _ _) ⟨wV_X12_octet1, wL_X12_octet1⟩ wM_X12_674 (gCX12 _ _ _ _ _) rfl (A_106 hw) rfl ⟨le_t rfl, le_t rfl⟩ ⟨le_t rfl, le_t rfl⟩ rfl (le_t rfl) fun μ1051 T1052 F1053 h1054 => ?_
    obtain ⟨z1055, q1056, h1057⟩ := h1054
    have h1058 : (0 ≤ z1055 ∧ z1055 ≤ 300) := by rw [← q1056]; exact T1052 106 106 (A_106 hw) 104
    have q1059 : μ1051 106 104 = (0 + 1) := q1056.trans h1057.1
    refine sv_aload_n (pc := 62) dX12_write_62 rfl rfl ?_
    refine mr_iconst (pc := 63) (z := 1) dX12_write_63 ?_
    refine sv_aload_n (pc := 64) dX12_write_64 rfl rfl ?_
    refine gf_X12_4 (pc := 65) dX12_write_65 wF_X12_26 (A_106 hw) T1052 ?_
    refine mr_iload_n (pc := 68) (z := p3) dX12_write_68 rfl rfl ?_
    refine la_109 (pc := 69) dX12_write_69 (A_109 hw) T1052 (rIx (n := 10) h38 rfl) fun z1060 q1061 h1062 => ?_
    refine mr_bipush (pc := 70) (z := 7) dX12_write_70 (by decide) ?_
    refine mr_iadd (pc := 72) (x := z1060) (y := 7) dX12_write_72 ?_
    refine mr_bipush (pc := 73) (z := 8) dX12_write_73 (by decide) ?_
    refine mr_idiv (pc := 75) (x := (z1060 + 7)) (y := 8) dX12_write_75 (rW (c := 0) (d := 2147483647) (rAdd (e := 7) (f := 39) h1062 (rR (x := 7)) rfl) rfl) vc_X12_write_74 ?_
    refine mr_gen (P := fun z => 0 ≤ z ∧ z ≤ 4) (rDiv (rAdd (e := 7) (f := 39) h1062 (rR (x := 7)) rfl) rfl) fun z1063 q1064 h1065 => ?_
    refine mr_iadd (pc := 76) (x := 1) (y := z1063) dX12_write_76 ?_
    refine mr_cVV (pc := 77) (c_X12_octet1 hw T1052 (rW (c := (-2147483648)) (d := 2147483647) (rAdd (e := 1) (f := 5) (rR (x := 1)) h1065 rfl) rfl) q1059 vc_X12_write_22) (gOk _ _ _ _ _) dX12_write_77 (tX12_octet1 _ _ _ _ _) ⟨wV_X12_octet1, wL_X12_octet1⟩ wM_X12_674 (gCX12 _ _ _ _ _) rfl (A_106 hw) rfl ⟨le_t rfl, le_t rfl⟩ ⟨le_t rfl, le_t rfl⟩ rfl (le_t rfl) fun μ1066 T1067 F1068 h1069 => ?_
    obtain ⟨z1070, q1071, h1072⟩ := h1069
    have h1073 : (0 ≤ z1070 ∧ z1070 ≤ 300) := by rw [← q1071]; exact T1067 106 106 (A_106 hw) 104
    have q1074 : μ1066 106 104 = ((0 + 1) + 1) := q1071.trans h1072.1
    refine sv_aload_n (pc := 80) dX12_write_80 rfl rfl ?_
    refine mr_iload_n (pc := 81) (z := p3) dX12_write_81 rfl rfl ?_
    refine mr_cVV (pc := 82) (c_X12_prefixOut hw T1067 h38 q1074 vc_X12_write_75) (gOk _ _ _ _ _) dX12_write_82 (tX12_prefixOut _ _ _ _ _) ⟨wV_X12_prefixOut, wL_X12_prefixOut⟩ wM_X12_677 (gCX12 _ _ _ _ _) rfl (A_106 hw) rfl ⟨le_t rfl, le_t rfl⟩ ⟨le_t rfl, le_t rfl⟩ rfl (le_t rfl) fun μ1075 T1076 F1077 h1078 => ?_
    obtain ⟨z1079, q1080, h1081⟩ := h1078
    have h1082 : (0 ≤ z1079 ∧ z1079 ≤ 300) := by rw [← q1080]; exact T1076 106 106 (A_106 hw) 104
    refine sv_aload_n (pc := 85) dX12_write_85 rfl rfl ?_
    refine mr_iconst (pc := 86) (z := 0) dX12_write_86 ?_
    refine mr_cVV (pc := 87) (c_X12_octet1 hw T1076 (rW (c := (-2147483648)) (d := 2147483647) (rR (x := 0)) rfl) q1080 (vc_X12_write_76 h1081.1 h1082)) (gOk _ _ _ _ _) dX12_write_87 (tX12_octet1 _ _ _ _ _) ⟨wV_X12_octet1, wL_X12_octet1⟩ wM_X12_674 (gCX12 _ _ _ _ _) rfl (A_106 hw) rfl ⟨le_t rfl, le_t rfl⟩ ⟨le_t rfl, le_t rfl⟩ rfl (le_t rfl) fun μ1083 T1084 F1085 h1086 => ?_
    obtain ⟨z1087, q1088, h1089⟩ := h1086
    have h1090 : (0 ≤ z1087 ∧ z1087 ≤ 300) := by rw [← q1088]; exact T1084 106 106 (A_106 hw) 104
    have q1091 : μ1083 106 104 = (z1079 + 1) := q1088.trans h1089.1
    refine sv_aload_n (pc := 90) dX12_write_90 rfl rfl ?_
    refine mr_iconst (pc := 91) (z := 0) dX12_write_91 ?_
    refine mr_cVV (pc := 92) (c_X12_octet1 hw T1084 (rW (c := (-2147483648)) (d := 2147483647) (rR (x := 0)) rfl) q1091 (vc_X12_write_77 h1081.1 h1089.1 h1082 h1090)) (gOk _ _ _ _ _) dX12_write_92 (tX12_octet1 _ _ _ _ _) ⟨wV_X12_octet1, wL_X12_octet1⟩ wM_X12_674 (gCX12 _ _ _ _ _) rfl (A_106 hw) rfl ⟨le_t rfl, le_t rfl⟩ ⟨le_t rfl, le_t rfl⟩ rfl (le_t rfl) fun μ1092 T1093 F1094 h1095 => ?_
    obtain ⟨z1096, q1097, h1098⟩ := h1095
    have h1099 : (0 ≤ z1096 ∧ z1096 ≤ 300) := by rw [← q1097]; exact T1093 106 106 (A_106 hw) 104
    have q1100 : μ1092 106 104 = ((z1079 + 1) + 1) := q1097.trans h1098.1
    refine sv_aload_n (pc := 95) dX12_write_95 rfl rfl ?_
    refine gk_X12_104 (pc := 96) dX12_write_96 wF_X12_671 (A_106 hw) q1100 ?_
    exact mr_iret dX12_write_99 rfl (le_t rfl) (le_t rfl) T1093 (mF.call (mF.call (mF.call (mF.call (mF.call (mF.up mF.refl (A_106 hw) u47 rfl) F1053 rfl) F1068 rfl) F1077 rfl) F1085 rfl) F1094 rfl) ⟨(rW (c := (-2147483648)) (d := 2147483647) (rAdd (e := 2) (f := 302) (rAdd (e := 1) (f := 301) h1082 (rR (x := 1)) rfl) (rR (x := 1)) rfl) rfl), trivial⟩
  have h1101 : 0 ≤ z34 ∧ z34 ≤ 0 := (vc_X12_write_78 h35 h33.2.1 h33.2.2.1 hp3 h29 h33.1)
  have h1102 : p3 < 0 ∨ z27 ≤ p3 := (h33.2.2.1 (vc_X12_write_79 h33.2.1 h33.2.2.1 h35 hp3 h29 h1101))
  refine mr_iconst (pc := 25) (z := (-1)) dX12_write_25 ?_
  exact mr_iret dX12_write_26 rfl (le_t rfl) (le_t rfl) hT mF.refl ⟨(rW (c := (-2147483648)) (d := 2147483647) (rR (x := (-1))) rfl), trivial⟩
theorem vc_X12_octet_1 {p1 z1 z8 : Int} (h0 : z8 = 0) (h1 : (z8 = 1 → (0 : Int) ≤ p1 ∧ p1 ≤ (z1 - 1))) (h2 : (z8 = 0 → p1 < (0 : Int) ∨ (z1 - 1) < p1)) (h3 : (-2147483648) ≤ p1 ∧ p1 ≤ 2147483647) (h4 : 0 ≤ z1 ∧ z1 ≤ 300) (h5 : 0 ≤ z8 ∧ z8 ≤ 1) : 0 ≤ z8 ∧ z8 ≤ 0 := by omega
theorem vc_X12_octet_2 {p1 z1 z8 : Int} (h0 : (z8 = 1 → (0 : Int) ≤ p1 ∧ p1 ≤ (z1 - 1))) (h1 : (z8 = 0 → p1 < (0 : Int) ∨ (z1 - 1) < p1)) (h2 : z8 = 0) (h3 : (-2147483648) ≤ p1 ∧ p1 ≤ 2147483647) (h4 : 0 ≤ z1 ∧ z1 ≤ 300) (h5 : 0 ≤ z8 ∧ z8 ≤ 0) : z8 = 0 := by omega
theorem vc_X12_octet_3 {p1 z1 z8 : Int} (h0 : ¬ z8 = 0) (h1 : (z8 = 1 → (0 : Int) ≤ p1 ∧ p1 ≤ (z1 - 1))) (h2 : (z8 = 0 → p1 < (0 : Int) ∨ (z1 - 1) < p1)) (h3 : (-2147483648) ≤ p1 ∧ p1 ≤ 2147483647) (h4 : 0 ≤ z1 ∧ z1 ≤ 300) (h5 : 0 ≤ z8 ∧ z8 ≤ 1) : 1 ≤ z8 ∧ z8 ≤ 1 := by omega
theorem vc_X12_octet_4 {p1 z1 z8 : Int} (h0 : (z8 = 1 → (0 : Int) ≤ p1 ∧ p1 ≤ (z1 - 1))) (h1 : (z8 = 0 → p1 < (0 : Int) ∨ (z1 - 1) < p1)) (h2 : ¬ z8 = 0) (h3 : (-2147483648) ≤ p1 ∧ p1 ≤ 2147483647) (h4 : 0 ≤ z1 ∧ z1 ≤ 300) (h5 : 1 ≤ z8 ∧ z8 ≤ 1) : z8 = 1 := by omega
theorem vc_X12_octet_5 {p1 z1 z8 : Int} (h0 : (0 : Int) ≤ p1 ∧ p1 ≤ (z1 - 1)) (h1 : (z8 = 1 → (0 : Int) ≤ p1 ∧ p1 ≤ (z1 - 1))) (h2 : (z8 = 0 → p1 < (0 : Int) ∨ (z1 - 1) < p1)) (h3 : (-2147483648) ≤ p1 ∧ p1 ≤ 2147483647) (h4 : 0 ≤ z1 ∧ z1 ≤ 300) (h5 : 1 ≤ z8 ∧ z8 ≤ 1) : 0 ≤ p1 ∧ p1 ≤ 2147483647 := by omega
theorem vc_X12_octet_6 {p1 z1 z8 : Int} (h0 : (z8 = 1 → (0 : Int) ≤ p1 ∧ p1 ≤ (z1 - 1))) (h1 : (z8 = 0 → p1 < (0 : Int) ∨ (z1 - 1) < p1)) (h2 : (0 : Int) ≤ p1 ∧ p1 ≤ (z1 - 1)) (h3 : ¬ z8 = 0) (h4 : 0 ≤ p1 ∧ p1 ≤ 2147483647) (h5 : 0 ≤ z1 ∧ z1 ≤ 300) (h6 : 1 ≤ z8 ∧ z8 ≤ 1) : 0 ≤ p1 ∧ p1 < 300 := by omega
set_option maxRecDepth 4000 in
set_option maxHeartbeats 4000000 in
theorem c_X12_octet {l : Launch} {D : va_G} {c : Nat → ClassId} {H0 : Heap} {sa : Nat × Nat × (Nat → Int32)} {w : mW} {μ : mM} (hw : mWF w) (hT : mT w μ) {p1 : Int} (hp1 : (-2147483648) ≤ p1 ∧ p1 ≤ 2147483647) : sC (gG l D c H0 sa) mX12_octet 2 0 0 [.ref 106, iv p1] (mk w μ) (qP w μ (fun z => ((-2147483648) ≤ z ∧ z ≤ 2147483647) ∧ True)) := by
  refine sC.of rfl (by decide) (le_t rfl) ?_
  refine mr_lvE (lv' := [(0, .ref 106), (1, iv p1)]) rfl ?_
  refine mr_iload_n (pc := 0) (z := p1) dX12_octet_0 rfl rfl ?_
  refine mr_iconst (pc := 1) (z := 0) dX12_octet_1 ?_
  refine sv_aload_n (pc := 2) dX12_octet_2 rfl rfl ?_
  refine gf_X12_104 (pc := 3) dX12_octet_3 wF_X12_671 (A_106 hw) hT fun z1 q2 h3 => ?_
  refine mr_iconst (pc := 6) (z := 1) dX12_octet_6 ?_
  refine mr_isub (pc := 7) (x := z1) (y := 1) dX12_octet_7 ?_
  refine mr_cSP (pc := 8) (c_X12_in hw hT hp1 (rW (c := (-2147483648)) (d := 2147483647) (rR (x := 0)) rfl) (rW (c := (-2147483648)) (d := 2147483647) (rSub (e := (-1)) (f := 299) h3 (rR (x := 1)) rfl) rfl)) (gOk _ _ _ _ _) dX12_octet_8 (tX12_in _ _ _ _ _) wS_X12_in wM_X12_18 ⟨le_t rfl, le_t rfl⟩ ⟨le_t rfl, le_t rfl⟩ rfl (le_t rfl) fun z8 h7 => ?_
  refine mr_if_eq (pc := 11) (tgt := 23) dX12_octet_11 (by decide) (r32 h7.1 rfl) (fun h17 => ?_) (fun h17 => ?_)
  · have h18 : 0 ≤ z8 ∧ z8 ≤ 0 := (vc_X12_octet_1 h17 h7.2.1 h7.2.2.1 hp1 h3 h7.1)
    have h19 : p1 < (0 : Int) ∨ (z1 - 1) < p1 := (h7.2.2.1 (vc_X12_octet_2 h7.2.1 h7.2.2.1 h17 hp1 h3 h18))
    refine mr_ldc (pc := 23) (z := (-99999999)) dX12_octet_23 wG_X12_29 (by decide) ?_
    exact mr_iretP dX12_octet_25 rfl (le_t rfl) (le_t rfl) ⟨(rW (c := (-2147483648)) (d := 2147483647) (rR (x := (-99999999))) rfl), trivial⟩
  have h20 : 1 ≤ z8 ∧ z8 ≤ 1 := (vc_X12_octet_3 h17 h7.2.1 h7.2.2.1 hp1 h3 h7.1)
  have h21 : (0 : Int) ≤ p1 ∧ p1 ≤ (z1 - 1) := (h7.2.1 (vc_X12_octet_4 h7.2.1 h7.2.2.1 h17 hp1 h3 h20))
  have h22 : 0 ≤ p1 ∧ p1 ≤ 2147483647 := (vc_X12_octet_5 h21 h7.2.1 h7.2.2.1 hp1 h3 h20)
  refine sv_aload_n (pc := 14) dX12_octet_14 rfl rfl ?_
  refine gf_X12_103 (pc := 15) dX12_octet_15 wF_X12_484 (A_106 hw) hT ?_
  refine mr_iload_n (pc := 18) (z := p1) dX12_octet_18 rfl rfl ?_
  refine la_174 (pc := 19) dX12_octet_19 (A_174 hw) hT (vc_X12_octet_6 h7.2.1 h7.2.2.1 h21 h17 h22 h3 h20) fun z23 q24 h25 => ?_
  refine sv_goto (pc := 20) (tgt := 25) dX12_octet_20 (by decide) ?_
  exact mr_iretP dX12_octet_25 rfl (le_t rfl) (le_t rfl) ⟨h25, trivial⟩
theorem vc_X12_sends_1 {z222 : Int} (h0 : (11 - z222) < ((0 : Nat) : Int)) (h1 : 0 ≤ z222 ∧ z222 ≤ 10) : False := by omega
theorem vc_X12_sends_2 {z223 : Int} (h0 : ¬ z223 = (-99999999)) (h1 : (-99999999) ≤ z223 ∧ z223 ≤ 9) (h2 : z223 = (-99999999) ∨ (0 ≤ z223 ∧ z223 ≤ 9)) : 0 ≤ z223 ∧ z223 ≤ 9 := by omega
theorem vc_X12_sends_3 {z273 : Int} (h0 : z273 = -99999999 ∨ z273 = -4 ∨ (0 ≤ z273 ∧ z273 ≤ 19)) : -99999999 ≤ z273 ∧ z273 ≤ 19 := by omega
theorem vc_X12_sends_4 {z273 : Int} (h0 : (-99999999) ≤ z273 ∧ z273 ≤ 19) (h1 : z273 = -99999999 ∨ z273 = -4 ∨ (0 ≤ z273 ∧ z273 ≤ 19)) : z273 = -99999999 ∨ z273 = -4 ∨ (0 ≤ z273 ∧ z273 ≤ 19) := by omega
theorem vc_X12_sends_5 {z223 : Int} (h0 : z223 = (-99999999)) (h1 : (-99999999) ≤ z223 ∧ z223 ≤ 9) (h2 : z223 = (-99999999) ∨ (0 ≤ z223 ∧ z223 ≤ 9)) : (-99999999) ≤ z223 ∧ z223 ≤ (-99999999) := by omega
theorem vc_X12_sends_6  : (-(99999999 : Int) : Int) = -(99999999 : Int) ∨ (-(99999999 : Int) : Int) = -(4 : Int) ∨ ((0 : Int) ≤ (-(99999999 : Int) : Int) ∧ (-(99999999 : Int) : Int) ≤ (19 : Int)) := by omega
theorem vc_X12_sends_7 {z222 z233 : Int} (h0 : z222 < z233) (h1 : 0 ≤ z222 ∧ z222 ≤ 10) (h2 : 0 ≤ z233 ∧ z233 ≤ 10) : 0 ≤ z222 ∧ z222 ≤ 9 := by omega
theorem vc_X12_sends_8 {z222 z233 : Int} (h0 : z222 < z233) (h1 : 0 ≤ z222 ∧ z222 ≤ 9) (h2 : 0 ≤ z233 ∧ z233 ≤ 10) : 1 ≤ z233 ∧ z233 ≤ 10 := by omega
theorem vc_X12_sends_9 {z280 : Int} (h0 : z280 = -99999999 ∨ z280 = -4 ∨ (0 ≤ z280 ∧ z280 ≤ 19)) : -99999999 ≤ z280 ∧ z280 ≤ 19 := by omega
theorem vc_X12_sends_10 {z280 : Int} (h0 : z280 = (-99999999)) (h1 : (-99999999) ≤ z280 ∧ z280 ≤ 19) (h2 : z280 = -99999999 ∨ z280 = -4 ∨ (0 ≤ z280 ∧ z280 ≤ 19)) : (-99999999) ≤ z280 ∧ z280 ≤ (-99999999) := by omega
theorem vc_X12_sends_11 {N z222 z233 : Int} (h0 : (11 - z222) < N + 1) (h1 : z222 < z233) (h2 : 0 ≤ z222 ∧ z222 ≤ 9) (h3 : 1 ≤ z233 ∧ z233 ≤ 10) : (11 - (z222 + 1)) < N := by omega
theorem vc_X12_sends_12 {z223 : Int} (h0 : (-99999999) ≤ z223 ∧ z223 ≤ 9) (h1 : z223 = (-99999999) ∨ (0 ≤ z223 ∧ z223 ≤ 9)) : z223 = (-99999999) ∨ (0 ≤ z223 ∧ z223 ≤ 9) := by omega
theorem vc_X12_sends_13 {z280 : Int} (h0 : ¬ z280 = (-99999999)) (h1 : (-99999999) ≤ z280 ∧ z280 ≤ 19) (h2 : z280 = -99999999 ∨ z280 = -4 ∨ (0 ≤ z280 ∧ z280 ≤ 19)) : (-4) ≤ z280 ∧ z280 ≤ 19 := by omega
theorem vc_X12_sends_14 {z319 : Int} (h0 : ¬ z319 = 0) (h1 : 0 ≤ z319 ∧ z319 ≤ 1) : 1 ≤ z319 ∧ z319 ≤ 1 := by omega
theorem vc_X12_sends_15 {z222 z233 : Int} (h0 : z222 < z233) (h1 : 0 ≤ z222 ∧ z222 ≤ 9) (h2 : 1 ≤ z233 ∧ z233 ≤ 10) : z222 = (-99999999) ∨ (0 ≤ z222 ∧ z222 ≤ 9) := by omega
theorem vc_X12_sends_16 {z223 : Int} (h0 : ¬ z223 = (-99999999)) (h1 : 0 ≤ z223 ∧ z223 ≤ 9) (h2 : z223 = (-99999999) ∨ (0 ≤ z223 ∧ z223 ≤ 9)) : z223 = (-99999999) ∨ (0 ≤ z223 ∧ z223 ≤ 9) := by omega
theorem vc_X12_sends_17 {z312 z341 : Int} (h0 : z341 < z312) (h1 : 0 ≤ z312 ∧ z312 ≤ 32) (h2 : 0 ≤ z341 ∧ z341 ≤ 32) : 1 ≤ z312 ∧ z312 ≤ 32 := by omega
theorem vc_X12_sends_18 {z312 z341 : Int} (h0 : z341 < z312) (h1 : 1 ≤ z312 ∧ z312 ≤ 32) (h2 : 0 ≤ z341 ∧ z341 ≤ 32) : 0 ≤ z341 ∧ z341 ≤ 31 := by omega
theorem vc_X12_sends_19 {z319 : Int} (h0 : z319 = 0) (h1 : 0 ≤ z319 ∧ z319 ≤ 1) : 0 ≤ z319 ∧ z319 ≤ 0 := by omega
theorem vc_X12_sends_20  : (11 - 0) < ((12 : Nat) : Int) := by omega
theorem vc_X12_sends_21  : (((-99999999) : Int) : Int) = ((-99999999) : Int) ∨ ((0 : Int) ≤ (((-99999999) : Int) : Int) ∧ (((-99999999) : Int) : Int) ≤ (9 : Int)) := by omega
set_option maxRecDepth 4000 in
set_option maxHeartbeats 4000000 in
theorem c_X12_sends {l : Launch} {D : va_G} {c : Nat → ClassId} {H0 : Heap} {sa : Nat × Nat × (Nat → Int32)} {w : mW} {μ : mM} (hw : mWF w) (hT : mT w μ) {p1 : Int} (hp1 : 0 ≤ p1 ∧ p1 ≤ 9) {p2 : Int} (hp2 : (-2147483648) ≤ p2 ∧ p2 ≤ 2147483647) : sC (gG l D c H0 sa) mX12_sends 3 0 0 [.ref 106, iv p1, iv p2] (mk w μ) (qP w μ (fun z => ((-99999999) ≤ z ∧ z ≤ 19) ∧ (z = -99999999 ∨ z = -4 ∨ (0 ≤ z ∧ z ≤ 19)) ∧ True)) := by
  refine sC.of rfl (by decide) (le_t rfl) ?_
  refine mr_lvE (lv' := [(0, .ref 106), (1, iv p1), (2, iv p2)]) rfl ?_
  refine mr_ldc (pc := 0) (z := (-99999999)) dX12_sends_0 wG_X12_29 (by decide) ?_
  refine mr_istore_n (pc := 2) (lv' := [(3, iv (-99999999)), (0, .ref 106), (1, iv p1), (2, iv p2)]) dX12_sends_2 rfl (by decide) rfl ?_
  refine mr_iconst (pc := 3) (z := 0) dX12_sends_3 ?_
  refine mr_istore (pc := 4) (lv' := [(4, iv 0), (3, iv (-99999999)), (0, .ref 106), (1, iv p1), (2, iv p2)]) dX12_sends_4 (by decide) rfl ?_
  have L224 : ∀ (nL224 : Nat) (z223 z222 : Int), True → ((-99999999) ≤ z223 ∧ z223 ≤ 9) → (0 ≤ z222 ∧ z222 ≤ 10) → (z223 = (-99999999) ∨ (0 ≤ z223 ∧ z223 ≤ 9)) → (11 - z222) < (nL224 : Int) → sV (gG l D c H0 sa) mX12_sends (sRm 3 0 0) (sZ (gG l D c H0 sa) 0 0 (qP w μ (fun z => ((-99999999) ≤ z ∧ z ≤ 19) ∧ (z = -99999999 ∨ z = -4 ∨ (0 ≤ z ∧ z ≤ 19)) ∧ True))) 6 [(0, .ref 106), (1, iv p1), (2, iv p2), (3, iv z223), (4, iv z222)] [] (mk w μ) 0 0 := by
    intro nL224
    induction nL224 with
    | zero => intro z223 z222 _ h225 h226 h230 h231; exact ((vc_X12_sends_1 h231 h226)).elim
    | succ nL224 ih232 =>
      intro z223 z222 _ h225 h226 h230 h231
      refine mr_iload (pc := 6) (z := z222) dX12_sends_6 rfl ?_
      refine sv_aload_n (pc := 8) dX12_sends_8 rfl rfl ?_
      refine gf_X12_2 (pc := 9) dX12_sends_9 wF_X12_15 (A_106 hw) hT fun z233 q234 h235 => ?_
      refine mr_icmp_ge (pc := 12) (tgt := 87) dX12_sends_12 (by decide) (r32 h226 rfl) (r32 h235 rfl) (fun h264 => ?_) (fun h264 => ?_)
      · refine mr_iload_n (pc := 87) (z := z223) dX12_sends_87 rfl rfl ?_
        refine mr_ldc (pc := 88) (z := (-99999999)) dX12_sends_88 wG_X12_29 (by decide) ?_
        refine mr_icmp_ne (pc := 90) (tgt := 98) dX12_sends_90 (by decide) (r32 h225 rfl) (r32 (rR (x := (-99999999))) rfl) (fun h271 => ?_) (fun h271 => ?_)
        · have h272 : 0 ≤ z223 ∧ z223 ≤ 9 := (vc_X12_sends_2 h271 h225 h230)
          refine sv_aload_n (pc := 98) dX12_sends_98 rfl rfl ?_
          refine gf_X12_81 (pc := 99) dX12_sends_99 wF_X12_445 (A_106 hw) hT ?_
          refine mr_bipush (pc := 102) (z := 10) dX12_sends_102 (by decide) ?_
          refine mr_iload_n (pc := 104) (z := p1) dX12_sends_104 rfl rfl ?_
          refine mr_imul (pc := 105) (x := 10) (y := p1) dX12_sends_105 ?_
          refine mr_iload_n (pc := 106) (z := z223) dX12_sends_106 rfl rfl ?_
          refine mr_iadd (pc := 107) (x := (10 * p1)) (y := z223) dX12_sends_107 ?_
          refine la_161 (pc := 108) dX12_sends_108 (A_161 hw) hT (rIx (n := 100) (rAdd (e := 0) (f := 99) (rMulL (n := 10) (e := 0) (f := 90) hp1 rfl) h272 rfl) rfl) fun z273 q274 h275 => ?_
          have h276 : (-99999999) ≤ z273 ∧ z273 ≤ 19 := (vc_X12_sends_3 h275)
          exact mr_iretP dX12_sends_109 rfl (le_t rfl) (le_t rfl) ⟨h276, (vc_X12_sends_4 h276 h275), trivial⟩
        have h277 : (-99999999) ≤ z223 ∧ z223 ≤ (-99999999) := (vc_X12_sends_5 h271 h225 h230)
        refine mr_ldc (pc := 93) (z := (-99999999)) dX12_sends_93 wG_X12_29 (by decide) ?_
        refine sv_goto (pc := 95) (tgt := 109) dX12_sends_95 (by decide) ?_
        exact mr_iretP dX12_sends_109 rfl (le_t rfl) (le_t rfl) ⟨(rW (c := (-99999999)) (d := 19) (rR (x := (-99999999))) rfl), vc_X12_sends_6, trivial⟩
      have h278 : 0 ≤ z222 ∧ z222 ≤ 9 := (vc_X12_sends_7 h264 h226 h235)
      have h279 : 1 ≤ z233 ∧ z233 ≤ 10 := (vc_X12_sends_8 h264 h278 h235)
      refine sv_aload_n (pc := 15) dX12_sends_15 rfl rfl ?_
      refine gf_X12_81 (pc := 16) dX12_sends_16 wF_X12_445 (A_106 hw) hT ?_
      refine mr_bipush (pc := 19) (z := 10) dX12_sends_19 (by decide) ?_
      refine mr_iload_n (pc := 21) (z := p1) dX12_sends_21 rfl rfl ?_
      refine mr_imul (pc := 22) (x := 10) (y := p1) dX12_sends_22 ?_
      refine mr_iload (pc := 23) (z := z222) dX12_sends_23 rfl ?_
      refine mr_iadd (pc := 25) (x := (10 * p1)) (y := z222) dX12_sends_25 ?_
      refine la_161 (pc := 26) dX12_sends_26 (A_161 hw) hT (rIx (n := 100) (rAdd (e := 0) (f := 99) (rMulL (n := 10) (e := 0) (f := 90) hp1 rfl) h278 rfl) rfl) fun z280 q281 h282 => ?_
      have h283 : (-99999999) ≤ z280 ∧ z280 ≤ 19 := (vc_X12_sends_9 h282)
      refine mr_ldc (pc := 27) (z := (-99999999)) dX12_sends_27 wG_X12_29 (by decide) ?_
      refine mr_icmp_eq (pc := 29) (tgt := 81) dX12_sends_29 (by decide) (r32 h283 rfl) (r32 (rR (x := (-99999999))) rfl) (fun h306 => ?_) (fun h306 => ?_)
      · have h307 : (-99999999) ≤ z280 ∧ z280 ≤ (-99999999) := (vc_X12_sends_10 h306 h283 h282)
        refine mr_iinc (pc := 81) (lv' := [(4, iv (z222 + 1)), (0, .ref 106), (1, iv p1), (2, iv p2), (3, iv z223)]) dX12_sends_81 rfl (by decide) rfl ?_
        refine sv_goto (pc := 84) (tgt := 6) dX12_sends_84 (by decide) ?_
        refine mr_lvS (lv' := [(0, .ref 106), (1, iv p1), (2, iv p2), (3, iv z223), (4, iv (z222 + 1))]) (List.forall_mem_cons.mpr ⟨rfl, List.forall_mem_cons.mpr ⟨rfl, List.forall_mem_cons.mpr ⟨rfl, List.forall_mem_cons.mpr ⟨rfl, List.forall_mem_cons.mpr ⟨rfl, fun _ h => absurd h List.not_mem_nil⟩⟩⟩⟩⟩) ?_
        exact ih232 z223 (z222 + 1) trivial h225 (rW (c := 0) (d := 10) (rAdd (e := 1) (f := 10) h278 (rR (x := 1)) rfl) rfl) (vc_X12_sends_12 h225 h230) (vc_X12_sends_11 (nS h231) h264 h278 h279)
      have h308 : (-4) ≤ z280 ∧ z280 ≤ 19 := (vc_X12_sends_13 h306 h283 h282)
      refine sv_aload_n (pc := 32) dX12_sends_32 rfl rfl ?_
      refine gf_X12_3 (pc := 33) dX12_sends_33 wF_X12_22 (A_106 hw) hT ?_
      refine mr_iload (pc := 36) (z := z222) dX12_sends_36 rfl ?_
      refine la_108 (pc := 38) dX12_sends_38 (A_108 hw) hT (rIx (n := 10) h278 rfl) fun z309 q310 h311 => ?_
      refine sv_aload_n (pc := 39) dX12_sends_39 rfl rfl ?_
      refine gf_X12_4 (pc := 40) dX12_sends_40 wF_X12_26 (A_106 hw) hT ?_
      refine mr_iload (pc := 43) (z := z222) dX12_sends_43 rfl ?_
      refine la_109 (pc := 45) dX12_sends_45 (A_109 hw) hT (rIx (n := 10) h278 rfl) fun z312 q313 h314 => ?_
      refine mr_iload_n (pc := 46) (z := p2) dX12_sends_46 rfl rfl ?_
      refine mr_cSP (pc := 47) (c_X12_holds hw hT h311 (rW (c := (-2147483648)) (d := 2147483647) h314 rfl) hp2) (gOk _ _ _ _ _) dX12_sends_47 (tX12_holds _ _ _ _ _) wS_X12_holds wM_X12_142 ⟨le_t rfl, le_t rfl⟩ ⟨le_t rfl, le_t rfl⟩ rfl (le_t rfl) fun z319 h318 => ?_
      refine mr_if_ne (pc := 50) (tgt := 56) dX12_sends_50 (by decide) (r32 h318.1 rfl) (fun h329 => ?_) (fun h329 => ?_)
      · have h330 : 1 ≤ z319 ∧ z319 ≤ 1 := (vc_X12_sends_14 h329 h318.1)
        refine mr_iload_n (pc := 56) (z := z223) dX12_sends_56 rfl rfl ?_
        refine mr_ldc (pc := 57) (z := (-99999999)) dX12_sends_57 wG_X12_29 (by decide) ?_
        refine mr_icmp_eq (pc := 59) (tgt := 78) dX12_sends_59 (by decide) (r32 h225 rfl) (r32 (rR (x := (-99999999))) rfl) (fun h338 => ?_) (fun h338 => ?_)
        · have h339 : (-99999999) ≤ z223 ∧ z223 ≤ (-99999999) := (vc_X12_sends_5 h338 h225 h230)
          refine mr_iload (pc := 78) (z := z222) dX12_sends_78 rfl ?_
          refine mr_istore_n (pc := 80) (lv' := [(3, iv z222), (0, .ref 106), (1, iv p1), (2, iv p2), (4, iv z222)]) dX12_sends_80 rfl (by decide) rfl ?_
          refine mr_iinc (pc := 81) (lv' := [(4, iv (z222 + 1)), (3, iv z222), (0, .ref 106), (1, iv p1), (2, iv p2)]) dX12_sends_81 rfl (by decide) rfl ?_
          refine sv_goto (pc := 84) (tgt := 6) dX12_sends_84 (by decide) ?_
          refine mr_lvS (lv' := [(0, .ref 106), (1, iv p1), (2, iv p2), (3, iv z222), (4, iv (z222 + 1))]) (List.forall_mem_cons.mpr ⟨rfl, List.forall_mem_cons.mpr ⟨rfl, List.forall_mem_cons.mpr ⟨rfl, List.forall_mem_cons.mpr ⟨rfl, List.forall_mem_cons.mpr ⟨rfl, fun _ h => absurd h List.not_mem_nil⟩⟩⟩⟩⟩) ?_
          exact ih232 z222 (z222 + 1) trivial (rW (c := (-99999999)) (d := 9) h278 rfl) (rW (c := 0) (d := 10) (rAdd (e := 1) (f := 10) h278 (rR (x := 1)) rfl) rfl) (vc_X12_sends_15 h264 h278 h279) (vc_X12_sends_11 (nS h231) h264 h278 h279)
        have h340 : 0 ≤ z223 ∧ z223 ≤ 9 := (vc_X12_sends_2 h338 h225 h230)
        refine sv_aload_n (pc := 62) dX12_sends_62 rfl rfl ?_
        refine gf_X12_4 (pc := 63) dX12_sends_63 wF_X12_26 (A_106 hw) hT ?_
        refine mr_iload (pc := 66) (z := z222) dX12_sends_66 rfl ?_
        refine lk_109 (pc := 68) dX12_sends_68 (A_109 hw) (rIx (n := 10) h278 rfl) q313 ?_
        refine sv_aload_n (pc := 69) dX12_sends_69 rfl rfl ?_
        refine gf_X12_4 (pc := 70) dX12_sends_70 wF_X12_26 (A_106 hw) hT ?_
        refine mr_iload_n (pc := 73) (z := z223) dX12_sends_73 rfl rfl ?_
        refine la_109 (pc := 74) dX12_sends_74 (A_109 hw) hT (rIx (n := 10) h340 rfl) fun z341 q342 h343 => ?_
        refine mr_icmp_le (pc := 75) (tgt := 81) dX12_sends_75 (by decide) (r32 h314 rfl) (r32 h343 rfl) (fun h346 => ?_) (fun h346 => ?_)
        · refine mr_iinc (pc := 81) (lv' := [(4, iv (z222 + 1)), (0, .ref 106), (1, iv p1), (2, iv p2), (3, iv z223)]) dX12_sends_81 rfl (by decide) rfl ?_
          refine sv_goto (pc := 84) (tgt := 6) dX12_sends_84 (by decide) ?_
          refine mr_lvS (lv' := [(0, .ref 106), (1, iv p1), (2, iv p2), (3, iv z223), (4, iv (z222 + 1))]) (List.forall_mem_cons.mpr ⟨rfl, List.forall_mem_cons.mpr ⟨rfl, List.forall_mem_cons.mpr ⟨rfl, List.forall_mem_cons.mpr ⟨rfl, List.forall_mem_cons.mpr ⟨rfl, fun _ h => absurd h List.not_mem_nil⟩⟩⟩⟩⟩) ?_
          exact ih232 z223 (z222 + 1) trivial (rW (c := (-99999999)) (d := 9) h340 rfl) (rW (c := 0) (d := 10) (rAdd (e := 1) (f := 10) h278 (rR (x := 1)) rfl) rfl) (vc_X12_sends_16 h338 h340 h230) (vc_X12_sends_11 (nS h231) h264 h278 h279)
        have h347 : 1 ≤ z312 ∧ z312 ≤ 32 := (vc_X12_sends_17 h346 h314 h343)
        have h348 : 0 ≤ z341 ∧ z341 ≤ 31 := (vc_X12_sends_18 h346 h347 h343)
        refine mr_iload (pc := 78) (z := z222) dX12_sends_78 rfl ?_
        refine mr_istore_n (pc := 80) (lv' := [(3, iv z222), (0, .ref 106), (1, iv p1), (2, iv p2), (4, iv z222)]) dX12_sends_80 rfl (by decide) rfl ?_
        refine mr_iinc (pc := 81) (lv' := [(4, iv (z222 + 1)), (3, iv z222), (0, .ref 106), (1, iv p1), (2, iv p2)]) dX12_sends_81 rfl (by decide) rfl ?_
        refine sv_goto (pc := 84) (tgt := 6) dX12_sends_84 (by decide) ?_
        refine mr_lvS (lv' := [(0, .ref 106), (1, iv p1), (2, iv p2), (3, iv z222), (4, iv (z222 + 1))]) (List.forall_mem_cons.mpr ⟨rfl, List.forall_mem_cons.mpr ⟨rfl, List.forall_mem_cons.mpr ⟨rfl, List.forall_mem_cons.mpr ⟨rfl, List.forall_mem_cons.mpr ⟨rfl, fun _ h => absurd h List.not_mem_nil⟩⟩⟩⟩⟩) ?_
        exact ih232 z222 (z222 + 1) trivial (rW (c := (-99999999)) (d := 9) h278 rfl) (rW (c := 0) (d := 10) (rAdd (e := 1) (f := 10) h278 (rR (x := 1)) rfl) rfl) (vc_X12_sends_15 h264 h278 h279) (vc_X12_sends_11 (nS h231) h264 h278 h279)
      have h349 : 0 ≤ z319 ∧ z319 ≤ 0 := (vc_X12_sends_19 h329 h318.1)
      refine sv_goto (pc := 53) (tgt := 81) dX12_sends_53 (by decide) ?_
      refine mr_iinc (pc := 81) (lv' := [(4, iv (z222 + 1)), (0, .ref 106), (1, iv p1), (2, iv p2), (3, iv z223)]) dX12_sends_81 rfl (by decide) rfl ?_
      refine sv_goto (pc := 84) (tgt := 6) dX12_sends_84 (by decide) ?_
      refine mr_lvS (lv' := [(0, .ref 106), (1, iv p1), (2, iv p2), (3, iv z223), (4, iv (z222 + 1))]) (List.forall_mem_cons.mpr ⟨rfl, List.forall_mem_cons.mpr ⟨rfl, List.forall_mem_cons.mpr ⟨rfl, List.forall_mem_cons.mpr ⟨rfl, List.forall_mem_cons.mpr ⟨rfl, fun _ h => absurd h List.not_mem_nil⟩⟩⟩⟩⟩) ?_
      exact ih232 z223 (z222 + 1) trivial h225 (rW (c := 0) (d := 10) (rAdd (e := 1) (f := 10) h278 (rR (x := 1)) rfl) rfl) (vc_X12_sends_12 h225 h230) (vc_X12_sends_11 (nS h231) h264 h278 h279)
  refine mr_lvS (lv' := [(0, .ref 106), (1, iv p1), (2, iv p2), (3, iv (-99999999)), (4, iv 0)]) (List.forall_mem_cons.mpr ⟨rfl, List.forall_mem_cons.mpr ⟨rfl, List.forall_mem_cons.mpr ⟨rfl, List.forall_mem_cons.mpr ⟨rfl, List.forall_mem_cons.mpr ⟨rfl, fun _ h => absurd h List.not_mem_nil⟩⟩⟩⟩⟩) ?_
  exact L224 12 (-99999999) 0 trivial (rW (c := (-99999999)) (d := 9) (rR (x := (-99999999))) rfl) (rW (c := 0) (d := 10) (rR (x := 0)) rfl) vc_X12_sends_21 vc_X12_sends_20
theorem vc_X12_led_1 {p1 z1 z8 : Int} (h0 : z8 = 0) (h1 : (z8 = 1 → (0 : Int) ≤ p1 ∧ p1 ≤ (z1 - 1))) (h2 : (z8 = 0 → p1 < (0 : Int) ∨ (z1 - 1) < p1)) (h3 : (-2147483648) ≤ p1 ∧ p1 ≤ 2147483647) (h4 : 0 ≤ z1 ∧ z1 ≤ 12) (h5 : 0 ≤ z8 ∧ z8 ≤ 1) : 0 ≤ z8 ∧ z8 ≤ 0 := by omega
theorem vc_X12_led_2 {p1 z1 z8 : Int} (h0 : (z8 = 1 → (0 : Int) ≤ p1 ∧ p1 ≤ (z1 - 1))) (h1 : (z8 = 0 → p1 < (0 : Int) ∨ (z1 - 1) < p1)) (h2 : z8 = 0) (h3 : (-2147483648) ≤ p1 ∧ p1 ≤ 2147483647) (h4 : 0 ≤ z1 ∧ z1 ≤ 12) (h5 : 0 ≤ z8 ∧ z8 ≤ 0) : z8 = 0 := by omega
theorem vc_X12_led_3 {p1 z1 z8 : Int} (h0 : ¬ z8 = 0) (h1 : (z8 = 1 → (0 : Int) ≤ p1 ∧ p1 ≤ (z1 - 1))) (h2 : (z8 = 0 → p1 < (0 : Int) ∨ (z1 - 1) < p1)) (h3 : (-2147483648) ≤ p1 ∧ p1 ≤ 2147483647) (h4 : 0 ≤ z1 ∧ z1 ≤ 12) (h5 : 0 ≤ z8 ∧ z8 ≤ 1) : 1 ≤ z8 ∧ z8 ≤ 1 := by omega
theorem vc_X12_led_4 {p1 z1 z8 : Int} (h0 : (z8 = 1 → (0 : Int) ≤ p1 ∧ p1 ≤ (z1 - 1))) (h1 : (z8 = 0 → p1 < (0 : Int) ∨ (z1 - 1) < p1)) (h2 : ¬ z8 = 0) (h3 : (-2147483648) ≤ p1 ∧ p1 ≤ 2147483647) (h4 : 0 ≤ z1 ∧ z1 ≤ 12) (h5 : 1 ≤ z8 ∧ z8 ≤ 1) : z8 = 1 := by omega
theorem vc_X12_led_5 {p1 z1 z8 : Int} (h0 : (0 : Int) ≤ p1 ∧ p1 ≤ (z1 - 1)) (h1 : (z8 = 1 → (0 : Int) ≤ p1 ∧ p1 ≤ (z1 - 1))) (h2 : (z8 = 0 → p1 < (0 : Int) ∨ (z1 - 1) < p1)) (h3 : (-2147483648) ≤ p1 ∧ p1 ≤ 2147483647) (h4 : 0 ≤ z1 ∧ z1 ≤ 12) (h5 : 1 ≤ z8 ∧ z8 ≤ 1) : 0 ≤ p1 ∧ p1 ≤ 2147483647 := by omega
theorem vc_X12_led_6 {p1 z1 z8 : Int} (h0 : (z8 = 1 → (0 : Int) ≤ p1 ∧ p1 ≤ (z1 - 1))) (h1 : (z8 = 0 → p1 < (0 : Int) ∨ (z1 - 1) < p1)) (h2 : (0 : Int) ≤ p1 ∧ p1 ≤ (z1 - 1)) (h3 : ¬ z8 = 0) (h4 : 0 ≤ p1 ∧ p1 ≤ 2147483647) (h5 : 0 ≤ z1 ∧ z1 ≤ 12) (h6 : 1 ≤ z8 ∧ z8 ≤ 1) : 0 ≤ p1 ∧ p1 < 12 := by omega
set_option maxRecDepth 4000 in
set_option maxHeartbeats 4000000 in
theorem c_X12_led {l : Launch} {D : va_G} {c : Nat → ClassId} {H0 : Heap} {sa : Nat × Nat × (Nat → Int32)} {w : mW} {μ : mM} (hw : mWF w) (hT : mT w μ) {p1 : Int} (hp1 : (-2147483648) ≤ p1 ∧ p1 ≤ 2147483647) : sC (gG l D c H0 sa) mX12_led 2 0 0 [.ref 106, iv p1] (mk w μ) (qP w μ (fun z => ((-2147483648) ≤ z ∧ z ≤ 2147483647) ∧ True)) := by
  refine sC.of rfl (by decide) (le_t rfl) ?_
  refine mr_lvE (lv' := [(0, .ref 106), (1, iv p1)]) rfl ?_
  refine mr_iload_n (pc := 0) (z := p1) dX12_led_0 rfl rfl ?_
  refine mr_iconst (pc := 1) (z := 0) dX12_led_1 ?_
  refine sv_aload_n (pc := 2) dX12_led_2 rfl rfl ?_
  refine gf_X12_108 (pc := 3) dX12_led_3 wF_X12_692 (A_106 hw) hT fun z1 q2 h3 => ?_
  refine mr_iconst (pc := 6) (z := 1) dX12_led_6 ?_
  refine mr_isub (pc := 7) (x := z1) (y := 1) dX12_led_7 ?_
  refine mr_cSP (pc := 8) (c_X12_in hw hT hp1 (rW (c := (-2147483648)) (d := 2147483647) (rR (x := 0)) rfl) (rW (c := (-2147483648)) (d := 2147483647) (rSub (e := (-1)) (f := 11) h3 (rR (x := 1)) rfl) rfl)) (gOk _ _ _ _ _) dX12_led_8 (tX12_in _ _ _ _ _) wS_X12_in wM_X12_18 ⟨le_t rfl, le_t rfl⟩ ⟨le_t rfl, le_t rfl⟩ rfl (le_t rfl) fun z8 h7 => ?_
  refine mr_if_eq (pc := 11) (tgt := 23) dX12_led_11 (by decide) (r32 h7.1 rfl) (fun h17 => ?_) (fun h17 => ?_)
  · have h18 : 0 ≤ z8 ∧ z8 ≤ 0 := (vc_X12_led_1 h17 h7.2.1 h7.2.2.1 hp1 h3 h7.1)
    have h19 : p1 < (0 : Int) ∨ (z1 - 1) < p1 := (h7.2.2.1 (vc_X12_led_2 h7.2.1 h7.2.2.1 h17 hp1 h3 h18))
    refine mr_ldc (pc := 23) (z := (-99999999)) dX12_led_23 wG_X12_29 (by decide) ?_
    exact mr_iretP dX12_led_25 rfl (le_t rfl) (le_t rfl) ⟨(rW (c := (-2147483648)) (d := 2147483647) (rR (x := (-99999999))) rfl), trivial⟩
  have h20 : 1 ≤ z8 ∧ z8 ≤ 1 := (vc_X12_led_3 h17 h7.2.1 h7.2.2.1 hp1 h3 h7.1)
  have h21 : (0 : Int) ≤ p1 ∧ p1 ≤ (z1 - 1) := (h7.2.1 (vc_X12_led_4 h7.2.1 h7.2.2.1 h17 hp1 h3 h20))
  have h22 : 0 ≤ p1 ∧ p1 ≤ 2147483647 := (vc_X12_led_5 h21 h7.2.1 h7.2.2.1 hp1 h3 h20)
  refine sv_aload_n (pc := 14) dX12_led_14 rfl rfl ?_
  refine gf_X12_107 (pc := 15) dX12_led_15 wF_X12_490 (A_106 hw) hT ?_
  refine mr_iload_n (pc := 18) (z := p1) dX12_led_18 rfl rfl ?_
  refine la_176 (pc := 19) dX12_led_19 (A_176 hw) hT (vc_X12_led_6 h7.2.1 h7.2.2.1 h21 h17 h22 h3 h20) fun z23 q24 h25 => ?_
  refine sv_goto (pc := 20) (tgt := 25) dX12_led_20 (by decide) ?_
  exact mr_iretP dX12_led_25 rfl (le_t rfl) (le_t rfl) ⟨h25, trivial⟩
theorem vc_X12_demand_1 {p1 z1 z8 : Int} (h0 : z8 = 0) (h1 : (z8 = 1 → 0 ≤ p1 ∧ p1 < z1)) (h2 : (z8 = 0 → p1 < 0 ∨ z1 ≤ p1)) (h3 : (-2147483648) ≤ p1 ∧ p1 ≤ 2147483647) (h4 : 0 ≤ z1 ∧ z1 ≤ 10) (h5 : 0 ≤ z8 ∧ z8 ≤ 1) : 0 ≤ z8 ∧ z8 ≤ 0 := by omega
theorem vc_X12_demand_2 {p1 z1 z8 : Int} (h0 : (z8 = 1 → 0 ≤ p1 ∧ p1 < z1)) (h1 : (z8 = 0 → p1 < 0 ∨ z1 ≤ p1)) (h2 : z8 = 0) (h3 : (-2147483648) ≤ p1 ∧ p1 ≤ 2147483647) (h4 : 0 ≤ z1 ∧ z1 ≤ 10) (h5 : 0 ≤ z8 ∧ z8 ≤ 0) : z8 = 0 := by omega
theorem vc_X12_demand_3 {p1 z1 z8 : Int} (h0 : ¬ z8 = 0) (h1 : (z8 = 1 → 0 ≤ p1 ∧ p1 < z1)) (h2 : (z8 = 0 → p1 < 0 ∨ z1 ≤ p1)) (h3 : (-2147483648) ≤ p1 ∧ p1 ≤ 2147483647) (h4 : 0 ≤ z1 ∧ z1 ≤ 10) (h5 : 0 ≤ z8 ∧ z8 ≤ 1) : 1 ≤ z8 ∧ z8 ≤ 1 := by omega
theorem vc_X12_demand_4 {p1 z1 z8 : Int} (h0 : (z8 = 1 → 0 ≤ p1 ∧ p1 < z1)) (h1 : (z8 = 0 → p1 < 0 ∨ z1 ≤ p1)) (h2 : ¬ z8 = 0) (h3 : (-2147483648) ≤ p1 ∧ p1 ≤ 2147483647) (h4 : 0 ≤ z1 ∧ z1 ≤ 10) (h5 : 1 ≤ z8 ∧ z8 ≤ 1) : z8 = 1 := by omega
theorem vc_X12_demand_5 {p1 z1 z8 : Int} (h0 : 0 ≤ p1 ∧ p1 < z1) (h1 : (z8 = 1 → 0 ≤ p1 ∧ p1 < z1)) (h2 : (z8 = 0 → p1 < 0 ∨ z1 ≤ p1)) (h3 : (-2147483648) ≤ p1 ∧ p1 ≤ 2147483647) (h4 : 0 ≤ z1 ∧ z1 ≤ 10) (h5 : 1 ≤ z8 ∧ z8 ≤ 1) : 0 ≤ p1 ∧ p1 ≤ 9 := by omega
theorem vc_X12_demand_6 {p1 z1 z8 : Int} (h0 : 0 ≤ p1 ∧ p1 < z1) (h1 : (z8 = 1 → 0 ≤ p1 ∧ p1 < z1)) (h2 : (z8 = 0 → p1 < 0 ∨ z1 ≤ p1)) (h3 : 0 ≤ p1 ∧ p1 ≤ 9) (h4 : 0 ≤ z1 ∧ z1 ≤ 10) (h5 : 1 ≤ z8 ∧ z8 ≤ 1) : 1 ≤ z1 ∧ z1 ≤ 10 := by omega
theorem vc_X12_demand_7 {p3 z20 : Int} (h0 : ¬ z20 = 0) (h1 : (z20 = 1 → (1 : Int) ≤ p3 ∧ p3 ≤ (1000000 : Int))) (h2 : (z20 = 0 → p3 < (1 : Int) ∨ (1000000 : Int) < p3)) (h3 : (-2147483648) ≤ p3 ∧ p3 ≤ 2147483647) (h4 : 0 ≤ z20 ∧ z20 ≤ 1) : 1 ≤ z20 ∧ z20 ≤ 1 := by omega
theorem vc_X12_demand_8 {p3 z20 : Int} (h0 : (z20 = 1 → (1 : Int) ≤ p3 ∧ p3 ≤ (1000000 : Int))) (h1 : (z20 = 0 → p3 < (1 : Int) ∨ (1000000 : Int) < p3)) (h2 : ¬ z20 = 0) (h3 : (-2147483648) ≤ p3 ∧ p3 ≤ 2147483647) (h4 : 1 ≤ z20 ∧ z20 ≤ 1) : z20 = 1 := by omega
theorem vc_X12_demand_9 {p3 z20 : Int} (h0 : (1 : Int) ≤ p3 ∧ p3 ≤ (1000000 : Int)) (h1 : (z20 = 1 → (1 : Int) ≤ p3 ∧ p3 ≤ (1000000 : Int))) (h2 : (z20 = 0 → p3 < (1 : Int) ∨ (1000000 : Int) < p3)) (h3 : (-2147483648) ≤ p3 ∧ p3 ≤ 2147483647) (h4 : 1 ≤ z20 ∧ z20 ≤ 1) : 1 ≤ p3 ∧ p3 ≤ 1000000 := by omega
theorem vc_X12_demand_10 {z25 : Int} (h0 : ¬ z25 = 16) (h1 : 0 ≤ z25 ∧ z25 ≤ 16) : 0 ≤ z25 ∧ z25 ≤ 15 := by omega
theorem vc_X12_demand_11 {z25 : Int} (h0 : z25 = 16) (h1 : 0 ≤ z25 ∧ z25 ≤ 16) : 16 ≤ z25 ∧ z25 ≤ 16 := by omega
theorem vc_X12_demand_12 {p3 z20 : Int} (h0 : z20 = 0) (h1 : (z20 = 1 → (1 : Int) ≤ p3 ∧ p3 ≤ (1000000 : Int))) (h2 : (z20 = 0 → p3 < (1 : Int) ∨ (1000000 : Int) < p3)) (h3 : (-2147483648) ≤ p3 ∧ p3 ≤ 2147483647) (h4 : 0 ≤ z20 ∧ z20 ≤ 1) : 0 ≤ z20 ∧ z20 ≤ 0 := by omega
theorem vc_X12_demand_13 {p3 z20 : Int} (h0 : (z20 = 1 → (1 : Int) ≤ p3 ∧ p3 ≤ (1000000 : Int))) (h1 : (z20 = 0 → p3 < (1 : Int) ∨ (1000000 : Int) < p3)) (h2 : z20 = 0) (h3 : (-2147483648) ≤ p3 ∧ p3 ≤ 2147483647) (h4 : 0 ≤ z20 ∧ z20 ≤ 0) : z20 = 0 := by omega
set_option maxRecDepth 4000 in
set_option maxHeartbeats 4000000 in
theorem c_X12_demand {l : Launch} {D : va_G} {c : Nat → ClassId} {H0 : Heap} {sa : Nat × Nat × (Nat → Int32)} {w : mW} {μ : mM} (hw : mWF w) (hT : mT w μ) {p1 : Int} (hp1 : (-2147483648) ≤ p1 ∧ p1 ≤ 2147483647) {p2 : Int} (hp2 : (-2147483648) ≤ p2 ∧ p2 ≤ 2147483647) {p3 : Int} (hp3 : (-2147483648) ≤ p3 ∧ p3 ≤ 2147483647) : sC (gG l D c H0 sa) mX12_demand 3 0 0 [.ref 106, iv p1, iv p2, iv p3] (mk w μ) (qI w [106109, 177999, 178999, 179999] μ (fun z μ1 => ((-2147483648) ≤ z ∧ z ≤ 2147483647) ∧ True)) := by
  refine sC.of rfl (by decide) (le_t rfl) ?_
  refine mr_lvE (lv' := [(0, .ref 106), (1, iv p1), (2, iv p2), (3, iv p3)]) rfl ?_
  refine sv_aload_n (pc := 0) dX12_demand_0 rfl rfl ?_
  refine mr_iload_n (pc := 1) (z := p1) dX12_demand_1 rfl rfl ?_
  obtain ⟨z1, q2⟩ : ∃ z, μ 106 5 = z := ⟨_, rfl⟩
  have h3 : (0 ≤ z1 ∧ z1 ≤ 10) := by rw [← q2]; exact hT 106 106 (A_106 hw) 5
  refine mr_cVP (pc := 2) (c_X12_isDomain hw hT hp1 q2) (gOk _ _ _ _ _) dX12_demand_2 (tX12_isDomain _ _ _ _ _) ⟨wV_X12_isDomain, wL_X12_isDomain⟩ wM_X12_49 (gCX12 _ _ _ _ _) rfl (A_106 hw) rfl ⟨le_t rfl, le_t rfl⟩ ⟨le_t rfl, le_t rfl⟩ rfl (le_t rfl) fun z8 h7 => ?_
  refine mr_if_eq (pc := 5) (tgt := 19) dX12_demand_5 (by decide) (r32 h7.1 rfl) (fun h9 => ?_) (fun h9 => ?_)
  · have h10 : 0 ≤ z8 ∧ z8 ≤ 0 := (vc_X12_demand_1 h9 h7.2.1 h7.2.2.1 hp1 h3 h7.1)
    have h11 : p1 < 0 ∨ z1 ≤ p1 := (h7.2.2.1 (vc_X12_demand_2 h7.2.1 h7.2.2.1 h9 hp1 h3 h10))
    refine mr_iconst (pc := 19) (z := (-1)) dX12_demand_19 ?_
    exact mr_iret dX12_demand_20 rfl (le_t rfl) (le_t rfl) hT mF.refl ⟨(rW (c := (-2147483648)) (d := 2147483647) (rR (x := (-1))) rfl), trivial⟩
  have h12 : 1 ≤ z8 ∧ z8 ≤ 1 := (vc_X12_demand_3 h9 h7.2.1 h7.2.2.1 hp1 h3 h7.1)
  have h13 : 0 ≤ p1 ∧ p1 < z1 := (h7.2.1 (vc_X12_demand_4 h7.2.1 h7.2.2.1 h9 hp1 h3 h12))
  have h14 : 0 ≤ p1 ∧ p1 ≤ 9 := (vc_X12_demand_5 h13 h7.2.1 h7.2.2.1 hp1 h3 h12)
  have h15 : 1 ≤ z1 ∧ z1 ≤ 10 := (vc_X12_demand_6 h13 h7.2.1 h7.2.2.1 h14 h3 h12)
  refine mr_iload_n (pc := 8) (z := p3) dX12_demand_8 rfl rfl ?_
  refine mr_iconst (pc := 9) (z := 1) dX12_demand_9 ?_
  refine mr_ldcw (pc := 10) (z := 1000000) dX12_demand_10 wG_X12_291 (by decide) ?_
  refine mr_cSP (pc := 13) (c_X12_in hw hT hp3 (rW (c := (-2147483648)) (d := 2147483647) (rR (x := 1)) rfl) (rW (c := (-2147483648)) (d := 2147483647) (rR (x := 1000000)) rfl)) (gOk _ _ _ _ _) dX12_demand_13 (tX12_in _ _ _ _ _) wS_X12_in wM_X12_18 ⟨le_t rfl, le_t rfl⟩ ⟨le_t rfl, le_t rfl⟩ rfl (le_t rfl) fun z20 h19 => ?_
  refine mr_if_ne (pc := 16) (tgt := 21) dX12_demand_16 (by decide) (r32 h19.1 rfl) (fun h21 => ?_) (fun h21 => ?_)
  · have h22 : 1 ≤ z20 ∧ z20 ≤ 1 := (vc_X12_demand_7 h21 h19.2.1 h19.2.2.1 hp3 h19.1)
    have h23 : (1 : Int) ≤ p3 ∧ p3 ≤ (1000000 : Int) := (h19.2.1 (vc_X12_demand_8 h19.2.1 h19.2.2.1 h21 hp3 h22))
    have h24 : 1 ≤ p3 ∧ p3 ≤ 1000000 := (vc_X12_demand_9 h23 h19.2.1 h19.2.2.1 hp3 h22)
    refine sv_aload_n (pc := 21) dX12_demand_21 rfl rfl ?_
    refine gf_X12_109 (pc := 22) dX12_demand_22 wF_X12_695 (A_106 hw) hT fun z25 q26 h27 => ?_
    refine mr_bipush (pc := 25) (z := 16) dX12_demand_25 (by decide) ?_
    refine mr_icmp_ne (pc := 27) (tgt := 33) dX12_demand_27 (by decide) (r32 h27 rfl) (r32 (rR (x := 16)) rfl) (fun h28 => ?_) (fun h28 => ?_)
    · have h29 : 0 ≤ z25 ∧ z25 ≤ 15 := (vc_X12_demand_10 h28 h27)
      refine sv_aload_n (pc := 33) dX12_demand_33 rfl rfl ?_
      refine gf_X12_110 (pc := 34) dX12_demand_34 wF_X12_493 (A_106 hw) hT ?_
      refine sv_aload_n (pc := 37) dX12_demand_37 rfl rfl ?_
      refine gk_X12_109 (pc := 38) dX12_demand_38 wF_X12_695 (A_106 hw) q26 ?_
      refine mr_iload_n (pc := 41) (z := p1) dX12_demand_41 rfl rfl ?_
      refine ss_177 (pc := 42) dX12_demand_42 (A_177 hw) hT (rIx (n := 16) h29 rfl) h14 fun μ30 u31 T32 => ?_
      refine sv_aload_n (pc := 43) dX12_demand_43 rfl rfl ?_
      refine gf_X12_111 (pc := 44) dX12_demand_44 wF_X12_496 (A_106 hw) T32 ?_
      refine sv_aload_n (pc := 47) dX12_demand_47 rfl rfl ?_
      refine gk_X12_109 (pc := 48) dX12_demand_48 wF_X12_695 (A_106 hw) (u31.f (Or.inl (mAt.ne (A_177 hw) (A_106 hw) rfl)) q26) ?_
      refine mr_iload_n (pc := 51) (z := p2) dX12_demand_51 rfl rfl ?_
      refine ss_178 (pc := 52) dX12_demand_52 (A_178 hw) T32 (rIx (n := 16) h29 rfl) hp2 fun μ33 u34 T35 => ?_
      refine sv_aload_n (pc := 53) dX12_demand_53 rfl rfl ?_
      refine gf_X12_112 (pc := 54) dX12_demand_54 wF_X12_499 (A_106 hw) T35 ?_
      refine sv_aload_n (pc := 57) dX12_demand_57 rfl rfl ?_
      refine gk_X12_109 (pc := 58) dX12_demand_58 wF_X12_695 (A_106 hw) (u34.f (Or.inl (mAt.ne (A_178 hw) (A_106 hw) rfl)) (u31.f (Or.inl (mAt.ne (A_177 hw) (A_106 hw) rfl)) q26)) ?_
      refine mr_iload_n (pc := 61) (z := p3) dX12_demand_61 rfl rfl ?_
      refine ss_179 (pc := 62) dX12_demand_62 (A_179 hw) T35 (rIx (n := 16) h29 rfl) (rW (c := (-2147483648)) (d := 2147483647) h24 rfl) fun μ36 u37 T38 => ?_
      refine sv_aload_n (pc := 63) dX12_demand_63 rfl rfl ?_
      refine sv_dup (pc := 64) dX12_demand_64 rfl ?_
      refine gk_X12_109 (pc := 65) dX12_demand_65 wF_X12_695 (A_106 hw) (u37.f (Or.inl (mAt.ne (A_179 hw) (A_106 hw) rfl)) (u34.f (Or.inl (mAt.ne (A_178 hw) (A_106 hw) rfl)) (u31.f (Or.inl (mAt.ne (A_177 hw) (A_106 hw) rfl)) q26))) ?_
      refine mr_iconst (pc := 68) (z := 1) dX12_demand_68 ?_
      refine mr_iadd (pc := 69) (x := z25) (y := 1) dX12_demand_69 ?_
      refine pf_X12_109 (pc := 70) dX12_demand_70 wF_X12_695 (A_106 hw) T38 (rW (c := 0) (d := 16) (rAdd (e := 1) (f := 16) h29 (rR (x := 1)) rfl) rfl) fun μ39 u40 T41 => ?_
      refine sv_aload_n (pc := 73) dX12_demand_73 rfl rfl ?_
      refine gk_X12_109 (pc := 74) dX12_demand_74 wF_X12_695 (A_106 hw) u40.1 ?_
      refine mr_iconst (pc := 77) (z := 1) dX12_demand_77 ?_
      refine mr_isub (pc := 78) (x := (z25 + 1)) (y := 1) dX12_demand_78 ?_
      exact mr_iret dX12_demand_79 rfl (le_t rfl) (le_t rfl) T41 (mF.up (mF.up (mF.up (mF.up mF.refl (A_177 hw) u31 rfl) (A_178 hw) u34 rfl) (A_179 hw) u37 rfl) (A_106 hw) u40 rfl) ⟨(rW (c := (-2147483648)) (d := 2147483647) (rSub (e := 0) (f := 15) (rAdd (e := 1) (f := 16) h29 (rR (x := 1)) rfl) (rR (x := 1)) rfl) rfl), trivial⟩
    have h42 : 16 ≤ z25 ∧ z25 ≤ 16 := (vc_X12_demand_11 h28 h27)
    refine mr_bipush (pc := 30) (z := (-3)) dX12_demand_30 (by decide) ?_
    exact mr_iret dX12_demand_32 rfl (le_t rfl) (le_t rfl) hT mF.refl ⟨(rW (c := (-2147483648)) (d := 2147483647) (rR (x := (-3))) rfl), trivial⟩
  have h43 : 0 ≤ z20 ∧ z20 ≤ 0 := (vc_X12_demand_12 h21 h19.2.1 h19.2.2.1 hp3 h19.1)
  have h44 : p3 < (1 : Int) ∨ (1000000 : Int) < p3 := (h19.2.2.1 (vc_X12_demand_13 h19.2.1 h19.2.2.1 h21 hp3 h43))
  refine mr_iconst (pc := 19) (z := (-1)) dX12_demand_19 ?_
  exact mr_iret dX12_demand_20 rfl (le_t rfl) (le_t rfl) hT mF.refl ⟨(rW (c := (-2147483648)) (d := 2147483647) (rR (x := (-1))) rfl), trivial⟩
theorem vc_X12_nodeOf_1 {z121 : Int} (h0 : (401 - z121) < ((0 : Nat) : Int)) (h1 : 0 ≤ z121 ∧ z121 ≤ 400) : False := by omega
theorem vc_X12_nodeOf_2  : (-(99999999 : Int) : Int) = -(99999999 : Int) ∨ ((0 : Int) ≤ (-(99999999 : Int) : Int) ∧ (-(99999999 : Int) : Int) ≤ (399 : Int)) := by omega
theorem vc_X12_nodeOf_3 {z121 z129 : Int} (h0 : z121 < z129) (h1 : 0 ≤ z121 ∧ z121 ≤ 400) (h2 : 0 ≤ z129 ∧ z129 ≤ 400) : 0 ≤ z121 ∧ z121 ≤ 399 := by omega
theorem vc_X12_nodeOf_4 {z121 z129 : Int} (h0 : z121 < z129) (h1 : 0 ≤ z121 ∧ z121 ≤ 399) (h2 : 0 ≤ z129 ∧ z129 ≤ 400) : 1 ≤ z129 ∧ z129 ≤ 400 := by omega
theorem vc_X12_nodeOf_5 {N z121 z129 : Int} (h0 : (401 - z121) < N + 1) (h1 : z121 < z129) (h2 : 0 ≤ z121 ∧ z121 ≤ 399) (h3 : 1 ≤ z129 ∧ z129 ≤ 400) : (401 - (z121 + 1)) < N := by omega
theorem vc_X12_nodeOf_6 {z121 z129 : Int} (h0 : z121 < z129) (h1 : 0 ≤ z121 ∧ z121 ≤ 399) (h2 : 1 ≤ z129 ∧ z129 ≤ 400) : z121 = -99999999 ∨ (0 ≤ z121 ∧ z121 ≤ 399) := by omega
theorem vc_X12_nodeOf_7  : (401 - 0) < ((402 : Nat) : Int) := by omega
set_option maxRecDepth 4000 in
set_option maxHeartbeats 4000000 in
theorem c_X12_nodeOf {l : Launch} {D : va_G} {c : Nat → ClassId} {H0 : Heap} {sa : Nat × Nat × (Nat → Int32)} {w : mW} {μ : mM} (hw : mWF w) (hT : mT w μ) {p1 : Int} (hp1 : (-2147483648) ≤ p1 ∧ p1 ≤ 2147483647) {p2 : Int} (hp2 : (-2147483648) ≤ p2 ∧ p2 ≤ 2147483647) : sC (gG l D c H0 sa) mX12_nodeOf 1 0 0 [.ref 106, iv p1, iv p2] (mk w μ) (qP w μ (fun z => ((-99999999) ≤ z ∧ z ≤ 399) ∧ (z = -99999999 ∨ (0 ≤ z ∧ z ≤ 399)) ∧ True)) := by
  refine sC.of rfl (by decide) (le_t rfl) ?_
  refine mr_lvE (lv' := [(0, .ref 106), (1, iv p1), (2, iv p2)]) rfl ?_
  refine mr_iconst (pc := 0) (z := 0) dX12_nodeOf_0 ?_
  refine mr_istore_n (pc := 1) (lv' := [(3, iv 0), (0, .ref 106), (1, iv p1), (2, iv p2)]) dX12_nodeOf_1 rfl (by decide) rfl ?_
  have L122 : ∀ (nL122 : Nat) (z121 : Int), True → (0 ≤ z121 ∧ z121 ≤ 400) → (401 - z121) < (nL122 : Int) → sV (gG l D c H0 sa) mX12_nodeOf (sRm 1 0 0) (sZ (gG l D c H0 sa) 0 0 (qP w μ (fun z => ((-99999999) ≤ z ∧ z ≤ 399) ∧ (z = -99999999 ∨ (0 ≤ z ∧ z ≤ 399)) ∧ True))) 2 [(0, .ref 106), (1, iv p1), (2, iv p2), (3, iv z121)] [] (mk w μ) 0 0 := by
    intro nL122
    induction nL122 with
    | zero => intro z121 _ h123 h127; exact ((vc_X12_nodeOf_1 h127 h123)).elim
    | succ nL122 ih128 =>
      intro z121 _ h123 h127
      refine mr_iload_n (pc := 2) (z := z121) dX12_nodeOf_2 rfl rfl ?_
      refine sv_aload_n (pc := 3) dX12_nodeOf_3 rfl rfl ?_
      refine gf_X12_116 (pc := 4) dX12_nodeOf_4 wF_X12_698 (A_106 hw) hT fun z129 q130 h131 => ?_
      refine mr_icmp_ge (pc := 7) (tgt := 38) dX12_nodeOf_7 (by decide) (r32 h123 rfl) (r32 h131 rfl) (fun h132 => ?_) (fun h132 => ?_)
      · refine mr_ldc (pc := 38) (z := (-99999999)) dX12_nodeOf_38 wG_X12_29 (by decide) ?_
        exact mr_iretP dX12_nodeOf_40 rfl (le_t rfl) (le_t rfl) ⟨(rW (c := (-99999999)) (d := 399) (rR (x := (-99999999))) rfl), vc_X12_nodeOf_2, trivial⟩
      have h133 : 0 ≤ z121 ∧ z121 ≤ 399 := (vc_X12_nodeOf_3 h132 h123 h131)
      have h134 : 1 ≤ z129 ∧ z129 ≤ 400 := (vc_X12_nodeOf_4 h132 h133 h131)
      refine sv_aload_n (pc := 10) dX12_nodeOf_10 rfl rfl ?_
      refine gf_X12_113 (pc := 11) dX12_nodeOf_11 wF_X12_502 (A_106 hw) hT ?_
      refine mr_iload_n (pc := 14) (z := z121) dX12_nodeOf_14 rfl rfl ?_
      refine la_180 (pc := 15) dX12_nodeOf_15 (A_180 hw) hT (rIx (n := 400) h133 rfl) fun z135 q136 h137 => ?_
      refine mr_iload_n (pc := 16) (z := p1) dX12_nodeOf_16 rfl rfl ?_
      refine mr_icmp_ne (pc := 17) (tgt := 32) dX12_nodeOf_17 (by decide) h137 hp1 (fun h138 => ?_) (fun h138 => ?_)
      · refine mr_iinc (pc := 32) (lv' := [(3, iv (z121 + 1)), (0, .ref 106), (1, iv p1), (2, iv p2)]) dX12_nodeOf_32 rfl (by decide) rfl ?_
        refine sv_goto (pc := 35) (tgt := 2) dX12_nodeOf_35 (by decide) ?_
        refine mr_lvS (lv' := [(0, .ref 106), (1, iv p1), (2, iv p2), (3, iv (z121 + 1))]) (List.forall_mem_cons.mpr ⟨rfl, List.forall_mem_cons.mpr ⟨rfl, List.forall_mem_cons.mpr ⟨rfl, List.forall_mem_cons.mpr ⟨rfl, fun _ h => absurd h List.not_mem_nil⟩⟩⟩⟩) ?_
        exact ih128 (z121 + 1) trivial (rW (c := 0) (d := 400) (rAdd (e := 1) (f := 400) h133 (rR (x := 1)) rfl) rfl) (vc_X12_nodeOf_5 (nS h127) h132 h133 h134)
      refine sv_aload_n (pc := 20) dX12_nodeOf_20 rfl rfl ?_
      refine gf_X12_114 (pc := 21) dX12_nodeOf_21 wF_X12_505 (A_106 hw) hT ?_
      refine mr_iload_n (pc := 24) (z := z121) dX12_nodeOf_24 rfl rfl ?_
      refine la_181 (pc := 25) dX12_nodeOf_25 (A_181 hw) hT (rIx (n := 400) h133 rfl) fun z139 q140 h141 => ?_
      refine mr_iload_n (pc := 26) (z := p2) dX12_nodeOf_26 rfl rfl ?_
      refine mr_icmp_ne (pc := 27) (tgt := 32) dX12_nodeOf_27 (by decide) h141 hp2 (fun h142 => ?_) (fun h142 => ?_)
      · refine mr_iinc (pc := 32) (lv' := [(3, iv (z121 + 1)), (0, .ref 106), (1, iv p1), (2, iv p2)]) dX12_nodeOf_32 rfl (by decide) rfl ?_
        refine sv_goto (pc := 35) (tgt := 2) dX12_nodeOf_35 (by decide) ?_
        refine mr_lvS (lv' := [(0, .ref 106), (1, iv p1), (2, iv p2), (3, iv (z121 + 1))]) (List.forall_mem_cons.mpr ⟨rfl, List.forall_mem_cons.mpr ⟨rfl, List.forall_mem_cons.mpr ⟨rfl, List.forall_mem_cons.mpr ⟨rfl, fun _ h => absurd h List.not_mem_nil⟩⟩⟩⟩) ?_
        exact ih128 (z121 + 1) trivial (rW (c := 0) (d := 400) (rAdd (e := 1) (f := 400) h133 (rR (x := 1)) rfl) rfl) (vc_X12_nodeOf_5 (nS h127) h132 h133 h134)
      refine mr_iload_n (pc := 30) (z := z121) dX12_nodeOf_30 rfl rfl ?_
      exact mr_iretP dX12_nodeOf_31 rfl (le_t rfl) (le_t rfl) ⟨(rW (c := (-99999999)) (d := 399) h133 rfl), (vc_X12_nodeOf_6 h132 h133 h134), trivial⟩
  refine mr_lvS (lv' := [(0, .ref 106), (1, iv p1), (2, iv p2), (3, iv 0)]) (List.forall_mem_cons.mpr ⟨rfl, List.forall_mem_cons.mpr ⟨rfl, List.forall_mem_cons.mpr ⟨rfl, List.forall_mem_cons.mpr ⟨rfl, fun _ h => absurd h List.not_mem_nil⟩⟩⟩⟩) ?_
  exact L122 402 0 trivial (rW (c := 0) (d := 400) (rR (x := 0)) rfl) vc_X12_nodeOf_7
