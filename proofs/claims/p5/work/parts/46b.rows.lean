theorem vc_X12_hand_1 {z1 : Int} (h0 : z1 = 0) (h1 : 0 ≤ z1 ∧ z1 ≤ 1) : 0 ≤ z1 ∧ z1 ≤ 0 := by omega
theorem vc_X12_hand_2 {z1 : Int} (h0 : ¬ z1 = 0) (h1 : 0 ≤ z1 ∧ z1 ≤ 1) : 1 ≤ z1 ∧ z1 ≤ 1 := by omega
theorem vc_X12_hand_3 {p1 : Int} (h0 : 0 ≤ p1) (h1 : (-2147483648) ≤ p1 ∧ p1 ≤ 2147483647) : 0 ≤ p1 ∧ p1 ≤ 2147483647 := by omega
theorem vc_X12_hand_4 {p1 : Int} (h0 : 5 < p1) (h1 : 0 ≤ p1) (h2 : 0 ≤ p1 ∧ p1 ≤ 2147483647) : 6 ≤ p1 ∧ p1 ≤ 2147483647 := by omega
theorem vc_X12_hand_5 {p1 : Int} (h0 : p1 < 10) (h1 : 0 ≤ p1) (h2 : 5 < p1) (h3 : 6 ≤ p1 ∧ p1 ≤ 2147483647) : 6 ≤ p1 ∧ p1 ≤ 9 := by omega
theorem vc_X12_hand_6 {p1 : Int} (h0 : 100 ≤ p1) (h1 : 6 ≤ p1 ∧ p1 ≤ 9) : False := by omega
theorem vc_X12_hand_7 {p1 : Int} (h0 : 10 ≤ p1) (h1 : 0 ≤ p1) (h2 : 5 < p1) (h3 : 6 ≤ p1 ∧ p1 ≤ 2147483647) : 10 ≤ p1 ∧ p1 ≤ 2147483647 := by omega
theorem vc_X12_hand_8  : ((4 : Int) : Int) % (40 : Int) = (4 : Int) := by omega
theorem vc_X12_hand_9 {p1 z14 : Int} (h0 : p1 < 100) (h1 : 0 ≤ p1) (h2 : 5 < p1) (h3 : 10 ≤ p1) (h4 : z14 ≤ (p1 - 10)) (h5 : 10 ≤ p1 ∧ p1 ≤ 2147483647) (h6 : 0 ≤ z14 ∧ z14 ≤ 20) : 10 ≤ p1 ∧ p1 ≤ 99 := by omega
theorem vc_X12_hand_10 {p1 z14 : Int} (h0 : 100 ≤ p1) (h1 : 0 ≤ p1) (h2 : 5 < p1) (h3 : 10 ≤ p1) (h4 : z14 ≤ (p1 - 10)) (h5 : 10 ≤ p1 ∧ p1 ≤ 2147483647) (h6 : 0 ≤ z14 ∧ z14 ≤ 20) : 100 ≤ p1 ∧ p1 ≤ 2147483647 := by omega
theorem vc_X12_hand_11  : ((5 : Int) : Int) % (40 : Int) = (5 : Int) := by omega
theorem vc_X12_hand_12 {p1 z14 z33 : Int} (h0 : (p1 - 100) < z33) (h1 : 0 ≤ p1) (h2 : 5 < p1) (h3 : 10 ≤ p1) (h4 : z14 ≤ (p1 - 10)) (h5 : 100 ≤ p1) (h6 : 100 ≤ p1 ∧ p1 ≤ 2147483647) (h7 : 0 ≤ z14 ∧ z14 ≤ 20) (h8 : 0 ≤ z33 ∧ z33 ≤ 8) : 100 ≤ p1 ∧ p1 ≤ 107 := by omega
theorem vc_X12_hand_13 {p1 z14 z33 : Int} (h0 : (p1 - 100) < z33) (h1 : 0 ≤ p1) (h2 : 5 < p1) (h3 : 10 ≤ p1) (h4 : z14 ≤ (p1 - 10)) (h5 : 100 ≤ p1) (h6 : 100 ≤ p1 ∧ p1 ≤ 107) (h7 : 0 ≤ z14 ∧ z14 ≤ 20) (h8 : 0 ≤ z33 ∧ z33 ≤ 8) : 1 ≤ z33 ∧ z33 ≤ 8 := by omega
theorem vc_X12_hand_14 {p1 z14 : Int} (h0 : (p1 - 10) < z14) (h1 : 0 ≤ p1) (h2 : 5 < p1) (h3 : 10 ≤ p1) (h4 : 10 ≤ p1 ∧ p1 ≤ 2147483647) (h5 : 0 ≤ z14 ∧ z14 ≤ 20) : 10 ≤ p1 ∧ p1 ≤ 29 := by omega
theorem vc_X12_hand_15 {p1 z14 : Int} (h0 : (p1 - 10) < z14) (h1 : 0 ≤ p1) (h2 : 5 < p1) (h3 : 10 ≤ p1) (h4 : 10 ≤ p1 ∧ p1 ≤ 29) (h5 : 0 ≤ z14 ∧ z14 ≤ 20) : 1 ≤ z14 ∧ z14 ≤ 20 := by omega
theorem vc_X12_hand_16 {p1 : Int} (h0 : p1 ≤ 5) (h1 : 0 ≤ p1) (h2 : 0 ≤ p1 ∧ p1 ≤ 2147483647) : 0 ≤ p1 ∧ p1 ≤ 5 := by omega
theorem vc_X12_hand_17 {p1 : Int} (h0 : p1 < 0) (h1 : (-2147483648) ≤ p1 ∧ p1 ≤ 2147483647) : (-2147483648) ≤ p1 ∧ p1 ≤ (-1) := by omega
set_option maxRecDepth 4000 in
set_option maxHeartbeats 4000000 in
theorem c_X12_hand {l : Launch} {D : va_G} {c : Nat → ClassId} {H0 : Heap} {sa : Nat × Nat × (Nat → Int32)} {w : mW} {μ : mM} (hw : mWF w) (hT : mT w μ) {p1 : Int} (hp1 : (-2147483648) ≤ p1 ∧ p1 ≤ 2147483647) : sC (gG l D c H0 sa) mX12_hand 1 0 0 [.ref 106, iv p1] (mk w μ) (qP w μ (fun z => ((-2147483648) ≤ z ∧ z ≤ 2147483647) ∧ True)) := by
  refine sC.of rfl (by decide) (le_t rfl) ?_
  refine mr_lvE (lv' := [(0, .ref 106), (1, iv p1)]) rfl ?_
  refine sv_aload_n (pc := 0) dX12_hand_0 rfl rfl ?_
  refine gf_X12_70 (pc := 1) dX12_hand_1 wF_X12_411 (A_106 hw) hT fun z1 q2 h3 => ?_
  refine mr_if_eq (pc := 4) (tgt := 11) dX12_hand_4 (by decide) (r32 h3 rfl) (fun h4 => ?_) (fun h4 => ?_)
  · have h5 : 0 ≤ z1 ∧ z1 ≤ 0 := (vc_X12_hand_1 h4 h3)
    refine mr_ldc (pc := 11) (z := (-99999999)) dX12_hand_11 wG_X12_29 (by decide) ?_
    exact mr_iretP dX12_hand_13 rfl (le_t rfl) (le_t rfl) ⟨(rW (c := (-2147483648)) (d := 2147483647) (rR (x := (-99999999))) rfl), trivial⟩
  have h6 : 1 ≤ z1 ∧ z1 ≤ 1 := (vc_X12_hand_2 h4 h3)
  refine mr_iload_n (pc := 7) (z := p1) dX12_hand_7 rfl rfl ?_
  refine mr_if_ge (pc := 8) (tgt := 14) dX12_hand_8 (by decide) hp1 (fun h7 => ?_) (fun h7 => ?_)
  · have h8 : 0 ≤ p1 ∧ p1 ≤ 2147483647 := (vc_X12_hand_3 h7 hp1)
    refine mr_iload_n (pc := 14) (z := p1) dX12_hand_14 rfl rfl ?_
    refine mr_iconst (pc := 15) (z := 5) dX12_hand_15 ?_
    refine mr_icmp_gt (pc := 16) (tgt := 26) dX12_hand_16 (by decide) (r32 h8 rfl) (r32 (rR (x := 5)) rfl) (fun h9 => ?_) (fun h9 => ?_)
    · have h10 : 6 ≤ p1 ∧ p1 ≤ 2147483647 := (vc_X12_hand_4 h9 h7 h8)
      refine mr_iload_n (pc := 26) (z := p1) dX12_hand_26 rfl rfl ?_
      refine mr_bipush (pc := 27) (z := 10) dX12_hand_27 (by decide) ?_
      refine mr_icmp_lt (pc := 29) (tgt := 58) dX12_hand_29 (by decide) (r32 h10 rfl) (r32 (rR (x := 10)) rfl) (fun h11 => ?_) (fun h11 => ?_)
      · have h12 : 6 ≤ p1 ∧ p1 ≤ 9 := (vc_X12_hand_5 h11 h7 h9 h10)
        refine mr_iload_n (pc := 58) (z := p1) dX12_hand_58 rfl rfl ?_
        refine mr_bipush (pc := 59) (z := 100) dX12_hand_59 (by decide) ?_
        refine mr_icmp_lt (pc := 61) (tgt := 92) dX12_hand_61 (by decide) (r32 h12 rfl) (r32 (rR (x := 100)) rfl) (fun _ => ?_) (fun h => ((vc_X12_hand_6 h h12)).elim)
        refine mr_ldc (pc := 92) (z := (-99999999)) dX12_hand_92 wG_X12_29 (by decide) ?_
        exact mr_iretP dX12_hand_94 rfl (le_t rfl) (le_t rfl) ⟨(rW (c := (-2147483648)) (d := 2147483647) (rR (x := (-99999999))) rfl), trivial⟩
      have h13 : 10 ≤ p1 ∧ p1 ≤ 2147483647 := (vc_X12_hand_7 h11 h7 h9 h10)
      refine mr_iload_n (pc := 32) (z := p1) dX12_hand_32 rfl rfl ?_
      refine mr_bipush (pc := 33) (z := 10) dX12_hand_33 (by decide) ?_
      refine mr_isub (pc := 35) (x := p1) (y := 10) dX12_hand_35 ?_
      refine sv_aload_n (pc := 36) dX12_hand_36 rfl rfl ?_
      refine gf_X12_32 (pc := 37) dX12_hand_37 wF_X12_148 (A_106 hw) hT ?_
      refine mr_iconst (pc := 40) (z := 4) dX12_hand_40 ?_
      refine la_126 (pc := 41) dX12_hand_41 (A_126 hw) hT (rIx (n := 84000) (rR (x := 4)) rfl) fun z14 q15 h16 => ?_
      have h17 : 0 ≤ z14 ∧ z14 ≤ 20 := h16.2.2.1 vc_X12_hand_8
      refine mr_icmp_ge (pc := 42) (tgt := 58) dX12_hand_42 (by decide) (r32 (rSub (e := 0) (f := 2147483637) h13 (rR (x := 10)) rfl) rfl) (r32 h17 rfl) (fun h18 => ?_) (fun h18 => ?_)
      · refine mr_iload_n (pc := 58) (z := p1) dX12_hand_58 rfl rfl ?_
        refine mr_bipush (pc := 59) (z := 100) dX12_hand_59 (by decide) ?_
        refine mr_icmp_lt (pc := 61) (tgt := 92) dX12_hand_61 (by decide) (r32 h13 rfl) (r32 (rR (x := 100)) rfl) (fun h30 => ?_) (fun h30 => ?_)
        · have h31 : 10 ≤ p1 ∧ p1 ≤ 99 := (vc_X12_hand_9 h30 h7 h9 h11 h18 h13 h17)
          refine mr_ldc (pc := 92) (z := (-99999999)) dX12_hand_92 wG_X12_29 (by decide) ?_
          exact mr_iretP dX12_hand_94 rfl (le_t rfl) (le_t rfl) ⟨(rW (c := (-2147483648)) (d := 2147483647) (rR (x := (-99999999))) rfl), trivial⟩
        have h32 : 100 ≤ p1 ∧ p1 ≤ 2147483647 := (vc_X12_hand_10 h30 h7 h9 h11 h18 h13 h17)
        refine mr_iload_n (pc := 64) (z := p1) dX12_hand_64 rfl rfl ?_
        refine mr_bipush (pc := 65) (z := 100) dX12_hand_65 (by decide) ?_
        refine mr_isub (pc := 67) (x := p1) (y := 100) dX12_hand_67 ?_
        refine sv_aload_n (pc := 68) dX12_hand_68 rfl rfl ?_
        refine gf_X12_32 (pc := 69) dX12_hand_69 wF_X12_148 (A_106 hw) hT ?_
        refine mr_iconst (pc := 72) (z := 5) dX12_hand_72 ?_
        refine la_126 (pc := 73) dX12_hand_73 (A_126 hw) hT (rIx (n := 84000) (rR (x := 5)) rfl) fun z33 q34 h35 => ?_
        have h36 : 0 ≤ z33 ∧ z33 ≤ 8 := h35.2.2.2 vc_X12_hand_11
        refine mr_icmp_ge (pc := 74) (tgt := 92) dX12_hand_74 (by decide) (r32 (rSub (e := 0) (f := 2147483547) h32 (rR (x := 100)) rfl) rfl) (r32 h36 rfl) (fun h42 => ?_) (fun h42 => ?_)
        · refine mr_ldc (pc := 92) (z := (-99999999)) dX12_hand_92 wG_X12_29 (by decide) ?_
          exact mr_iretP dX12_hand_94 rfl (le_t rfl) (le_t rfl) ⟨(rW (c := (-2147483648)) (d := 2147483647) (rR (x := (-99999999))) rfl), trivial⟩
        have h43 : 100 ≤ p1 ∧ p1 ≤ 107 := (vc_X12_hand_12 h42 h7 h9 h11 h18 h30 h32 h17 h36)
        have h44 : 1 ≤ z33 ∧ z33 ≤ 8 := (vc_X12_hand_13 h42 h7 h9 h11 h18 h30 h43 h17 h36)
        refine sv_aload_n (pc := 77) dX12_hand_77 rfl rfl ?_
        refine gf_X12_32 (pc := 78) dX12_hand_78 wF_X12_148 (A_106 hw) hT ?_
        refine mr_bipush (pc := 81) (z := 26) dX12_hand_81 (by decide) ?_
        refine mr_iload_n (pc := 83) (z := p1) dX12_hand_83 rfl rfl ?_
        refine mr_iadd (pc := 84) (x := 26) (y := p1) dX12_hand_84 ?_
        refine mr_bipush (pc := 85) (z := 100) dX12_hand_85 (by decide) ?_
        refine mr_isub (pc := 87) (x := (26 + p1)) (y := 100) dX12_hand_87 ?_
        refine la_126 (pc := 88) dX12_hand_88 (A_126 hw) hT (rIx (n := 84000) (rSub (e := 26) (f := 33) (rAdd (e := 126) (f := 133) (rR (x := 26)) h43 rfl) (rR (x := 100)) rfl) rfl) fun z45 q46 h47 => ?_
        refine sv_goto (pc := 89) (tgt := 94) dX12_hand_89 (by decide) ?_
        exact mr_iretP dX12_hand_94 rfl (le_t rfl) (le_t rfl) ⟨h47.1, trivial⟩
      have h48 : 10 ≤ p1 ∧ p1 ≤ 29 := (vc_X12_hand_14 h18 h7 h9 h11 h13 h17)
      have h49 : 1 ≤ z14 ∧ z14 ≤ 20 := (vc_X12_hand_15 h18 h7 h9 h11 h48 h17)
      refine sv_aload_n (pc := 45) dX12_hand_45 rfl rfl ?_
      refine gf_X12_32 (pc := 46) dX12_hand_46 wF_X12_148 (A_106 hw) hT ?_
      refine mr_bipush (pc := 49) (z := 6) dX12_hand_49 (by decide) ?_
      refine mr_iload_n (pc := 51) (z := p1) dX12_hand_51 rfl rfl ?_
      refine mr_iadd (pc := 52) (x := 6) (y := p1) dX12_hand_52 ?_
      refine mr_bipush (pc := 53) (z := 10) dX12_hand_53 (by decide) ?_
      refine mr_isub (pc := 55) (x := (6 + p1)) (y := 10) dX12_hand_55 ?_
      refine la_126 (pc := 56) dX12_hand_56 (A_126 hw) hT (rIx (n := 84000) (rSub (e := 6) (f := 25) (rAdd (e := 16) (f := 35) (rR (x := 6)) h48 rfl) (rR (x := 10)) rfl) rfl) fun z50 q51 h52 => ?_
      exact mr_iretP dX12_hand_57 rfl (le_t rfl) (le_t rfl) ⟨h52.1, trivial⟩
    have h53 : 0 ≤ p1 ∧ p1 ≤ 5 := (vc_X12_hand_16 h9 h7 h8)
    refine sv_aload_n (pc := 19) dX12_hand_19 rfl rfl ?_
    refine gf_X12_32 (pc := 20) dX12_hand_20 wF_X12_148 (A_106 hw) hT ?_
    refine mr_iload_n (pc := 23) (z := p1) dX12_hand_23 rfl rfl ?_
    refine la_126 (pc := 24) dX12_hand_24 (A_126 hw) hT (rIx (n := 84000) h53 rfl) fun z54 q55 h56 => ?_
    exact mr_iretP dX12_hand_25 rfl (le_t rfl) (le_t rfl) ⟨h56.1, trivial⟩
  have h57 : (-2147483648) ≤ p1 ∧ p1 ≤ (-1) := (vc_X12_hand_17 h7 hp1)
  refine mr_ldc (pc := 11) (z := (-99999999)) dX12_hand_11 wG_X12_29 (by decide) ?_
  exact mr_iretP dX12_hand_13 rfl (le_t rfl) (le_t rfl) ⟨(rW (c := (-2147483648)) (d := 2147483647) (rR (x := (-99999999))) rfl), trivial⟩
theorem vc_X12_nextEvent_1 {z440 : Int} (h0 : (801 - z440) < ((0 : Nat) : Int)) (h1 : 0 ≤ z440 ∧ z440 ≤ 800) : False := by omega
theorem vc_X12_nextEvent_2 {z440 : Int} (h0 : 800 ≤ z440) (h1 : 0 ≤ z440 ∧ z440 ≤ 800) : 800 ≤ z440 ∧ z440 ≤ 800 := by omega
theorem vc_X12_nextEvent_3 {z443 : Int} (h0 : (-99999999) ≤ z443 ∧ z443 ≤ 799) (h1 : z443 = (-99999999) ∨ (0 ≤ z443 ∧ z443 ≤ 799)) : z443 = -99999999 ∨ (0 ≤ z443 ∧ z443 ≤ 799) := by omega
theorem vc_X12_nextEvent_4 {z440 : Int} (h0 : z440 < 800) (h1 : 0 ≤ z440 ∧ z440 ≤ 800) : 0 ≤ z440 ∧ z440 ≤ 799 := by omega
theorem vc_X12_nextEvent_5 {N z440 : Int} (h0 : (801 - z440) < N + 1) (h1 : z440 < 800) (h2 : 0 ≤ z440 ∧ z440 ≤ 799) : (801 - (z440 + 1)) < N := by omega
theorem vc_X12_nextEvent_6 {z529 : Int} (h0 : (-99999999) ≤ z529 ∧ z529 ≤ 799) (h1 : z529 = (-99999999) ∨ (0 ≤ z529 ∧ z529 ≤ 799)) : z529 = (-99999999) ∨ (0 ≤ z529 ∧ z529 ≤ 799) := by omega
theorem vc_X12_nextEvent_7 {z505 : Int} (h0 : z505 < 0) (h1 : (-1) ≤ z505 ∧ z505 ≤ 2000001000) : (-1) ≤ z505 ∧ z505 ≤ (-1) := by omega
theorem vc_X12_nextEvent_8 {z443 : Int} (h0 : (-99999999) ≤ z443 ∧ z443 ≤ 799) (h1 : z443 = (-99999999) ∨ (0 ≤ z443 ∧ z443 ≤ 799)) : z443 = (-99999999) ∨ (0 ≤ z443 ∧ z443 ≤ 799) := by omega
theorem vc_X12_nextEvent_9 {z505 : Int} (h0 : 0 ≤ z505) (h1 : (-1) ≤ z505 ∧ z505 ≤ 2000001000) : 0 ≤ z505 ∧ z505 ≤ 2000001000 := by omega
theorem vc_X12_nextEvent_10 {z505 : Int} (h0 : 2000000000 < z505) (h1 : 0 ≤ z505) (h2 : 0 ≤ z505 ∧ z505 ≤ 2000001000) : 2000000001 ≤ z505 ∧ z505 ≤ 2000001000 := by omega
theorem vc_X12_nextEvent_11 {z505 : Int} (h0 : z505 ≤ 2000000000) (h1 : 0 ≤ z505) (h2 : 0 ≤ z505 ∧ z505 ≤ 2000001000) : 0 ≤ z505 ∧ z505 ≤ 2000000000 := by omega
theorem vc_X12_nextEvent_12 {z443 : Int} (h0 : z443 = (-99999999)) (h1 : (-99999999) ≤ z443 ∧ z443 ≤ 799) (h2 : z443 = (-99999999) ∨ (0 ≤ z443 ∧ z443 ≤ 799)) : (-99999999) ≤ z443 ∧ z443 ≤ (-99999999) := by omega
theorem vc_X12_nextEvent_13 {z440 : Int} (h0 : z440 < 800) (h1 : 0 ≤ z440 ∧ z440 ≤ 799) : z440 = (-99999999) ∨ (0 ≤ z440 ∧ z440 ≤ 799) := by omega
theorem vc_X12_nextEvent_14 {z443 : Int} (h0 : ¬ z443 = (-99999999)) (h1 : (-99999999) ≤ z443 ∧ z443 ≤ 799) (h2 : z443 = (-99999999) ∨ (0 ≤ z443 ∧ z443 ≤ 799)) : 0 ≤ z443 ∧ z443 ≤ 799 := by omega
theorem vc_X12_nextEvent_15 {z442 z505 : Int} (h0 : z505 < z442) (h1 : 0 ≤ z505) (h2 : z505 ≤ 2000000000) (h3 : 0 ≤ z442 ∧ z442 ≤ 2000000000) (h4 : 0 ≤ z505 ∧ z505 ≤ 2000000000) : 0 ≤ z505 ∧ z505 ≤ 1999999999 := by omega
theorem vc_X12_nextEvent_16 {z442 z505 : Int} (h0 : z505 < z442) (h1 : 0 ≤ z505) (h2 : z505 ≤ 2000000000) (h3 : 0 ≤ z442 ∧ z442 ≤ 2000000000) (h4 : 0 ≤ z505 ∧ z505 ≤ 1999999999) : 1 ≤ z442 ∧ z442 ≤ 2000000000 := by omega
theorem vc_X12_nextEvent_17 {z443 : Int} (h0 : ¬ z443 = (-99999999)) (h1 : 0 ≤ z443 ∧ z443 ≤ 799) (h2 : z443 = (-99999999) ∨ (0 ≤ z443 ∧ z443 ≤ 799)) : z443 = (-99999999) ∨ (0 ≤ z443 ∧ z443 ≤ 799) := by omega
theorem vc_X12_nextEvent_18 {z441 z516 : Int} (h0 : z516 < z441) (h1 : (-2147483648) ≤ z441 ∧ z441 ≤ 2147483647) (h2 : (-2147483648) ≤ z516 ∧ z516 ≤ 2147483647) : (-2147483648) ≤ z516 ∧ z516 ≤ 2147483646 := by omega
theorem vc_X12_nextEvent_19 {z441 z516 : Int} (h0 : z516 < z441) (h1 : (-2147483648) ≤ z441 ∧ z441 ≤ 2147483647) (h2 : (-2147483648) ≤ z516 ∧ z516 ≤ 2147483646) : (-2147483647) ≤ z441 ∧ z441 ≤ 2147483647 := by omega
theorem vc_X12_nextEvent_20 {z440 : Int} (h0 : 400 ≤ z440) (h1 : z440 < 800) (h2 : 0 ≤ z440 ∧ z440 ≤ 799) : 400 ≤ z440 ∧ z440 ≤ 799 := by omega
theorem vc_X12_nextEvent_21 {z440 : Int} (h0 : z440 < 400) (h1 : z440 < 800) (h2 : 0 ≤ z440 ∧ z440 ≤ 799) : 0 ≤ z440 ∧ z440 ≤ 399 := by omega
theorem vc_X12_nextEvent_22  : (801 - 0) < ((802 : Nat) : Int) := by omega
theorem vc_X12_nextEvent_23  : (((-99999999) : Int) : Int) = ((-99999999) : Int) ∨ ((0 : Int) ≤ (((-99999999) : Int) : Int) ∧ (((-99999999) : Int) : Int) ≤ (799 : Int)) := by omega
set_option maxRecDepth 4000 in
set_option maxHeartbeats 4000000 in
theorem c_X12_nextEvent {l : Launch} {D : va_G} {c : Nat → ClassId} {H0 : Heap} {sa : Nat × Nat × (Nat → Int32)} {w : mW} {μ : mM} (hw : mWF w) (hT : mT w μ) : sC (gG l D c H0 sa) mX12_nextEvent 1 0 0 [.ref 106] (mk w μ) (qP w μ (fun z => ((-99999999) ≤ z ∧ z ≤ 799) ∧ (z = -99999999 ∨ (0 ≤ z ∧ z ≤ 799)) ∧ True)) := by
  refine sC.of rfl (by decide) (le_t rfl) ?_
  refine mr_lvE (lv' := [(0, .ref 106)]) rfl ?_
  refine mr_ldc (pc := 0) (z := (-99999999)) dX12_nextEvent_0 wG_X12_29 (by decide) ?_
  refine mr_istore_n (pc := 2) (lv' := [(1, iv (-99999999)), (0, .ref 106)]) dX12_nextEvent_2 rfl (by decide) rfl ?_
  refine mr_iconst (pc := 3) (z := 0) dX12_nextEvent_3 ?_
  refine mr_istore_n (pc := 4) (lv' := [(2, iv 0), (1, iv (-99999999)), (0, .ref 106)]) dX12_nextEvent_4 rfl (by decide) rfl ?_
  refine mr_iconst (pc := 5) (z := 0) dX12_nextEvent_5 ?_
  refine mr_istore_n (pc := 6) (lv' := [(3, iv 0), (2, iv 0), (1, iv (-99999999)), (0, .ref 106)]) dX12_nextEvent_6 rfl (by decide) rfl ?_
  refine mr_iconst (pc := 7) (z := 0) dX12_nextEvent_7 ?_
  refine mr_istore (pc := 8) (lv' := [(4, iv 0), (3, iv 0), (2, iv 0), (1, iv (-99999999)), (0, .ref 106)]) dX12_nextEvent_8 (by decide) rfl ?_
  have L444 : ∀ (nL444 : Nat) (z443 z442 z441 z440 : Int), True → ((-99999999) ≤ z443 ∧ z443 ≤ 799) → (0 ≤ z442 ∧ z442 ≤ 2000000000) → ((-2147483648) ≤ z441 ∧ z441 ≤ 2147483647) → (0 ≤ z440 ∧ z440 ≤ 800) → (z443 = (-99999999) ∨ (0 ≤ z443 ∧ z443 ≤ 799)) → (801 - z440) < (nL444 : Int) → sV (gG l D c H0 sa) mX12_nextEvent (sRm 1 0 0) (sZ (gG l D c H0 sa) 0 0 (qP w μ (fun z => ((-99999999) ≤ z ∧ z ≤ 799) ∧ (z = -99999999 ∨ (0 ≤ z ∧ z ≤ 799)) ∧ True))) 10 [(0, .ref 106), (1, iv z443), (2, iv z442), (3, iv z441), (4, iv z440)] [] (mk w μ) 0 0 := by
    intro nL444
    induction nL444 with
    | zero => intro z443 z442 z441 z440 _ h445 h446 h447 h448 h452 h453; exact ((vc_X12_nextEvent_1 h453 h448)).elim
    | succ nL444 ih454 =>
      intro z443 z442 z441 z440 _ h445 h446 h447 h448 h452 h453
      refine mr_iload (pc := 10) (z := z440) dX12_nextEvent_10 rfl ?_
      refine mr_sipush (pc := 12) (z := 800) dX12_nextEvent_12 (by decide) ?_
      refine mr_icmp_ge (pc := 15) (tgt := 132) dX12_nextEvent_15 (by decide) (r32 h448 rfl) (r32 (rR (x := 800)) rfl) (fun h494 => ?_) (fun h494 => ?_)
      · have h495 : 800 ≤ z440 ∧ z440 ≤ 800 := (vc_X12_nextEvent_2 h494 h448)
        refine mr_iload_n (pc := 132) (z := z443) dX12_nextEvent_132 rfl rfl ?_
        exact mr_iretP dX12_nextEvent_133 rfl (le_t rfl) (le_t rfl) ⟨h445, (vc_X12_nextEvent_3 h445 h452), trivial⟩
      have h496 : 0 ≤ z440 ∧ z440 ≤ 799 := (vc_X12_nextEvent_4 h494 h448)
      refine mr_iload (pc := 18) (z := z440) dX12_nextEvent_18 rfl ?_
      refine mr_sipush (pc := 20) (z := 400) dX12_nextEvent_20 (by decide) ?_
      have J507 : ∀ (z505 : Int), (((-1) ≤ z505 ∧ z505 ≤ 2000001000)) → sV (gG l D c H0 sa) mX12_nextEvent (sRm 1 0 0) (sZ (gG l D c H0 sa) 0 0 (qP w μ (fun z => ((-99999999) ≤ z ∧ z ≤ 799) ∧ (z = -99999999 ∨ (0 ≤ z ∧ z ≤ 799)) ∧ True))) 47 [(0, .ref 106), (1, iv z443), (2, iv z442), (3, iv z441), (4, iv z440)] [iv z505] (mk w μ) 0 0 := by
        intro z505 h506
        refine mr_istore (pc := 47) (lv' := [(5, iv z505), (0, .ref 106), (1, iv z443), (2, iv z442), (3, iv z441), (4, iv z440)]) dX12_nextEvent_47 (by decide) rfl ?_
        refine mr_iload (pc := 49) (z := z440) dX12_nextEvent_49 rfl ?_
        refine mr_sipush (pc := 51) (z := 400) dX12_nextEvent_51 (by decide) ?_
        have J518 : ∀ (z516 : Int), (((-2147483648) ≤ z516 ∧ z516 ≤ 2147483647)) → sV (gG l D c H0 sa) mX12_nextEvent (sRm 1 0 0) (sZ (gG l D c H0 sa) 0 0 (qP w μ (fun z => ((-99999999) ≤ z ∧ z ≤ 799) ∧ (z = -99999999 ∨ (0 ≤ z ∧ z ≤ 799)) ∧ True))) 78 [(0, .ref 106), (1, iv z443), (2, iv z442), (3, iv z441), (4, iv z440), (5, iv z505)] [iv z516] (mk w μ) 0 0 := by
          intro z516 h517
          refine mr_istore (pc := 78) (lv' := [(6, iv z516), (0, .ref 106), (1, iv z443), (2, iv z442), (3, iv z441), (4, iv z440), (5, iv z505)]) dX12_nextEvent_78 (by decide) rfl ?_
          refine mr_iload (pc := 80) (z := z505) dX12_nextEvent_80 rfl ?_
          have J536 : ∀ (z529 z532 z534 : Int), (((-99999999) ≤ z529 ∧ z529 ≤ 799)) → ((0 ≤ z532 ∧ z532 ≤ 2000000000)) → (((-2147483648) ≤ z534 ∧ z534 ≤ 2147483647)) → ((z529 = (-99999999) ∨ (0 ≤ z529 ∧ z529 ≤ 799))) → sV (gG l D c H0 sa) mX12_nextEvent (sRm 1 0 0) (sZ (gG l D c H0 sa) 0 0 (qP w μ (fun z => ((-99999999) ≤ z ∧ z ≤ 799) ∧ (z = -99999999 ∨ (0 ≤ z ∧ z ≤ 799)) ∧ True))) 126 [(0, .ref 106), (1, iv z529), (2, iv z532), (3, iv z534), (4, iv z440)] [] (mk w μ) 0 0 := by
            intro z529 z532 z534 h530 h533 h535 h531
            refine mr_iinc (pc := 126) (lv' := [(4, iv (z440 + 1)), (0, .ref 106), (1, iv z529), (2, iv z532), (3, iv z534)]) dX12_nextEvent_126 rfl (by decide) rfl ?_
            refine sv_goto (pc := 129) (tgt := 10) dX12_nextEvent_129 (by decide) ?_
            refine mr_lvS (lv' := [(0, .ref 106), (1, iv z529), (2, iv z532), (3, iv z534), (4, iv (z440 + 1))]) (List.forall_mem_cons.mpr ⟨rfl, List.forall_mem_cons.mpr ⟨rfl, List.forall_mem_cons.mpr ⟨rfl, List.forall_mem_cons.mpr ⟨rfl, List.forall_mem_cons.mpr ⟨rfl, fun _ h => absurd h List.not_mem_nil⟩⟩⟩⟩⟩) ?_
            exact ih454 z529 z532 z534 (z440 + 1) trivial h530 h533 h535 (rW (c := 0) (d := 800) (rAdd (e := 1) (f := 800) h496 (rR (x := 1)) rfl) rfl) (vc_X12_nextEvent_6 h530 h531) (vc_X12_nextEvent_5 (nS h453) h494 h496)
          refine mr_if_lt (pc := 82) (tgt := 126) dX12_nextEvent_82 (by decide) (r32 h506 rfl) (fun h537 => ?_) (fun h537 => ?_)
          · have h538 : (-1) ≤ z505 ∧ z505 ≤ (-1) := (vc_X12_nextEvent_7 h537 h506)
            refine mr_lvS (lv' := [(0, .ref 106), (1, iv z443), (2, iv z442), (3, iv z441), (4, iv z440)]) (List.forall_mem_cons.mpr ⟨rfl, List.forall_mem_cons.mpr ⟨rfl, List.forall_mem_cons.mpr ⟨rfl, List.forall_mem_cons.mpr ⟨rfl, List.forall_mem_cons.mpr ⟨rfl, fun _ h => absurd h List.not_mem_nil⟩⟩⟩⟩⟩) ?_
            exact J536 z443 z442 z441 h445 h446 h447 (vc_X12_nextEvent_8 h445 h452)
          have h539 : 0 ≤ z505 ∧ z505 ≤ 2000001000 := (vc_X12_nextEvent_9 h537 h506)
          refine mr_iload (pc := 85) (z := z505) dX12_nextEvent_85 rfl ?_
          refine mr_ldcw (pc := 87) (z := 2000000000) dX12_nextEvent_87 wG_X12_606 (by decide) ?_
          refine mr_icmp_gt (pc := 90) (tgt := 126) dX12_nextEvent_90 (by decide) (r32 h539 rfl) (r32 (rR (x := 2000000000)) rfl) (fun h540 => ?_) (fun h540 => ?_)
          · have h541 : 2000000001 ≤ z505 ∧ z505 ≤ 2000001000 := (vc_X12_nextEvent_10 h540 h537 h539)
            refine mr_lvS (lv' := [(0, .ref 106), (1, iv z443), (2, iv z442), (3, iv z441), (4, iv z440)]) (List.forall_mem_cons.mpr ⟨rfl, List.forall_mem_cons.mpr ⟨rfl, List.forall_mem_cons.mpr ⟨rfl, List.forall_mem_cons.mpr ⟨rfl, List.forall_mem_cons.mpr ⟨rfl, fun _ h => absurd h List.not_mem_nil⟩⟩⟩⟩⟩) ?_
            exact J536 z443 z442 z441 h445 h446 h447 (vc_X12_nextEvent_8 h445 h452)
          have h542 : 0 ≤ z505 ∧ z505 ≤ 2000000000 := (vc_X12_nextEvent_11 h540 h537 h539)
          refine mr_iload_n (pc := 93) (z := z443) dX12_nextEvent_93 rfl rfl ?_
          refine mr_ldc (pc := 94) (z := (-99999999)) dX12_nextEvent_94 wG_X12_29 (by decide) ?_
          refine mr_icmp_eq (pc := 96) (tgt := 117) dX12_nextEvent_96 (by decide) (r32 h445 rfl) (r32 (rR (x := (-99999999))) rfl) (fun h543 => ?_) (fun h543 => ?_)
          · have h544 : (-99999999) ≤ z443 ∧ z443 ≤ (-99999999) := (vc_X12_nextEvent_12 h543 h445 h452)
            refine mr_iload (pc := 117) (z := z440) dX12_nextEvent_117 rfl ?_
            refine mr_istore_n (pc := 119) (lv' := [(1, iv z440), (6, iv z516), (0, .ref 106), (2, iv z442), (3, iv z441), (4, iv z440), (5, iv z505)]) dX12_nextEvent_119 rfl (by decide) rfl ?_
            refine mr_iload (pc := 120) (z := z505) dX12_nextEvent_120 rfl ?_
            refine mr_istore_n (pc := 122) (lv' := [(2, iv z505), (1, iv z440), (6, iv z516), (0, .ref 106), (3, iv z441), (4, iv z440), (5, iv z505)]) dX12_nextEvent_122 rfl (by decide) rfl ?_
            refine mr_iload (pc := 123) (z := z516) dX12_nextEvent_123 rfl ?_
            refine mr_istore_n (pc := 125) (lv' := [(3, iv z516), (2, iv z505), (1, iv z440), (6, iv z516), (0, .ref 106), (4, iv z440), (5, iv z505)]) dX12_nextEvent_125 rfl (by decide) rfl ?_
            refine mr_lvS (lv' := [(0, .ref 106), (1, iv z440), (2, iv z505), (3, iv z516), (4, iv z440)]) (List.forall_mem_cons.mpr ⟨rfl, List.forall_mem_cons.mpr ⟨rfl, List.forall_mem_cons.mpr ⟨rfl, List.forall_mem_cons.mpr ⟨rfl, List.forall_mem_cons.mpr ⟨rfl, fun _ h => absurd h List.not_mem_nil⟩⟩⟩⟩⟩) ?_
            exact J536 z440 z505 z516 (rW (c := (-99999999)) (d := 799) h496 rfl) h542 h517 (vc_X12_nextEvent_13 h494 h496)
          have h545 : 0 ≤ z443 ∧ z443 ≤ 799 := (vc_X12_nextEvent_14 h543 h445 h452)
          refine mr_iload (pc := 99) (z := z505) dX12_nextEvent_99 rfl ?_
          refine mr_iload_n (pc := 101) (z := z442) dX12_nextEvent_101 rfl rfl ?_
          refine mr_icmp_lt (pc := 102) (tgt := 117) dX12_nextEvent_102 (by decide) (r32 h542 rfl) (r32 h446 rfl) (fun h546 => ?_) (fun h546 => ?_)
          · have h547 : 0 ≤ z505 ∧ z505 ≤ 1999999999 := (vc_X12_nextEvent_15 h546 h537 h540 h446 h542)
            have h548 : 1 ≤ z442 ∧ z442 ≤ 2000000000 := (vc_X12_nextEvent_16 h546 h537 h540 h446 h547)
            refine mr_iload (pc := 117) (z := z440) dX12_nextEvent_117 rfl ?_
            refine mr_istore_n (pc := 119) (lv' := [(1, iv z440), (6, iv z516), (0, .ref 106), (2, iv z442), (3, iv z441), (4, iv z440), (5, iv z505)]) dX12_nextEvent_119 rfl (by decide) rfl ?_
            refine mr_iload (pc := 120) (z := z505) dX12_nextEvent_120 rfl ?_
            refine mr_istore_n (pc := 122) (lv' := [(2, iv z505), (1, iv z440), (6, iv z516), (0, .ref 106), (3, iv z441), (4, iv z440), (5, iv z505)]) dX12_nextEvent_122 rfl (by decide) rfl ?_
            refine mr_iload (pc := 123) (z := z516) dX12_nextEvent_123 rfl ?_
            refine mr_istore_n (pc := 125) (lv' := [(3, iv z516), (2, iv z505), (1, iv z440), (6, iv z516), (0, .ref 106), (4, iv z440), (5, iv z505)]) dX12_nextEvent_125 rfl (by decide) rfl ?_
            refine mr_lvS (lv' := [(0, .ref 106), (1, iv z440), (2, iv z505), (3, iv z516), (4, iv z440)]) (List.forall_mem_cons.mpr ⟨rfl, List.forall_mem_cons.mpr ⟨rfl, List.forall_mem_cons.mpr ⟨rfl, List.forall_mem_cons.mpr ⟨rfl, List.forall_mem_cons.mpr ⟨rfl, fun _ h => absurd h List.not_mem_nil⟩⟩⟩⟩⟩) ?_
            exact J536 z440 z505 z516 (rW (c := (-99999999)) (d := 799) h496 rfl) (rW (c := 0) (d := 2000000000) h547 rfl) h517 (vc_X12_nextEvent_13 h494 h496)
          refine mr_iload (pc := 105) (z := z505) dX12_nextEvent_105 rfl ?_
          refine mr_iload_n (pc := 107) (z := z442) dX12_nextEvent_107 rfl rfl ?_
          refine mr_icmp_ne (pc := 108) (tgt := 126) dX12_nextEvent_108 (by decide) (r32 h542 rfl) (r32 h446 rfl) (fun h549 => ?_) (fun h549 => ?_)
          · refine mr_lvS (lv' := [(0, .ref 106), (1, iv z443), (2, iv z442), (3, iv z441), (4, iv z440)]) (List.forall_mem_cons.mpr ⟨rfl, List.forall_mem_cons.mpr ⟨rfl, List.forall_mem_cons.mpr ⟨rfl, List.forall_mem_cons.mpr ⟨rfl, List.forall_mem_cons.mpr ⟨rfl, fun _ h => absurd h List.not_mem_nil⟩⟩⟩⟩⟩) ?_
            exact J536 z443 z442 z441 (rW (c := (-99999999)) (d := 799) h545 rfl) h446 h447 (vc_X12_nextEvent_17 h543 h545 h452)
          refine mr_iload (pc := 111) (z := z516) dX12_nextEvent_111 rfl ?_
          refine mr_iload_n (pc := 113) (z := z441) dX12_nextEvent_113 rfl rfl ?_
          refine mr_icmp_ge (pc := 114) (tgt := 126) dX12_nextEvent_114 (by decide) h517 h447 (fun h550 => ?_) (fun h550 => ?_)
          · refine mr_lvS (lv' := [(0, .ref 106), (1, iv z443), (2, iv z442), (3, iv z441), (4, iv z440)]) (List.forall_mem_cons.mpr ⟨rfl, List.forall_mem_cons.mpr ⟨rfl, List.forall_mem_cons.mpr ⟨rfl, List.forall_mem_cons.mpr ⟨rfl, List.forall_mem_cons.mpr ⟨rfl, fun _ h => absurd h List.not_mem_nil⟩⟩⟩⟩⟩) ?_
            exact J536 z443 z442 z441 (rW (c := (-99999999)) (d := 799) h545 rfl) h446 h447 (vc_X12_nextEvent_17 h543 h545 h452)
          have h551 : (-2147483648) ≤ z516 ∧ z516 ≤ 2147483646 := (vc_X12_nextEvent_18 h550 h447 h517)
          have h552 : (-2147483647) ≤ z441 ∧ z441 ≤ 2147483647 := (vc_X12_nextEvent_19 h550 h447 h551)
          refine mr_iload (pc := 117) (z := z440) dX12_nextEvent_117 rfl ?_
          refine mr_istore_n (pc := 119) (lv' := [(1, iv z440), (6, iv z516), (0, .ref 106), (2, iv z442), (3, iv z441), (4, iv z440), (5, iv z505)]) dX12_nextEvent_119 rfl (by decide) rfl ?_
          refine mr_iload (pc := 120) (z := z505) dX12_nextEvent_120 rfl ?_
          refine mr_istore_n (pc := 122) (lv' := [(2, iv z505), (1, iv z440), (6, iv z516), (0, .ref 106), (3, iv z441), (4, iv z440), (5, iv z505)]) dX12_nextEvent_122 rfl (by decide) rfl ?_
          refine mr_iload (pc := 123) (z := z516) dX12_nextEvent_123 rfl ?_
          refine mr_istore_n (pc := 125) (lv' := [(3, iv z516), (2, iv z505), (1, iv z440), (6, iv z516), (0, .ref 106), (4, iv z440), (5, iv z505)]) dX12_nextEvent_125 rfl (by decide) rfl ?_
          refine mr_lvS (lv' := [(0, .ref 106), (1, iv z440), (2, iv z505), (3, iv z516), (4, iv z440)]) (List.forall_mem_cons.mpr ⟨rfl, List.forall_mem_cons.mpr ⟨rfl, List.forall_mem_cons.mpr ⟨rfl, List.forall_mem_cons.mpr ⟨rfl, List.forall_mem_cons.mpr ⟨rfl, fun _ h => absurd h List.not_mem_nil⟩⟩⟩⟩⟩) ?_
          exact J536 z440 z505 z516 (rW (c := (-99999999)) (d := 799) h496 rfl) h542 (rW (c := (-2147483648)) (d := 2147483647) h551 rfl) (vc_X12_nextEvent_13 h494 h496)
        refine mr_icmp_ge (pc := 54) (tgt := 67) dX12_nextEvent_54 (by decide) (r32 h496 rfl) (r32 (rR (x := 400)) rfl) (fun h553 => ?_) (fun h553 => ?_)
        · have h554 : 400 ≤ z440 ∧ z440 ≤ 799 := (vc_X12_nextEvent_20 h553 h494 h496)
          refine sv_aload_n (pc := 67) dX12_nextEvent_67 rfl rfl ?_
          refine gf_X12_80 (pc := 68) dX12_nextEvent_68 wF_X12_442 (A_106 hw) hT ?_
          refine mr_iload (pc := 71) (z := z440) dX12_nextEvent_71 rfl ?_
          refine mr_sipush (pc := 73) (z := 400) dX12_nextEvent_73 (by decide) ?_
          refine mr_isub (pc := 76) (x := z440) (y := 400) dX12_nextEvent_76 ?_
          refine la_160 (pc := 77) dX12_nextEvent_77 (A_160 hw) hT (rIx (n := 400) (rSub (e := 0) (f := 399) h554 (rR (x := 400)) rfl) rfl) fun z555 q556 h557 => ?_
          refine mr_lvS (lv' := [(0, .ref 106), (1, iv z443), (2, iv z442), (3, iv z441), (4, iv z440), (5, iv z505)]) (List.forall_mem_cons.mpr ⟨rfl, List.forall_mem_cons.mpr ⟨rfl, List.forall_mem_cons.mpr ⟨rfl, List.forall_mem_cons.mpr ⟨rfl, List.forall_mem_cons.mpr ⟨rfl, List.forall_mem_cons.mpr ⟨rfl, fun _ h => absurd h List.not_mem_nil⟩⟩⟩⟩⟩⟩) ?_
          exact J518 z555 h557
        have h558 : 0 ≤ z440 ∧ z440 ≤ 399 := (vc_X12_nextEvent_21 h553 h494 h496)
        refine sv_aload_n (pc := 57) dX12_nextEvent_57 rfl rfl ?_
        refine gf_X12_78 (pc := 58) dX12_nextEvent_58 wF_X12_436 (A_106 hw) hT ?_
        refine mr_iload (pc := 61) (z := z440) dX12_nextEvent_61 rfl ?_
        refine la_158 (pc := 63) dX12_nextEvent_63 (A_158 hw) hT (rIx (n := 400) h558 rfl) fun z559 q560 h561 => ?_
        refine sv_goto (pc := 64) (tgt := 78) dX12_nextEvent_64 (by decide) ?_
        refine mr_lvS (lv' := [(0, .ref 106), (1, iv z443), (2, iv z442), (3, iv z441), (4, iv z440), (5, iv z505)]) (List.forall_mem_cons.mpr ⟨rfl, List.forall_mem_cons.mpr ⟨rfl, List.forall_mem_cons.mpr ⟨rfl, List.forall_mem_cons.mpr ⟨rfl, List.forall_mem_cons.mpr ⟨rfl, List.forall_mem_cons.mpr ⟨rfl, fun _ h => absurd h List.not_mem_nil⟩⟩⟩⟩⟩⟩) ?_
        exact J518 z559 h561
      refine mr_icmp_ge (pc := 23) (tgt := 36) dX12_nextEvent_23 (by decide) (r32 h496 rfl) (r32 (rR (x := 400)) rfl) (fun h562 => ?_) (fun h562 => ?_)
      · have h563 : 400 ≤ z440 ∧ z440 ≤ 799 := (vc_X12_nextEvent_20 h562 h494 h496)
        refine sv_aload_n (pc := 36) dX12_nextEvent_36 rfl rfl ?_
        refine gf_X12_79 (pc := 37) dX12_nextEvent_37 wF_X12_439 (A_106 hw) hT ?_
        refine mr_iload (pc := 40) (z := z440) dX12_nextEvent_40 rfl ?_
        refine mr_sipush (pc := 42) (z := 400) dX12_nextEvent_42 (by decide) ?_
        refine mr_isub (pc := 45) (x := z440) (y := 400) dX12_nextEvent_45 ?_
        refine la_159 (pc := 46) dX12_nextEvent_46 (A_159 hw) hT (rIx (n := 400) (rSub (e := 0) (f := 399) h563 (rR (x := 400)) rfl) rfl) fun z564 q565 h566 => ?_
        exact J507 z564 h566
      have h567 : 0 ≤ z440 ∧ z440 ≤ 399 := (vc_X12_nextEvent_21 h562 h494 h496)
      refine sv_aload_n (pc := 26) dX12_nextEvent_26 rfl rfl ?_
      refine gf_X12_77 (pc := 27) dX12_nextEvent_27 wF_X12_433 (A_106 hw) hT ?_
      refine mr_iload (pc := 30) (z := z440) dX12_nextEvent_30 rfl ?_
      refine la_157 (pc := 32) dX12_nextEvent_32 (A_157 hw) hT (rIx (n := 400) h567 rfl) fun z568 q569 h570 => ?_
      refine sv_goto (pc := 33) (tgt := 47) dX12_nextEvent_33 (by decide) ?_
      exact J507 z568 h570
  refine mr_lvS (lv' := [(0, .ref 106), (1, iv (-99999999)), (2, iv 0), (3, iv 0), (4, iv 0)]) (List.forall_mem_cons.mpr ⟨rfl, List.forall_mem_cons.mpr ⟨rfl, List.forall_mem_cons.mpr ⟨rfl, List.forall_mem_cons.mpr ⟨rfl, List.forall_mem_cons.mpr ⟨rfl, fun _ h => absurd h List.not_mem_nil⟩⟩⟩⟩⟩) ?_
  exact L444 802 (-99999999) 0 0 0 trivial (rW (c := (-99999999)) (d := 799) (rR (x := (-99999999))) rfl) (rW (c := 0) (d := 2000000000) (rR (x := 0)) rfl) (rW (c := (-2147483648)) (d := 2147483647) (rR (x := 0)) rfl) (rW (c := 0) (d := 800) (rR (x := 0)) rfl) vc_X12_nextEvent_23 vc_X12_nextEvent_22
theorem vc_X12_eventAt_1 {p1 : Int} (h0 : 400 ≤ p1) (h1 : 0 ≤ p1 ∧ p1 ≤ 799) : 400 ≤ p1 ∧ p1 ≤ 799 := by omega
theorem vc_X12_eventAt_2 {p1 : Int} (h0 : p1 < 400) (h1 : 0 ≤ p1 ∧ p1 ≤ 799) : 0 ≤ p1 ∧ p1 ≤ 399 := by omega
set_option maxRecDepth 4000 in
set_option maxHeartbeats 4000000 in
theorem c_X12_eventAt {l : Launch} {D : va_G} {c : Nat → ClassId} {H0 : Heap} {sa : Nat × Nat × (Nat → Int32)} {w : mW} {μ : mM} (hw : mWF w) (hT : mT w μ) {p1 : Int} (hp1 : 0 ≤ p1 ∧ p1 ≤ 799) : sC (gG l D c H0 sa) mX12_eventAt 1 0 0 [.ref 106, iv p1] (mk w μ) (qP w μ (fun z => ((-1) ≤ z ∧ z ≤ 2000001000) ∧ True)) := by
  refine sC.of rfl (by decide) (le_t rfl) ?_
  refine mr_lvE (lv' := [(0, .ref 106), (1, iv p1)]) rfl ?_
  refine mr_iload_n (pc := 0) (z := p1) dX12_eventAt_0 rfl rfl ?_
  refine mr_sipush (pc := 1) (z := 400) dX12_eventAt_1 (by decide) ?_
  refine mr_icmp_ge (pc := 4) (tgt := 16) dX12_eventAt_4 (by decide) (r32 hp1 rfl) (r32 (rR (x := 400)) rfl) (fun h9 => ?_) (fun h9 => ?_)
  · have h10 : 400 ≤ p1 ∧ p1 ≤ 799 := (vc_X12_eventAt_1 h9 hp1)
    refine sv_aload_n (pc := 16) dX12_eventAt_16 rfl rfl ?_
    refine gf_X12_79 (pc := 17) dX12_eventAt_17 wF_X12_439 (A_106 hw) hT ?_
    refine mr_iload_n (pc := 20) (z := p1) dX12_eventAt_20 rfl rfl ?_
    refine mr_sipush (pc := 21) (z := 400) dX12_eventAt_21 (by decide) ?_
    refine mr_isub (pc := 24) (x := p1) (y := 400) dX12_eventAt_24 ?_
    refine la_159 (pc := 25) dX12_eventAt_25 (A_159 hw) hT (rIx (n := 400) (rSub (e := 0) (f := 399) h10 (rR (x := 400)) rfl) rfl) fun z11 q12 h13 => ?_
    exact mr_iretP dX12_eventAt_26 rfl (le_t rfl) (le_t rfl) ⟨h13, trivial⟩
  have h14 : 0 ≤ p1 ∧ p1 ≤ 399 := (vc_X12_eventAt_2 h9 hp1)
  refine sv_aload_n (pc := 7) dX12_eventAt_7 rfl rfl ?_
  refine gf_X12_77 (pc := 8) dX12_eventAt_8 wF_X12_433 (A_106 hw) hT ?_
  refine mr_iload_n (pc := 11) (z := p1) dX12_eventAt_11 rfl rfl ?_
  refine la_157 (pc := 12) dX12_eventAt_12 (A_157 hw) hT (rIx (n := 400) h14 rfl) fun z15 q16 h17 => ?_
  refine sv_goto (pc := 13) (tgt := 26) dX12_eventAt_13 (by decide) ?_
  exact mr_iretP dX12_eventAt_26 rfl (le_t rfl) (le_t rfl) ⟨h17, trivial⟩
theorem vc_X12_picked_1 {p1 z1 z8 : Int} (h0 : z8 = 0) (h1 : (z8 = 1 → 0 ≤ p1 ∧ p1 < z1)) (h2 : (z8 = 0 → p1 < 0 ∨ z1 ≤ p1)) (h3 : (-2147483648) ≤ p1 ∧ p1 ≤ 2147483647) (h4 : 0 ≤ z1 ∧ z1 ≤ 10) (h5 : 0 ≤ z8 ∧ z8 ≤ 1) : 0 ≤ z8 ∧ z8 ≤ 0 := by omega
theorem vc_X12_picked_2 {p1 z1 z8 : Int} (h0 : (z8 = 1 → 0 ≤ p1 ∧ p1 < z1)) (h1 : (z8 = 0 → p1 < 0 ∨ z1 ≤ p1)) (h2 : z8 = 0) (h3 : (-2147483648) ≤ p1 ∧ p1 ≤ 2147483647) (h4 : 0 ≤ z1 ∧ z1 ≤ 10) (h5 : 0 ≤ z8 ∧ z8 ≤ 0) : z8 = 0 := by omega
theorem vc_X12_picked_3 {p1 z1 z8 : Int} (h0 : ¬ z8 = 0) (h1 : (z8 = 1 → 0 ≤ p1 ∧ p1 < z1)) (h2 : (z8 = 0 → p1 < 0 ∨ z1 ≤ p1)) (h3 : (-2147483648) ≤ p1 ∧ p1 ≤ 2147483647) (h4 : 0 ≤ z1 ∧ z1 ≤ 10) (h5 : 0 ≤ z8 ∧ z8 ≤ 1) : 1 ≤ z8 ∧ z8 ≤ 1 := by omega
theorem vc_X12_picked_4 {p1 z1 z8 : Int} (h0 : (z8 = 1 → 0 ≤ p1 ∧ p1 < z1)) (h1 : (z8 = 0 → p1 < 0 ∨ z1 ≤ p1)) (h2 : ¬ z8 = 0) (h3 : (-2147483648) ≤ p1 ∧ p1 ≤ 2147483647) (h4 : 0 ≤ z1 ∧ z1 ≤ 10) (h5 : 1 ≤ z8 ∧ z8 ≤ 1) : z8 = 1 := by omega
theorem vc_X12_picked_5 {p1 z1 z8 : Int} (h0 : 0 ≤ p1 ∧ p1 < z1) (h1 : (z8 = 1 → 0 ≤ p1 ∧ p1 < z1)) (h2 : (z8 = 0 → p1 < 0 ∨ z1 ≤ p1)) (h3 : (-2147483648) ≤ p1 ∧ p1 ≤ 2147483647) (h4 : 0 ≤ z1 ∧ z1 ≤ 10) (h5 : 1 ≤ z8 ∧ z8 ≤ 1) : 0 ≤ p1 ∧ p1 ≤ 9 := by omega
theorem vc_X12_picked_6 {p2 z15 z22 : Int} (h0 : ¬ z22 = 0) (h1 : (z22 = 1 → 0 ≤ p2 ∧ p2 < z15)) (h2 : (z22 = 0 → p2 < 0 ∨ z15 ≤ p2)) (h3 : (-2147483648) ≤ p2 ∧ p2 ≤ 2147483647) (h4 : 0 ≤ z15 ∧ z15 ≤ 10) (h5 : 0 ≤ z22 ∧ z22 ≤ 1) : 1 ≤ z22 ∧ z22 ≤ 1 := by omega
theorem vc_X12_picked_7 {p2 z15 z22 : Int} (h0 : (z22 = 1 → 0 ≤ p2 ∧ p2 < z15)) (h1 : (z22 = 0 → p2 < 0 ∨ z15 ≤ p2)) (h2 : ¬ z22 = 0) (h3 : (-2147483648) ≤ p2 ∧ p2 ≤ 2147483647) (h4 : 0 ≤ z15 ∧ z15 ≤ 10) (h5 : 1 ≤ z22 ∧ z22 ≤ 1) : z22 = 1 := by omega
theorem vc_X12_picked_8 {p2 z15 z22 : Int} (h0 : 0 ≤ p2 ∧ p2 < z15) (h1 : (z22 = 1 → 0 ≤ p2 ∧ p2 < z15)) (h2 : (z22 = 0 → p2 < 0 ∨ z15 ≤ p2)) (h3 : (-2147483648) ≤ p2 ∧ p2 ≤ 2147483647) (h4 : 0 ≤ z15 ∧ z15 ≤ 10) (h5 : 1 ≤ z22 ∧ z22 ≤ 1) : 0 ≤ p2 ∧ p2 ≤ 9 := by omega
theorem vc_X12_picked_9 {p2 z15 z22 : Int} (h0 : 0 ≤ p2 ∧ p2 < z15) (h1 : (z22 = 1 → 0 ≤ p2 ∧ p2 < z15)) (h2 : (z22 = 0 → p2 < 0 ∨ z15 ≤ p2)) (h3 : 0 ≤ p2 ∧ p2 ≤ 9) (h4 : 0 ≤ z15 ∧ z15 ≤ 10) (h5 : 1 ≤ z22 ∧ z22 ≤ 1) : 1 ≤ z15 ∧ z15 ≤ 10 := by omega
theorem vc_X12_picked_10 {z28 : Int} (h0 : z28 = -99999999 ∨ z28 = -4 ∨ (0 ≤ z28 ∧ z28 ≤ 19)) : -99999999 ≤ z28 ∧ z28 ≤ 19 := by omega
theorem vc_X12_picked_11 {z28 : Int} (h0 : ¬ z28 = (-99999999)) (h1 : (-99999999) ≤ z28 ∧ z28 ≤ 19) (h2 : z28 = -99999999 ∨ z28 = -4 ∨ (0 ≤ z28 ∧ z28 ≤ 19)) : (-4) ≤ z28 ∧ z28 ≤ 19 := by omega
theorem vc_X12_picked_12 {p1 p2 z1 z15 z22 z8 : Int} (h0 : (z8 = 1 → 0 ≤ p1 ∧ p1 < z1)) (h1 : (z8 = 0 → p1 < 0 ∨ z1 ≤ p1)) (h2 : 0 ≤ p1 ∧ p1 < z1) (h3 : (z22 = 1 → 0 ≤ p2 ∧ p2 < z15)) (h4 : (z22 = 0 → p2 < 0 ∨ z15 ≤ p2)) (h5 : 0 ≤ p2 ∧ p2 < z15) (h6 : ¬ z8 = 0) (h7 : ¬ z22 = 0) (h8 : 0 ≤ p1 ∧ p1 ≤ 9) (h9 : 0 ≤ p2 ∧ p2 ≤ 9) (h10 : 0 ≤ z1 ∧ z1 ≤ 10) (h11 : 1 ≤ z15 ∧ z15 ≤ 10) (h12 : 1 ≤ z22 ∧ z22 ≤ 1) (h13 : 1 ≤ z8 ∧ z8 ≤ 1) : 0 ≤ (40 * (30 + ((10 * p1) + p2))) := by omega
theorem vc_X12_picked_13 {p1 p2 z1 z15 z22 z8 : Int} (h0 : (z8 = 1 → 0 ≤ p1 ∧ p1 < z1)) (h1 : (z8 = 0 → p1 < 0 ∨ z1 ≤ p1)) (h2 : 0 ≤ p1 ∧ p1 < z1) (h3 : (z22 = 1 → 0 ≤ p2 ∧ p2 < z15)) (h4 : (z22 = 0 → p2 < 0 ∨ z15 ≤ p2)) (h5 : 0 ≤ p2 ∧ p2 < z15) (h6 : ¬ z8 = 0) (h7 : ¬ z22 = 0) (h8 : 0 ≤ p1 ∧ p1 ≤ 9) (h9 : 0 ≤ p2 ∧ p2 ≤ 9) (h10 : 0 ≤ z1 ∧ z1 ≤ 10) (h11 : 1 ≤ z15 ∧ z15 ≤ 10) (h12 : 1 ≤ z22 ∧ z22 ≤ 1) (h13 : 1 ≤ z8 ∧ z8 ≤ 1) : (40 * (30 + ((10 * p1) + p2))) % 40 = 0 := by omega
theorem vc_X12_picked_14 {p1 p2 z1 z15 z22 z8 : Int} (h0 : (z8 = 1 → 0 ≤ p1 ∧ p1 < z1)) (h1 : (z8 = 0 → p1 < 0 ∨ z1 ≤ p1)) (h2 : 0 ≤ p1 ∧ p1 < z1) (h3 : (z22 = 1 → 0 ≤ p2 ∧ p2 < z15)) (h4 : (z22 = 0 → p2 < 0 ∨ z15 ≤ p2)) (h5 : 0 ≤ p2 ∧ p2 < z15) (h6 : ¬ z8 = 0) (h7 : ¬ z22 = 0) (h8 : 0 ≤ p1 ∧ p1 ≤ 9) (h9 : 0 ≤ p2 ∧ p2 ≤ 9) (h10 : 0 ≤ z1 ∧ z1 ≤ 10) (h11 : 1 ≤ z15 ∧ z15 ≤ 10) (h12 : 1 ≤ z22 ∧ z22 ≤ 1) (h13 : 1 ≤ z8 ∧ z8 ≤ 1) : (30 + ((10 * p1) + p2)) < (0 : Int) ∨ (0 : Int) < (30 + ((10 * p1) + p2)) := by omega
theorem vc_X12_picked_15  : (0 : Int) ≤ ((40 : Int) * (0 : Int)) := by omega
theorem vc_X12_picked_16  : (((40 : Int) * (0 : Int)) : Int) % (40 : Int) = (0 : Int) := by omega
theorem vc_X12_picked_17 {z28 : Int} (h0 : z28 = (-99999999)) (h1 : (-99999999) ≤ z28 ∧ z28 ≤ 19) (h2 : z28 = -99999999 ∨ z28 = -4 ∨ (0 ≤ z28 ∧ z28 ≤ 19)) : (-99999999) ≤ z28 ∧ z28 ≤ (-99999999) := by omega
theorem vc_X12_picked_18 {p2 z15 z22 : Int} (h0 : z22 = 0) (h1 : (z22 = 1 → 0 ≤ p2 ∧ p2 < z15)) (h2 : (z22 = 0 → p2 < 0 ∨ z15 ≤ p2)) (h3 : (-2147483648) ≤ p2 ∧ p2 ≤ 2147483647) (h4 : 0 ≤ z15 ∧ z15 ≤ 10) (h5 : 0 ≤ z22 ∧ z22 ≤ 1) : 0 ≤ z22 ∧ z22 ≤ 0 := by omega
theorem vc_X12_picked_19 {p2 z15 z22 : Int} (h0 : (z22 = 1 → 0 ≤ p2 ∧ p2 < z15)) (h1 : (z22 = 0 → p2 < 0 ∨ z15 ≤ p2)) (h2 : z22 = 0) (h3 : (-2147483648) ≤ p2 ∧ p2 ≤ 2147483647) (h4 : 0 ≤ z15 ∧ z15 ≤ 10) (h5 : 0 ≤ z22 ∧ z22 ≤ 0) : z22 = 0 := by omega
set_option maxRecDepth 4000 in
set_option maxHeartbeats 4000000 in
theorem c_X12_picked {l : Launch} {D : va_G} {c : Nat → ClassId} {H0 : Heap} {sa : Nat × Nat × (Nat → Int32)} {w : mW} {μ : mM} (hw : mWF w) (hT : mT w μ) {p1 : Int} (hp1 : (-2147483648) ≤ p1 ∧ p1 ≤ 2147483647) {p2 : Int} (hp2 : (-2147483648) ≤ p2 ∧ p2 ≤ 2147483647) : sC (gG l D c H0 sa) mX12_picked 3 0 0 [.ref 106, iv p1, iv p2] (mk w μ) (qI w [106070, 126999] μ (fun z μ1 => ((-2147483648) ≤ z ∧ z ≤ 2147483647) ∧ True)) := by
  refine sC.of rfl (by decide) (le_t rfl) ?_
  refine mr_lvE (lv' := [(0, .ref 106), (1, iv p1), (2, iv p2)]) rfl ?_
  refine sv_aload_n (pc := 0) dX12_picked_0 rfl rfl ?_
  refine mr_iload_n (pc := 1) (z := p1) dX12_picked_1 rfl rfl ?_
  obtain ⟨z1, q2⟩ : ∃ z, μ 106 5 = z := ⟨_, rfl⟩
  have h3 : (0 ≤ z1 ∧ z1 ≤ 10) := by rw [← q2]; exact hT 106 106 (A_106 hw) 5
  refine mr_cVP (pc := 2) (c_X12_isDomain hw hT hp1 q2) (gOk _ _ _ _ _) dX12_picked_2 (tX12_isDomain _ _ _ _ _) ⟨wV_X12_isDomain, wL_X12_isDomain⟩ wM_X12_49 (gCX12 _ _ _ _ _) rfl (A_106 hw) rfl ⟨le_t rfl, le_t rfl⟩ ⟨le_t rfl, le_t rfl⟩ rfl (le_t rfl) fun z8 h7 => ?_
  refine mr_if_eq (pc := 5) (tgt := 16) dX12_picked_5 (by decide) (r32 h7.1 rfl) (fun h9 => ?_) (fun h9 => ?_)
  · have h10 : 0 ≤ z8 ∧ z8 ≤ 0 := (vc_X12_picked_1 h9 h7.2.1 h7.2.2.1 hp1 h3 h7.1)
    have h11 : p1 < 0 ∨ z1 ≤ p1 := (h7.2.2.1 (vc_X12_picked_2 h7.2.1 h7.2.2.1 h9 hp1 h3 h10))
    refine mr_iconst (pc := 16) (z := (-1)) dX12_picked_16 ?_
    exact mr_iret dX12_picked_17 rfl (le_t rfl) (le_t rfl) hT mF.refl ⟨(rW (c := (-2147483648)) (d := 2147483647) (rR (x := (-1))) rfl), trivial⟩
  have h12 : 1 ≤ z8 ∧ z8 ≤ 1 := (vc_X12_picked_3 h9 h7.2.1 h7.2.2.1 hp1 h3 h7.1)
  have h13 : 0 ≤ p1 ∧ p1 < z1 := (h7.2.1 (vc_X12_picked_4 h7.2.1 h7.2.2.1 h9 hp1 h3 h12))
  have h14 : 0 ≤ p1 ∧ p1 ≤ 9 := (vc_X12_picked_5 h13 h7.2.1 h7.2.2.1 hp1 h3 h12)
  refine sv_aload_n (pc := 8) dX12_picked_8 rfl rfl ?_
  refine mr_iload_n (pc := 9) (z := p2) dX12_picked_9 rfl rfl ?_
  obtain ⟨z15, q16⟩ : ∃ z, μ 106 2 = z := ⟨_, rfl⟩
  have h17 : (0 ≤ z15 ∧ z15 ≤ 10) := by rw [← q16]; exact hT 106 106 (A_106 hw) 2
  refine mr_cVP (pc := 10) (c_X12_isPrefix hw hT hp2 q16) (gOk _ _ _ _ _) dX12_picked_10 (tX12_isPrefix _ _ _ _ _) ⟨wV_X12_isPrefix, wL_X12_isPrefix⟩ wM_X12_92 (gCX12 _ _ _ _ _) rfl (A_106 hw) rfl ⟨le_t rfl, le_t rfl⟩ ⟨le_t rfl, le_t rfl⟩ rfl (le_t rfl) fun z22 h21 => ?_
  refine mr_if_ne (pc := 13) (tgt := 18) dX12_picked_13 (by decide) (r32 h21.1 rfl) (fun h23 => ?_) (fun h23 => ?_)
  · have h24 : 1 ≤ z22 ∧ z22 ≤ 1 := (vc_X12_picked_6 h23 h21.2.1 h21.2.2.1 hp2 h17 h21.1)
    have h25 : 0 ≤ p2 ∧ p2 < z15 := (h21.2.1 (vc_X12_picked_7 h21.2.1 h21.2.2.1 h23 hp2 h17 h24))
    have h26 : 0 ≤ p2 ∧ p2 ≤ 9 := (vc_X12_picked_8 h25 h21.2.1 h21.2.2.1 hp2 h17 h24)
    have h27 : 1 ≤ z15 ∧ z15 ≤ 10 := (vc_X12_picked_9 h25 h21.2.1 h21.2.2.1 h26 h17 h24)
    refine mr_bipush (pc := 18) (z := 10) dX12_picked_18 (by decide) ?_
    refine mr_iload_n (pc := 20) (z := p1) dX12_picked_20 rfl rfl ?_
    refine mr_imul (pc := 21) (x := 10) (y := p1) dX12_picked_21 ?_
    refine mr_iload_n (pc := 22) (z := p2) dX12_picked_22 rfl rfl ?_
    refine mr_iadd (pc := 23) (x := (10 * p1)) (y := p2) dX12_picked_23 ?_
    refine mr_istore_n (pc := 24) (lv' := [(3, iv ((10 * p1) + p2)), (0, .ref 106), (1, iv p1), (2, iv p2)]) dX12_picked_24 rfl (by decide) rfl ?_
    refine sv_aload_n (pc := 25) dX12_picked_25 rfl rfl ?_
    refine gf_X12_81 (pc := 26) dX12_picked_26 wF_X12_445 (A_106 hw) hT ?_
    refine mr_iload_n (pc := 29) (z := ((10 * p1) + p2)) dX12_picked_29 rfl rfl ?_
    refine la_161 (pc := 30) dX12_picked_30 (A_161 hw) hT (rIx (n := 100) (rAdd (e := 0) (f := 99) (rMulL (n := 10) (e := 0) (f := 90) h14 rfl) h26 rfl) rfl) fun z28 q29 h30 => ?_
    have h31 : (-99999999) ≤ z28 ∧ z28 ≤ 19 := (vc_X12_picked_10 h30)
    refine mr_ldc (pc := 31) (z := (-99999999)) dX12_picked_31 wG_X12_29 (by decide) ?_
    refine mr_icmp_ne (pc := 33) (tgt := 39) dX12_picked_33 (by decide) (r32 h31 rfl) (r32 (rR (x := (-99999999))) rfl) (fun h32 => ?_) (fun h32 => ?_)
    · have h33 : (-4) ≤ z28 ∧ z28 ≤ 19 := (vc_X12_picked_11 h32 h31 h30)
      refine sv_aload_n (pc := 39) dX12_picked_39 rfl rfl ?_
      refine mr_bipush (pc := 40) (z := 30) dX12_picked_40 (by decide) ?_
      refine mr_iload_n (pc := 42) (z := ((10 * p1) + p2)) dX12_picked_42 rfl rfl ?_
      refine mr_iadd (pc := 43) (x := 30) (y := ((10 * p1) + p2)) dX12_picked_43 ?_
      refine mr_iconst (pc := 44) (z := 0) dX12_picked_44 ?_
      obtain ⟨z34, q35⟩ : ∃ z, μ 126 ((40 * (30 + ((10 * p1) + p2))).toNat) = z := ⟨_, rfl⟩
      have h36 := rt7 hT (A_126 hw) (vc_X12_picked_12 h7.2.1 h7.2.2.1 h13 h21.2.1 h21.2.2.1 h25 h9 h23 h14 h26 h3 h27 h24 h12) q35
      have h37 : (-1) ≤ z34 ∧ z34 ≤ 9 := h36.2.1 (vc_X12_picked_13 h7.2.1 h7.2.2.1 h13 h21.2.1 h21.2.2.1 h25 h9 h23 h14 h26 h3 h27 h24 h12)
      refine mr_cVV (pc := 45) (c_X12_copy hw hT (rW (c := 0) (d := 2099) (rAdd (e := 30) (f := 129) (rR (x := 30)) (rAdd (e := 0) (f := 99) (rMulL (n := 10) (e := 0) (f := 90) h14 rfl) h26 rfl) rfl) rfl) (rW (c := 0) (d := 2099) (rR (x := 0)) rfl) q35 (vc_X12_picked_14 h7.2.1 h7.2.2.1 h13 h21.2.1 h21.2.2.1 h25 h9 h23 h14 h26 h3 h27 h24 h12)) (gOk _ _ _ _ _) dX12_picked_45 (tX12_copy _ _ _ _ _) ⟨wV_X12_copy, wL_X12_copy⟩ wM_X12_559 (gCX12 _ _ _ _ _) rfl (A_106 hw) rfl ⟨le_t rfl, le_t rfl⟩ ⟨le_t rfl, le_t rfl⟩ rfl (le_t rfl) fun μ38 T39 F40 h41 => ?_
      obtain ⟨z42, q43, h44⟩ := h41
      have h45 := rt7 T39 (A_126 hw) vc_X12_picked_15 q43
      have h46 : (-1) ≤ z42 ∧ z42 ≤ 9 := h45.2.1 vc_X12_picked_16
      have q47 : μ38 126 (((40 * 0) : Int).toNat) = z34 := q43.trans h44.2.1
      refine sv_aload_n (pc := 48) dX12_picked_48 rfl rfl ?_
      refine mr_iconst (pc := 49) (z := 1) dX12_picked_49 ?_
      refine pf_X12_70 (pc := 50) dX12_picked_50 wF_X12_411 (A_106 hw) T39 (rW (c := 0) (d := 1) (rR (x := 1)) rfl) fun μ48 u49 T50 => ?_
      refine sv_aload_n (pc := 53) dX12_picked_53 rfl rfl ?_
      refine gf_X12_81 (pc := 54) dX12_picked_54 wF_X12_445 (A_106 hw) T50 ?_
      refine mr_iload_n (pc := 57) (z := ((10 * p1) + p2)) dX12_picked_57 rfl rfl ?_
      refine lk_161 (pc := 58) dX12_picked_58 (A_161 hw) (rIx (n := 100) (rAdd (e := 0) (f := 99) (rMulL (n := 10) (e := 0) (f := 90) h14 rfl) h26 rfl) rfl) (u49.f (Or.inl (mAt.ne (A_106 hw) (A_161 hw) rfl)) (F40.f (A_161 hw) rfl q29)) ?_
      exact mr_iret dX12_picked_59 rfl (le_t rfl) (le_t rfl) T50 (mF.up (mF.call mF.refl F40 rfl) (A_106 hw) u49 rfl) ⟨(rW (c := (-2147483648)) (d := 2147483647) h33 rfl), trivial⟩
    have h51 : (-99999999) ≤ z28 ∧ z28 ≤ (-99999999) := (vc_X12_picked_17 h32 h31 h30)
    refine mr_ldc (pc := 36) (z := (-99999999)) dX12_picked_36 wG_X12_29 (by decide) ?_
    exact mr_iret dX12_picked_38 rfl (le_t rfl) (le_t rfl) hT mF.refl ⟨(rW (c := (-2147483648)) (d := 2147483647) (rR (x := (-99999999))) rfl), trivial⟩
  have h52 : 0 ≤ z22 ∧ z22 ≤ 0 := (vc_X12_picked_18 h23 h21.2.1 h21.2.2.1 hp2 h17 h21.1)
  have h53 : p2 < 0 ∨ z15 ≤ p2 := (h21.2.2.1 (vc_X12_picked_19 h21.2.1 h21.2.2.1 h23 hp2 h17 h52))
  refine mr_iconst (pc := 16) (z := (-1)) dX12_picked_16 ?_
  exact mr_iret dX12_picked_17 rfl (le_t rfl) (le_t rfl) hT mF.refl ⟨(rW (c := (-2147483648)) (d := 2147483647) (rR (x := (-1))) rfl), trivial⟩
theorem vc_X12_heard_1 {p1 z1 z8 : Int} (h0 : z8 = 0) (h1 : (z8 = 1 → 0 ≤ p1 ∧ p1 < z1)) (h2 : (z8 = 0 → p1 < 0 ∨ z1 ≤ p1)) (h3 : (-2147483648) ≤ p1 ∧ p1 ≤ 2147483647) (h4 : 0 ≤ z1 ∧ z1 ≤ 20) (h5 : 0 ≤ z8 ∧ z8 ≤ 1) : 0 ≤ z8 ∧ z8 ≤ 0 := by omega
theorem vc_X12_heard_2 {p1 z1 z8 : Int} (h0 : (z8 = 1 → 0 ≤ p1 ∧ p1 < z1)) (h1 : (z8 = 0 → p1 < 0 ∨ z1 ≤ p1)) (h2 : z8 = 0) (h3 : (-2147483648) ≤ p1 ∧ p1 ≤ 2147483647) (h4 : 0 ≤ z1 ∧ z1 ≤ 20) (h5 : 0 ≤ z8 ∧ z8 ≤ 0) : z8 = 0 := by omega
theorem vc_X12_heard_3 {p1 z1 z8 : Int} (h0 : ¬ z8 = 0) (h1 : (z8 = 1 → 0 ≤ p1 ∧ p1 < z1)) (h2 : (z8 = 0 → p1 < 0 ∨ z1 ≤ p1)) (h3 : (-2147483648) ≤ p1 ∧ p1 ≤ 2147483647) (h4 : 0 ≤ z1 ∧ z1 ≤ 20) (h5 : 0 ≤ z8 ∧ z8 ≤ 1) : 1 ≤ z8 ∧ z8 ≤ 1 := by omega
theorem vc_X12_heard_4 {p1 z1 z8 : Int} (h0 : (z8 = 1 → 0 ≤ p1 ∧ p1 < z1)) (h1 : (z8 = 0 → p1 < 0 ∨ z1 ≤ p1)) (h2 : ¬ z8 = 0) (h3 : (-2147483648) ≤ p1 ∧ p1 ≤ 2147483647) (h4 : 0 ≤ z1 ∧ z1 ≤ 20) (h5 : 1 ≤ z8 ∧ z8 ≤ 1) : z8 = 1 := by omega
theorem vc_X12_heard_5 {p1 z1 z8 : Int} (h0 : 0 ≤ p1 ∧ p1 < z1) (h1 : (z8 = 1 → 0 ≤ p1 ∧ p1 < z1)) (h2 : (z8 = 0 → p1 < 0 ∨ z1 ≤ p1)) (h3 : (-2147483648) ≤ p1 ∧ p1 ≤ 2147483647) (h4 : 0 ≤ z1 ∧ z1 ≤ 20) (h5 : 1 ≤ z8 ∧ z8 ≤ 1) : 0 ≤ p1 ∧ p1 ≤ 19 := by omega
theorem vc_X12_heard_6 {p2 z19 : Int} (h0 : z19 = 0) (h1 : (z19 = 1 → (0 : Int) ≤ p2 ∧ p2 ≤ (1 : Int))) (h2 : (z19 = 0 → p2 < (0 : Int) ∨ (1 : Int) < p2)) (h3 : (-2147483648) ≤ p2 ∧ p2 ≤ 2147483647) (h4 : 0 ≤ z19 ∧ z19 ≤ 1) : 0 ≤ z19 ∧ z19 ≤ 0 := by omega
theorem vc_X12_heard_7 {p2 z19 : Int} (h0 : (z19 = 1 → (0 : Int) ≤ p2 ∧ p2 ≤ (1 : Int))) (h1 : (z19 = 0 → p2 < (0 : Int) ∨ (1 : Int) < p2)) (h2 : z19 = 0) (h3 : (-2147483648) ≤ p2 ∧ p2 ≤ 2147483647) (h4 : 0 ≤ z19 ∧ z19 ≤ 0) : z19 = 0 := by omega
theorem vc_X12_heard_8 {p2 z19 : Int} (h0 : ¬ z19 = 0) (h1 : (z19 = 1 → (0 : Int) ≤ p2 ∧ p2 ≤ (1 : Int))) (h2 : (z19 = 0 → p2 < (0 : Int) ∨ (1 : Int) < p2)) (h3 : (-2147483648) ≤ p2 ∧ p2 ≤ 2147483647) (h4 : 0 ≤ z19 ∧ z19 ≤ 1) : 1 ≤ z19 ∧ z19 ≤ 1 := by omega
theorem vc_X12_heard_9 {p2 z19 : Int} (h0 : (z19 = 1 → (0 : Int) ≤ p2 ∧ p2 ≤ (1 : Int))) (h1 : (z19 = 0 → p2 < (0 : Int) ∨ (1 : Int) < p2)) (h2 : ¬ z19 = 0) (h3 : (-2147483648) ≤ p2 ∧ p2 ≤ 2147483647) (h4 : 1 ≤ z19 ∧ z19 ≤ 1) : z19 = 1 := by omega
theorem vc_X12_heard_10 {p2 z19 : Int} (h0 : (0 : Int) ≤ p2 ∧ p2 ≤ (1 : Int)) (h1 : (z19 = 1 → (0 : Int) ≤ p2 ∧ p2 ≤ (1 : Int))) (h2 : (z19 = 0 → p2 < (0 : Int) ∨ (1 : Int) < p2)) (h3 : (-2147483648) ≤ p2 ∧ p2 ≤ 2147483647) (h4 : 1 ≤ z19 ∧ z19 ≤ 1) : 0 ≤ p2 ∧ p2 ≤ 1 := by omega
theorem vc_X12_heard_11 {p3 z26 z33 : Int} (h0 : z33 = 0) (h1 : (z33 = 1 → 0 ≤ p3 ∧ p3 < z26)) (h2 : (z33 = 0 → p3 < 0 ∨ z26 ≤ p3)) (h3 : (-2147483648) ≤ p3 ∧ p3 ≤ 2147483647) (h4 : 0 ≤ z26 ∧ z26 ≤ 10) (h5 : 0 ≤ z33 ∧ z33 ≤ 1) : 0 ≤ z33 ∧ z33 ≤ 0 := by omega
theorem vc_X12_heard_12 {p3 z26 z33 : Int} (h0 : (z33 = 1 → 0 ≤ p3 ∧ p3 < z26)) (h1 : (z33 = 0 → p3 < 0 ∨ z26 ≤ p3)) (h2 : z33 = 0) (h3 : (-2147483648) ≤ p3 ∧ p3 ≤ 2147483647) (h4 : 0 ≤ z26 ∧ z26 ≤ 10) (h5 : 0 ≤ z33 ∧ z33 ≤ 0) : z33 = 0 := by omega
theorem vc_X12_heard_13 {p3 z26 z33 : Int} (h0 : ¬ z33 = 0) (h1 : (z33 = 1 → 0 ≤ p3 ∧ p3 < z26)) (h2 : (z33 = 0 → p3 < 0 ∨ z26 ≤ p3)) (h3 : (-2147483648) ≤ p3 ∧ p3 ≤ 2147483647) (h4 : 0 ≤ z26 ∧ z26 ≤ 10) (h5 : 0 ≤ z33 ∧ z33 ≤ 1) : 1 ≤ z33 ∧ z33 ≤ 1 := by omega
theorem vc_X12_heard_14 {p3 z26 z33 : Int} (h0 : (z33 = 1 → 0 ≤ p3 ∧ p3 < z26)) (h1 : (z33 = 0 → p3 < 0 ∨ z26 ≤ p3)) (h2 : ¬ z33 = 0) (h3 : (-2147483648) ≤ p3 ∧ p3 ≤ 2147483647) (h4 : 0 ≤ z26 ∧ z26 ≤ 10) (h5 : 1 ≤ z33 ∧ z33 ≤ 1) : z33 = 1 := by omega
theorem vc_X12_heard_15 {p3 z26 z33 : Int} (h0 : 0 ≤ p3 ∧ p3 < z26) (h1 : (z33 = 1 → 0 ≤ p3 ∧ p3 < z26)) (h2 : (z33 = 0 → p3 < 0 ∨ z26 ≤ p3)) (h3 : (-2147483648) ≤ p3 ∧ p3 ≤ 2147483647) (h4 : 0 ≤ z26 ∧ z26 ≤ 10) (h5 : 1 ≤ z33 ∧ z33 ≤ 1) : 0 ≤ p3 ∧ p3 ≤ 9 := by omega
theorem vc_X12_heard_16 {p4 z44 : Int} (h0 : ¬ z44 = 0) (h1 : (z44 = 1 → (0 : Int) ≤ p4 ∧ p4 ≤ (1 : Int))) (h2 : (z44 = 0 → p4 < (0 : Int) ∨ (1 : Int) < p4)) (h3 : (-2147483648) ≤ p4 ∧ p4 ≤ 2147483647) (h4 : 0 ≤ z44 ∧ z44 ≤ 1) : 1 ≤ z44 ∧ z44 ≤ 1 := by omega
theorem vc_X12_heard_17 {p4 z44 : Int} (h0 : (z44 = 1 → (0 : Int) ≤ p4 ∧ p4 ≤ (1 : Int))) (h1 : (z44 = 0 → p4 < (0 : Int) ∨ (1 : Int) < p4)) (h2 : ¬ z44 = 0) (h3 : (-2147483648) ≤ p4 ∧ p4 ≤ 2147483647) (h4 : 1 ≤ z44 ∧ z44 ≤ 1) : z44 = 1 := by omega
theorem vc_X12_heard_18 {p4 z44 : Int} (h0 : (0 : Int) ≤ p4 ∧ p4 ≤ (1 : Int)) (h1 : (z44 = 1 → (0 : Int) ≤ p4 ∧ p4 ≤ (1 : Int))) (h2 : (z44 = 0 → p4 < (0 : Int) ∨ (1 : Int) < p4)) (h3 : (-2147483648) ≤ p4 ∧ p4 ≤ 2147483647) (h4 : 1 ≤ z44 ∧ z44 ≤ 1) : 0 ≤ p4 ∧ p4 ≤ 1 := by omega
theorem vc_X12_heard_19 {p1 p2 p3 z1 z19 z26 z33 z53 : Int} (h0 : z53 = (((20 * p1) + (10 * p2)) + p3)) (h1 : 0 ≤ p1 ∧ p1 < z1) (h2 : (z19 = 1 → (0 : Int) ≤ p2 ∧ p2 ≤ (1 : Int))) (h3 : (z19 = 0 → p2 < (0 : Int) ∨ (1 : Int) < p2)) (h4 : (0 : Int) ≤ p2 ∧ p2 ≤ (1 : Int)) (h5 : (z33 = 1 → 0 ≤ p3 ∧ p3 < z26)) (h6 : (z33 = 0 → p3 < 0 ∨ z26 ≤ p3)) (h7 : 0 ≤ p3 ∧ p3 < z26) (h8 : 0 ≤ p1 ∧ p1 ≤ 19) (h9 : 0 ≤ p2 ∧ p2 ≤ 1) (h10 : 0 ≤ p3 ∧ p3 ≤ 9) (h11 : 0 ≤ z1 ∧ z1 ≤ 20) (h12 : 1 ≤ z19 ∧ z19 ≤ 1) (h13 : 0 ≤ z26 ∧ z26 ≤ 10) (h14 : 1 ≤ z33 ∧ z33 ≤ 1) (h15 : 0 ≤ z53 ∧ z53 ≤ 449) : 0 ≤ z53 ∧ z53 ≤ 399 := by omega
theorem vc_X12_heard_20 {p1 p2 p3 z1 z19 z26 z33 z53 z57 z8 : Int} (h0 : z53 = (((20 * p1) + (10 * p2)) + p3)) (h1 : (z8 = 1 → 0 ≤ p1 ∧ p1 < z1)) (h2 : (z8 = 0 → p1 < 0 ∨ z1 ≤ p1)) (h3 : 0 ≤ p1 ∧ p1 < z1) (h4 : (z19 = 1 → (0 : Int) ≤ p2 ∧ p2 ≤ (1 : Int))) (h5 : (z19 = 0 → p2 < (0 : Int) ∨ (1 : Int) < p2)) (h6 : (0 : Int) ≤ p2 ∧ p2 ≤ (1 : Int)) (h7 : (z33 = 1 → 0 ≤ p3 ∧ p3 < z26)) (h8 : (z33 = 0 → p3 < 0 ∨ z26 ≤ p3)) (h9 : 0 ≤ p3 ∧ p3 < z26) (h10 : 0 ≤ p1 ∧ p1 ≤ 19) (h11 : 0 ≤ p2 ∧ p2 ≤ 1) (h12 : 0 ≤ p3 ∧ p3 ≤ 9) (h13 : 0 ≤ z1 ∧ z1 ≤ 20) (h14 : 1 ≤ z19 ∧ z19 ≤ 1) (h15 : 0 ≤ z26 ∧ z26 ≤ 10) (h16 : 1 ≤ z33 ∧ z33 ≤ 1) (h17 : 0 ≤ z53 ∧ z53 ≤ 399) (h18 : 130 ≤ z57 ∧ z57 ≤ 530) (h19 : 1 ≤ z8 ∧ z8 ≤ 1) : 0 ≤ (40 * (z57 + z53)) := by omega
theorem vc_X12_heard_21 {p1 p2 p3 z1 z19 z26 z33 z53 z57 z8 : Int} (h0 : z53 = (((20 * p1) + (10 * p2)) + p3)) (h1 : (z8 = 1 → 0 ≤ p1 ∧ p1 < z1)) (h2 : (z8 = 0 → p1 < 0 ∨ z1 ≤ p1)) (h3 : 0 ≤ p1 ∧ p1 < z1) (h4 : (z19 = 1 → (0 : Int) ≤ p2 ∧ p2 ≤ (1 : Int))) (h5 : (z19 = 0 → p2 < (0 : Int) ∨ (1 : Int) < p2)) (h6 : (0 : Int) ≤ p2 ∧ p2 ≤ (1 : Int)) (h7 : (z33 = 1 → 0 ≤ p3 ∧ p3 < z26)) (h8 : (z33 = 0 → p3 < 0 ∨ z26 ≤ p3)) (h9 : 0 ≤ p3 ∧ p3 < z26) (h10 : 0 ≤ p1 ∧ p1 ≤ 19) (h11 : 0 ≤ p2 ∧ p2 ≤ 1) (h12 : 0 ≤ p3 ∧ p3 ≤ 9) (h13 : 0 ≤ z1 ∧ z1 ≤ 20) (h14 : 1 ≤ z19 ∧ z19 ≤ 1) (h15 : 0 ≤ z26 ∧ z26 ≤ 10) (h16 : 1 ≤ z33 ∧ z33 ≤ 1) (h17 : 0 ≤ z53 ∧ z53 ≤ 399) (h18 : 130 ≤ z57 ∧ z57 ≤ 530) (h19 : 1 ≤ z8 ∧ z8 ≤ 1) : (40 * (z57 + z53)) % 40 = 0 := by omega
theorem vc_X12_heard_22 {z60 z68 : Int} (h0 : ¬ z68 = 0) (h1 : (z68 = 1 → 0 ≤ z60)) (h2 : (z68 = 0 → z60 < 0)) (h3 : (-1) ≤ z60 ∧ z60 ≤ 9) (h4 : 0 ≤ z68 ∧ z68 ≤ 1) : 1 ≤ z68 ∧ z68 ≤ 1 := by omega
theorem vc_X12_heard_23 {z60 z68 : Int} (h0 : (z68 = 1 → 0 ≤ z60)) (h1 : (z68 = 0 → z60 < 0)) (h2 : ¬ z68 = 0) (h3 : (-1) ≤ z60 ∧ z60 ≤ 9) (h4 : 1 ≤ z68 ∧ z68 ≤ 1) : z68 = 1 := by omega
theorem vc_X12_heard_24 {z60 z68 : Int} (h0 : 0 ≤ z60) (h1 : (z68 = 1 → 0 ≤ z60)) (h2 : (z68 = 0 → z60 < 0)) (h3 : (-1) ≤ z60 ∧ z60 ≤ 9) (h4 : 1 ≤ z68 ∧ z68 ≤ 1) : 0 ≤ z60 ∧ z60 ≤ 9 := by omega
theorem vc_X12_heard_25 {p1 p2 p3 z1 z19 z26 z33 z53 z57 z8 : Int} (h0 : z53 = (((20 * p1) + (10 * p2)) + p3)) (h1 : (z8 = 1 → 0 ≤ p1 ∧ p1 < z1)) (h2 : (z8 = 0 → p1 < 0 ∨ z1 ≤ p1)) (h3 : 0 ≤ p1 ∧ p1 < z1) (h4 : (z19 = 1 → (0 : Int) ≤ p2 ∧ p2 ≤ (1 : Int))) (h5 : (z19 = 0 → p2 < (0 : Int) ∨ (1 : Int) < p2)) (h6 : (0 : Int) ≤ p2 ∧ p2 ≤ (1 : Int)) (h7 : (z33 = 1 → 0 ≤ p3 ∧ p3 < z26)) (h8 : (z33 = 0 → p3 < 0 ∨ z26 ≤ p3)) (h9 : 0 ≤ p3 ∧ p3 < z26) (h10 : 0 ≤ p1 ∧ p1 ≤ 19) (h11 : 0 ≤ p2 ∧ p2 ≤ 1) (h12 : 0 ≤ p3 ∧ p3 ≤ 9) (h13 : 0 ≤ z1 ∧ z1 ≤ 20) (h14 : 1 ≤ z19 ∧ z19 ≤ 1) (h15 : 0 ≤ z26 ∧ z26 ≤ 10) (h16 : 1 ≤ z33 ∧ z33 ≤ 1) (h17 : 0 ≤ z53 ∧ z53 ≤ 399) (h18 : 130 ≤ z57 ∧ z57 ≤ 530) (h19 : 1 ≤ z8 ∧ z8 ≤ 1) : (z57 + z53) < (0 : Int) ∨ (0 : Int) < (z57 + z53) := by omega
theorem vc_X12_heard_26  : (0 : Int) ≤ ((40 : Int) * (0 : Int)) := by omega
theorem vc_X12_heard_27  : (((40 : Int) * (0 : Int)) : Int) % (40 : Int) = (0 : Int) := by omega
theorem vc_X12_heard_28 {z60 z68 z77 : Int} (h0 : z77 = z60) (h1 : (z68 = 1 → 0 ≤ z60)) (h2 : (z68 = 0 → z60 < 0)) (h3 : 0 ≤ z60) (h4 : 0 ≤ z60 ∧ z60 ≤ 9) (h5 : 1 ≤ z68 ∧ z68 ≤ 1) (h6 : (-1) ≤ z77 ∧ z77 ≤ 9) : 0 ≤ z77 ∧ z77 ≤ 9 := by omega
theorem vc_X12_heard_29 {p4 z44 : Int} (h0 : ¬ p4 = 0) (h1 : (z44 = 1 → (0 : Int) ≤ p4 ∧ p4 ≤ (1 : Int))) (h2 : (z44 = 0 → p4 < (0 : Int) ∨ (1 : Int) < p4)) (h3 : (0 : Int) ≤ p4 ∧ p4 ≤ (1 : Int)) (h4 : 0 ≤ p4 ∧ p4 ≤ 1) (h5 : 1 ≤ z44 ∧ z44 ≤ 1) : 1 ≤ p4 ∧ p4 ≤ 1 := by omega
theorem vc_X12_heard_30 {p4 z44 : Int} (h0 : p4 = 0) (h1 : (z44 = 1 → (0 : Int) ≤ p4 ∧ p4 ≤ (1 : Int))) (h2 : (z44 = 0 → p4 < (0 : Int) ∨ (1 : Int) < p4)) (h3 : (0 : Int) ≤ p4 ∧ p4 ≤ (1 : Int)) (h4 : 0 ≤ p4 ∧ p4 ≤ 1) (h5 : 1 ≤ z44 ∧ z44 ≤ 1) : 0 ≤ p4 ∧ p4 ≤ 0 := by omega
theorem vc_X12_heard_31 {z60 z68 : Int} (h0 : z68 = 0) (h1 : (z68 = 1 → 0 ≤ z60)) (h2 : (z68 = 0 → z60 < 0)) (h3 : (-1) ≤ z60 ∧ z60 ≤ 9) (h4 : 0 ≤ z68 ∧ z68 ≤ 1) : 0 ≤ z68 ∧ z68 ≤ 0 := by omega
theorem vc_X12_heard_32 {z60 z68 : Int} (h0 : (z68 = 1 → 0 ≤ z60)) (h1 : (z68 = 0 → z60 < 0)) (h2 : z68 = 0) (h3 : (-1) ≤ z60 ∧ z60 ≤ 9) (h4 : 0 ≤ z68 ∧ z68 ≤ 0) : z68 = 0 := by omega
theorem vc_X12_heard_33 {z60 z68 : Int} (h0 : z60 < 0) (h1 : (z68 = 1 → 0 ≤ z60)) (h2 : (z68 = 0 → z60 < 0)) (h3 : (-1) ≤ z60 ∧ z60 ≤ 9) (h4 : 0 ≤ z68 ∧ z68 ≤ 0) : (-1) ≤ z60 ∧ z60 ≤ (-1) := by omega
theorem vc_X12_heard_34 {p4 z44 : Int} (h0 : z44 = 0) (h1 : (z44 = 1 → (0 : Int) ≤ p4 ∧ p4 ≤ (1 : Int))) (h2 : (z44 = 0 → p4 < (0 : Int) ∨ (1 : Int) < p4)) (h3 : (-2147483648) ≤ p4 ∧ p4 ≤ 2147483647) (h4 : 0 ≤ z44 ∧ z44 ≤ 1) : 0 ≤ z44 ∧ z44 ≤ 0 := by omega
theorem vc_X12_heard_35 {p4 z44 : Int} (h0 : (z44 = 1 → (0 : Int) ≤ p4 ∧ p4 ≤ (1 : Int))) (h1 : (z44 = 0 → p4 < (0 : Int) ∨ (1 : Int) < p4)) (h2 : z44 = 0) (h3 : (-2147483648) ≤ p4 ∧ p4 ≤ 2147483647) (h4 : 0 ≤ z44 ∧ z44 ≤ 0) : z44 = 0 := by omega
set_option maxRecDepth 4000 in
set_option maxHeartbeats 4000000 in
theorem c_X12_heard {l : Launch} {D : va_G} {c : Nat → ClassId} {H0 : Heap} {sa : Nat × Nat × (Nat → Int32)} {w : mW} {μ : mM} (hw : mWF w) (hT : mT w μ) {p1 : Int} (hp1 : (-2147483648) ≤ p1 ∧ p1 ≤ 2147483647) {p2 : Int} (hp2 : (-2147483648) ≤ p2 ∧ p2 ≤ 2147483647) {p3 : Int} (hp3 : (-2147483648) ≤ p3 ∧ p3 ≤ 2147483647) {p4 : Int} (hp4 : (-2147483648) ≤ p4 ∧ p4 ≤ 2147483647) : sC (gG l D c H0 sa) mX12_heard 3 0 0 [.ref 106, iv p1, iv p2, iv p3, iv p4] (mk w μ) (qI w [106070, 126999] μ (fun z μ1 => ((-2147483648) ≤ z ∧ z ≤ 2147483647) ∧ True)) := by
  refine sC.of rfl (by decide) (le_t rfl) ?_
  refine mr_lvE (lv' := [(0, .ref 106), (1, iv p1), (2, iv p2), (3, iv p3), (4, iv p4)]) rfl ?_
  refine sv_aload_n (pc := 0) dX12_heard_0 rfl rfl ?_
  refine mr_iload_n (pc := 1) (z := p1) dX12_heard_1 rfl rfl ?_
  obtain ⟨z1, q2⟩ : ∃ z, μ 106 6 = z := ⟨_, rfl⟩
  have h3 : (0 ≤ z1 ∧ z1 ≤ 20) := by rw [← q2]; exact hT 106 106 (A_106 hw) 6
  refine mr_cVP (pc := 2) (c_X12_isTie hw hT hp1 q2) (gOk _ _ _ _ _) dX12_heard_2 (tX12_isTie _ _ _ _ _) ⟨wV_X12_isTie, wL_X12_isTie⟩ wM_X12_66 (gCX12 _ _ _ _ _) rfl (A_106 hw) rfl ⟨le_t rfl, le_t rfl⟩ ⟨le_t rfl, le_t rfl⟩ rfl (le_t rfl) fun z8 h7 => ?_
  refine mr_if_eq (pc := 5) (tgt := 35) dX12_heard_5 (by decide) (r32 h7.1 rfl) (fun h9 => ?_) (fun h9 => ?_)
  · have h10 : 0 ≤ z8 ∧ z8 ≤ 0 := (vc_X12_heard_1 h9 h7.2.1 h7.2.2.1 hp1 h3 h7.1)
    have h11 : p1 < 0 ∨ z1 ≤ p1 := (h7.2.2.1 (vc_X12_heard_2 h7.2.1 h7.2.2.1 h9 hp1 h3 h10))
    refine mr_iconst (pc := 35) (z := (-1)) dX12_heard_35 ?_
    exact mr_iret dX12_heard_36 rfl (le_t rfl) (le_t rfl) hT mF.refl ⟨(rW (c := (-2147483648)) (d := 2147483647) (rR (x := (-1))) rfl), trivial⟩
  have h12 : 1 ≤ z8 ∧ z8 ≤ 1 := (vc_X12_heard_3 h9 h7.2.1 h7.2.2.1 hp1 h3 h7.1)
  have h13 : 0 ≤ p1 ∧ p1 < z1 := (h7.2.1 (vc_X12_heard_4 h7.2.1 h7.2.2.1 h9 hp1 h3 h12))
  have h14 : 0 ≤ p1 ∧ p1 ≤ 19 := (vc_X12_heard_5 h13 h7.2.1 h7.2.2.1 hp1 h3 h12)
  refine mr_iload_n (pc := 8) (z := p2) dX12_heard_8 rfl rfl ?_
  refine mr_iconst (pc := 9) (z := 0) dX12_heard_9 ?_
  refine mr_iconst (pc := 10) (z := 1) dX12_heard_10 ?_
  refine mr_cSP (pc := 11) (c_X12_in hw hT hp2 (rW (c := (-2147483648)) (d := 2147483647) (rR (x := 0)) rfl) (rW (c := (-2147483648)) (d := 2147483647) (rR (x := 1)) rfl)) (gOk _ _ _ _ _) dX12_heard_11 (tX12_in _ _ _ _ _) wS_X12_in wM_X12_18 ⟨le_t rfl, le_t rfl⟩ ⟨le_t rfl, le_t rfl⟩ rfl (le_t rfl) fun z19 h18 => ?_
  refine mr_if_eq (pc := 14) (tgt := 35) dX12_heard_14 (by decide) (r32 h18.1 rfl) (fun h20 => ?_) (fun h20 => ?_)
  · have h21 : 0 ≤ z19 ∧ z19 ≤ 0 := (vc_X12_heard_6 h20 h18.2.1 h18.2.2.1 hp2 h18.1)
    have h22 : p2 < (0 : Int) ∨ (1 : Int) < p2 := (h18.2.2.1 (vc_X12_heard_7 h18.2.1 h18.2.2.1 h20 hp2 h21))
    refine mr_iconst (pc := 35) (z := (-1)) dX12_heard_35 ?_
    exact mr_iret dX12_heard_36 rfl (le_t rfl) (le_t rfl) hT mF.refl ⟨(rW (c := (-2147483648)) (d := 2147483647) (rR (x := (-1))) rfl), trivial⟩
  have h23 : 1 ≤ z19 ∧ z19 ≤ 1 := (vc_X12_heard_8 h20 h18.2.1 h18.2.2.1 hp2 h18.1)
  have h24 : (0 : Int) ≤ p2 ∧ p2 ≤ (1 : Int) := (h18.2.1 (vc_X12_heard_9 h18.2.1 h18.2.2.1 h20 hp2 h23))
  have h25 : 0 ≤ p2 ∧ p2 ≤ 1 := (vc_X12_heard_10 h24 h18.2.1 h18.2.2.1 hp2 h23)
  refine sv_aload_n (pc := 17) dX12_heard_17 rfl rfl ?_
  refine mr_iload_n (pc := 18) (z := p3) dX12_heard_18 rfl rfl ?_
  obtain ⟨z26, q27⟩ : ∃ z, μ 106 2 = z := ⟨_, rfl⟩
  have h28 : (0 ≤ z26 ∧ z26 ≤ 10) := by rw [← q27]; exact hT 106 106 (A_106 hw) 2
  refine mr_cVP (pc := 19) (c_X12_isPrefix hw hT hp3 q27) (gOk _ _ _ _ _) dX12_heard_19 (tX12_isPrefix _ _ _ _ _) ⟨wV_X12_isPrefix, wL_X12_isPrefix⟩ wM_X12_92 (gCX12 _ _ _ _ _) rfl (A_106 hw) rfl ⟨le_t rfl, le_t rfl⟩ ⟨le_t rfl, le_t rfl⟩ rfl (le_t rfl) fun z33 h32 => ?_
  refine mr_if_eq (pc := 22) (tgt := 35) dX12_heard_22 (by decide) (r32 h32.1 rfl) (fun h34 => ?_) (fun h34 => ?_)
  · have h35 : 0 ≤ z33 ∧ z33 ≤ 0 := (vc_X12_heard_11 h34 h32.2.1 h32.2.2.1 hp3 h28 h32.1)
    have h36 : p3 < 0 ∨ z26 ≤ p3 := (h32.2.2.1 (vc_X12_heard_12 h32.2.1 h32.2.2.1 h34 hp3 h28 h35))
    refine mr_iconst (pc := 35) (z := (-1)) dX12_heard_35 ?_
    exact mr_iret dX12_heard_36 rfl (le_t rfl) (le_t rfl) hT mF.refl ⟨(rW (c := (-2147483648)) (d := 2147483647) (rR (x := (-1))) rfl), trivial⟩
  have h37 : 1 ≤ z33 ∧ z33 ≤ 1 := (vc_X12_heard_13 h34 h32.2.1 h32.2.2.1 hp3 h28 h32.1)
  have h38 : 0 ≤ p3 ∧ p3 < z26 := (h32.2.1 (vc_X12_heard_14 h32.2.1 h32.2.2.1 h34 hp3 h28 h37))
  have h39 : 0 ≤ p3 ∧ p3 ≤ 9 := (vc_X12_heard_15 h38 h32.2.1 h32.2.2.1 hp3 h28 h37)
  refine mr_iload (pc := 25) (z := p4) dX12_heard_25 rfl ?_
  refine mr_iconst (pc := 27) (z := 0) dX12_heard_27 ?_
  refine mr_iconst (pc := 28) (z := 1) dX12_heard_28 ?_
  refine mr_cSP (pc := 29) (c_X12_in hw hT hp4 (rW (c := (-2147483648)) (d := 2147483647) (rR (x := 0)) rfl) (rW (c := (-2147483648)) (d := 2147483647) (rR (x := 1)) rfl)) (gOk _ _ _ _ _) dX12_heard_29 (tX12_in _ _ _ _ _) wS_X12_in wM_X12_18 ⟨le_t rfl, le_t rfl⟩ ⟨le_t rfl, le_t rfl⟩ rfl (le_t rfl) fun z44 h43 => ?_
  refine mr_if_ne (pc := 32) (tgt := 37) dX12_heard_32 (by decide) (r32 h43.1 rfl) (fun h45 => ?_) (fun h45 => ?_)
  · have h46 : 1 ≤ z44 ∧ z44 ≤ 1 := (vc_X12_heard_16 h45 h43.2.1 h43.2.2.1 hp4 h43.1)
    have h47 : (0 : Int) ≤ p4 ∧ p4 ≤ (1 : Int) := (h43.2.1 (vc_X12_heard_17 h43.2.1 h43.2.2.1 h45 hp4 h46))
    have h48 : 0 ≤ p4 ∧ p4 ≤ 1 := (vc_X12_heard_18 h47 h43.2.1 h43.2.2.1 hp4 h46)
    refine mr_iload_n (pc := 37) (z := p1) dX12_heard_37 rfl rfl ?_
    refine mr_iload_n (pc := 38) (z := p2) dX12_heard_38 rfl rfl ?_
    refine mr_iload_n (pc := 39) (z := p3) dX12_heard_39 rfl rfl ?_
    refine mr_cSP (pc := 40) (c_X12_slot hw hT (rW (c := 0) (d := 20) h14 rfl) (rW (c := 0) (d := 2) h25 rfl) h39) (gOk _ _ _ _ _) dX12_heard_40 (tX12_slot _ _ _ _ _) wS_X12_slot wM_X12_545 ⟨le_t rfl, le_t rfl⟩ ⟨le_t rfl, le_t rfl⟩ rfl (le_t rfl) fun z53 h52 => ?_
    have h54 : 0 ≤ z53 ∧ z53 ≤ 399 := (vc_X12_heard_19 h52.2.1 h13 h18.2.1 h18.2.2.1 h24 h32.2.1 h32.2.2.1 h38 h14 h25 h39 h3 h23 h28 h37 h52.1)
    refine mr_istore (pc := 43) (lv' := [(5, iv z53), (0, .ref 106), (1, iv p1), (2, iv p2), (3, iv p3), (4, iv p4)]) dX12_heard_43 (by decide) rfl ?_
    refine mr_iload (pc := 45) (z := p4) dX12_heard_45 rfl ?_
    have J59 : ∀ (z57 : Int), ((130 ≤ z57 ∧ z57 ≤ 530)) → sV (gG l D c H0 sa) mX12_heard (sRm 3 0 0) (sZ (gG l D c H0 sa) 0 0 (qI w [106070, 126999] μ (fun z μ1 => ((-2147483648) ≤ z ∧ z ≤ 2147483647) ∧ True))) 59 [(0, .ref 106), (4, iv p4), (5, iv z53)] [iv z57] (mk w μ) 0 0 := by
      intro z57 h58
      refine mr_iload (pc := 59) (z := z53) dX12_heard_59 rfl ?_
      refine mr_iadd (pc := 61) (x := z57) (y := z53) dX12_heard_61 ?_
      refine mr_istore (pc := 62) (lv' := [(6, iv (z57 + z53)), (0, .ref 106), (4, iv p4), (5, iv z53)]) dX12_heard_62 (by decide) rfl ?_
      refine sv_aload_n (pc := 64) dX12_heard_64 rfl rfl ?_
      refine mr_iload (pc := 65) (z := (z57 + z53)) dX12_heard_65 rfl ?_
      obtain ⟨z60, q61⟩ : ∃ z, μ 126 ((40 * (z57 + z53)).toNat) = z := ⟨_, rfl⟩
      have h62 := rt7 hT (A_126 hw) (vc_X12_heard_20 h52.2.1 h7.2.1 h7.2.2.1 h13 h18.2.1 h18.2.2.1 h24 h32.2.1 h32.2.2.1 h38 h14 h25 h39 h3 h23 h28 h37 h54 h58 h12) q61
      have h63 : (-1) ≤ z60 ∧ z60 ≤ 9 := h62.2.1 (vc_X12_heard_21 h52.2.1 h7.2.1 h7.2.2.1 h13 h18.2.1 h18.2.2.1 h24 h32.2.1 h32.2.2.1 h38 h14 h25 h39 h3 h23 h28 h37 h54 h58 h12)
      refine mr_cVP (pc := 67) (c_X12_isThere hw hT (rW (c := 0) (d := 2099) (rAdd (e := 130) (f := 929) h58 h54 rfl) rfl) q61) (gOk _ _ _ _ _) dX12_heard_67 (tX12_isThere _ _ _ _ _) ⟨wV_X12_isThere, wL_X12_isThere⟩ wM_X12_151 (gCX12 _ _ _ _ _) rfl (A_106 hw) rfl ⟨le_t rfl, le_t rfl⟩ ⟨le_t rfl, le_t rfl⟩ rfl (le_t rfl) fun z68 h67 => ?_
      refine mr_if_ne (pc := 70) (tgt := 76) dX12_heard_70 (by decide) (r32 h67.1 rfl) (fun h69 => ?_) (fun h69 => ?_)
      · have h70 : 1 ≤ z68 ∧ z68 ≤ 1 := (vc_X12_heard_22 h69 h67.2.1 h67.2.2.1 h63 h67.1)
        have h71 : 0 ≤ z60 := (h67.2.1 (vc_X12_heard_23 h67.2.1 h67.2.2.1 h69 h63 h70))
        have h72 : 0 ≤ z60 ∧ z60 ≤ 9 := (vc_X12_heard_24 h71 h67.2.1 h67.2.2.1 h63 h70)
        refine sv_aload_n (pc := 76) dX12_heard_76 rfl rfl ?_
        refine mr_iload (pc := 77) (z := (z57 + z53)) dX12_heard_77 rfl ?_
        refine mr_iconst (pc := 79) (z := 0) dX12_heard_79 ?_
        refine mr_cVV (pc := 80) (c_X12_copy hw hT (rW (c := 0) (d := 2099) (rAdd (e := 130) (f := 929) h58 h54 rfl) rfl) (rW (c := 0) (d := 2099) (rR (x := 0)) rfl) q61 (vc_X12_heard_25 h52.2.1 h7.2.1 h7.2.2.1 h13 h18.2.1 h18.2.2.1 h24 h32.2.1 h32.2.2.1 h38 h14 h25 h39 h3 h23 h28 h37 h54 h58 h12)) (gOk _ _ _ _ _) dX12_heard_80 (tX12_copy _ _ _ _ _) ⟨wV_X12_copy, wL_X12_copy⟩ wM_X12_559 (gCX12 _ _ _ _ _) rfl (A_106 hw) rfl ⟨le_t rfl, le_t rfl⟩ ⟨le_t rfl, le_t rfl⟩ rfl (le_t rfl) fun μ73 T74 F75 h76 => ?_
        obtain ⟨z77, q78, h79⟩ := h76
        have h80 := rt7 T74 (A_126 hw) vc_X12_heard_26 q78
        have h81 : (-1) ≤ z77 ∧ z77 ≤ 9 := h80.2.1 vc_X12_heard_27
        have q82 : μ73 126 (((40 * 0) : Int).toNat) = z60 := q78.trans h79.2.1
        have h83 : 0 ≤ z77 ∧ z77 ≤ 9 := (vc_X12_heard_28 h79.2.1 h67.2.1 h67.2.2.1 h71 h72 h70 h81)
        refine sv_aload_n (pc := 83) dX12_heard_83 rfl rfl ?_
        refine mr_iconst (pc := 84) (z := 1) dX12_heard_84 ?_
        refine pf_X12_70 (pc := 85) dX12_heard_85 wF_X12_411 (A_106 hw) T74 (rW (c := 0) (d := 1) (rR (x := 1)) rfl) fun μ84 u85 T86 => ?_
        refine mr_iload (pc := 88) (z := p4) dX12_heard_88 rfl ?_
        refine mr_if_ne (pc := 90) (tgt := 103) dX12_heard_90 (by decide) (r32 h48 rfl) (fun h95 => ?_) (fun h95 => ?_)
        · have h96 : 1 ≤ p4 ∧ p4 ≤ 1 := (vc_X12_heard_29 h95 h43.2.1 h43.2.2.1 h47 h48 h46)
          refine sv_aload_n (pc := 103) dX12_heard_103 rfl rfl ?_
          refine gf_X12_76 (pc := 104) dX12_heard_104 wF_X12_430 (A_106 hw) T86 ?_
          refine mr_iload (pc := 107) (z := z53) dX12_heard_107 rfl ?_
          refine la_156 (pc := 109) dX12_heard_109 (A_156 hw) T86 (rIx (n := 400) h54 rfl) fun z97 q98 h99 => ?_
          exact mr_iret dX12_heard_110 rfl (le_t rfl) (le_t rfl) T86 (mF.up (mF.call mF.refl F75 rfl) (A_106 hw) u85 rfl) ⟨(rW (c := (-2147483648)) (d := 2147483647) h99 rfl), trivial⟩
        have h100 : 0 ≤ p4 ∧ p4 ≤ 0 := (vc_X12_heard_30 h95 h43.2.1 h43.2.2.1 h47 h48 h46)
        refine sv_aload_n (pc := 93) dX12_heard_93 rfl rfl ?_
        refine gf_X12_74 (pc := 94) dX12_heard_94 wF_X12_424 (A_106 hw) T86 ?_
        refine mr_iload (pc := 97) (z := z53) dX12_heard_97 rfl ?_
        refine la_154 (pc := 99) dX12_heard_99 (A_154 hw) T86 (rIx (n := 400) h54 rfl) fun z101 q102 h103 => ?_
        refine sv_goto (pc := 100) (tgt := 110) dX12_heard_100 (by decide) ?_
        exact mr_iret dX12_heard_110 rfl (le_t rfl) (le_t rfl) T86 (mF.up (mF.call mF.refl F75 rfl) (A_106 hw) u85 rfl) ⟨(rW (c := (-2147483648)) (d := 2147483647) h103 rfl), trivial⟩
      have h104 : 0 ≤ z68 ∧ z68 ≤ 0 := (vc_X12_heard_31 h69 h67.2.1 h67.2.2.1 h63 h67.1)
      have h105 : z60 < 0 := (h67.2.2.1 (vc_X12_heard_32 h67.2.1 h67.2.2.1 h69 h63 h104))
      have h106 : (-1) ≤ z60 ∧ z60 ≤ (-1) := (vc_X12_heard_33 h105 h67.2.1 h67.2.2.1 h63 h104)
      refine mr_ldc (pc := 73) (z := (-99999999)) dX12_heard_73 wG_X12_29 (by decide) ?_
      exact mr_iret dX12_heard_75 rfl (le_t rfl) (le_t rfl) hT mF.refl ⟨(rW (c := (-2147483648)) (d := 2147483647) (rR (x := (-99999999))) rfl), trivial⟩
    refine mr_if_ne (pc := 47) (tgt := 56) dX12_heard_47 (by decide) (r32 h48 rfl) (fun h107 => ?_) (fun h107 => ?_)
    · have h108 : 1 ≤ p4 ∧ p4 ≤ 1 := (vc_X12_heard_29 h107 h43.2.1 h43.2.2.1 h47 h48 h46)
      refine mr_sipush (pc := 56) (z := 530) dX12_heard_56 (by decide) ?_
      refine mr_lvS (lv' := [(0, .ref 106), (4, iv p4), (5, iv z53)]) (List.forall_mem_cons.mpr ⟨rfl, List.forall_mem_cons.mpr ⟨rfl, List.forall_mem_cons.mpr ⟨rfl, fun _ h => absurd h List.not_mem_nil⟩⟩⟩) ?_
      exact J59 530 (rW (c := 130) (d := 530) (rR (x := 530)) rfl)
    have h109 : 0 ≤ p4 ∧ p4 ≤ 0 := (vc_X12_heard_30 h107 h43.2.1 h43.2.2.1 h47 h48 h46)
    refine mr_sipush (pc := 50) (z := 130) dX12_heard_50 (by decide) ?_
    refine sv_goto (pc := 53) (tgt := 59) dX12_heard_53 (by decide) ?_
    refine mr_lvS (lv' := [(0, .ref 106), (4, iv p4), (5, iv z53)]) (List.forall_mem_cons.mpr ⟨rfl, List.forall_mem_cons.mpr ⟨rfl, List.forall_mem_cons.mpr ⟨rfl, fun _ h => absurd h List.not_mem_nil⟩⟩⟩) ?_
    exact J59 130 (rW (c := 130) (d := 530) (rR (x := 130)) rfl)
  have h110 : 0 ≤ z44 ∧ z44 ≤ 0 := (vc_X12_heard_34 h45 h43.2.1 h43.2.2.1 hp4 h43.1)
  have h111 : p4 < (0 : Int) ∨ (1 : Int) < p4 := (h43.2.2.1 (vc_X12_heard_35 h43.2.1 h43.2.2.1 h45 hp4 h110))
  refine mr_iconst (pc := 35) (z := (-1)) dX12_heard_35 ?_
  exact mr_iret dX12_heard_36 rfl (le_t rfl) (le_t rfl) hT mF.refl ⟨(rW (c := (-2147483648)) (d := 2147483647) (rR (x := (-1))) rfl), trivial⟩
theorem vc_X12_octet1_1 {f_w : Int} (h0 : f_w ≤ 299) (h1 : 0 ≤ f_w ∧ f_w ≤ 300) : 0 ≤ f_w ∧ f_w ≤ 299 := by omega
theorem vc_X12_octet1_2 {f_w : Int} (h0 : f_w ≤ 299) (h1 : 0 ≤ f_w ∧ f_w ≤ 299) : (f_w + 1) = f_w + 1 := by omega
set_option maxRecDepth 4000 in
set_option maxHeartbeats 4000000 in
theorem c_X12_octet1 {l : Launch} {D : va_G} {c : Nat → ClassId} {H0 : Heap} {sa : Nat × Nat × (Nat → Int32)} {w : mW} {μ : mM} (hw : mWF w) (hT : mT w μ) {p1 : Int} (hp1 : (-2147483648) ≤ p1 ∧ p1 ≤ 2147483647) {f_w : Int} (q_f_w : μ 106 104 = f_w) (hq0 : f_w ≤ 299) : sC (gG l D c H0 sa) mX12_octet1 1 0 0 [.ref 106, iv p1] (mk w μ) (qV w [106104, 174999] μ (fun μ1 => ∃ o_w : Int, μ1 106 104 = o_w ∧ (o_w = f_w + 1) ∧ True)) := by
  refine sC.of rfl (by decide) (le_t rfl) ?_
  have ht_f_w : (0 ≤ f_w ∧ f_w ≤ 300) := by rw [← q_f_w]; exact hT 106 106 (A_106 hw) 104
  have h1 : 0 ≤ f_w ∧ f_w ≤ 299 := (vc_X12_octet1_1 hq0 ht_f_w)
  refine mr_lvE (lv' := [(0, .ref 106), (1, iv p1)]) rfl ?_
  refine sv_aload_n (pc := 0) dX12_octet1_0 rfl rfl ?_
  refine gf_X12_103 (pc := 1) dX12_octet1_1 wF_X12_484 (A_106 hw) hT ?_
  refine sv_aload_n (pc := 4) dX12_octet1_4 rfl rfl ?_
  refine gk_X12_104 (pc := 5) dX12_octet1_5 wF_X12_671 (A_106 hw) q_f_w ?_
  refine mr_iload_n (pc := 8) (z := p1) dX12_octet1_8 rfl rfl ?_
  refine mr_sipush (pc := 9) (z := 255) dX12_octet1_9 (by decide) ?_
  refine mr_iand (pc := 12) (x := p1) (y := 255) dX12_octet1_12 ?_
  refine mr_gen (P := fun z => 0 ≤ z ∧ z ≤ 255) (rAndR (rR (x := 255)) rfl) fun z29 q30 h31 => ?_
  refine ss_174 (pc := 13) dX12_octet1_13 (A_174 hw) hT (rIx (n := 300) h1 rfl) (rW (c := (-2147483648)) (d := 2147483647) h31 rfl) fun μ32 u33 T34 => ?_
  refine sv_aload_n (pc := 14) dX12_octet1_14 rfl rfl ?_
  refine sv_dup (pc := 15) dX12_octet1_15 rfl ?_
  refine gk_X12_104 (pc := 16) dX12_octet1_16 wF_X12_671 (A_106 hw) (u33.f (Or.inl (mAt.ne (A_174 hw) (A_106 hw) rfl)) q_f_w) ?_
  refine mr_iconst (pc := 19) (z := 1) dX12_octet1_19 ?_
  refine mr_iadd (pc := 20) (x := f_w) (y := 1) dX12_octet1_20 ?_
  refine pf_X12_104 (pc := 21) dX12_octet1_21 wF_X12_671 (A_106 hw) T34 (rW (c := 0) (d := 300) (rAdd (e := 1) (f := 300) h1 (rR (x := 1)) rfl) rfl) fun μ35 u36 T37 => ?_
  exact mr_vret dX12_octet1_24 rfl (le_t rfl) (le_t rfl) T37 (mF.up (mF.up mF.refl (A_174 hw) u33 rfl) (A_106 hw) u36 rfl) ⟨(f_w + 1), u36.1, (vc_X12_octet1_2 hq0 h1), trivial⟩
theorem vc_X12_octet4_1 {f_w0 : Int} (h0 : f_w0 ≤ 295) (h1 : 0 ≤ f_w0 ∧ f_w0 ≤ 300) : 0 ≤ f_w0 ∧ f_w0 ≤ 295 := by omega
theorem vc_X12_octet4_2 {f_w f_w0 z310 : Int} (h0 : (z310 - (-9)) < ((0 : Nat) : Int)) (h1 : 8 * f_w + z310 = 8 * f_w0 + 24) (h2 : f_w0 ≤ 295) (h3 : 0 ≤ f_w0 ∧ f_w0 ≤ 295) (h4 : (-8) ≤ z310 ∧ z310 ≤ 24) : False := by omega
theorem vc_X12_octet4_3 {f_w f_w0 z310 : Int} (h0 : z310 < 0) (h1 : 8 * f_w + z310 = 8 * f_w0 + 24) (h2 : 0 ≤ f_w ∧ f_w ≤ 300) (h3 : 0 ≤ f_w0 ∧ f_w0 ≤ 295) (h4 : (-8) ≤ z310 ∧ z310 ≤ 24) : (-8) ≤ z310 ∧ z310 ≤ (-1) := by omega
theorem vc_X12_octet4_4 {f_w f_w0 z310 : Int} (h0 : f_w0 ≤ 295) (h1 : 8 * f_w + z310 = 8 * f_w0 + 24) (h2 : z310 < 0) (h3 : 0 ≤ f_w ∧ f_w ≤ 300) (h4 : 0 ≤ f_w0 ∧ f_w0 ≤ 295) (h5 : (-8) ≤ z310 ∧ z310 ≤ (-1)) : f_w = f_w0 + 4 := by omega
theorem vc_X12_octet4_5 {f_w f_w0 z310 : Int} (h0 : 0 ≤ z310) (h1 : 8 * f_w + z310 = 8 * f_w0 + 24) (h2 : 0 ≤ f_w ∧ f_w ≤ 300) (h3 : 0 ≤ f_w0 ∧ f_w0 ≤ 295) (h4 : (-8) ≤ z310 ∧ z310 ≤ 24) : 0 ≤ z310 ∧ z310 ≤ 24 := by omega
theorem vc_X12_octet4_6 {f_w f_w0 z310 : Int} (h0 : 8 * f_w + z310 = 8 * f_w0 + 24) (h1 : f_w0 ≤ 295) (h2 : 0 ≤ z310) (h3 : 0 ≤ f_w ∧ f_w ≤ 300) (h4 : 0 ≤ f_w0 ∧ f_w0 ≤ 295) (h5 : 0 ≤ z310 ∧ z310 ≤ 24) : f_w ≤ 299 := by omega
theorem vc_X12_octet4_7 {f_w f_w0 z310 z346 : Int} (h0 : f_w0 ≤ 295) (h1 : 8 * f_w + z310 = 8 * f_w0 + 24) (h2 : 0 ≤ z310) (h3 : z346 = f_w + 1) (h4 : 0 ≤ f_w ∧ f_w ≤ 300) (h5 : 0 ≤ f_w0 ∧ f_w0 ≤ 295) (h6 : 0 ≤ z310 ∧ z310 ≤ 24) (h7 : 0 ≤ z346 ∧ z346 ≤ 300) : 8 * (f_w + 1) + (z310 + (-8)) = 8 * f_w0 + 24 := by omega
theorem vc_X12_octet4_8 {N f_w f_w0 z310 z346 : Int} (h0 : (z310 - (-9)) < N + 1) (h1 : 8 * f_w + z310 = 8 * f_w0 + 24) (h2 : 0 ≤ z310) (h3 : f_w0 ≤ 295) (h4 : z346 = f_w + 1) (h5 : 0 ≤ f_w ∧ f_w ≤ 300) (h6 : 0 ≤ f_w0 ∧ f_w0 ≤ 295) (h7 : 0 ≤ z310 ∧ z310 ≤ 24) (h8 : 0 ≤ z346 ∧ z346 ≤ 300) : ((z310 + (-8)) - (-9)) < N := by omega
theorem vc_X12_octet4_9 {f_w0 : Int} (h0 : f_w0 ≤ 295) (h1 : 0 ≤ f_w0 ∧ f_w0 ≤ 295) : 8 * f_w0 + (24 : Int) = 8 * f_w0 + 24 := by omega
theorem vc_X12_octet4_10  : (24 - (-9)) < ((34 : Nat) : Int) := by omega
set_option maxRecDepth 4000 in
set_option maxHeartbeats 4000000 in
theorem c_X12_octet4 {l : Launch} {D : va_G} {c : Nat → ClassId} {H0 : Heap} {sa : Nat × Nat × (Nat → Int32)} {w : mW} {μ : mM} (hw : mWF w) (hT : mT w μ) {p1 : Int} (hp1 : (-2147483648) ≤ p1 ∧ p1 ≤ 2147483647) {f_w0 : Int} (q_f_w0 : μ 106 104 = f_w0) (hq0 : f_w0 ≤ 295) : sC (gG l D c H0 sa) mX12_octet4 2 0 0 [.ref 106, iv p1] (mk w μ) (qV w [106104, 174999] μ (fun μ1 => ∃ o_w : Int, μ1 106 104 = o_w ∧ (o_w = f_w0 + 4) ∧ True)) := by
  refine sC.of rfl (by decide) (le_t rfl) ?_
  have ht_f_w0 : (0 ≤ f_w0 ∧ f_w0 ≤ 300) := by rw [← q_f_w0]; exact hT 106 106 (A_106 hw) 104
  have h1 : 0 ≤ f_w0 ∧ f_w0 ≤ 295 := (vc_X12_octet4_1 hq0 ht_f_w0)
  refine mr_lvE (lv' := [(0, .ref 106), (1, iv p1)]) rfl ?_
  refine mr_bipush (pc := 0) (z := 24) dX12_octet4_0 (by decide) ?_
  refine mr_istore_n (pc := 2) (lv' := [(2, iv 24), (0, .ref 106), (1, iv p1)]) dX12_octet4_2 rfl (by decide) rfl ?_
  have L312 : ∀ (nL312 : Nat) (z310 : Int) (μ311 : mM) (f_w : Int), mT w μ311 → mF [106104, 174999] w μ μ311 → μ311 106 (104) = f_w → ((-8) ≤ z310 ∧ z310 ≤ 24) → (8 * f_w + z310 = 8 * f_w0 + 24) → (z310 - (-9)) < (nL312 : Int) → sV (gG l D c H0 sa) mX12_octet4 (sRm 2 0 0) (sZ (gG l D c H0 sa) 0 0 (qV w [106104, 174999] μ (fun μ1 => ∃ o_w : Int, μ1 106 104 = o_w ∧ (o_w = f_w0 + 4) ∧ True))) 3 [(0, .ref 106), (1, iv p1), (2, iv z310)] [] (mk w μ311) 0 0 := by
    intro nL312
    induction nL312 with
    | zero => intro z310 μ311 f_w T314 F315 q319 h313 h317 h318; exact ((vc_X12_octet4_2 h318 h317 hq0 h1 h313)).elim
    | succ nL312 ih320 =>
      intro z310 μ311 f_w T314 F315 q319 h313 h317 h318
      have h321 : (0 ≤ f_w ∧ f_w ≤ 300) := by rw [← q319]; exact T314 106 106 (A_106 hw) (104)
      refine mr_iload_n (pc := 3) (z := z310) dX12_octet4_3 rfl rfl ?_
      refine mr_if_lt (pc := 4) (tgt := 20) dX12_octet4_4 (by decide) (r32 h313 rfl) (fun h336 => ?_) (fun h336 => ?_)
      · have h337 : (-8) ≤ z310 ∧ z310 ≤ (-1) := (vc_X12_octet4_3 h336 h317 h321 h1 h313)
        exact mr_vret dX12_octet4_20 rfl (le_t rfl) (le_t rfl) T314 (mF.call mF.refl F315 rfl) ⟨f_w, q319, (vc_X12_octet4_4 hq0 h317 h336 h321 h1 h337), trivial⟩
      have h338 : 0 ≤ z310 ∧ z310 ≤ 24 := (vc_X12_octet4_5 h336 h317 h321 h1 h313)
      refine sv_aload_n (pc := 7) dX12_octet4_7 rfl rfl ?_
      refine mr_iload_n (pc := 8) (z := p1) dX12_octet4_8 rfl rfl ?_
      refine mr_iload_n (pc := 9) (z := z310) dX12_octet4_9 rfl rfl ?_
      refine mr_ishr (pc := 10) (x := p1) (y := z310) dX12_octet4_10 ?_
      refine mr_gen (P := fun z => (-2147483648) ≤ z ∧ z ≤ 2147483647) (r32i _) fun z339 q340 h341 => ?_
      refine mr_cVV (pc := 11) (c_X12_octet1 hw T314 h341 q319 (vc_X12_octet4_6 h317 hq0 h336 h321 h1 h338)) (gOk _ _ _ _ _) dX12_octet4_11 (tX12_octet1 _ _ _ _ _) ⟨wV_X12_octet1, wL_X12_octet1⟩ wM_X12_674 (gCX12 _ _ _ _ _) rfl (A_106 hw) rfl ⟨le_t rfl, le_t rfl⟩ ⟨le_t rfl, le_t rfl⟩ rfl (le_t rfl) fun μ342 T343 F344 h345 => ?_
      obtain ⟨z346, q347, h348⟩ := h345
      have h349 : (0 ≤ z346 ∧ z346 ≤ 300) := by rw [← q347]; exact T343 106 106 (A_106 hw) 104
      have q350 : μ342 106 104 = (f_w + 1) := q347.trans h348.1
      refine mr_iinc (pc := 14) (lv' := [(2, iv (z310 + (-8))), (0, .ref 106), (1, iv p1)]) dX12_octet4_14 rfl (by decide) rfl ?_
      refine sv_goto (pc := 17) (tgt := 3) dX12_octet4_17 (by decide) ?_
      refine mr_lvS (lv' := [(0, .ref 106), (1, iv p1), (2, iv (z310 + (-8)))]) (List.forall_mem_cons.mpr ⟨rfl, List.forall_mem_cons.mpr ⟨rfl, List.forall_mem_cons.mpr ⟨rfl, fun _ h => absurd h List.not_mem_nil⟩⟩⟩) ?_
      exact ih320 (z310 + (-8)) μ342 (f_w + 1) T343 (mF.call (mF.call mF.refl F315 rfl) F344 rfl) q350 (rW (c := (-8)) (d := 24) (rAdd (e := (-8)) (f := 16) h338 (rR (x := (-8))) rfl) rfl) (vc_X12_octet4_7 hq0 h317 h336 h348.1 h321 h1 h338 h349) (vc_X12_octet4_8 (nS h318) h317 h336 hq0 h348.1 h321 h1 h338 h349)
  refine mr_lvS (lv' := [(0, .ref 106), (1, iv p1), (2, iv 24)]) (List.forall_mem_cons.mpr ⟨rfl, List.forall_mem_cons.mpr ⟨rfl, List.forall_mem_cons.mpr ⟨rfl, fun _ h => absurd h List.not_mem_nil⟩⟩⟩) ?_
  exact L312 34 24 μ f_w0 hT mF.refl q_f_w0 (rW (c := (-8)) (d := 24) (rR (x := 24)) rfl) (vc_X12_octet4_9 hq0 h1) vc_X12_octet4_10
theorem vc_X12_prefixOut_1 {f_w0 : Int} (h0 : f_w0 ≤ 290) (h1 : 0 ≤ f_w0 ∧ f_w0 ≤ 300) : 0 ≤ f_w0 ∧ f_w0 ≤ 290 := by omega
theorem vc_X12_prefixOut_2 {f_w0 : Int} (h0 : f_w0 ≤ 290) (h1 : 0 ≤ f_w0 ∧ f_w0 ≤ 290) : f_w0 ≤ 299 := by omega
theorem vc_X12_prefixOut_3 {f_w f_w0 z270 z400 : Int} (h0 : (5 - z400) < ((0 : Nat) : Int)) (h1 : f_w = f_w0 + 1 + z400) (h2 : z400 ≤ 4) (h3 : f_w0 ≤ 290) (h4 : z270 = f_w0 + 1) (h5 : 0 ≤ f_w0 ∧ f_w0 ≤ 290) (h6 : 0 ≤ z270 ∧ z270 ≤ 300) (h7 : 0 ≤ z400 ∧ z400 ≤ 4) : False := by omega
theorem vc_X12_prefixOut_4  : (0 : Int) < (8 : Int) ∧ (8 : Int) ≤ (2147483647 : Int) := by omega
theorem vc_X12_prefixOut_5 {f_w f_w0 z270 z400 z413 : Int} (h0 : f_w0 ≤ 290) (h1 : z270 = f_w0 + 1) (h2 : f_w = f_w0 + 1 + z400) (h3 : z400 ≤ 4) (h4 : z413 ≤ z400) (h5 : 0 ≤ f_w ∧ f_w ≤ 300) (h6 : 0 ≤ f_w0 ∧ f_w0 ≤ 290) (h7 : 0 ≤ z270 ∧ z270 ≤ 300) (h8 : 0 ≤ z400 ∧ z400 ≤ 4) (h9 : 0 ≤ z413 ∧ z413 ≤ 4) : f_w ≤ f_w0 + 5 := by omega
theorem vc_X12_prefixOut_6 {f_w f_w0 z263 z400 z413 : Int} (h0 : z400 < z413) (h1 : f_w = f_w0 + 1 + z400) (h2 : z400 ≤ 4) (h3 : (z263 + 7) / 8 = z413) (h4 : 0 ≤ f_w ∧ f_w ≤ 300) (h5 : 0 ≤ f_w0 ∧ f_w0 ≤ 290) (h6 : 0 ≤ z263 ∧ z263 ≤ 32) (h7 : 0 ≤ z400 ∧ z400 ≤ 4) (h8 : 0 ≤ z413 ∧ z413 ≤ 4) : 0 ≤ z400 ∧ z400 ≤ 3 := by omega
theorem vc_X12_prefixOut_7 {f_w f_w0 z263 z400 z413 : Int} (h0 : z400 < z413) (h1 : f_w = f_w0 + 1 + z400) (h2 : z400 ≤ 4) (h3 : (z263 + 7) / 8 = z413) (h4 : 0 ≤ f_w ∧ f_w ≤ 300) (h5 : 0 ≤ f_w0 ∧ f_w0 ≤ 290) (h6 : 0 ≤ z263 ∧ z263 ≤ 32) (h7 : 0 ≤ z400 ∧ z400 ≤ 3) (h8 : 0 ≤ z413 ∧ z413 ≤ 4) : 1 ≤ z413 ∧ z413 ≤ 4 := by omega
theorem vc_X12_prefixOut_8 {f_w f_w0 z270 z400 z413 : Int} (h0 : f_w = f_w0 + 1 + z400) (h1 : f_w0 ≤ 290) (h2 : z270 = f_w0 + 1) (h3 : z400 ≤ 4) (h4 : z400 < z413) (h5 : 0 ≤ f_w ∧ f_w ≤ 300) (h6 : 0 ≤ f_w0 ∧ f_w0 ≤ 290) (h7 : 0 ≤ z270 ∧ z270 ≤ 300) (h8 : 0 ≤ z400 ∧ z400 ≤ 3) (h9 : 1 ≤ z413 ∧ z413 ≤ 4) : f_w ≤ 299 := by omega
theorem vc_X12_prefixOut_9 {f_w f_w0 z263 z270 z400 z413 z446 : Int} (h0 : f_w0 ≤ 290) (h1 : z270 = f_w0 + 1) (h2 : f_w = f_w0 + 1 + z400) (h3 : z400 ≤ 4) (h4 : z400 < z413) (h5 : z446 = f_w + 1) (h6 : (z263 + 7) / 8 = z413) (h7 : 0 ≤ f_w ∧ f_w ≤ 300) (h8 : 0 ≤ f_w0 ∧ f_w0 ≤ 290) (h9 : 0 ≤ z263 ∧ z263 ≤ 32) (h10 : 0 ≤ z270 ∧ z270 ≤ 300) (h11 : 0 ≤ z400 ∧ z400 ≤ 3) (h12 : 1 ≤ z413 ∧ z413 ≤ 4) (h13 : 0 ≤ z446 ∧ z446 ≤ 300) : (f_w + 1) = f_w0 + 1 + (z400 + 1) := by omega
theorem vc_X12_prefixOut_10 {f_w f_w0 z263 z270 z400 z413 z446 : Int} (h0 : f_w = f_w0 + 1 + z400) (h1 : z400 ≤ 4) (h2 : z400 < z413) (h3 : f_w0 ≤ 290) (h4 : z270 = f_w0 + 1) (h5 : (z263 + 7) / 8 = z413) (h6 : z446 = f_w + 1) (h7 : 0 ≤ f_w ∧ f_w ≤ 300) (h8 : 0 ≤ f_w0 ∧ f_w0 ≤ 290) (h9 : 0 ≤ z263 ∧ z263 ≤ 32) (h10 : 0 ≤ z270 ∧ z270 ≤ 300) (h11 : 0 ≤ z400 ∧ z400 ≤ 3) (h12 : 1 ≤ z413 ∧ z413 ≤ 4) (h13 : 0 ≤ z446 ∧ z446 ≤ 300) : (z400 + 1) ≤ 4 := by omega
theorem vc_X12_prefixOut_11 {N f_w f_w0 z263 z270 z400 z413 z446 : Int} (h0 : (5 - z400) < N + 1) (h1 : f_w = f_w0 + 1 + z400) (h2 : z400 ≤ 4) (h3 : z400 < z413) (h4 : f_w0 ≤ 290) (h5 : z270 = f_w0 + 1) (h6 : (z263 + 7) / 8 = z413) (h7 : z446 = f_w + 1) (h8 : 0 ≤ f_w ∧ f_w ≤ 300) (h9 : 0 ≤ f_w0 ∧ f_w0 ≤ 290) (h10 : 0 ≤ z263 ∧ z263 ≤ 32) (h11 : 0 ≤ z270 ∧ z270 ≤ 300) (h12 : 0 ≤ z400 ∧ z400 ≤ 3) (h13 : 1 ≤ z413 ∧ z413 ≤ 4) (h14 : 0 ≤ z446 ∧ z446 ≤ 300) : (5 - (z400 + 1)) < N := by omega
theorem vc_X12_prefixOut_12 {f_w0 z270 : Int} (h0 : f_w0 ≤ 290) (h1 : z270 = f_w0 + 1) (h2 : 0 ≤ f_w0 ∧ f_w0 ≤ 290) (h3 : 0 ≤ z270 ∧ z270 ≤ 300) : (f_w0 + 1) = f_w0 + 1 + (0 : Int) := by omega
theorem vc_X12_prefixOut_13  : ((0 : Int) : Int) ≤ (4 : Int) := by omega
theorem vc_X12_prefixOut_14  : (5 - 0) < ((6 : Nat) : Int) := by omega
set_option maxRecDepth 4000 in
set_option maxHeartbeats 4000000 in
theorem c_X12_prefixOut {l : Launch} {D : va_G} {c : Nat → ClassId} {H0 : Heap} {sa : Nat × Nat × (Nat → Int32)} {w : mW} {μ : mM} (hw : mWF w) (hT : mT w μ) {p1 : Int} (hp1 : 0 ≤ p1 ∧ p1 ≤ 9) {f_w0 : Int} (q_f_w0 : μ 106 104 = f_w0) (hq0 : f_w0 ≤ 290) : sC (gG l D c H0 sa) mX12_prefixOut 2 0 0 [.ref 106, iv p1] (mk w μ) (qV w [106104, 174999] μ (fun μ1 => ∃ o_w : Int, μ1 106 104 = o_w ∧ (o_w ≤ f_w0 + 5) ∧ True)) := by
  refine sC.of rfl (by decide) (le_t rfl) ?_
  have ht_f_w0 : (0 ≤ f_w0 ∧ f_w0 ≤ 300) := by rw [← q_f_w0]; exact hT 106 106 (A_106 hw) 104
  have h1 : 0 ≤ f_w0 ∧ f_w0 ≤ 290 := (vc_X12_prefixOut_1 hq0 ht_f_w0)
  refine mr_lvE (lv' := [(0, .ref 106), (1, iv p1)]) rfl ?_
  refine sv_aload_n (pc := 0) dX12_prefixOut_0 rfl rfl ?_
  refine sv_aload_n (pc := 1) dX12_prefixOut_1 rfl rfl ?_
  refine gf_X12_4 (pc := 2) dX12_prefixOut_2 wF_X12_26 (A_106 hw) hT ?_
  refine mr_iload_n (pc := 5) (z := p1) dX12_prefixOut_5 rfl rfl ?_
  refine la_109 (pc := 6) dX12_prefixOut_6 (A_109 hw) hT (rIx (n := 10) hp1 rfl) fun z263 q264 h265 => ?_
  refine mr_cVV (pc := 7) (c_X12_octet1 hw hT (rW (c := (-2147483648)) (d := 2147483647) h265 rfl) q_f_w0 (vc_X12_prefixOut_2 hq0 h1)) (gOk _ _ _ _ _) dX12_prefixOut_7 (tX12_octet1 _ _ _ _ _) ⟨wV_X12_octet1, wL_X12_octet1⟩ wM_X12_674 (gCX12 _ _ _ _ _) rfl (A_106 hw) rfl ⟨le_t rfl, le_t rfl⟩ ⟨le_t rfl, le_t rfl⟩ rfl (le_t rfl) fun μ266 T267 F268 h269 => ?_
  obtain ⟨z270, q271, h272⟩ := h269
  have h273 : (0 ≤ z270 ∧ z270 ≤ 300) := by rw [← q271]; exact T267 106 106 (A_106 hw) 104
  have q274 : μ266 106 104 = (f_w0 + 1) := q271.trans h272.1
  refine mr_iconst (pc := 10) (z := 0) dX12_prefixOut_10 ?_
  refine mr_istore_n (pc := 11) (lv' := [(2, iv 0), (0, .ref 106), (1, iv p1)]) dX12_prefixOut_11 rfl (by decide) rfl ?_
  have L402 : ∀ (nL402 : Nat) (z400 : Int) (μ401 : mM) (f_w : Int), mT w μ401 → mF [106104, 174999] w μ266 μ401 → μ401 106 (104) = f_w → (0 ≤ z400 ∧ z400 ≤ 4) → (f_w = f_w0 + 1 + z400) → (z400 ≤ 4) → (5 - z400) < (nL402 : Int) → sV (gG l D c H0 sa) mX12_prefixOut (sRm 2 0 0) (sZ (gG l D c H0 sa) 0 0 (qV w [106104, 174999] μ (fun μ1 => ∃ o_w : Int, μ1 106 104 = o_w ∧ (o_w ≤ f_w0 + 5) ∧ True))) 12 [(0, .ref 106), (1, iv p1), (2, iv z400)] [] (mk w μ401) 0 0 := by
    intro nL402
    induction nL402 with
    | zero => intro z400 μ401 f_w T404 F405 q410 h403 h407 h408 h409; exact ((vc_X12_prefixOut_3 h409 h407 h408 hq0 h272.1 h1 h273 h403)).elim
    | succ nL402 ih411 =>
      intro z400 μ401 f_w T404 F405 q410 h403 h407 h408 h409
      have h412 : (0 ≤ f_w ∧ f_w ≤ 300) := by rw [← q410]; exact T404 106 106 (A_106 hw) (104)
      refine mr_iload_n (pc := 12) (z := z400) dX12_prefixOut_12 rfl rfl ?_
      refine sv_aload_n (pc := 13) dX12_prefixOut_13 rfl rfl ?_
      refine gf_X12_4 (pc := 14) dX12_prefixOut_14 wF_X12_26 (A_106 hw) T404 ?_
      refine mr_iload_n (pc := 17) (z := p1) dX12_prefixOut_17 rfl rfl ?_
      refine lk_109 (pc := 18) dX12_prefixOut_18 (A_109 hw) (rIx (n := 10) hp1 rfl) (F405.f (A_109 hw) rfl (F268.f (A_109 hw) rfl q264)) ?_
      refine mr_bipush (pc := 19) (z := 7) dX12_prefixOut_19 (by decide) ?_
      refine mr_iadd (pc := 21) (x := z263) (y := 7) dX12_prefixOut_21 ?_
      refine mr_bipush (pc := 22) (z := 8) dX12_prefixOut_22 (by decide) ?_
      refine mr_idiv (pc := 24) (x := (z263 + 7)) (y := 8) dX12_prefixOut_24 (rW (c := 0) (d := 2147483647) (rAdd (e := 7) (f := 39) h265 (rR (x := 7)) rfl) rfl) vc_X12_prefixOut_4 ?_
      refine mr_gen (P := fun z => 0 ≤ z ∧ z ≤ 4) (rDiv (rAdd (e := 7) (f := 39) h265 (rR (x := 7)) rfl) rfl) fun z413 q414 h415 => ?_
      refine mr_icmp_ge (pc := 25) (tgt := 52) dX12_prefixOut_25 (by decide) (r32 h403 rfl) (r32 h415 rfl) (fun h433 => ?_) (fun h433 => ?_)
      · exact mr_vret dX12_prefixOut_52 rfl (le_t rfl) (le_t rfl) T404 (mF.call (mF.call mF.refl F268 rfl) F405 rfl) ⟨f_w, q410, (vc_X12_prefixOut_5 hq0 h272.1 h407 h408 h433 h412 h1 h273 h403 h415), trivial⟩
      have h434 : 0 ≤ z400 ∧ z400 ≤ 3 := (vc_X12_prefixOut_6 h433 h407 h408 q414 h412 h1 h265 h403 h415)
      have h435 : 1 ≤ z413 ∧ z413 ≤ 4 := (vc_X12_prefixOut_7 h433 h407 h408 q414 h412 h1 h265 h434 h415)
      refine sv_aload_n (pc := 28) dX12_prefixOut_28 rfl rfl ?_
      refine sv_aload_n (pc := 29) dX12_prefixOut_29 rfl rfl ?_
      refine gf_X12_3 (pc := 30) dX12_prefixOut_30 wF_X12_22 (A_106 hw) T404 ?_
      refine mr_iload_n (pc := 33) (z := p1) dX12_prefixOut_33 rfl rfl ?_
      refine la_108 (pc := 34) dX12_prefixOut_34 (A_108 hw) T404 (rIx (n := 10) hp1 rfl) fun z436 q437 h438 => ?_
      refine mr_bipush (pc := 35) (z := 24) dX12_prefixOut_35 (by decide) ?_
      refine mr_bipush (pc := 37) (z := 8) dX12_prefixOut_37 (by decide) ?_
      refine mr_iload_n (pc := 39) (z := z400) dX12_prefixOut_39 rfl rfl ?_
      refine mr_imul (pc := 40) (x := 8) (y := z400) dX12_prefixOut_40 ?_
      refine mr_isub (pc := 41) (x := 24) (y := (8 * z400)) dX12_prefixOut_41 ?_
      refine mr_ishr (pc := 42) (x := z436) (y := (24 - (8 * z400))) dX12_prefixOut_42 ?_
      refine mr_gen (P := fun z => (-2147483648) ≤ z ∧ z ≤ 2147483647) (r32i _) fun z439 q440 h441 => ?_
      refine mr_cVV (pc := 43) (c_X12_octet1 hw T404 h441 q410 (vc_X12_prefixOut_8 h407 hq0 h272.1 h408 h433 h412 h1 h273 h434 h435)) (gOk _ _ _ _ _) dX12_prefixOut_43 (tX12_octet1 _ _ _ _ _) ⟨wV_X12_octet1, wL_X12_octet1⟩ wM_X12_674 (gCX12 _ _ _ _ _) rfl (A_106 hw) rfl ⟨le_t rfl, le_t rfl⟩ ⟨le_t rfl, le_t rfl⟩ rfl (le_t rfl) fun μ442 T443 F444 h445 => ?_
      obtain ⟨z446, q447, h448⟩ := h445
      have h449 : (0 ≤ z446 ∧ z446 ≤ 300) := by rw [← q447]; exact T443 106 106 (A_106 hw) 104
      have q450 : μ442 106 104 = (f_w + 1) := q447.trans h448.1
      refine mr_iinc (pc := 46) (lv' := [(2, iv (z400 + 1)), (0, .ref 106), (1, iv p1)]) dX12_prefixOut_46 rfl (by decide) rfl ?_
      refine sv_goto (pc := 49) (tgt := 12) dX12_prefixOut_49 (by decide) ?_
      refine mr_lvS (lv' := [(0, .ref 106), (1, iv p1), (2, iv (z400 + 1))]) (List.forall_mem_cons.mpr ⟨rfl, List.forall_mem_cons.mpr ⟨rfl, List.forall_mem_cons.mpr ⟨rfl, fun _ h => absurd h List.not_mem_nil⟩⟩⟩) ?_
      exact ih411 (z400 + 1) μ442 (f_w + 1) T443 (mF.call (mF.call mF.refl F405 rfl) F444 rfl) q450 (rW (c := 0) (d := 4) (rAdd (e := 1) (f := 4) h434 (rR (x := 1)) rfl) rfl) (vc_X12_prefixOut_9 hq0 h272.1 h407 h408 h433 h448.1 q414 h412 h1 h265 h273 h434 h435 h449) (vc_X12_prefixOut_10 h407 h408 h433 hq0 h272.1 q414 h448.1 h412 h1 h265 h273 h434 h435 h449) (vc_X12_prefixOut_11 (nS h409) h407 h408 h433 hq0 h272.1 q414 h448.1 h412 h1 h265 h273 h434 h435 h449)
  refine mr_lvS (lv' := [(0, .ref 106), (1, iv p1), (2, iv 0)]) (List.forall_mem_cons.mpr ⟨rfl, List.forall_mem_cons.mpr ⟨rfl, List.forall_mem_cons.mpr ⟨rfl, fun _ h => absurd h List.not_mem_nil⟩⟩⟩) ?_
  exact L402 6 0 μ266 (f_w0 + 1) T267 mF.refl q274 (rW (c := 0) (d := 4) (rR (x := 0)) rfl) (vc_X12_prefixOut_12 hq0 h272.1 h1 h273) vc_X12_prefixOut_13 vc_X12_prefixOut_14
theorem vc_X12_write_1 {p1 z1 z8 : Int} (h0 : z8 = 0) (h1 : (z8 = 1 → 0 ≤ p1 ∧ p1 < z1)) (h2 : (z8 = 0 → p1 < 0 ∨ z1 ≤ p1)) (h3 : (-2147483648) ≤ p1 ∧ p1 ≤ 2147483647) (h4 : 0 ≤ z1 ∧ z1 ≤ 20) (h5 : 0 ≤ z8 ∧ z8 ≤ 1) : 0 ≤ z8 ∧ z8 ≤ 0 := by omega
theorem vc_X12_write_2 {p1 z1 z8 : Int} (h0 : (z8 = 1 → 0 ≤ p1 ∧ p1 < z1)) (h1 : (z8 = 0 → p1 < 0 ∨ z1 ≤ p1)) (h2 : z8 = 0) (h3 : (-2147483648) ≤ p1 ∧ p1 ≤ 2147483647) (h4 : 0 ≤ z1 ∧ z1 ≤ 20) (h5 : 0 ≤ z8 ∧ z8 ≤ 0) : z8 = 0 := by omega
theorem vc_X12_write_3 {p1 z1 z8 : Int} (h0 : ¬ z8 = 0) (h1 : (z8 = 1 → 0 ≤ p1 ∧ p1 < z1)) (h2 : (z8 = 0 → p1 < 0 ∨ z1 ≤ p1)) (h3 : (-2147483648) ≤ p1 ∧ p1 ≤ 2147483647) (h4 : 0 ≤ z1 ∧ z1 ≤ 20) (h5 : 0 ≤ z8 ∧ z8 ≤ 1) : 1 ≤ z8 ∧ z8 ≤ 1 := by omega
theorem vc_X12_write_4 {p1 z1 z8 : Int} (h0 : (z8 = 1 → 0 ≤ p1 ∧ p1 < z1)) (h1 : (z8 = 0 → p1 < 0 ∨ z1 ≤ p1)) (h2 : ¬ z8 = 0) (h3 : (-2147483648) ≤ p1 ∧ p1 ≤ 2147483647) (h4 : 0 ≤ z1 ∧ z1 ≤ 20) (h5 : 1 ≤ z8 ∧ z8 ≤ 1) : z8 = 1 := by omega
theorem vc_X12_write_5 {p1 z1 z8 : Int} (h0 : 0 ≤ p1 ∧ p1 < z1) (h1 : (z8 = 1 → 0 ≤ p1 ∧ p1 < z1)) (h2 : (z8 = 0 → p1 < 0 ∨ z1 ≤ p1)) (h3 : (-2147483648) ≤ p1 ∧ p1 ≤ 2147483647) (h4 : 0 ≤ z1 ∧ z1 ≤ 20) (h5 : 1 ≤ z8 ∧ z8 ≤ 1) : 0 ≤ p1 ∧ p1 ≤ 19 := by omega
theorem vc_X12_write_6 {p2 z19 : Int} (h0 : z19 = 0) (h1 : (z19 = 1 → (0 : Int) ≤ p2 ∧ p2 ≤ (1 : Int))) (h2 : (z19 = 0 → p2 < (0 : Int) ∨ (1 : Int) < p2)) (h3 : (-2147483648) ≤ p2 ∧ p2 ≤ 2147483647) (h4 : 0 ≤ z19 ∧ z19 ≤ 1) : 0 ≤ z19 ∧ z19 ≤ 0 := by omega
theorem vc_X12_write_7 {p2 z19 : Int} (h0 : (z19 = 1 → (0 : Int) ≤ p2 ∧ p2 ≤ (1 : Int))) (h1 : (z19 = 0 → p2 < (0 : Int) ∨ (1 : Int) < p2)) (h2 : z19 = 0) (h3 : (-2147483648) ≤ p2 ∧ p2 ≤ 2147483647) (h4 : 0 ≤ z19 ∧ z19 ≤ 0) : z19 = 0 := by omega
theorem vc_X12_write_8 {p2 z19 : Int} (h0 : ¬ z19 = 0) (h1 : (z19 = 1 → (0 : Int) ≤ p2 ∧ p2 ≤ (1 : Int))) (h2 : (z19 = 0 → p2 < (0 : Int) ∨ (1 : Int) < p2)) (h3 : (-2147483648) ≤ p2 ∧ p2 ≤ 2147483647) (h4 : 0 ≤ z19 ∧ z19 ≤ 1) : 1 ≤ z19 ∧ z19 ≤ 1 := by omega
theorem vc_X12_write_9 {p2 z19 : Int} (h0 : (z19 = 1 → (0 : Int) ≤ p2 ∧ p2 ≤ (1 : Int))) (h1 : (z19 = 0 → p2 < (0 : Int) ∨ (1 : Int) < p2)) (h2 : ¬ z19 = 0) (h3 : (-2147483648) ≤ p2 ∧ p2 ≤ 2147483647) (h4 : 1 ≤ z19 ∧ z19 ≤ 1) : z19 = 1 := by omega
theorem vc_X12_write_10 {p2 z19 : Int} (h0 : (0 : Int) ≤ p2 ∧ p2 ≤ (1 : Int)) (h1 : (z19 = 1 → (0 : Int) ≤ p2 ∧ p2 ≤ (1 : Int))) (h2 : (z19 = 0 → p2 < (0 : Int) ∨ (1 : Int) < p2)) (h3 : (-2147483648) ≤ p2 ∧ p2 ≤ 2147483647) (h4 : 1 ≤ z19 ∧ z19 ≤ 1) : 0 ≤ p2 ∧ p2 ≤ 1 := by omega
theorem vc_X12_write_11 {p3 z26 z33 : Int} (h0 : ¬ z33 = 0) (h1 : (z33 = 1 → 0 ≤ p3 ∧ p3 < z26)) (h2 : (z33 = 0 → p3 < 0 ∨ z26 ≤ p3)) (h3 : (-2147483648) ≤ p3 ∧ p3 ≤ 2147483647) (h4 : 0 ≤ z26 ∧ z26 ≤ 10) (h5 : 0 ≤ z33 ∧ z33 ≤ 1) : 1 ≤ z33 ∧ z33 ≤ 1 := by omega
theorem vc_X12_write_12 {p3 z26 z33 : Int} (h0 : (z33 = 1 → 0 ≤ p3 ∧ p3 < z26)) (h1 : (z33 = 0 → p3 < 0 ∨ z26 ≤ p3)) (h2 : ¬ z33 = 0) (h3 : (-2147483648) ≤ p3 ∧ p3 ≤ 2147483647) (h4 : 0 ≤ z26 ∧ z26 ≤ 10) (h5 : 1 ≤ z33 ∧ z33 ≤ 1) : z33 = 1 := by omega
theorem vc_X12_write_13 {p3 z26 z33 : Int} (h0 : 0 ≤ p3 ∧ p3 < z26) (h1 : (z33 = 1 → 0 ≤ p3 ∧ p3 < z26)) (h2 : (z33 = 0 → p3 < 0 ∨ z26 ≤ p3)) (h3 : (-2147483648) ≤ p3 ∧ p3 ≤ 2147483647) (h4 : 0 ≤ z26 ∧ z26 ≤ 10) (h5 : 1 ≤ z33 ∧ z33 ≤ 1) : 0 ≤ p3 ∧ p3 ≤ 9 := by omega
theorem vc_X12_write_14 {p1 p2 p3 z1 z19 z26 z33 z42 : Int} (h0 : z42 = (((20 * p1) + (10 * p2)) + p3)) (h1 : 0 ≤ p1 ∧ p1 < z1) (h2 : (z19 = 1 → (0 : Int) ≤ p2 ∧ p2 ≤ (1 : Int))) (h3 : (z19 = 0 → p2 < (0 : Int) ∨ (1 : Int) < p2)) (h4 : (0 : Int) ≤ p2 ∧ p2 ≤ (1 : Int)) (h5 : (z33 = 1 → 0 ≤ p3 ∧ p3 < z26)) (h6 : (z33 = 0 → p3 < 0 ∨ z26 ≤ p3)) (h7 : 0 ≤ p3 ∧ p3 < z26) (h8 : 0 ≤ p1 ∧ p1 ≤ 19) (h9 : 0 ≤ p2 ∧ p2 ≤ 1) (h10 : 0 ≤ p3 ∧ p3 ≤ 9) (h11 : 0 ≤ z1 ∧ z1 ≤ 20) (h12 : 1 ≤ z19 ∧ z19 ≤ 1) (h13 : 0 ≤ z26 ∧ z26 ≤ 10) (h14 : 1 ≤ z33 ∧ z33 ≤ 1) (h15 : 0 ≤ z42 ∧ z42 ≤ 449) : 0 ≤ z42 ∧ z42 ≤ 399 := by omega
theorem vc_X12_write_15 {p1 p2 p3 z1 z19 z26 z33 z42 z8 : Int} (h0 : z42 = (((20 * p1) + (10 * p2)) + p3)) (h1 : (z8 = 1 → 0 ≤ p1 ∧ p1 < z1)) (h2 : (z8 = 0 → p1 < 0 ∨ z1 ≤ p1)) (h3 : 0 ≤ p1 ∧ p1 < z1) (h4 : (z19 = 1 → (0 : Int) ≤ p2 ∧ p2 ≤ (1 : Int))) (h5 : (z19 = 0 → p2 < (0 : Int) ∨ (1 : Int) < p2)) (h6 : (0 : Int) ≤ p2 ∧ p2 ≤ (1 : Int)) (h7 : (z33 = 1 → 0 ≤ p3 ∧ p3 < z26)) (h8 : (z33 = 0 → p3 < 0 ∨ z26 ≤ p3)) (h9 : 0 ≤ p3 ∧ p3 < z26) (h10 : 0 ≤ p1 ∧ p1 ≤ 19) (h11 : 0 ≤ p2 ∧ p2 ≤ 1) (h12 : 0 ≤ p3 ∧ p3 ≤ 9) (h13 : 0 ≤ z1 ∧ z1 ≤ 20) (h14 : 1 ≤ z19 ∧ z19 ≤ 1) (h15 : 0 ≤ z26 ∧ z26 ≤ 10) (h16 : 1 ≤ z33 ∧ z33 ≤ 1) (h17 : 0 ≤ z42 ∧ z42 ≤ 399) (h18 : 1 ≤ z8 ∧ z8 ≤ 1) : (40 * (530 + z42)) % 40 = 0 := by omega
theorem vc_X12_write_16 {z47 : Int} (h0 : 0 ≤ z47) (h1 : (-1) ≤ z47 ∧ z47 ≤ 9) : 0 ≤ z47 ∧ z47 ≤ 9 := by omega
theorem vc_X12_write_17 {p1 p2 p3 z1 z19 z26 z33 z42 z8 : Int} (h0 : z42 = (((20 * p1) + (10 * p2)) + p3)) (h1 : (z8 = 1 → 0 ≤ p1 ∧ p1 < z1)) (h2 : (z8 = 0 → p1 < 0 ∨ z1 ≤ p1)) (h3 : 0 ≤ p1 ∧ p1 < z1) (h4 : (z19 = 1 → (0 : Int) ≤ p2 ∧ p2 ≤ (1 : Int))) (h5 : (z19 = 0 → p2 < (0 : Int) ∨ (1 : Int) < p2)) (h6 : (0 : Int) ≤ p2 ∧ p2 ≤ (1 : Int)) (h7 : (z33 = 1 → 0 ≤ p3 ∧ p3 < z26)) (h8 : (z33 = 0 → p3 < 0 ∨ z26 ≤ p3)) (h9 : 0 ≤ p3 ∧ p3 < z26) (h10 : 0 ≤ p1 ∧ p1 ≤ 19) (h11 : 0 ≤ p2 ∧ p2 ≤ 1) (h12 : 0 ≤ p3 ∧ p3 ≤ 9) (h13 : 0 ≤ z1 ∧ z1 ≤ 20) (h14 : 1 ≤ z19 ∧ z19 ≤ 1) (h15 : 0 ≤ z26 ∧ z26 ≤ 10) (h16 : 1 ≤ z33 ∧ z33 ≤ 1) (h17 : 0 ≤ z42 ∧ z42 ≤ 399) (h18 : 1 ≤ z8 ∧ z8 ≤ 1) : ((40 * (530 + z42)) + 4) % 40 = 4 := by omega
theorem vc_X12_write_18 {p1 p2 p3 z1 z19 z26 z33 z42 z8 : Int} (h0 : z42 = (((20 * p1) + (10 * p2)) + p3)) (h1 : (z8 = 1 → 0 ≤ p1 ∧ p1 < z1)) (h2 : (z8 = 0 → p1 < 0 ∨ z1 ≤ p1)) (h3 : 0 ≤ p1 ∧ p1 < z1) (h4 : (z19 = 1 → (0 : Int) ≤ p2 ∧ p2 ≤ (1 : Int))) (h5 : (z19 = 0 → p2 < (0 : Int) ∨ (1 : Int) < p2)) (h6 : (0 : Int) ≤ p2 ∧ p2 ≤ (1 : Int)) (h7 : (z33 = 1 → 0 ≤ p3 ∧ p3 < z26)) (h8 : (z33 = 0 → p3 < 0 ∨ z26 ≤ p3)) (h9 : 0 ≤ p3 ∧ p3 < z26) (h10 : 0 ≤ p1 ∧ p1 ≤ 19) (h11 : 0 ≤ p2 ∧ p2 ≤ 1) (h12 : 0 ≤ p3 ∧ p3 ≤ 9) (h13 : 0 ≤ z1 ∧ z1 ≤ 20) (h14 : 1 ≤ z19 ∧ z19 ≤ 1) (h15 : 0 ≤ z26 ∧ z26 ≤ 10) (h16 : 1 ≤ z33 ∧ z33 ≤ 1) (h17 : 0 ≤ z42 ∧ z42 ≤ 399) (h18 : 1 ≤ z8 ∧ z8 ≤ 1) : ((40 * (530 + z42)) + 5) % 40 = 5 := by omega
theorem vc_X12_write_19  : ((0 : Int) : Int) ≤ (299 : Int) := by omega
theorem vc_X12_write_20  : (((0 : Int) + (1 : Int)) : Int) ≤ (299 : Int) := by omega
theorem vc_X12_write_21  : ((((0 : Int) + (1 : Int)) + (1 : Int)) : Int) ≤ (299 : Int) := by omega
theorem vc_X12_write_22  : (((((0 : Int) + (1 : Int)) + (1 : Int)) + (1 : Int)) : Int) ≤ (299 : Int) := by omega
theorem vc_X12_write_23  : ((((((0 : Int) + (1 : Int)) + (1 : Int)) + (1 : Int)) + (1 : Int)) : Int) ≤ (299 : Int) := by omega
theorem vc_X12_write_24  : (((((((0 : Int) + (1 : Int)) + (1 : Int)) + (1 : Int)) + (1 : Int)) + (1 : Int)) : Int) ≤ (299 : Int) := by omega
theorem vc_X12_write_25  : ((((((((0 : Int) + (1 : Int)) + (1 : Int)) + (1 : Int)) + (1 : Int)) + (1 : Int)) + (1 : Int)) : Int) ≤ (299 : Int) := by omega
theorem vc_X12_write_26  : (((((((((0 : Int) + (1 : Int)) + (1 : Int)) + (1 : Int)) + (1 : Int)) + (1 : Int)) + (1 : Int)) + (1 : Int)) : Int) ≤ (299 : Int) := by omega
theorem vc_X12_write_27  : ((((((((((0 : Int) + (1 : Int)) + (1 : Int)) + (1 : Int)) + (1 : Int)) + (1 : Int)) + (1 : Int)) + (1 : Int)) + (1 : Int)) : Int) ≤ (299 : Int) := by omega
theorem vc_X12_write_28  : (((((((((((0 : Int) + (1 : Int)) + (1 : Int)) + (1 : Int)) + (1 : Int)) + (1 : Int)) + (1 : Int)) + (1 : Int)) + (1 : Int)) + (1 : Int)) : Int) ≤ (299 : Int) := by omega
theorem vc_X12_write_29  : ((((((((((((0 : Int) + (1 : Int)) + (1 : Int)) + (1 : Int)) + (1 : Int)) + (1 : Int)) + (1 : Int)) + (1 : Int)) + (1 : Int)) + (1 : Int)) + (1 : Int)) : Int) ≤ (299 : Int) := by omega
theorem vc_X12_write_30 {z246 : Int} (h0 : z246 ≤ 100) (h1 : 0 ≤ z246 ∧ z246 ≤ 300) : 0 ≤ z246 ∧ z246 ≤ 100 := by omega
theorem vc_X12_write_31 {z295 : Int} (h0 : z295 ≤ 107) (h1 : 0 ≤ z295 ∧ z295 ≤ 300) : 0 ≤ z295 ∧ z295 ≤ 107 := by omega
theorem vc_X12_write_32 {z57 : Int} (h0 : z57 ≤ 0) (h1 : 0 ≤ z57 ∧ z57 ≤ 8) : 0 ≤ z57 ∧ z57 ≤ 0 := by omega
theorem vc_X12_write_33 {z295 : Int} (h0 : z295 ≤ 107) (h1 : 0 ≤ z295 ∧ z295 ≤ 107) : z295 ≤ 290 := by omega
theorem vc_X12_write_34 {z57 : Int} (h0 : 0 < z57) (h1 : 0 ≤ z57 ∧ z57 ≤ 8) : 1 ≤ z57 ∧ z57 ≤ 8 := by omega
theorem vc_X12_write_35 {z295 : Int} (h0 : z295 ≤ 107) (h1 : 0 ≤ z295 ∧ z295 ≤ 107) : z295 ≤ 299 := by omega
theorem vc_X12_write_36 {z295 z380 : Int} (h0 : z295 ≤ 107) (h1 : z380 = z295 + 1) (h2 : 0 ≤ z295 ∧ z295 ≤ 107) (h3 : 0 ≤ z380 ∧ z380 ≤ 300) : (z295 + 1) ≤ 299 := by omega
theorem vc_X12_write_37 {z295 z380 z389 : Int} (h0 : z295 ≤ 107) (h1 : z380 = z295 + 1) (h2 : z389 = (z295 + 1) + 1) (h3 : 0 ≤ z295 ∧ z295 ≤ 107) (h4 : 0 ≤ z380 ∧ z380 ≤ 300) (h5 : 0 ≤ z389 ∧ z389 ≤ 300) : ((z295 + 1) + 1) ≤ 299 := by omega
theorem vc_X12_write_38 {f_w z653 : Int} (h0 : (9 - z653) < ((0 : Nat) : Int)) (h1 : f_w ≤ 120 + 4 * z653) (h2 : 0 ≤ z653 ∧ z653 ≤ 8) : False := by omega
theorem vc_X12_write_39 {f_w z57 z653 : Int} (h0 : z57 ≤ z653) (h1 : 0 < z57) (h2 : f_w ≤ 120 + 4 * z653) (h3 : 0 ≤ f_w ∧ f_w ≤ 300) (h4 : 1 ≤ z57 ∧ z57 ≤ 8) (h5 : 0 ≤ z653 ∧ z653 ≤ 8) : 1 ≤ z653 ∧ z653 ≤ 8 := by omega
theorem vc_X12_write_40 {f_w z57 z653 : Int} (h0 : f_w ≤ 120 + 4 * z653) (h1 : z57 ≤ z653) (h2 : 0 ≤ f_w ∧ f_w ≤ 300) (h3 : 1 ≤ z57 ∧ z57 ≤ 8) (h4 : 1 ≤ z653 ∧ z653 ≤ 8) : f_w ≤ 290 := by omega
theorem vc_X12_write_41 {f_w z57 z653 : Int} (h0 : z653 < z57) (h1 : 0 < z57) (h2 : f_w ≤ 120 + 4 * z653) (h3 : 0 ≤ f_w ∧ f_w ≤ 300) (h4 : 1 ≤ z57 ∧ z57 ≤ 8) (h5 : 0 ≤ z653 ∧ z653 ≤ 8) : 0 ≤ z653 ∧ z653 ≤ 7 := by omega
theorem vc_X12_write_42 {f_w z42 z57 z653 z690 : Int} (h0 : f_w ≤ 120 + 4 * z653) (h1 : z653 < z57) (h2 : ((((40 * (530 + z42)) + 26) + z653) % 40 = 0 → -1 ≤ z690 ∧ z690 ≤ 9)) (h3 : ((((40 * (530 + z42)) + 26) + z653) % 40 = 4 → 0 ≤ z690 ∧ z690 ≤ 20)) (h4 : ((((40 * (530 + z42)) + 26) + z653) % 40 = 5 → 0 ≤ z690 ∧ z690 ≤ 8)) (h5 : 0 ≤ f_w ∧ f_w ≤ 300) (h6 : 0 ≤ z42 ∧ z42 ≤ 399) (h7 : 1 ≤ z57 ∧ z57 ≤ 8) (h8 : 0 ≤ z653 ∧ z653 ≤ 7) (h9 : (-2147483648) ≤ z690 ∧ z690 ≤ 2147483647) : f_w ≤ 295 := by omega
theorem vc_X12_write_43 {f_w p1 p2 p3 z42 z57 z653 z690 z697 : Int} (h0 : f_w ≤ 120 + 4 * z653) (h1 : z653 < z57) (h2 : ((((40 * (530 + z42)) + 26) + z653) % 40 = 0 → -1 ≤ z690 ∧ z690 ≤ 9)) (h3 : ((((40 * (530 + z42)) + 26) + z653) % 40 = 4 → 0 ≤ z690 ∧ z690 ≤ 20)) (h4 : ((((40 * (530 + z42)) + 26) + z653) % 40 = 5 → 0 ≤ z690 ∧ z690 ≤ 8)) (h5 : z697 = f_w + 4) (h6 : z42 = (((20 * p1) + (10 * p2)) + p3)) (h7 : 0 < z57) (h8 : 0 ≤ f_w ∧ f_w ≤ 300) (h9 : 0 ≤ p1 ∧ p1 ≤ 19) (h10 : 0 ≤ p2 ∧ p2 ≤ 1) (h11 : 0 ≤ p3 ∧ p3 ≤ 9) (h12 : 0 ≤ z42 ∧ z42 ≤ 399) (h13 : 1 ≤ z57 ∧ z57 ≤ 8) (h14 : 0 ≤ z653 ∧ z653 ≤ 7) (h15 : (-2147483648) ≤ z690 ∧ z690 ≤ 2147483647) (h16 : 0 ≤ z697 ∧ z697 ≤ 300) : (f_w + 4) ≤ 120 + 4 * (z653 + 1) := by omega
theorem vc_X12_write_44 {N f_w p1 p2 p3 z42 z57 z653 z690 z697 : Int} (h0 : (9 - z653) < N + 1) (h1 : f_w ≤ 120 + 4 * z653) (h2 : z653 < z57) (h3 : ((((40 * (530 + z42)) + 26) + z653) % 40 = 0 → -1 ≤ z690 ∧ z690 ≤ 9)) (h4 : ((((40 * (530 + z42)) + 26) + z653) % 40 = 4 → 0 ≤ z690 ∧ z690 ≤ 20)) (h5 : ((((40 * (530 + z42)) + 26) + z653) % 40 = 5 → 0 ≤ z690 ∧ z690 ≤ 8)) (h6 : z42 = (((20 * p1) + (10 * p2)) + p3)) (h7 : 0 < z57) (h8 : z697 = f_w + 4) (h9 : 0 ≤ f_w ∧ f_w ≤ 300) (h10 : 0 ≤ p1 ∧ p1 ≤ 19) (h11 : 0 ≤ p2 ∧ p2 ≤ 1) (h12 : 0 ≤ p3 ∧ p3 ≤ 9) (h13 : 0 ≤ z42 ∧ z42 ≤ 399) (h14 : 1 ≤ z57 ∧ z57 ≤ 8) (h15 : 0 ≤ z653 ∧ z653 ≤ 7) (h16 : (-2147483648) ≤ z690 ∧ z690 ≤ 2147483647) (h17 : 0 ≤ z697 ∧ z697 ≤ 300) : (9 - (z653 + 1)) < N := by omega
theorem vc_X12_write_45 {z295 z380 z389 z398 : Int} (h0 : z295 ≤ 107) (h1 : z380 = z295 + 1) (h2 : z389 = (z295 + 1) + 1) (h3 : z398 = ((z295 + 1) + 1) + 1) (h4 : 0 ≤ z295 ∧ z295 ≤ 107) (h5 : 0 ≤ z380 ∧ z380 ≤ 300) (h6 : 0 ≤ z389 ∧ z389 ≤ 300) (h7 : 0 ≤ z398 ∧ z398 ≤ 300) : (((z295 + 1) + 1) + 1) ≤ 120 + 4 * (0 : Int) := by omega
theorem vc_X12_write_46  : (9 - 0) < ((10 : Nat) : Int) := by omega
theorem vc_X12_write_47 {z66 : Int} (h0 : z66 ≤ 0) (h1 : (-2147483648) ≤ z66 ∧ z66 ≤ 2147483647) : (-2147483648) ≤ z66 ∧ z66 ≤ 0 := by omega
theorem vc_X12_write_48 {z246 : Int} (h0 : z246 ≤ 100) (h1 : 0 ≤ z246 ∧ z246 ≤ 100) : z246 ≤ 107 := by omega
theorem vc_X12_write_49 {z66 : Int} (h0 : 0 < z66) (h1 : (-2147483648) ≤ z66 ∧ z66 ≤ 2147483647) : 1 ≤ z66 ∧ z66 ≤ 2147483647 := by omega
theorem vc_X12_write_50 {z246 : Int} (h0 : z246 ≤ 100) (h1 : 0 ≤ z246 ∧ z246 ≤ 100) : z246 ≤ 299 := by omega
theorem vc_X12_write_51 {z246 z709 : Int} (h0 : z246 ≤ 100) (h1 : z709 = z246 + 1) (h2 : 0 ≤ z246 ∧ z246 ≤ 100) (h3 : 0 ≤ z709 ∧ z709 ≤ 300) : (z246 + 1) ≤ 299 := by omega
theorem vc_X12_write_52 {z246 z709 z718 : Int} (h0 : z246 ≤ 100) (h1 : z709 = z246 + 1) (h2 : z718 = (z246 + 1) + 1) (h3 : 0 ≤ z246 ∧ z246 ≤ 100) (h4 : 0 ≤ z709 ∧ z709 ≤ 300) (h5 : 0 ≤ z718 ∧ z718 ≤ 300) : ((z246 + 1) + 1) ≤ 299 := by omega
theorem vc_X12_write_53 {z246 z709 z718 z727 : Int} (h0 : z246 ≤ 100) (h1 : z709 = z246 + 1) (h2 : z718 = (z246 + 1) + 1) (h3 : z727 = ((z246 + 1) + 1) + 1) (h4 : 0 ≤ z246 ∧ z246 ≤ 100) (h5 : 0 ≤ z709 ∧ z709 ≤ 300) (h6 : 0 ≤ z718 ∧ z718 ≤ 300) (h7 : 0 ≤ z727 ∧ z727 ≤ 300) : (((z246 + 1) + 1) + 1) ≤ 295 := by omega
theorem vc_X12_write_54 {z246 z709 z718 z727 z736 : Int} (h0 : z246 ≤ 100) (h1 : z709 = z246 + 1) (h2 : z718 = (z246 + 1) + 1) (h3 : z727 = ((z246 + 1) + 1) + 1) (h4 : z736 = (((z246 + 1) + 1) + 1) + 4) (h5 : 0 ≤ z246 ∧ z246 ≤ 100) (h6 : 0 ≤ z709 ∧ z709 ≤ 300) (h7 : 0 ≤ z718 ∧ z718 ≤ 300) (h8 : 0 ≤ z727 ∧ z727 ≤ 300) (h9 : 0 ≤ z736 ∧ z736 ≤ 300) : ((((z246 + 1) + 1) + 1) + 4) ≤ 107 := by omega
theorem vc_X12_write_55 {z53 : Int} (h0 : z53 ≤ 0) (h1 : 0 ≤ z53 ∧ z53 ≤ 20) : 0 ≤ z53 ∧ z53 ≤ 0 := by omega
theorem vc_X12_write_56  : (((((((((((((0 : Int) + (1 : Int)) + (1 : Int)) + (1 : Int)) + (1 : Int)) + (1 : Int)) + (1 : Int)) + (1 : Int)) + (1 : Int)) + (1 : Int)) + (1 : Int)) + (1 : Int)) : Int) ≤ (100 : Int) := by omega
theorem vc_X12_write_57 {z53 : Int} (h0 : 0 < z53) (h1 : 0 ≤ z53 ∧ z53 ≤ 20) : 1 ≤ z53 ∧ z53 ≤ 20 := by omega
theorem vc_X12_write_58  : (((((((((((((0 : Int) + (1 : Int)) + (1 : Int)) + (1 : Int)) + (1 : Int)) + (1 : Int)) + (1 : Int)) + (1 : Int)) + (1 : Int)) + (1 : Int)) + (1 : Int)) + (1 : Int)) : Int) ≤ (299 : Int) := by omega
theorem vc_X12_write_59  : ((((((((((((((0 : Int) + (1 : Int)) + (1 : Int)) + (1 : Int)) + (1 : Int)) + (1 : Int)) + (1 : Int)) + (1 : Int)) + (1 : Int)) + (1 : Int)) + (1 : Int)) + (1 : Int)) + (1 : Int)) : Int) ≤ (299 : Int) := by omega
theorem vc_X12_write_60 {f_w z1012 : Int} (h0 : (21 - z1012) < ((0 : Nat) : Int)) (h1 : f_w ≤ 20 + 4 * z1012) (h2 : 0 ≤ z1012 ∧ z1012 ≤ 20) : False := by omega
theorem vc_X12_write_61 {f_w z1012 z53 : Int} (h0 : z53 ≤ z1012) (h1 : 0 < z53) (h2 : f_w ≤ 20 + 4 * z1012) (h3 : 0 ≤ f_w ∧ f_w ≤ 300) (h4 : 0 ≤ z1012 ∧ z1012 ≤ 20) (h5 : 1 ≤ z53 ∧ z53 ≤ 20) : 1 ≤ z1012 ∧ z1012 ≤ 20 := by omega
theorem vc_X12_write_62 {f_w z1012 z53 : Int} (h0 : f_w ≤ 20 + 4 * z1012) (h1 : z53 ≤ z1012) (h2 : 0 ≤ f_w ∧ f_w ≤ 300) (h3 : 1 ≤ z1012 ∧ z1012 ≤ 20) (h4 : 1 ≤ z53 ∧ z53 ≤ 20) : f_w ≤ 100 := by omega
theorem vc_X12_write_63 {f_w z1012 z53 : Int} (h0 : z1012 < z53) (h1 : 0 < z53) (h2 : f_w ≤ 20 + 4 * z1012) (h3 : 0 ≤ f_w ∧ f_w ≤ 300) (h4 : 0 ≤ z1012 ∧ z1012 ≤ 20) (h5 : 1 ≤ z53 ∧ z53 ≤ 20) : 0 ≤ z1012 ∧ z1012 ≤ 19 := by omega
theorem vc_X12_write_64 {f_w z1012 z1027 z42 z53 : Int} (h0 : f_w ≤ 20 + 4 * z1012) (h1 : z1012 < z53) (h2 : ((((40 * (530 + z42)) + 6) + z1012) % 40 = 0 → -1 ≤ z1027 ∧ z1027 ≤ 9)) (h3 : ((((40 * (530 + z42)) + 6) + z1012) % 40 = 4 → 0 ≤ z1027 ∧ z1027 ≤ 20)) (h4 : ((((40 * (530 + z42)) + 6) + z1012) % 40 = 5 → 0 ≤ z1027 ∧ z1027 ≤ 8)) (h5 : 0 ≤ f_w ∧ f_w ≤ 300) (h6 : 0 ≤ z1012 ∧ z1012 ≤ 19) (h7 : (-2147483648) ≤ z1027 ∧ z1027 ≤ 2147483647) (h8 : 0 ≤ z42 ∧ z42 ≤ 399) (h9 : 1 ≤ z53 ∧ z53 ≤ 20) : f_w ≤ 295 := by omega
theorem vc_X12_write_65 {f_w p1 p2 p3 z1012 z1027 z1034 z42 z53 : Int} (h0 : f_w ≤ 20 + 4 * z1012) (h1 : z1012 < z53) (h2 : ((((40 * (530 + z42)) + 6) + z1012) % 40 = 0 → -1 ≤ z1027 ∧ z1027 ≤ 9)) (h3 : ((((40 * (530 + z42)) + 6) + z1012) % 40 = 4 → 0 ≤ z1027 ∧ z1027 ≤ 20)) (h4 : ((((40 * (530 + z42)) + 6) + z1012) % 40 = 5 → 0 ≤ z1027 ∧ z1027 ≤ 8)) (h5 : z1034 = f_w + 4) (h6 : z42 = (((20 * p1) + (10 * p2)) + p3)) (h7 : 0 < z53) (h8 : 0 ≤ f_w ∧ f_w ≤ 300) (h9 : 0 ≤ p1 ∧ p1 ≤ 19) (h10 : 0 ≤ p2 ∧ p2 ≤ 1) (h11 : 0 ≤ p3 ∧ p3 ≤ 9) (h12 : 0 ≤ z1012 ∧ z1012 ≤ 19) (h13 : (-2147483648) ≤ z1027 ∧ z1027 ≤ 2147483647) (h14 : 0 ≤ z1034 ∧ z1034 ≤ 300) (h15 : 0 ≤ z42 ∧ z42 ≤ 399) (h16 : 1 ≤ z53 ∧ z53 ≤ 20) : (f_w + 4) ≤ 20 + 4 * (z1012 + 1) := by omega
theorem vc_X12_write_66 {N f_w p1 p2 p3 z1012 z1027 z1034 z42 z53 : Int} (h0 : (21 - z1012) < N + 1) (h1 : f_w ≤ 20 + 4 * z1012) (h2 : z1012 < z53) (h3 : ((((40 * (530 + z42)) + 6) + z1012) % 40 = 0 → -1 ≤ z1027 ∧ z1027 ≤ 9)) (h4 : ((((40 * (530 + z42)) + 6) + z1012) % 40 = 4 → 0 ≤ z1027 ∧ z1027 ≤ 20)) (h5 : ((((40 * (530 + z42)) + 6) + z1012) % 40 = 5 → 0 ≤ z1027 ∧ z1027 ≤ 8)) (h6 : z42 = (((20 * p1) + (10 * p2)) + p3)) (h7 : 0 < z53) (h8 : z1034 = f_w + 4) (h9 : 0 ≤ f_w ∧ f_w ≤ 300) (h10 : 0 ≤ p1 ∧ p1 ≤ 19) (h11 : 0 ≤ p2 ∧ p2 ≤ 1) (h12 : 0 ≤ p3 ∧ p3 ≤ 9) (h13 : 0 ≤ z1012 ∧ z1012 ≤ 19) (h14 : (-2147483648) ≤ z1027 ∧ z1027 ≤ 2147483647) (h15 : 0 ≤ z1034 ∧ z1034 ≤ 300) (h16 : 0 ≤ z42 ∧ z42 ≤ 399) (h17 : 1 ≤ z53 ∧ z53 ≤ 20) : (21 - (z1012 + 1)) < N := by omega
theorem vc_X12_write_67  : (((((((((((((((0 : Int) + (1 : Int)) + (1 : Int)) + (1 : Int)) + (1 : Int)) + (1 : Int)) + (1 : Int)) + (1 : Int)) + (1 : Int)) + (1 : Int)) + (1 : Int)) + (1 : Int)) + (1 : Int)) + (1 : Int)) : Int) ≤ (20 : Int) + (4 : Int) * ((0 : Int) : Int) := by omega
theorem vc_X12_write_68  : (21 - 0) < ((22 : Nat) : Int) := by omega
theorem vc_X12_write_69 {z53 : Int} (h0 : ¬ z53 = 0) (h1 : 0 ≤ z53 ∧ z53 ≤ 20) : 1 ≤ z53 ∧ z53 ≤ 20 := by omega
theorem vc_X12_write_70 {z53 : Int} (h0 : z53 = 0) (h1 : 0 ≤ z53 ∧ z53 ≤ 20) : 0 ≤ z53 ∧ z53 ≤ 0 := by omega
theorem vc_X12_write_71 {z47 : Int} (h0 : z47 < 0) (h1 : (-1) ≤ z47 ∧ z47 ≤ 9) : (-1) ≤ z47 ∧ z47 ≤ (-1) := by omega
theorem vc_X12_write_72  : (0 : Int) < (8 : Int) ∧ (8 : Int) ≤ (2147483647 : Int) := by omega
theorem vc_X12_write_73  : ((((0 : Int) + (1 : Int)) + (1 : Int)) : Int) ≤ (290 : Int) := by omega
theorem vc_X12_write_74 {z1077 : Int} (h0 : z1077 ≤ (((0 + 1) + 1) : Int) + 5) (h1 : 0 ≤ z1077 ∧ z1077 ≤ 300) : z1077 ≤ 299 := by omega
theorem vc_X12_write_75 {z1077 z1085 : Int} (h0 : z1077 ≤ (((0 + 1) + 1) : Int) + 5) (h1 : z1085 = z1077 + 1) (h2 : 0 ≤ z1077 ∧ z1077 ≤ 300) (h3 : 0 ≤ z1085 ∧ z1085 ≤ 300) : (z1077 + 1) ≤ 299 := by omega
theorem vc_X12_write_76 {p3 z26 z33 : Int} (h0 : z33 = 0) (h1 : (z33 = 1 → 0 ≤ p3 ∧ p3 < z26)) (h2 : (z33 = 0 → p3 < 0 ∨ z26 ≤ p3)) (h3 : (-2147483648) ≤ p3 ∧ p3 ≤ 2147483647) (h4 : 0 ≤ z26 ∧ z26 ≤ 10) (h5 : 0 ≤ z33 ∧ z33 ≤ 1) : 0 ≤ z33 ∧ z33 ≤ 0 := by omega
theorem vc_X12_write_77 {p3 z26 z33 : Int} (h0 : (z33 = 1 → 0 ≤ p3 ∧ p3 < z26)) (h1 : (z33 = 0 → p3 < 0 ∨ z26 ≤ p3)) (h2 : z33 = 0) (h3 : (-2147483648) ≤ p3 ∧ p3 ≤ 2147483647) (h4 : 0 ≤ z26 ∧ z26 ≤ 10) (h5 : 0 ≤ z33 ∧ z33 ≤ 0) : z33 = 0 := by omega
set_option maxRecDepth 4000 in
set_option maxHeartbeats 4000000 in
theorem c_X12_write {l : Launch} {D : va_G} {c : Nat → ClassId} {H0 : Heap} {sa : Nat × Nat × (Nat → Int32)} {w : mW} {μ : mM} (hw : mWF w) (hT : mT w μ) {p1 : Int} (hp1 : (-2147483648) ≤ p1 ∧ p1 ≤ 2147483647) {p2 : Int} (hp2 : (-2147483648) ≤ p2 ∧ p2 ≤ 2147483647) {p3 : Int} (hp3 : (-2147483648) ≤ p3 ∧ p3 ≤ 2147483647) : sC (gG l D c H0 sa) mX12_write 3 0 0 [.ref 106, iv p1, iv p2, iv p3] (mk w μ) (qI w [106104, 174999] μ (fun z μ1 => ((-2147483648) ≤ z ∧ z ≤ 2147483647) ∧ True)) := by
  refine sC.of rfl (by decide) (le_t rfl) ?_
  refine mr_lvE (lv' := [(0, .ref 106), (1, iv p1), (2, iv p2), (3, iv p3)]) rfl ?_
  refine sv_aload_n (pc := 0) dX12_write_0 rfl rfl ?_
  refine mr_iload_n (pc := 1) (z := p1) dX12_write_1 rfl rfl ?_
  obtain ⟨z1, q2⟩ : ∃ z, μ 106 6 = z := ⟨_, rfl⟩
  have h3 : (0 ≤ z1 ∧ z1 ≤ 20) := by rw [← q2]; exact hT 106 106 (A_106 hw) 6
  refine mr_cVP (pc := 2) (c_X12_isTie hw hT hp1 q2) (gOk _ _ _ _ _) dX12_write_2 (tX12_isTie _ _ _ _ _) ⟨wV_X12_isTie, wL_X12_isTie⟩ wM_X12_66 (gCX12 _ _ _ _ _) rfl (A_106 hw) rfl ⟨le_t rfl, le_t rfl⟩ ⟨le_t rfl, le_t rfl⟩ rfl (le_t rfl) fun z8 h7 => ?_
  refine mr_if_eq (pc := 5) (tgt := 25) dX12_write_5 (by decide) (r32 h7.1 rfl) (fun h9 => ?_) (fun h9 => ?_)
  · have h10 : 0 ≤ z8 ∧ z8 ≤ 0 := (vc_X12_write_1 h9 h7.2.1 h7.2.2.1 hp1 h3 h7.1)
    have h11 : p1 < 0 ∨ z1 ≤ p1 := (h7.2.2.1 (vc_X12_write_2 h7.2.1 h7.2.2.1 h9 hp1 h3 h10))
    refine mr_iconst (pc := 25) (z := (-1)) dX12_write_25 ?_
    exact mr_iret dX12_write_26 rfl (le_t rfl) (le_t rfl) hT mF.refl ⟨(rW (c := (-2147483648)) (d := 2147483647) (rR (x := (-1))) rfl), trivial⟩
  have h12 : 1 ≤ z8 ∧ z8 ≤ 1 := (vc_X12_write_3 h9 h7.2.1 h7.2.2.1 hp1 h3 h7.1)
  have h13 : 0 ≤ p1 ∧ p1 < z1 := (h7.2.1 (vc_X12_write_4 h7.2.1 h7.2.2.1 h9 hp1 h3 h12))
  have h14 : 0 ≤ p1 ∧ p1 ≤ 19 := (vc_X12_write_5 h13 h7.2.1 h7.2.2.1 hp1 h3 h12)
  refine mr_iload_n (pc := 8) (z := p2) dX12_write_8 rfl rfl ?_
  refine mr_iconst (pc := 9) (z := 0) dX12_write_9 ?_
  refine mr_iconst (pc := 10) (z := 1) dX12_write_10 ?_
  refine mr_cSP (pc := 11) (c_X12_in hw hT hp2 (rW (c := (-2147483648)) (d := 2147483647) (rR (x := 0)) rfl) (rW (c := (-2147483648)) (d := 2147483647) (rR (x := 1)) rfl)) (gOk _ _ _ _ _) dX12_write_11 (tX12_in _ _ _ _ _) wS_X12_in wM_X12_18 ⟨le_t rfl, le_t rfl⟩ ⟨le_t rfl, le_t rfl⟩ rfl (le_t rfl) fun z19 h18 => ?_
  refine mr_if_eq (pc := 14) (tgt := 25) dX12_write_14 (by decide) (r32 h18.1 rfl) (fun h20 => ?_) (fun h20 => ?_)
  · have h21 : 0 ≤ z19 ∧ z19 ≤ 0 := (vc_X12_write_6 h20 h18.2.1 h18.2.2.1 hp2 h18.1)
    have h22 : p2 < (0 : Int) ∨ (1 : Int) < p2 := (h18.2.2.1 (vc_X12_write_7 h18.2.1 h18.2.2.1 h20 hp2 h21))
    refine mr_iconst (pc := 25) (z := (-1)) dX12_write_25 ?_
    exact mr_iret dX12_write_26 rfl (le_t rfl) (le_t rfl) hT mF.refl ⟨(rW (c := (-2147483648)) (d := 2147483647) (rR (x := (-1))) rfl), trivial⟩
  have h23 : 1 ≤ z19 ∧ z19 ≤ 1 := (vc_X12_write_8 h20 h18.2.1 h18.2.2.1 hp2 h18.1)
  have h24 : (0 : Int) ≤ p2 ∧ p2 ≤ (1 : Int) := (h18.2.1 (vc_X12_write_9 h18.2.1 h18.2.2.1 h20 hp2 h23))
  have h25 : 0 ≤ p2 ∧ p2 ≤ 1 := (vc_X12_write_10 h24 h18.2.1 h18.2.2.1 hp2 h23)
  refine sv_aload_n (pc := 17) dX12_write_17 rfl rfl ?_
  refine mr_iload_n (pc := 18) (z := p3) dX12_write_18 rfl rfl ?_
  obtain ⟨z26, q27⟩ : ∃ z, μ 106 2 = z := ⟨_, rfl⟩
  have h28 : (0 ≤ z26 ∧ z26 ≤ 10) := by rw [← q27]; exact hT 106 106 (A_106 hw) 2
  refine mr_cVP (pc := 19) (c_X12_isPrefix hw hT hp3 q27) (gOk _ _ _ _ _) dX12_write_19 (tX12_isPrefix _ _ _ _ _) ⟨wV_X12_isPrefix, wL_X12_isPrefix⟩ wM_X12_92 (gCX12 _ _ _ _ _) rfl (A_106 hw) rfl ⟨le_t rfl, le_t rfl⟩ ⟨le_t rfl, le_t rfl⟩ rfl (le_t rfl) fun z33 h32 => ?_
  refine mr_if_ne (pc := 22) (tgt := 27) dX12_write_22 (by decide) (r32 h32.1 rfl) (fun h34 => ?_) (fun h34 => ?_)
  · have h35 : 1 ≤ z33 ∧ z33 ≤ 1 := (vc_X12_write_11 h34 h32.2.1 h32.2.2.1 hp3 h28 h32.1)
    have h36 : 0 ≤ p3 ∧ p3 < z26 := (h32.2.1 (vc_X12_write_12 h32.2.1 h32.2.2.1 h34 hp3 h28 h35))
    have h37 : 0 ≤ p3 ∧ p3 ≤ 9 := (vc_X12_write_13 h36 h32.2.1 h32.2.2.1 hp3 h28 h35)
    refine mr_bipush (pc := 27) (z := 40) dX12_write_27 (by decide) ?_
    refine mr_sipush (pc := 29) (z := 530) dX12_write_29 (by decide) ?_
    refine mr_iload_n (pc := 32) (z := p1) dX12_write_32 rfl rfl ?_
    refine mr_iload_n (pc := 33) (z := p2) dX12_write_33 rfl rfl ?_
    refine mr_iload_n (pc := 34) (z := p3) dX12_write_34 rfl rfl ?_
    refine mr_cSP (pc := 35) (c_X12_slot hw hT (rW (c := 0) (d := 20) h14 rfl) (rW (c := 0) (d := 2) h25 rfl) h37) (gOk _ _ _ _ _) dX12_write_35 (tX12_slot _ _ _ _ _) wS_X12_slot wM_X12_545 ⟨le_t rfl, le_t rfl⟩ ⟨le_t rfl, le_t rfl⟩ rfl (le_t rfl) fun z42 h41 => ?_
    have h43 : 0 ≤ z42 ∧ z42 ≤ 399 := (vc_X12_write_14 h41.2.1 h13 h18.2.1 h18.2.2.1 h24 h32.2.1 h32.2.2.1 h36 h14 h25 h37 h3 h23 h28 h35 h41.1)
    refine mr_iadd (pc := 38) (x := 530) (y := z42) dX12_write_38 ?_
    refine mr_imul (pc := 39) (x := 40) (y := (530 + z42)) dX12_write_39 ?_
    refine mr_istore (pc := 40) (lv' := [(4, iv (40 * (530 + z42))), (0, .ref 106), (1, iv p1), (2, iv p2), (3, iv p3)]) dX12_write_40 (by decide) rfl ?_
    refine sv_aload_n (pc := 42) dX12_write_42 rfl rfl ?_
    refine mr_iconst (pc := 43) (z := 0) dX12_write_43 ?_
    refine pf_X12_104 (pc := 44) dX12_write_44 wF_X12_671 (A_106 hw) hT (rW (c := 0) (d := 300) (rR (x := 0)) rfl) fun μ44 u45 T46 => ?_
    refine sv_aload_n (pc := 47) dX12_write_47 rfl rfl ?_
    refine gf_X12_32 (pc := 48) dX12_write_48 wF_X12_148 (A_106 hw) T46 ?_
    refine mr_iload (pc := 51) (z := (40 * (530 + z42))) dX12_write_51 rfl ?_
    refine la_126 (pc := 53) dX12_write_53 (A_126 hw) T46 (rIx (n := 84000) (rMulL (n := 40) (e := 21200) (f := 37160) (rAdd (e := 530) (f := 929) (rR (x := 530)) h43 rfl) rfl) rfl) fun z47 q48 h49 => ?_
    have h50 : (-1) ≤ z47 ∧ z47 ≤ 9 := h49.2.1 (vc_X12_write_15 h41.2.1 h7.2.1 h7.2.2.1 h13 h18.2.1 h18.2.2.1 h24 h32.2.1 h32.2.2.1 h36 h14 h25 h37 h3 h23 h28 h35 h43 h12)
    refine mr_if_ge (pc := 54) (tgt := 100) dX12_write_54 (by decide) (r32 h50 rfl) (fun h51 => ?_) (fun h51 => ?_)
    · have h52 : 0 ≤ z47 ∧ z47 ≤ 9 := (vc_X12_write_16 h51 h50)
      refine sv_aload_n (pc := 100) dX12_write_100 rfl rfl ?_
      refine gf_X12_32 (pc := 101) dX12_write_101 wF_X12_148 (A_106 hw) T46 ?_
      refine mr_iload (pc := 104) (z := (40 * (530 + z42))) dX12_write_104 rfl ?_
      refine mr_iconst (pc := 106) (z := 4) dX12_write_106 ?_
      refine mr_iadd (pc := 107) (x := (40 * (530 + z42))) (y := 4) dX12_write_107 ?_
      refine la_126 (pc := 108) dX12_write_108 (A_126 hw) T46 (rIx (n := 84000) (rAdd (e := 21204) (f := 37164) (rMulL (n := 40) (e := 21200) (f := 37160) (rAdd (e := 530) (f := 929) (rR (x := 530)) h43 rfl) rfl) (rR (x := 4)) rfl) rfl) fun z53 q54 h55 => ?_
      have h56 : 0 ≤ z53 ∧ z53 ≤ 20 := h55.2.2.1 (vc_X12_write_17 h41.2.1 h7.2.1 h7.2.2.1 h13 h18.2.1 h18.2.2.1 h24 h32.2.1 h32.2.2.1 h36 h14 h25 h37 h3 h23 h28 h35 h43 h12)
      refine mr_istore (pc := 109) (lv' := [(5, iv z53), (4, iv (40 * (530 + z42))), (0, .ref 106), (1, iv p1), (2, iv p2), (3, iv p3)]) dX12_write_109 (by decide) rfl ?_
      refine sv_aload_n (pc := 111) dX12_write_111 rfl rfl ?_
      refine gf_X12_32 (pc := 112) dX12_write_112 wF_X12_148 (A_106 hw) T46 ?_
      refine mr_iload (pc := 115) (z := (40 * (530 + z42))) dX12_write_115 rfl ?_
      refine mr_iconst (pc := 117) (z := 5) dX12_write_117 ?_
      refine mr_iadd (pc := 118) (x := (40 * (530 + z42))) (y := 5) dX12_write_118 ?_
      refine la_126 (pc := 119) dX12_write_119 (A_126 hw) T46 (rIx (n := 84000) (rAdd (e := 21205) (f := 37165) (rMulL (n := 40) (e := 21200) (f := 37160) (rAdd (e := 530) (f := 929) (rR (x := 530)) h43 rfl) rfl) (rR (x := 5)) rfl) rfl) fun z57 q58 h59 => ?_
      have h60 : 0 ≤ z57 ∧ z57 ≤ 8 := h59.2.2.2 (vc_X12_write_18 h41.2.1 h7.2.1 h7.2.2.1 h13 h18.2.1 h18.2.2.1 h24 h32.2.1 h32.2.2.1 h36 h14 h25 h37 h3 h23 h28 h35 h43 h12)
      refine mr_istore (pc := 120) (lv' := [(6, iv z57), (5, iv z53), (4, iv (40 * (530 + z42))), (0, .ref 106), (1, iv p1), (2, iv p2), (3, iv p3)]) dX12_write_120 (by decide) rfl ?_
      refine mr_iload (pc := 122) (z := z53) dX12_write_122 rfl ?_
      have J65 : ∀ (z63 : Int), ((0 ≤ z63 ∧ z63 ≤ 82)) → sV (gG l D c H0 sa) mX12_write (sRm 3 0 0) (sZ (gG l D c H0 sa) 0 0 (qI w [106104, 174999] μ (fun z μ1 => ((-2147483648) ≤ z ∧ z ≤ 2147483647) ∧ True))) 137 [(0, .ref 106), (3, iv p3), (4, iv (40 * (530 + z42))), (5, iv z53), (6, iv z57)] [iv z63] (mk w μ44) 0 0 := by
        intro z63 h64
        refine mr_istore (pc := 137) (lv' := [(7, iv z63), (0, .ref 106), (3, iv p3), (4, iv (40 * (530 + z42))), (5, iv z53), (6, iv z57)]) dX12_write_137 (by decide) rfl ?_
        refine mr_bipush (pc := 139) (z := 7) dX12_write_139 (by decide) ?_
        refine mr_iload (pc := 141) (z := z63) dX12_write_141 rfl ?_
        refine mr_iadd (pc := 143) (x := 7) (y := z63) dX12_write_143 ?_
        refine sv_aload_n (pc := 144) dX12_write_144 rfl rfl ?_
        refine gf_X12_32 (pc := 145) dX12_write_145 wF_X12_148 (A_106 hw) T46 ?_
        refine mr_iload (pc := 148) (z := (40 * (530 + z42))) dX12_write_148 rfl ?_
        refine mr_iconst (pc := 150) (z := 3) dX12_write_150 ?_
        refine mr_iadd (pc := 151) (x := (40 * (530 + z42))) (y := 3) dX12_write_151 ?_
        refine la_126 (pc := 152) dX12_write_152 (A_126 hw) T46 (rIx (n := 84000) (rAdd (e := 21203) (f := 37163) (rMulL (n := 40) (e := 21200) (f := 37160) (rAdd (e := 530) (f := 929) (rR (x := 530)) h43 rfl) rfl) (rR (x := 3)) rfl) rfl) fun z66 q67 h68 => ?_
        have J73 : ∀ (z71 : Int), ((0 ≤ z71 ∧ z71 ≤ 7)) → sV (gG l D c H0 sa) mX12_write (sRm 3 0 0) (sZ (gG l D c H0 sa) 0 0 (qI w [106104, 174999] μ (fun z μ1 => ((-2147483648) ≤ z ∧ z ≤ 2147483647) ∧ True))) 162 [(0, .ref 106), (3, iv p3), (4, iv (40 * (530 + z42))), (5, iv z53), (6, iv z57), (7, iv z63)] [iv z71, iv (7 + z63)] (mk w μ44) 0 0 := by
          intro z71 h72
          refine mr_iadd (pc := 162) (x := (7 + z63)) (y := z71) dX12_write_162 ?_
          refine mr_iload (pc := 163) (z := z57) dX12_write_163 rfl ?_
          have J78 : ∀ (z76 : Int), ((0 ≤ z76 ∧ z76 ≤ 35)) → sV (gG l D c H0 sa) mX12_write (sRm 3 0 0) (sZ (gG l D c H0 sa) 0 0 (qI w [106104, 174999] μ (fun z μ1 => ((-2147483648) ≤ z ∧ z ≤ 2147483647) ∧ True))) 178 [(0, .ref 106), (3, iv p3), (4, iv (40 * (530 + z42))), (5, iv z53), (6, iv z57), (7, iv z63)] [iv z76, iv ((7 + z63) + z71)] (mk w μ44) 0 0 := by
            intro z76 h77
            refine mr_iadd (pc := 178) (x := ((7 + z63) + z71)) (y := z76) dX12_write_178 ?_
            refine mr_istore (pc := 179) (lv' := [(8, iv (((7 + z63) + z71) + z76)), (0, .ref 106), (3, iv p3), (4, iv (40 * (530 + z42))), (5, iv z53), (6, iv z57), (7, iv z63)]) dX12_write_179 (by decide) rfl ?_
            refine sv_aload_n (pc := 181) dX12_write_181 rfl rfl ?_
            refine mr_iconst (pc := 182) (z := 0) dX12_write_182 ?_
            refine mr_cVV (pc := 183) (c_X12_octet1 hw T46 (rW (c := (-2147483648)) (d := 2147483647) (rR (x := 0)) rfl) u45.1 vc_X12_write_19) (gOk _ _ _ _ _) dX12_write_183 (tX12_octet1 _ _ _ _ _) ⟨wV_X12_octet1, wL_X12_octet1⟩ wM_X12_674 (gCX12 _ _ _ _ _) rfl (A_106 hw) rfl ⟨le_t rfl, le_t rfl⟩ ⟨le_t rfl, le_t rfl⟩ rfl (le_t rfl) fun μ79 T80 F81 h82 => ?_
            obtain ⟨z83, q84, h85⟩ := h82
            have h86 : (0 ≤ z83 ∧ z83 ≤ 300) := by rw [← q84]; exact T80 106 106 (A_106 hw) 104
            have q87 : μ79 106 104 = (0 + 1) := q84.trans h85.1
            refine sv_aload_n (pc := 186) dX12_write_186 rfl rfl ?_
            refine mr_iconst (pc := 187) (z := 0) dX12_write_187 ?_
            refine mr_cVV (pc := 188) (c_X12_octet1 hw T80 (rW (c := (-2147483648)) (d := 2147483647) (rR (x := 0)) rfl) q87 vc_X12_write_20) (gOk _ _ _ _ _) dX12_write_188 (tX12_octet1 _ _ _ _ _) ⟨wV_X12_octet1, wL_X12_octet1⟩ wM_X12_674 (gCX12 _ _ _ _ _) rfl (A_106 hw) rfl ⟨le_t rfl, le_t rfl⟩ ⟨le_t rfl, le_t rfl⟩ rfl (le_t rfl) fun μ88 T89 F90 h91 => ?_
            obtain ⟨z92, q93, h94⟩ := h91
            have h95 : (0 ≤ z92 ∧ z92 ≤ 300) := by rw [← q93]; exact T89 106 106 (A_106 hw) 104
            have q96 : μ88 106 104 = ((0 + 1) + 1) := q93.trans h94.1
            refine sv_aload_n (pc := 191) dX12_write_191 rfl rfl ?_
            refine mr_iload (pc := 192) (z := (((7 + z63) + z71) + z76)) dX12_write_192 rfl ?_
            refine mr_bipush (pc := 194) (z := 8) dX12_write_194 (by decide) ?_
            refine mr_ishr (pc := 196) (x := (((7 + z63) + z71) + z76)) (y := 8) dX12_write_196 ?_
            refine mr_gen (P := fun z => (-2147483648) ≤ z ∧ z ≤ 2147483647) (r32i _) fun z97 q98 h99 => ?_
            refine mr_cVV (pc := 197) (c_X12_octet1 hw T89 h99 q96 vc_X12_write_21) (gOk _ _ _ _ _) dX12_write_197 (tX12_octet1 _ _ _ _ _) ⟨wV_X12_octet1, wL_X12_octet1⟩ wM_X12_674 (gCX12 _ _ _ _ _) rfl (A_106 hw) rfl ⟨le_t rfl, le_t rfl⟩ ⟨le_t rfl, le_t rfl⟩ rfl (le_t rfl) fun μ100 T101 F102 h103 => ?_
            obtain ⟨z104, q105, h106⟩ := h103
            have h107 : (0 ≤ z104 ∧ z104 ≤ 300) := by rw [← q105]; exact T101 106 106 (A_106 hw) 104
            have q108 : μ100 106 104 = (((0 + 1) + 1) + 1) := q105.trans h106.1
            refine sv_aload_n (pc := 200) dX12_write_200 rfl rfl ?_
            refine mr_iload (pc := 201) (z := (((7 + z63) + z71) + z76)) dX12_write_201 rfl ?_
            refine mr_cVV (pc := 203) (c_X12_octet1 hw T101 (rW (c := (-2147483648)) (d := 2147483647) (rAdd (e := 7) (f := 131) (rAdd (e := 7) (f := 96) (rAdd (e := 7) (f := 89) (rR (x := 7)) h64 rfl) h72 rfl) h77 rfl) rfl) q108 vc_X12_write_22) (gOk _ _ _ _ _) dX12_write_203 (tX12_octet1 _ _ _ _ _) ⟨wV_X12_octet1, wL_X12_octet1⟩ wM_X12_674 (gCX12 _ _ _ _ _) rfl (A_106 hw) rfl ⟨le_t rfl, le_t rfl⟩ ⟨le_t rfl, le_t rfl⟩ rfl (le_t rfl) fun μ109 T110 F111 h112 => ?_
            obtain ⟨z113, q114, h115⟩ := h112
            have h116 : (0 ≤ z113 ∧ z113 ≤ 300) := by rw [← q114]; exact T110 106 106 (A_106 hw) 104
            have q117 : μ109 106 104 = ((((0 + 1) + 1) + 1) + 1) := q114.trans h115.1
            refine sv_aload_n (pc := 206) dX12_write_206 rfl rfl ?_
            refine mr_bipush (pc := 207) (z := 64) dX12_write_207 (by decide) ?_
            refine mr_cVV (pc := 209) (c_X12_octet1 hw T110 (rW (c := (-2147483648)) (d := 2147483647) (rR (x := 64)) rfl) q117 vc_X12_write_23) (gOk _ _ _ _ _) dX12_write_209 (tX12_octet1 _ _ _ _ _) ⟨wV_X12_octet1, wL_X12_octet1⟩ wM_X12_674 (gCX12 _ _ _ _ _) rfl (A_106 hw) rfl ⟨le_t rfl, le_t rfl⟩ ⟨le_t rfl, le_t rfl⟩ rfl (le_t rfl) fun μ118 T119 F120 h121 => ?_
            obtain ⟨z122, q123, h124⟩ := h121
            have h125 : (0 ≤ z122 ∧ z122 ≤ 300) := by rw [← q123]; exact T119 106 106 (A_106 hw) 104
            have q126 : μ118 106 104 = (((((0 + 1) + 1) + 1) + 1) + 1) := q123.trans h124.1
            refine sv_aload_n (pc := 212) dX12_write_212 rfl rfl ?_
            refine mr_iconst (pc := 213) (z := 1) dX12_write_213 ?_
            refine mr_cVV (pc := 214) (c_X12_octet1 hw T119 (rW (c := (-2147483648)) (d := 2147483647) (rR (x := 1)) rfl) q126 vc_X12_write_24) (gOk _ _ _ _ _) dX12_write_214 (tX12_octet1 _ _ _ _ _) ⟨wV_X12_octet1, wL_X12_octet1⟩ wM_X12_674 (gCX12 _ _ _ _ _) rfl (A_106 hw) rfl ⟨le_t rfl, le_t rfl⟩ ⟨le_t rfl, le_t rfl⟩ rfl (le_t rfl) fun μ127 T128 F129 h130 => ?_
            obtain ⟨z131, q132, h133⟩ := h130
            have h134 : (0 ≤ z131 ∧ z131 ≤ 300) := by rw [← q132]; exact T128 106 106 (A_106 hw) 104
            have q135 : μ127 106 104 = ((((((0 + 1) + 1) + 1) + 1) + 1) + 1) := q132.trans h133.1
            refine sv_aload_n (pc := 217) dX12_write_217 rfl rfl ?_
            refine mr_iconst (pc := 218) (z := 1) dX12_write_218 ?_
            refine mr_cVV (pc := 219) (c_X12_octet1 hw T128 (rW (c := (-2147483648)) (d := 2147483647) (rR (x := 1)) rfl) q135 vc_X12_write_25) (gOk _ _ _ _ _) dX12_write_219 (tX12_octet1 _ _ _ _ _) ⟨wV_X12_octet1, wL_X12_octet1⟩ wM_X12_674 (gCX12 _ _ _ _ _) rfl (A_106 hw) rfl ⟨le_t rfl, le_t rfl⟩ ⟨le_t rfl, le_t rfl⟩ rfl (le_t rfl) fun μ136 T137 F138 h139 => ?_
            obtain ⟨z140, q141, h142⟩ := h139
            have h143 : (0 ≤ z140 ∧ z140 ≤ 300) := by rw [← q141]; exact T137 106 106 (A_106 hw) 104
            have q144 : μ136 106 104 = (((((((0 + 1) + 1) + 1) + 1) + 1) + 1) + 1) := q141.trans h142.1
            refine sv_aload_n (pc := 222) dX12_write_222 rfl rfl ?_
            refine sv_aload_n (pc := 223) dX12_write_223 rfl rfl ?_
            refine gf_X12_32 (pc := 224) dX12_write_224 wF_X12_148 (A_106 hw) T137 ?_
            refine mr_iload (pc := 227) (z := (40 * (530 + z42))) dX12_write_227 rfl ?_
            refine mr_iconst (pc := 229) (z := 2) dX12_write_229 ?_
            refine mr_iadd (pc := 230) (x := (40 * (530 + z42))) (y := 2) dX12_write_230 ?_
            refine la_126 (pc := 231) dX12_write_231 (A_126 hw) T137 (rIx (n := 84000) (rAdd (e := 21202) (f := 37162) (rMulL (n := 40) (e := 21200) (f := 37160) (rAdd (e := 530) (f := 929) (rR (x := 530)) h43 rfl) rfl) (rR (x := 2)) rfl) rfl) fun z145 q146 h147 => ?_
            refine mr_cVV (pc := 232) (c_X12_octet1 hw T137 h147.1 q144 vc_X12_write_26) (gOk _ _ _ _ _) dX12_write_232 (tX12_octet1 _ _ _ _ _) ⟨wV_X12_octet1, wL_X12_octet1⟩ wM_X12_674 (gCX12 _ _ _ _ _) rfl (A_106 hw) rfl ⟨le_t rfl, le_t rfl⟩ ⟨le_t rfl, le_t rfl⟩ rfl (le_t rfl) fun μ148 T149 F150 h151 => ?_
            obtain ⟨z152, q153, h154⟩ := h151
            have h155 : (0 ≤ z152 ∧ z152 ≤ 300) := by rw [← q153]; exact T149 106 106 (A_106 hw) 104
            have q156 : μ148 106 104 = ((((((((0 + 1) + 1) + 1) + 1) + 1) + 1) + 1) + 1) := q153.trans h154.1
            refine sv_aload_n (pc := 235) dX12_write_235 rfl rfl ?_
            refine mr_bipush (pc := 236) (z := 64) dX12_write_236 (by decide) ?_
            refine mr_cVV (pc := 238) (c_X12_octet1 hw T149 (rW (c := (-2147483648)) (d := 2147483647) (rR (x := 64)) rfl) q156 vc_X12_write_27) (gOk _ _ _ _ _) dX12_write_238 (tX12_octet1 _ _ _ _ _) ⟨wV_X12_octet1, wL_X12_octet1⟩ wM_X12_674 (gCX12 _ _ _ _ _) rfl (A_106 hw) rfl ⟨le_t rfl, le_t rfl⟩ ⟨le_t rfl, le_t rfl⟩ rfl (le_t rfl) fun μ157 T158 F159 h160 => ?_
            obtain ⟨z161, q162, h163⟩ := h160
            have h164 : (0 ≤ z161 ∧ z161 ≤ 300) := by rw [← q162]; exact T158 106 106 (A_106 hw) 104
            have q165 : μ157 106 104 = (((((((((0 + 1) + 1) + 1) + 1) + 1) + 1) + 1) + 1) + 1) := q162.trans h163.1
            refine sv_aload_n (pc := 241) dX12_write_241 rfl rfl ?_
            refine mr_iconst (pc := 242) (z := 2) dX12_write_242 ?_
            refine mr_cVV (pc := 243) (c_X12_octet1 hw T158 (rW (c := (-2147483648)) (d := 2147483647) (rR (x := 2)) rfl) q165 vc_X12_write_28) (gOk _ _ _ _ _) dX12_write_243 (tX12_octet1 _ _ _ _ _) ⟨wV_X12_octet1, wL_X12_octet1⟩ wM_X12_674 (gCX12 _ _ _ _ _) rfl (A_106 hw) rfl ⟨le_t rfl, le_t rfl⟩ ⟨le_t rfl, le_t rfl⟩ rfl (le_t rfl) fun μ166 T167 F168 h169 => ?_
            obtain ⟨z170, q171, h172⟩ := h169
            have h173 : (0 ≤ z170 ∧ z170 ≤ 300) := by rw [← q171]; exact T167 106 106 (A_106 hw) 104
            have q174 : μ166 106 104 = ((((((((((0 + 1) + 1) + 1) + 1) + 1) + 1) + 1) + 1) + 1) + 1) := q171.trans h172.1
            refine sv_aload_n (pc := 246) dX12_write_246 rfl rfl ?_
            refine mr_iload (pc := 247) (z := z63) dX12_write_247 rfl ?_
            refine mr_cVV (pc := 249) (c_X12_octet1 hw T167 (rW (c := (-2147483648)) (d := 2147483647) h64 rfl) q174 vc_X12_write_29) (gOk _ _ _ _ _) dX12_write_249 (tX12_octet1 _ _ _ _ _) ⟨wV_X12_octet1, wL_X12_octet1⟩ wM_X12_674 (gCX12 _ _ _ _ _) rfl (A_106 hw) rfl ⟨le_t rfl, le_t rfl⟩ ⟨le_t rfl, le_t rfl⟩ rfl (le_t rfl) fun μ175 T176 F177 h178 => ?_
            obtain ⟨z179, q180, h181⟩ := h178
            have h182 : (0 ≤ z179 ∧ z179 ≤ 300) := by rw [← q180]; exact T176 106 106 (A_106 hw) 104
            have q183 : μ175 106 104 = (((((((((((0 + 1) + 1) + 1) + 1) + 1) + 1) + 1) + 1) + 1) + 1) + 1) := q180.trans h181.1
            refine mr_iload (pc := 252) (z := z53) dX12_write_252 rfl ?_
            have J245 : ∀ (μ240 : mM), (mT w μ240) → (mF [106104, 174999] w μ175 μ240) → (μ240 106 104 ≤ 100) → sV (gG l D c H0 sa) mX12_write (sRm 3 0 0) (sZ (gG l D c H0 sa) 0 0 (qI w [106104, 174999] μ (fun z μ1 => ((-2147483648) ≤ z ∧ z ≤ 2147483647) ∧ True))) 301 [(0, .ref 106), (3, iv p3), (4, iv (40 * (530 + z42))), (6, iv z57)] [] (mk w μ240) 0 0 := by
              intro μ240 T241 F242 h244
              obtain ⟨z246, q247⟩ : ∃ z, μ240 106 104 = z := ⟨_, rfl⟩
              have h248 : (0 ≤ z246 ∧ z246 ≤ 300) := by rw [← q247]; exact T241 106 106 (A_106 hw) 104
              have h249 : z246 ≤ 100 := q247 ▸ h244
              have h250 : 0 ≤ z246 ∧ z246 ≤ 100 := (vc_X12_write_30 h249 h248)
              refine sv_aload_n (pc := 301) dX12_write_301 rfl rfl ?_
              refine gf_X12_32 (pc := 302) dX12_write_302 wF_X12_148 (A_106 hw) T241 ?_
              refine mr_iload (pc := 305) (z := (40 * (530 + z42))) dX12_write_305 rfl ?_
              refine mr_iconst (pc := 307) (z := 3) dX12_write_307 ?_
              refine mr_iadd (pc := 308) (x := (40 * (530 + z42))) (y := 3) dX12_write_308 ?_
              refine lk_126 (pc := 309) dX12_write_309 (A_126 hw) (rIx (n := 84000) (rAdd (e := 21203) (f := 37163) (rMulL (n := 40) (e := 21200) (f := 37160) (rAdd (e := 530) (f := 929) (rR (x := 530)) h43 rfl) rfl) (rR (x := 3)) rfl) rfl) (F242.f (A_126 hw) rfl (F177.f (A_126 hw) rfl (F168.f (A_126 hw) rfl (F159.f (A_126 hw) rfl (F150.f (A_126 hw) rfl (F138.f (A_126 hw) rfl (F129.f (A_126 hw) rfl (F120.f (A_126 hw) rfl (F111.f (A_126 hw) rfl (F102.f (A_126 hw) rfl (F90.f (A_126 hw) rfl (F81.f (A_126 hw) rfl q67)))))))))))) ?_
              have J294 : ∀ (μ289 : mM), (mT w μ289) → (mF [106104, 174999] w μ240 μ289) → (μ289 106 104 ≤ 107) → sV (gG l D c H0 sa) mX12_write (sRm 3 0 0) (sZ (gG l D c H0 sa) 0 0 (qI w [106104, 174999] μ (fun z μ1 => ((-2147483648) ≤ z ∧ z ≤ 2147483647) ∧ True))) 343 [(0, .ref 106), (3, iv p3), (4, iv (40 * (530 + z42))), (6, iv z57)] [] (mk w μ289) 0 0 := by
                intro μ289 T290 F291 h293
                obtain ⟨z295, q296⟩ : ∃ z, μ289 106 104 = z := ⟨_, rfl⟩
                have h297 : (0 ≤ z295 ∧ z295 ≤ 300) := by rw [← q296]; exact T290 106 106 (A_106 hw) 104
                have h298 : z295 ≤ 107 := q296 ▸ h293
                have h299 : 0 ≤ z295 ∧ z295 ≤ 107 := (vc_X12_write_31 h298 h297)
                refine mr_iload (pc := 343) (z := z57) dX12_write_343 rfl ?_
                refine mr_if_le (pc := 345) (tgt := 402) dX12_write_345 (by decide) (r32 h60 rfl) (fun h365 => ?_) (fun h365 => ?_)
                · have h366 : 0 ≤ z57 ∧ z57 ≤ 0 := (vc_X12_write_32 h365 h60)
                  refine sv_aload_n (pc := 402) dX12_write_402 rfl rfl ?_
                  refine mr_iload_n (pc := 403) (z := p3) dX12_write_403 rfl rfl ?_
                  refine mr_cVV (pc := 404) (c_X12_prefixOut hw T290 h37 q296 (vc_X12_write_33 h298 h299)) (gOk _ _ _ _ _) dX12_write_404 (tX12_prefixOut _ _ _ _ _) ⟨wV_X12_prefixOut, wL_X12_prefixOut⟩ wM_X12_677 (gCX12 _ _ _ _ _) rfl (A_106 hw) rfl ⟨le_t rfl, le_t rfl⟩ ⟨le_t rfl, le_t rfl⟩ rfl (le_t rfl) fun μ367 T368 F369 h370 => ?_
                  obtain ⟨z371, q372, h373⟩ := h370
                  have h374 : (0 ≤ z371 ∧ z371 ≤ 300) := by rw [← q372]; exact T368 106 106 (A_106 hw) 104
                  refine sv_aload_n (pc := 407) dX12_write_407 rfl rfl ?_
                  refine gk_X12_104 (pc := 408) dX12_write_408 wF_X12_671 (A_106 hw) q372 ?_
                  exact mr_iret dX12_write_411 rfl (le_t rfl) (le_t rfl) T368 (mF.call (mF.call (mF.call (mF.call (mF.call (mF.call (mF.call (mF.call (mF.call (mF.call (mF.call (mF.call (mF.call (mF.call (mF.up mF.refl (A_106 hw) u45 rfl) F81 rfl) F90 rfl) F102 rfl) F111 rfl) F120 rfl) F129 rfl) F138 rfl) F150 rfl) F159 rfl) F168 rfl) F177 rfl) F242 rfl) F291 rfl) F369 rfl) ⟨(rW (c := (-2147483648)) (d := 2147483647) h374 rfl), trivial⟩
                have h375 : 1 ≤ z57 ∧ z57 ≤ 8 := (vc_X12_write_34 h365 h60)
                refine sv_aload_n (pc := 348) dX12_write_348 rfl rfl ?_
                refine mr_sipush (pc := 349) (z := 192) dX12_write_349 (by decide) ?_
                refine mr_cVV (pc := 352) (c_X12_octet1 hw T290 (rW (c := (-2147483648)) (d := 2147483647) (rR (x := 192)) rfl) q296 (vc_X12_write_35 h298 h299)) (gOk _ _ _ _ _) dX12_write_352 (tX12_octet1 _ _ _ _ _) ⟨wV_X12_octet1, wL_X12_octet1⟩ wM_X12_674 (gCX12 _ _ _ _ _) rfl (A_106 hw) rfl ⟨le_t rfl, le_t rfl⟩ ⟨le_t rfl, le_t rfl⟩ rfl (le_t rfl) fun μ376 T377 F378 h379 => ?_
                obtain ⟨z380, q381, h382⟩ := h379
                have h383 : (0 ≤ z380 ∧ z380 ≤ 300) := by rw [← q381]; exact T377 106 106 (A_106 hw) 104
                have q384 : μ376 106 104 = (z295 + 1) := q381.trans h382.1
                refine sv_aload_n (pc := 355) dX12_write_355 rfl rfl ?_
                refine mr_bipush (pc := 356) (z := 8) dX12_write_356 (by decide) ?_
                refine mr_cVV (pc := 358) (c_X12_octet1 hw T377 (rW (c := (-2147483648)) (d := 2147483647) (rR (x := 8)) rfl) q384 (vc_X12_write_36 h298 h382.1 h299 h383)) (gOk _ _ _ _ _) dX12_write_358 (tX12_octet1 _ _ _ _ _) ⟨wV_X12_octet1, wL_X12_octet1⟩ wM_X12_674 (gCX12 _ _ _ _ _) rfl (A_106 hw) rfl ⟨le_t rfl, le_t rfl⟩ ⟨le_t rfl, le_t rfl⟩ rfl (le_t rfl) fun μ385 T386 F387 h388 => ?_
                obtain ⟨z389, q390, h391⟩ := h388
                have h392 : (0 ≤ z389 ∧ z389 ≤ 300) := by rw [← q390]; exact T386 106 106 (A_106 hw) 104
                have q393 : μ385 106 104 = ((z295 + 1) + 1) := q390.trans h391.1
                refine sv_aload_n (pc := 361) dX12_write_361 rfl rfl ?_
                refine mr_iconst (pc := 362) (z := 4) dX12_write_362 ?_
                refine mr_iload (pc := 363) (z := z57) dX12_write_363 rfl ?_
                refine mr_imul (pc := 365) (x := 4) (y := z57) dX12_write_365 ?_
                refine mr_cVV (pc := 366) (c_X12_octet1 hw T386 (rW (c := (-2147483648)) (d := 2147483647) (rMulL (n := 4) (e := 4) (f := 32) h375 rfl) rfl) q393 (vc_X12_write_37 h298 h382.1 h391.1 h299 h383 h392)) (gOk _ _ _ _ _) dX12_write_366 (tX12_octet1 _ _ _ _ _) ⟨wV_X12_octet1, wL_X12_octet1⟩ wM_X12_674 (gCX12 _ _ _ _ _) rfl (A_106 hw) rfl ⟨le_t rfl, le_t rfl⟩ ⟨le_t rfl, le_t rfl⟩ rfl (le_t rfl) fun μ394 T395 F396 h397 => ?_
                obtain ⟨z398, q399, h400⟩ := h397
                have h401 : (0 ≤ z398 ∧ z398 ≤ 300) := by rw [← q399]; exact T395 106 106 (A_106 hw) 104
                have q402 : μ394 106 104 = (((z295 + 1) + 1) + 1) := q399.trans h400.1
                refine mr_iconst (pc := 369) (z := 0) dX12_write_369 ?_
                refine mr_istore (pc := 370) (lv' := [(9, iv 0), (0, .ref 106), (3, iv p3), (4, iv (40 * (530 + z42))), (6, iv z57)]) dX12_write_370 (by decide) rfl ?_
                have L655 : ∀ (nL655 : Nat) (z653 : Int) (μ654 : mM) (f_w : Int), mT w μ654 → mF [106104, 174999] w μ394 μ654 → μ654 106 (104) = f_w → (0 ≤ z653 ∧ z653 ≤ 8) → (f_w ≤ 120 + 4 * z653) → (9 - z653) < (nL655 : Int) → sV (gG l D c H0 sa) mX12_write (sRm 3 0 0) (sZ (gG l D c H0 sa) 0 0 (qI w [106104, 174999] μ (fun z μ1 => ((-2147483648) ≤ z ∧ z ≤ 2147483647) ∧ True))) 372 [(0, .ref 106), (3, iv p3), (4, iv (40 * (530 + z42))), (6, iv z57), (9, iv z653)] [] (mk w μ654) 0 0 := by
                  intro nL655
                  induction nL655 with
                  | zero => intro z653 μ654 f_w T657 F658 q662 h656 h660 h661; exact ((vc_X12_write_38 h661 h660 h656)).elim
                  | succ nL655 ih663 =>
                    intro z653 μ654 f_w T657 F658 q662 h656 h660 h661
                    have h664 : (0 ≤ f_w ∧ f_w ≤ 300) := by rw [← q662]; exact T657 106 106 (A_106 hw) (104)
                    refine mr_iload (pc := 372) (z := z653) dX12_write_372 rfl ?_
                    refine mr_iload (pc := 374) (z := z57) dX12_write_374 rfl ?_
                    refine mr_icmp_ge (pc := 376) (tgt := 402) dX12_write_376 (by decide) (r32 h656 rfl) (r32 h375 rfl) (fun h679 => ?_) (fun h679 => ?_)
                    · have h680 : 1 ≤ z653 ∧ z653 ≤ 8 := (vc_X12_write_39 h679 h365 h660 h664 h375 h656)
                      refine sv_aload_n (pc := 402) dX12_write_402 rfl rfl ?_
                      refine mr_iload_n (pc := 403) (z := p3) dX12_write_403 rfl rfl ?_
                      refine mr_cVV (pc := 404) (c_X12_prefixOut hw T657 h37 q662 (vc_X12_write_40 h660 h679 h664 h375 h680)) (gOk _ _ _ _ _) dX12_write_404 (tX12_prefixOut _ _ _ _ _) ⟨wV_X12_prefixOut, wL_X12_prefixOut⟩ wM_X12_677 (gCX12 _ _ _ _ _) rfl (A_106 hw) rfl ⟨le_t rfl, le_t rfl⟩ ⟨le_t rfl, le_t rfl⟩ rfl (le_t rfl) fun μ681 T682 F683 h684 => ?_
                      obtain ⟨z685, q686, h687⟩ := h684
                      have h688 : (0 ≤ z685 ∧ z685 ≤ 300) := by rw [← q686]; exact T682 106 106 (A_106 hw) 104
                      refine sv_aload_n (pc := 407) dX12_write_407 rfl rfl ?_
                      refine gk_X12_104 (pc := 408) dX12_write_408 wF_X12_671 (A_106 hw) q686 ?_
                      exact mr_iret dX12_write_411 rfl (le_t rfl) (le_t rfl) T682 (mF.call (mF.call (mF.call (mF.call (mF.call (mF.call (mF.call (mF.call (mF.call (mF.call (mF.call (mF.call (mF.call (mF.call (mF.call (mF.call (mF.call (mF.call (mF.up mF.refl (A_106 hw) u45 rfl) F81 rfl) F90 rfl) F102 rfl) F111 rfl) F120 rfl) F129 rfl) F138 rfl) F150 rfl) F159 rfl) F168 rfl) F177 rfl) F242 rfl) F291 rfl) F378 rfl) F387 rfl) F396 rfl) F658 rfl) F683 rfl) ⟨(rW (c := (-2147483648)) (d := 2147483647) h688 rfl), trivial⟩
                    have h689 : 0 ≤ z653 ∧ z653 ≤ 7 := (vc_X12_write_41 h679 h365 h660 h664 h375 h656)
                    refine sv_aload_n (pc := 379) dX12_write_379 rfl rfl ?_
                    refine sv_aload_n (pc := 380) dX12_write_380 rfl rfl ?_
                    refine gf_X12_32 (pc := 381) dX12_write_381 wF_X12_148 (A_106 hw) T657 ?_
                    refine mr_iload (pc := 384) (z := (40 * (530 + z42))) dX12_write_384 rfl ?_
                    refine mr_bipush (pc := 386) (z := 26) dX12_write_386 (by decide) ?_
                    refine mr_iadd (pc := 388) (x := (40 * (530 + z42))) (y := 26) dX12_write_388 ?_
                    refine mr_iload (pc := 389) (z := z653) dX12_write_389 rfl ?_
                    refine mr_iadd (pc := 391) (x := ((40 * (530 + z42)) + 26)) (y := z653) dX12_write_391 ?_
                    refine la_126 (pc := 392) dX12_write_392 (A_126 hw) T657 (rIx (n := 84000) (rAdd (e := 21226) (f := 37193) (rAdd (e := 21226) (f := 37186) (rMulL (n := 40) (e := 21200) (f := 37160) (rAdd (e := 530) (f := 929) (rR (x := 530)) h43 rfl) rfl) (rR (x := 26)) rfl) h689 rfl) rfl) fun z690 q691 h692 => ?_
                    refine mr_cVV (pc := 393) (c_X12_octet4 hw T657 h692.1 q662 (vc_X12_write_42 h660 h679 h692.2.1 h692.2.2.1 h692.2.2.2 h664 h43 h375 h689 h692.1)) (gOk _ _ _ _ _) dX12_write_393 (tX12_octet4 _ _ _ _ _) ⟨wV_X12_octet4, wL_X12_octet4⟩ wM_X12_680 (gCX12 _ _ _ _ _) rfl (A_106 hw) rfl ⟨le_t rfl, le_t rfl⟩ ⟨le_t rfl, le_t rfl⟩ rfl (le_t rfl) fun μ693 T694 F695 h696 => ?_
                    obtain ⟨z697, q698, h699⟩ := h696
                    have h700 : (0 ≤ z697 ∧ z697 ≤ 300) := by rw [← q698]; exact T694 106 106 (A_106 hw) 104
                    have q701 : μ693 106 104 = (f_w + 4) := q698.trans h699.1
                    refine mr_iinc (pc := 396) (lv' := [(9, iv (z653 + 1)), (0, .ref 106), (3, iv p3), (4, iv (40 * (530 + z42))), (6, iv z57)]) dX12_write_396 rfl (by decide) rfl ?_
                    refine sv_goto (pc := 399) (tgt := 372) dX12_write_399 (by decide) ?_
                    refine mr_lvS (lv' := [(0, .ref 106), (3, iv p3), (4, iv (40 * (530 + z42))), (6, iv z57), (9, iv (z653 + 1))]) (List.forall_mem_cons.mpr ⟨rfl, List.forall_mem_cons.mpr ⟨rfl, List.forall_mem_cons.mpr ⟨rfl, List.forall_mem_cons.mpr ⟨rfl, List.forall_mem_cons.mpr ⟨rfl, fun _ h => absurd h List.not_mem_nil⟩⟩⟩⟩⟩) ?_
                    exact ih663 (z653 + 1) μ693 (f_w + 4) T694 (mF.call (mF.call mF.refl F658 rfl) F695 rfl) q701 (rW (c := 0) (d := 8) (rAdd (e := 1) (f := 8) h689 (rR (x := 1)) rfl) rfl) (vc_X12_write_43 h660 h679 h692.2.1 h692.2.2.1 h692.2.2.2 h699.1 h41.2.1 h365 h664 h14 h25 h37 h43 h375 h689 h692.1 h700) (vc_X12_write_44 (nS h661) h660 h679 h692.2.1 h692.2.2.1 h692.2.2.2 h41.2.1 h365 h699.1 h664 h14 h25 h37 h43 h375 h689 h692.1 h700)
                refine mr_lvS (lv' := [(0, .ref 106), (3, iv p3), (4, iv (40 * (530 + z42))), (6, iv z57), (9, iv 0)]) (List.forall_mem_cons.mpr ⟨rfl, List.forall_mem_cons.mpr ⟨rfl, List.forall_mem_cons.mpr ⟨rfl, List.forall_mem_cons.mpr ⟨rfl, List.forall_mem_cons.mpr ⟨rfl, fun _ h => absurd h List.not_mem_nil⟩⟩⟩⟩⟩) ?_
                exact L655 10 0 μ394 (((z295 + 1) + 1) + 1) T395 mF.refl q402 (rW (c := 0) (d := 8) (rR (x := 0)) rfl) (vc_X12_write_45 h298 h382.1 h391.1 h400.1 h299 h383 h392 h401) vc_X12_write_46
              refine mr_if_le (pc := 310) (tgt := 343) dX12_write_310 (by decide) h68.1 (fun h702 => ?_) (fun h702 => ?_)
              · have h703 : (-2147483648) ≤ z66 ∧ z66 ≤ 0 := (vc_X12_write_47 h702 h68.1)
                exact J294 μ240 T241 mF.refl (by rw [q247]; exact (vc_X12_write_48 h249 h250))
              have h704 : 1 ≤ z66 ∧ z66 ≤ 2147483647 := (vc_X12_write_49 h702 h68.1)
              refine sv_aload_n (pc := 313) dX12_write_313 rfl rfl ?_
              refine mr_sipush (pc := 314) (z := 128) dX12_write_314 (by decide) ?_
              refine mr_cVV (pc := 317) (c_X12_octet1 hw T241 (rW (c := (-2147483648)) (d := 2147483647) (rR (x := 128)) rfl) q247 (vc_X12_write_50 h249 h250)) (gOk _ _ _ _ _) dX12_write_317 (tX12_octet1 _ _ _ _ _) ⟨wV_X12_octet1, wL_X12_octet1⟩ wM_X12_674 (gCX12 _ _ _ _ _) rfl (A_106 hw) rfl ⟨le_t rfl, le_t rfl⟩ ⟨le_t rfl, le_t rfl⟩ rfl (le_t rfl) fun μ705 T706 F707 h708 => ?_
              obtain ⟨z709, q710, h711⟩ := h708
              have h712 : (0 ≤ z709 ∧ z709 ≤ 300) := by rw [← q710]; exact T706 106 106 (A_106 hw) 104
              have q713 : μ705 106 104 = (z246 + 1) := q710.trans h711.1
              refine sv_aload_n (pc := 320) dX12_write_320 rfl rfl ?_
              refine mr_iconst (pc := 321) (z := 4) dX12_write_321 ?_
              refine mr_cVV (pc := 322) (c_X12_octet1 hw T706 (rW (c := (-2147483648)) (d := 2147483647) (rR (x := 4)) rfl) q713 (vc_X12_write_51 h249 h711.1 h250 h712)) (gOk _ _ _ _ _) dX12_write_322 (tX12_octet1 _ _ _ _ _) ⟨wV_X12_octet1, wL_X12_octet1⟩ wM_X12_674 (gCX12 _ _ _ _ _) rfl (A_106 hw) rfl ⟨le_t rfl, le_t rfl⟩ ⟨le_t rfl, le_t rfl⟩ rfl (le_t rfl) fun μ714 T715 F716 h717 => ?_
              obtain ⟨z718, q719, h720⟩ := h717
              have h721 : (0 ≤ z718 ∧ z718 ≤ 300) := by rw [← q719]; exact T715 106 106 (A_106 hw) 104
              have q722 : μ714 106 104 = ((z246 + 1) + 1) := q719.trans h720.1
              refine sv_aload_n (pc := 325) dX12_write_325 rfl rfl ?_
              refine mr_iconst (pc := 326) (z := 4) dX12_write_326 ?_
              refine mr_cVV (pc := 327) (c_X12_octet1 hw T715 (rW (c := (-2147483648)) (d := 2147483647) (rR (x := 4)) rfl) q722 (vc_X12_write_52 h249 h711.1 h720.1 h250 h712 h721)) (gOk _ _ _ _ _) dX12_write_327 (tX12_octet1 _ _ _ _ _) ⟨wV_X12_octet1, wL_X12_octet1⟩ wM_X12_674 (gCX12 _ _ _ _ _) rfl (A_106 hw) rfl ⟨le_t rfl, le_t rfl⟩ ⟨le_t rfl, le_t rfl⟩ rfl (le_t rfl) fun μ723 T724 F725 h726 => ?_
              obtain ⟨z727, q728, h729⟩ := h726
              have h730 : (0 ≤ z727 ∧ z727 ≤ 300) := by rw [← q728]; exact T724 106 106 (A_106 hw) 104
              have q731 : μ723 106 104 = (((z246 + 1) + 1) + 1) := q728.trans h729.1
              refine sv_aload_n (pc := 330) dX12_write_330 rfl rfl ?_
              refine sv_aload_n (pc := 331) dX12_write_331 rfl rfl ?_
              refine gf_X12_32 (pc := 332) dX12_write_332 wF_X12_148 (A_106 hw) T724 ?_
              refine mr_iload (pc := 335) (z := (40 * (530 + z42))) dX12_write_335 rfl ?_
              refine mr_iconst (pc := 337) (z := 3) dX12_write_337 ?_
              refine mr_iadd (pc := 338) (x := (40 * (530 + z42))) (y := 3) dX12_write_338 ?_
              refine lk_126 (pc := 339) dX12_write_339 (A_126 hw) (rIx (n := 84000) (rAdd (e := 21203) (f := 37163) (rMulL (n := 40) (e := 21200) (f := 37160) (rAdd (e := 530) (f := 929) (rR (x := 530)) h43 rfl) rfl) (rR (x := 3)) rfl) rfl) (F725.f (A_126 hw) rfl (F716.f (A_126 hw) rfl (F707.f (A_126 hw) rfl (F242.f (A_126 hw) rfl (F177.f (A_126 hw) rfl (F168.f (A_126 hw) rfl (F159.f (A_126 hw) rfl (F150.f (A_126 hw) rfl (F138.f (A_126 hw) rfl (F129.f (A_126 hw) rfl (F120.f (A_126 hw) rfl (F111.f (A_126 hw) rfl (F102.f (A_126 hw) rfl (F90.f (A_126 hw) rfl (F81.f (A_126 hw) rfl q67))))))))))))))) ?_
              refine mr_cVV (pc := 340) (c_X12_octet4 hw T724 (rW (c := (-2147483648)) (d := 2147483647) h704 rfl) q731 (vc_X12_write_53 h249 h711.1 h720.1 h729.1 h250 h712 h721 h730)) (gOk _ _ _ _ _) dX12_write_340 (tX12_octet4 _ _ _ _ _) ⟨wV_X12_octet4, wL_X12_octet4⟩ wM_X12_680 (gCX12 _ _ _ _ _) rfl (A_106 hw) rfl ⟨le_t rfl, le_t rfl⟩ ⟨le_t rfl, le_t rfl⟩ rfl (le_t rfl) fun μ732 T733 F734 h735 => ?_
              obtain ⟨z736, q737, h738⟩ := h735
              have h739 : (0 ≤ z736 ∧ z736 ≤ 300) := by rw [← q737]; exact T733 106 106 (A_106 hw) 104
              have q740 : μ732 106 104 = ((((z246 + 1) + 1) + 1) + 4) := q737.trans h738.1
              exact J294 μ732 T733 (mF.call (mF.call (mF.call (mF.call mF.refl F707 rfl) F716 rfl) F725 rfl) F734 rfl) (by rw [q740]; exact (vc_X12_write_54 h249 h711.1 h720.1 h729.1 h738.1 h250 h712 h721 h730 h739))
            refine mr_if_le (pc := 254) (tgt := 301) dX12_write_254 (by decide) (r32 h56 rfl) (fun h741 => ?_) (fun h741 => ?_)
            · have h742 : 0 ≤ z53 ∧ z53 ≤ 0 := (vc_X12_write_55 h741 h56)
              refine mr_lvS (lv' := [(0, .ref 106), (3, iv p3), (4, iv (40 * (530 + z42))), (6, iv z57)]) (List.forall_mem_cons.mpr ⟨rfl, List.forall_mem_cons.mpr ⟨rfl, List.forall_mem_cons.mpr ⟨rfl, List.forall_mem_cons.mpr ⟨rfl, fun _ h => absurd h List.not_mem_nil⟩⟩⟩⟩) ?_
              exact J245 μ175 T176 mF.refl (by rw [q183]; exact vc_X12_write_56)
            have h743 : 1 ≤ z53 ∧ z53 ≤ 20 := (vc_X12_write_57 h741 h56)
            refine sv_aload_n (pc := 257) dX12_write_257 rfl rfl ?_
            refine mr_iconst (pc := 258) (z := 2) dX12_write_258 ?_
            refine mr_cVV (pc := 259) (c_X12_octet1 hw T176 (rW (c := (-2147483648)) (d := 2147483647) (rR (x := 2)) rfl) q183 vc_X12_write_58) (gOk _ _ _ _ _) dX12_write_259 (tX12_octet1 _ _ _ _ _) ⟨wV_X12_octet1, wL_X12_octet1⟩ wM_X12_674 (gCX12 _ _ _ _ _) rfl (A_106 hw) rfl ⟨le_t rfl, le_t rfl⟩ ⟨le_t rfl, le_t rfl⟩ rfl (le_t rfl) fun μ744 T745 F746 h747 => ?_
            obtain ⟨z748, q749, h750⟩ := h747
            have h751 : (0 ≤ z748 ∧ z748 ≤ 300) := by rw [← q749]; exact T745 106 106 (A_106 hw) 104
            have q752 : μ744 106 104 = ((((((((((((0 + 1) + 1) + 1) + 1) + 1) + 1) + 1) + 1) + 1) + 1) + 1) + 1) := q749.trans h750.1
            refine sv_aload_n (pc := 262) dX12_write_262 rfl rfl ?_
            refine mr_iload (pc := 263) (z := z53) dX12_write_263 rfl ?_
            refine mr_cVV (pc := 265) (c_X12_octet1 hw T745 (rW (c := (-2147483648)) (d := 2147483647) h743 rfl) q752 vc_X12_write_59) (gOk _ _ _ _ _) dX12_write_265 (tX12_octet1 _ _ _ _ _) ⟨wV_X12_octet1, wL_X12_octet1⟩ wM_X12_674 (gCX12 _ _ _ _ _) rfl (A_106 hw) rfl ⟨le_t rfl, le_t rfl⟩ ⟨le_t rfl, le_t rfl⟩ rfl (le_t rfl) fun μ753 T754 F755 h756 => ?_
            obtain ⟨z757, q758, h759⟩ := h756
            have h760 : (0 ≤ z757 ∧ z757 ≤ 300) := by rw [← q758]; exact T754 106 106 (A_106 hw) 104
            have q761 : μ753 106 104 = (((((((((((((0 + 1) + 1) + 1) + 1) + 1) + 1) + 1) + 1) + 1) + 1) + 1) + 1) + 1) := q758.trans h759.1
            refine mr_iconst (pc := 268) (z := 0) dX12_write_268 ?_
            refine mr_istore (pc := 269) (lv' := [(9, iv 0), (8, iv (((7 + z63) + z71) + z76)), (0, .ref 106), (3, iv p3), (4, iv (40 * (530 + z42))), (5, iv z53), (6, iv z57), (7, iv z63)]) dX12_write_269 (by decide) rfl ?_
            have L1014 : ∀ (nL1014 : Nat) (z1012 : Int) (μ1013 : mM) (f_w : Int), mT w μ1013 → mF [106104, 174999] w μ753 μ1013 → μ1013 106 (104) = f_w → (0 ≤ z1012 ∧ z1012 ≤ 20) → (f_w ≤ 20 + 4 * z1012) → (21 - z1012) < (nL1014 : Int) → sV (gG l D c H0 sa) mX12_write (sRm 3 0 0) (sZ (gG l D c H0 sa) 0 0 (qI w [106104, 174999] μ (fun z μ1 => ((-2147483648) ≤ z ∧ z ≤ 2147483647) ∧ True))) 271 [(0, .ref 106), (3, iv p3), (4, iv (40 * (530 + z42))), (5, iv z53), (6, iv z57), (9, iv z1012)] [] (mk w μ1013) 0 0 := by
              intro nL1014
              induction nL1014 with
              | zero => intro z1012 μ1013 f_w T1016 F1017 q1021 h1015 h1019 h1020; exact ((vc_X12_write_60 h1020 h1019 h1015)).elim
              | succ nL1014 ih1022 =>
                intro z1012 μ1013 f_w T1016 F1017 q1021 h1015 h1019 h1020
                have h1023 : (0 ≤ f_w ∧ f_w ≤ 300) := by rw [← q1021]; exact T1016 106 106 (A_106 hw) (104)
                refine mr_iload (pc := 271) (z := z1012) dX12_write_271 rfl ?_
                refine mr_iload (pc := 273) (z := z53) dX12_write_273 rfl ?_
                refine mr_icmp_ge (pc := 275) (tgt := 301) dX12_write_275 (by decide) (r32 h1015 rfl) (r32 h743 rfl) (fun h1024 => ?_) (fun h1024 => ?_)
                · have h1025 : 1 ≤ z1012 ∧ z1012 ≤ 20 := (vc_X12_write_61 h1024 h741 h1019 h1023 h1015 h743)
                  refine mr_lvS (lv' := [(0, .ref 106), (3, iv p3), (4, iv (40 * (530 + z42))), (6, iv z57)]) (List.forall_mem_cons.mpr ⟨rfl, List.forall_mem_cons.mpr ⟨rfl, List.forall_mem_cons.mpr ⟨rfl, List.forall_mem_cons.mpr ⟨rfl, fun _ h => absurd h List.not_mem_nil⟩⟩⟩⟩) ?_
                  exact J245 μ1013 T1016 (mF.call (mF.call (mF.call mF.refl F746 rfl) F755 rfl) F1017 rfl) (by rw [q1021]; exact (vc_X12_write_62 h1019 h1024 h1023 h1025 h743))
                have h1026 : 0 ≤ z1012 ∧ z1012 ≤ 19 := (vc_X12_write_63 h1024 h741 h1019 h1023 h1015 h743)
                refine sv_aload_n (pc := 278) dX12_write_278 rfl rfl ?_
                refine sv_aload_n (pc := 279) dX12_write_279 rfl rfl ?_
                refine gf_X12_32 (pc := 280) dX12_write_280 wF_X12_148 (A_106 hw) T1016 ?_
                refine mr_iload (pc := 283) (z := (40 * (530 + z42))) dX12_write_283 rfl ?_
                refine mr_bipush (pc := 285) (z := 6) dX12_write_285 (by decide) ?_
                refine mr_iadd (pc := 287) (x := (40 * (530 + z42))) (y := 6) dX12_write_287 ?_
                refine mr_iload (pc := 288) (z := z1012) dX12_write_288 rfl ?_
                refine mr_iadd (pc := 290) (x := ((40 * (530 + z42)) + 6)) (y := z1012) dX12_write_290 ?_
                refine la_126 (pc := 291) dX12_write_291 (A_126 hw) T1016 (rIx (n := 84000) (rAdd (e := 21206) (f := 37185) (rAdd (e := 21206) (f := 37166) (rMulL (n := 40) (e := 21200) (f := 37160) (rAdd (e := 530) (f := 929) (rR (x := 530)) h43 rfl) rfl) (rR (x := 6)) rfl) h1026 rfl) rfl) fun z1027 q1028 h1029 => ?_
                refine mr_cVV (pc := 292) (c_X12_octet4 hw T1016 h1029.1 q1021 (vc_X12_write_64 h1019 h1024 h1029.2.1 h1029.2.2.1 h1029.2.2.2 h1023 h1026 h1029.1 h43 h743)) (gOk _ _ _ _ _) dX12_write_292 (tX12_octet4 _ _ _ _ _) ⟨wV_X12_octet4, wL_X12_octet4⟩ wM_X12_680 (gCX12 _ _ _ _ _) rfl (A_106 hw) rfl ⟨le_t rfl, le_t rfl⟩ ⟨le_t rfl, le_t rfl⟩ rfl (le_t rfl) fun μ1030 T1031 F1032 h1033 => ?_
                obtain ⟨z1034, q1035, h1036⟩ := h1033
                have h1037 : (0 ≤ z1034 ∧ z1034 ≤ 300) := by rw [← q1035]; exact T1031 106 106 (A_106 hw) 104
                have q1038 : μ1030 106 104 = (f_w + 4) := q1035.trans h1036.1
                refine mr_iinc (pc := 295) (lv' := [(9, iv (z1012 + 1)), (0, .ref 106), (3, iv p3), (4, iv (40 * (530 + z42))), (5, iv z53), (6, iv z57)]) dX12_write_295 rfl (by decide) rfl ?_
                refine sv_goto (pc := 298) (tgt := 271) dX12_write_298 (by decide) ?_
                refine mr_lvS (lv' := [(0, .ref 106), (3, iv p3), (4, iv (40 * (530 + z42))), (5, iv z53), (6, iv z57), (9, iv (z1012 + 1))]) (List.forall_mem_cons.mpr ⟨rfl, List.forall_mem_cons.mpr ⟨rfl, List.forall_mem_cons.mpr ⟨rfl, List.forall_mem_cons.mpr ⟨rfl, List.forall_mem_cons.mpr ⟨rfl, List.forall_mem_cons.mpr ⟨rfl, fun _ h => absurd h List.not_mem_nil⟩⟩⟩⟩⟩⟩) ?_
                exact ih1022 (z1012 + 1) μ1030 (f_w + 4) T1031 (mF.call (mF.call mF.refl F1017 rfl) F1032 rfl) q1038 (rW (c := 0) (d := 20) (rAdd (e := 1) (f := 20) h1026 (rR (x := 1)) rfl) rfl) (vc_X12_write_65 h1019 h1024 h1029.2.1 h1029.2.2.1 h1029.2.2.2 h1036.1 h41.2.1 h741 h1023 h14 h25 h37 h1026 h1029.1 h1037 h43 h743) (vc_X12_write_66 (nS h1020) h1019 h1024 h1029.2.1 h1029.2.2.1 h1029.2.2.2 h41.2.1 h741 h1036.1 h1023 h14 h25 h37 h1026 h1029.1 h1037 h43 h743)
            refine mr_lvS (lv' := [(0, .ref 106), (3, iv p3), (4, iv (40 * (530 + z42))), (5, iv z53), (6, iv z57), (9, iv 0)]) (List.forall_mem_cons.mpr ⟨rfl, List.forall_mem_cons.mpr ⟨rfl, List.forall_mem_cons.mpr ⟨rfl, List.forall_mem_cons.mpr ⟨rfl, List.forall_mem_cons.mpr ⟨rfl, List.forall_mem_cons.mpr ⟨rfl, fun _ h => absurd h List.not_mem_nil⟩⟩⟩⟩⟩⟩) ?_
            exact L1014 22 0 μ753 (((((((((((((0 + 1) + 1) + 1) + 1) + 1) + 1) + 1) + 1) + 1) + 1) + 1) + 1) + 1) T754 mF.refl q761 (rW (c := 0) (d := 20) (rR (x := 0)) rfl) vc_X12_write_67 vc_X12_write_68
          refine mr_if_le (pc := 165) (tgt := 177) dX12_write_165 (by decide) (r32 h60 rfl) (fun h1039 => ?_) (fun h1039 => ?_)
          · have h1040 : 0 ≤ z57 ∧ z57 ≤ 0 := (vc_X12_write_32 h1039 h60)
            refine mr_iconst (pc := 177) (z := 0) dX12_write_177 ?_
            exact J78 0 (rW (c := 0) (d := 35) (rR (x := 0)) rfl)
          have h1041 : 1 ≤ z57 ∧ z57 ≤ 8 := (vc_X12_write_34 h1039 h60)
          refine mr_iconst (pc := 168) (z := 3) dX12_write_168 ?_
          refine mr_iconst (pc := 169) (z := 4) dX12_write_169 ?_
          refine mr_iload (pc := 170) (z := z57) dX12_write_170 rfl ?_
          refine mr_imul (pc := 172) (x := 4) (y := z57) dX12_write_172 ?_
          refine mr_iadd (pc := 173) (x := 3) (y := (4 * z57)) dX12_write_173 ?_
          refine sv_goto (pc := 174) (tgt := 178) dX12_write_174 (by decide) ?_
          exact J78 (3 + (4 * z57)) (rW (c := 0) (d := 35) (rAdd (e := 7) (f := 35) (rR (x := 3)) (rMulL (n := 4) (e := 4) (f := 32) h1041 rfl) rfl) rfl)
        refine mr_if_le (pc := 153) (tgt := 161) dX12_write_153 (by decide) h68.1 (fun h1042 => ?_) (fun h1042 => ?_)
        · have h1043 : (-2147483648) ≤ z66 ∧ z66 ≤ 0 := (vc_X12_write_47 h1042 h68.1)
          refine mr_iconst (pc := 161) (z := 0) dX12_write_161 ?_
          refine mr_lvS (lv' := [(0, .ref 106), (3, iv p3), (4, iv (40 * (530 + z42))), (5, iv z53), (6, iv z57), (7, iv z63)]) (List.forall_mem_cons.mpr ⟨rfl, List.forall_mem_cons.mpr ⟨rfl, List.forall_mem_cons.mpr ⟨rfl, List.forall_mem_cons.mpr ⟨rfl, List.forall_mem_cons.mpr ⟨rfl, List.forall_mem_cons.mpr ⟨rfl, fun _ h => absurd h List.not_mem_nil⟩⟩⟩⟩⟩⟩) ?_
          exact J73 0 (rW (c := 0) (d := 7) (rR (x := 0)) rfl)
        have h1044 : 1 ≤ z66 ∧ z66 ≤ 2147483647 := (vc_X12_write_49 h1042 h68.1)
        refine mr_bipush (pc := 156) (z := 7) dX12_write_156 (by decide) ?_
        refine sv_goto (pc := 158) (tgt := 162) dX12_write_158 (by decide) ?_
        refine mr_lvS (lv' := [(0, .ref 106), (3, iv p3), (4, iv (40 * (530 + z42))), (5, iv z53), (6, iv z57), (7, iv z63)]) (List.forall_mem_cons.mpr ⟨rfl, List.forall_mem_cons.mpr ⟨rfl, List.forall_mem_cons.mpr ⟨rfl, List.forall_mem_cons.mpr ⟨rfl, List.forall_mem_cons.mpr ⟨rfl, List.forall_mem_cons.mpr ⟨rfl, fun _ h => absurd h List.not_mem_nil⟩⟩⟩⟩⟩⟩) ?_
        exact J73 7 (rW (c := 0) (d := 7) (rR (x := 7)) rfl)
      refine mr_if_ne (pc := 124) (tgt := 131) dX12_write_124 (by decide) (r32 h56 rfl) (fun h1045 => ?_) (fun h1045 => ?_)
      · have h1046 : 1 ≤ z53 ∧ z53 ≤ 20 := (vc_X12_write_69 h1045 h56)
        refine mr_iconst (pc := 131) (z := 2) dX12_write_131 ?_
        refine mr_iconst (pc := 132) (z := 4) dX12_write_132 ?_
        refine mr_iload (pc := 133) (z := z53) dX12_write_133 rfl ?_
        refine mr_imul (pc := 135) (x := 4) (y := z53) dX12_write_135 ?_
        refine mr_iadd (pc := 136) (x := 2) (y := (4 * z53)) dX12_write_136 ?_
        refine mr_lvS (lv' := [(0, .ref 106), (3, iv p3), (4, iv (40 * (530 + z42))), (5, iv z53), (6, iv z57)]) (List.forall_mem_cons.mpr ⟨rfl, List.forall_mem_cons.mpr ⟨rfl, List.forall_mem_cons.mpr ⟨rfl, List.forall_mem_cons.mpr ⟨rfl, List.forall_mem_cons.mpr ⟨rfl, fun _ h => absurd h List.not_mem_nil⟩⟩⟩⟩⟩) ?_
        exact J65 (2 + (4 * z53)) (rW (c := 0) (d := 82) (rAdd (e := 6) (f := 82) (rR (x := 2)) (rMulL (n := 4) (e := 4) (f := 80) h1046 rfl) rfl) rfl)
      have h1047 : 0 ≤ z53 ∧ z53 ≤ 0 := (vc_X12_write_70 h1045 h56)
      refine mr_iconst (pc := 127) (z := 0) dX12_write_127 ?_
      refine sv_goto (pc := 128) (tgt := 137) dX12_write_128 (by decide) ?_
      refine mr_lvS (lv' := [(0, .ref 106), (3, iv p3), (4, iv (40 * (530 + z42))), (5, iv z53), (6, iv z57)]) (List.forall_mem_cons.mpr ⟨rfl, List.forall_mem_cons.mpr ⟨rfl, List.forall_mem_cons.mpr ⟨rfl, List.forall_mem_cons.mpr ⟨rfl, List.forall_mem_cons.mpr ⟨rfl, fun _ h => absurd h List.not_mem_nil⟩⟩⟩⟩⟩) ?_
      exact J65 0 (rW (c := 0) (d := 82) (rR (x := 0)) rfl)
    have h1048 : (-1) ≤ z47 ∧ z47 ≤ (-1) := (vc_X12_write_71 h51 h50)
    refine sv_aload_n (pc := 57) dX12_write_57 rfl rfl ?_
    refine mr_iconst (pc := 58) (z := 0) dX12_write_58 ?_
    refine mr_cVV (pc := 59) (c_X12_octet1 hw T46 (rW (c := (-2147483648)) (d := 2147483647) (rR (x := 0)) rfl) u45.1 vc_X12_write_19) (gOk _ _ _ _ _) dX12_write_59 (tX12_octet1 _ _ _ _ _) ⟨wV_X12_octet1, wL_X12_octet1⟩ wM_X12_674 (gCX12 _ _ _ _ _) rfl (A_106 hw) rfl ⟨le_t rfl, le_t rfl⟩ ⟨le_t rfl, le_t rfl⟩ rfl (le_t rfl) fun μ1049 T1050 F1051 h1052 => ?_
    obtain ⟨z1053, q1054, h1055⟩ := h1052
    have h1056 : (0 ≤ z1053 ∧ z1053 ≤ 300) := by rw [← q1054]; exact T1050 106 106 (A_106 hw) 104
    have q1057 : μ1049 106 104 = (0 + 1) := q1054.trans h1055.1
    refine sv_aload_n (pc := 62) dX12_write_62 rfl rfl ?_
    refine mr_iconst (pc := 63) (z := 1) dX12_write_63 ?_
    refine sv_aload_n (pc := 64) dX12_write_64 rfl rfl ?_
    refine gf_X12_4 (pc := 65) dX12_write_65 wF_X12_26 (A_106 hw) T1050 ?_
    refine mr_iload_n (pc := 68) (z := p3) dX12_write_68 rfl rfl ?_
    refine la_109 (pc := 69) dX12_write_69 (A_109 hw) T1050 (rIx (n := 10) h37 rfl) fun z1058 q1059 h1060 => ?_
    refine mr_bipush (pc := 70) (z := 7) dX12_write_70 (by decide) ?_
    refine mr_iadd (pc := 72) (x := z1058) (y := 7) dX12_write_72 ?_
    refine mr_bipush (pc := 73) (z := 8) dX12_write_73 (by decide) ?_
    refine mr_idiv (pc := 75) (x := (z1058 + 7)) (y := 8) dX12_write_75 (rW (c := 0) (d := 2147483647) (rAdd (e := 7) (f := 39) h1060 (rR (x := 7)) rfl) rfl) vc_X12_write_72 ?_
    refine mr_gen (P := fun z => 0 ≤ z ∧ z ≤ 4) (rDiv (rAdd (e := 7) (f := 39) h1060 (rR (x := 7)) rfl) rfl) fun z1061 q1062 h1063 => ?_
    refine mr_iadd (pc := 76) (x := 1) (y := z1061) dX12_write_76 ?_
    refine mr_cVV (pc := 77) (c_X12_octet1 hw T1050 (rW (c := (-2147483648)) (d := 2147483647) (rAdd (e := 1) (f := 5) (rR (x := 1)) h1063 rfl) rfl) q1057 vc_X12_write_20) (gOk _ _ _ _ _) dX12_write_77 (tX12_octet1 _ _ _ _ _) ⟨wV_X12_octet1, wL_X12_octet1⟩ wM_X12_674 (gCX12 _ _ _ _ _) rfl (A_106 hw) rfl ⟨le_t rfl, le_t rfl⟩ ⟨le_t rfl, le_t rfl⟩ rfl (le_t rfl) fun μ1064 T1065 F1066 h1067 => ?_
    obtain ⟨z1068, q1069, h1070⟩ := h1067
    have h1071 : (0 ≤ z1068 ∧ z1068 ≤ 300) := by rw [← q1069]; exact T1065 106 106 (A_106 hw) 104
    have q1072 : μ1064 106 104 = ((0 + 1) + 1) := q1069.trans h1070.1
    refine sv_aload_n (pc := 80) dX12_write_80 rfl rfl ?_
    refine mr_iload_n (pc := 81) (z := p3) dX12_write_81 rfl rfl ?_
    refine mr_cVV (pc := 82) (c_X12_prefixOut hw T1065 h37 q1072 vc_X12_write_73) (gOk _ _ _ _ _) dX12_write_82 (tX12_prefixOut _ _ _ _ _) ⟨wV_X12_prefixOut, wL_X12_prefixOut⟩ wM_X12_677 (gCX12 _ _ _ _ _) rfl (A_106 hw) rfl ⟨le_t rfl, le_t rfl⟩ ⟨le_t rfl, le_t rfl⟩ rfl (le_t rfl) fun μ1073 T1074 F1075 h1076 => ?_
    obtain ⟨z1077, q1078, h1079⟩ := h1076
    have h1080 : (0 ≤ z1077 ∧ z1077 ≤ 300) := by rw [← q1078]; exact T1074 106 106 (A_106 hw) 104
    refine sv_aload_n (pc := 85) dX12_write_85 rfl rfl ?_
    refine mr_iconst (pc := 86) (z := 0) dX12_write_86 ?_
    refine mr_cVV (pc := 87) (c_X12_octet1 hw T1074 (rW (c := (-2147483648)) (d := 2147483647) (rR (x := 0)) rfl) q1078 (vc_X12_write_74 h1079.1 h1080)) (gOk _ _ _ _ _) dX12_write_87 (tX12_octet1 _ _ _ _ _) ⟨wV_X12_octet1, wL_X12_octet1⟩ wM_X12_674 (gCX12 _ _ _ _ _) rfl (A_106 hw) rfl ⟨le_t rfl, le_t rfl⟩ ⟨le_t rfl, le_t rfl⟩ rfl (le_t rfl) fun μ1081 T1082 F1083 h1084 => ?_
    obtain ⟨z1085, q1086, h1087⟩ := h1084
    have h1088 : (0 ≤ z1085 ∧ z1085 ≤ 300) := by rw [← q1086]; exact T1082 106 106 (A_106 hw) 104
    have q1089 : μ1081 106 104 = (z1077 + 1) := q1086.trans h1087.1
    refine sv_aload_n (pc := 90) dX12_write_90 rfl rfl ?_
    refine mr_iconst (pc := 91) (z := 0) dX12_write_91 ?_
    refine mr_cVV (pc := 92) (c_X12_octet1 hw T1082 (rW (c := (-2147483648)) (d := 2147483647) (rR (x := 0)) rfl) q1089 (vc_X12_write_75 h1079.1 h1087.1 h1080 h1088)) (gOk _ _ _ _ _) dX12_write_92 (tX12_octet1 _ _ _ _ _) ⟨wV_X12_octet1, wL_X12_octet1⟩ wM_X12_674 (gCX12 _ _ _ _ _) rfl (A_106 hw) rfl ⟨le_t rfl, le_t rfl⟩ ⟨le_t rfl, le_t rfl⟩ rfl (le_t rfl) fun μ1090 T1091 F1092 h1093 => ?_
    obtain ⟨z1094, q1095, h1096⟩ := h1093
    have h1097 : (0 ≤ z1094 ∧ z1094 ≤ 300) := by rw [← q1095]; exact T1091 106 106 (A_106 hw) 104
    have q1098 : μ1090 106 104 = ((z1077 + 1) + 1) := q1095.trans h1096.1
    refine sv_aload_n (pc := 95) dX12_write_95 rfl rfl ?_
    refine gk_X12_104 (pc := 96) dX12_write_96 wF_X12_671 (A_106 hw) q1098 ?_
    exact mr_iret dX12_write_99 rfl (le_t rfl) (le_t rfl) T1091 (mF.call (mF.call (mF.call (mF.call (mF.call (mF.up mF.refl (A_106 hw) u45 rfl) F1051 rfl) F1066 rfl) F1075 rfl) F1083 rfl) F1092 rfl) ⟨(rW (c := (-2147483648)) (d := 2147483647) (rAdd (e := 2) (f := 302) (rAdd (e := 1) (f := 301) h1080 (rR (x := 1)) rfl) (rR (x := 1)) rfl) rfl), trivial⟩
  have h1099 : 0 ≤ z33 ∧ z33 ≤ 0 := (vc_X12_write_76 h34 h32.2.1 h32.2.2.1 hp3 h28 h32.1)
  have h1100 : p3 < 0 ∨ z26 ≤ p3 := (h32.2.2.1 (vc_X12_write_77 h32.2.1 h32.2.2.1 h34 hp3 h28 h1099))
  refine mr_iconst (pc := 25) (z := (-1)) dX12_write_25 ?_
  exact mr_iret dX12_write_26 rfl (le_t rfl) (le_t rfl) hT mF.refl ⟨(rW (c := (-2147483648)) (d := 2147483647) (rR (x := (-1))) rfl), trivial⟩
theorem vc_X12_octet_1 {p1 z1 z8 : Int} (h0 : z8 = 0) (h1 : (z8 = 1 → (0 : Int) ≤ p1 ∧ p1 ≤ (z1 - 1))) (h2 : (z8 = 0 → p1 < (0 : Int) ∨ (z1 - 1) < p1)) (h3 : (-2147483648) ≤ p1 ∧ p1 ≤ 2147483647) (h4 : 0 ≤ z1 ∧ z1 ≤ 300) (h5 : 0 ≤ z8 ∧ z8 ≤ 1) : 0 ≤ z8 ∧ z8 ≤ 0 := by omega
theorem vc_X12_octet_2 {p1 z1 z8 : Int} (h0 : (z8 = 1 → (0 : Int) ≤ p1 ∧ p1 ≤ (z1 - 1))) (h1 : (z8 = 0 → p1 < (0 : Int) ∨ (z1 - 1) < p1)) (h2 : z8 = 0) (h3 : (-2147483648) ≤ p1 ∧ p1 ≤ 2147483647) (h4 : 0 ≤ z1 ∧ z1 ≤ 300) (h5 : 0 ≤ z8 ∧ z8 ≤ 0) : z8 = 0 := by omega
theorem vc_X12_octet_3 {p1 z1 z8 : Int} (h0 : ¬ z8 = 0) (h1 : (z8 = 1 → (0 : Int) ≤ p1 ∧ p1 ≤ (z1 - 1))) (h2 : (z8 = 0 → p1 < (0 : Int) ∨ (z1 - 1) < p1)) (h3 : (-2147483648) ≤ p1 ∧ p1 ≤ 2147483647) (h4 : 0 ≤ z1 ∧ z1 ≤ 300) (h5 : 0 ≤ z8 ∧ z8 ≤ 1) : 1 ≤ z8 ∧ z8 ≤ 1 := by omega
theorem vc_X12_octet_4 {p1 z1 z8 : Int} (h0 : (z8 = 1 → (0 : Int) ≤ p1 ∧ p1 ≤ (z1 - 1))) (h1 : (z8 = 0 → p1 < (0 : Int) ∨ (z1 - 1) < p1)) (h2 : ¬ z8 = 0) (h3 : (-2147483648) ≤ p1 ∧ p1 ≤ 2147483647) (h4 : 0 ≤ z1 ∧ z1 ≤ 300) (h5 : 1 ≤ z8 ∧ z8 ≤ 1) : z8 = 1 := by omega
theorem vc_X12_octet_5 {p1 z1 z8 : Int} (h0 : (0 : Int) ≤ p1 ∧ p1 ≤ (z1 - 1)) (h1 : (z8 = 1 → (0 : Int) ≤ p1 ∧ p1 ≤ (z1 - 1))) (h2 : (z8 = 0 → p1 < (0 : Int) ∨ (z1 - 1) < p1)) (h3 : (-2147483648) ≤ p1 ∧ p1 ≤ 2147483647) (h4 : 0 ≤ z1 ∧ z1 ≤ 300) (h5 : 1 ≤ z8 ∧ z8 ≤ 1) : 0 ≤ p1 ∧ p1 ≤ 2147483647 := by omega
theorem vc_X12_octet_6 {p1 z1 z8 : Int} (h0 : (z8 = 1 → (0 : Int) ≤ p1 ∧ p1 ≤ (z1 - 1))) (h1 : (z8 = 0 → p1 < (0 : Int) ∨ (z1 - 1) < p1)) (h2 : (0 : Int) ≤ p1 ∧ p1 ≤ (z1 - 1)) (h3 : ¬ z8 = 0) (h4 : 0 ≤ p1 ∧ p1 ≤ 2147483647) (h5 : 0 ≤ z1 ∧ z1 ≤ 300) (h6 : 1 ≤ z8 ∧ z8 ≤ 1) : 0 ≤ p1 ∧ p1 < 300 := by omega
set_option maxRecDepth 4000 in
set_option maxHeartbeats 4000000 in
theorem c_X12_octet {l : Launch} {D : va_G} {c : Nat → ClassId} {H0 : Heap} {sa : Nat × Nat × (Nat → Int32)} {w : mW} {μ : mM} (hw : mWF w) (hT : mT w μ) {p1 : Int} (hp1 : (-2147483648) ≤ p1 ∧ p1 ≤ 2147483647) : sC (gG l D c H0 sa) mX12_octet 2 0 0 [.ref 106, iv p1] (mk w μ) (qP w μ (fun z => ((-2147483648) ≤ z ∧ z ≤ 2147483647) ∧ True)) := by
  refine sC.of rfl (by decide) (le_t rfl) ?_
  refine mr_lvE (lv' := [(0, .ref 106), (1, iv p1)]) rfl ?_
  refine mr_iload_n (pc := 0) (z := p1) dX12_octet_0 rfl rfl ?_
  refine mr_iconst (pc := 1) (z := 0) dX12_octet_1 ?_
  refine sv_aload_n (pc := 2) dX12_octet_2 rfl rfl ?_
  refine gf_X12_104 (pc := 3) dX12_octet_3 wF_X12_671 (A_106 hw) hT fun z1 q2 h3 => ?_
  refine mr_iconst (pc := 6) (z := 1) dX12_octet_6 ?_
  refine mr_isub (pc := 7) (x := z1) (y := 1) dX12_octet_7 ?_
  refine mr_cSP (pc := 8) (c_X12_in hw hT hp1 (rW (c := (-2147483648)) (d := 2147483647) (rR (x := 0)) rfl) (rW (c := (-2147483648)) (d := 2147483647) (rSub (e := (-1)) (f := 299) h3 (rR (x := 1)) rfl) rfl)) (gOk _ _ _ _ _) dX12_octet_8 (tX12_in _ _ _ _ _) wS_X12_in wM_X12_18 ⟨le_t rfl, le_t rfl⟩ ⟨le_t rfl, le_t rfl⟩ rfl (le_t rfl) fun z8 h7 => ?_
  refine mr_if_eq (pc := 11) (tgt := 23) dX12_octet_11 (by decide) (r32 h7.1 rfl) (fun h17 => ?_) (fun h17 => ?_)
  · have h18 : 0 ≤ z8 ∧ z8 ≤ 0 := (vc_X12_octet_1 h17 h7.2.1 h7.2.2.1 hp1 h3 h7.1)
    have h19 : p1 < (0 : Int) ∨ (z1 - 1) < p1 := (h7.2.2.1 (vc_X12_octet_2 h7.2.1 h7.2.2.1 h17 hp1 h3 h18))
    refine mr_ldc (pc := 23) (z := (-99999999)) dX12_octet_23 wG_X12_29 (by decide) ?_
    exact mr_iretP dX12_octet_25 rfl (le_t rfl) (le_t rfl) ⟨(rW (c := (-2147483648)) (d := 2147483647) (rR (x := (-99999999))) rfl), trivial⟩
  have h20 : 1 ≤ z8 ∧ z8 ≤ 1 := (vc_X12_octet_3 h17 h7.2.1 h7.2.2.1 hp1 h3 h7.1)
  have h21 : (0 : Int) ≤ p1 ∧ p1 ≤ (z1 - 1) := (h7.2.1 (vc_X12_octet_4 h7.2.1 h7.2.2.1 h17 hp1 h3 h20))
  have h22 : 0 ≤ p1 ∧ p1 ≤ 2147483647 := (vc_X12_octet_5 h21 h7.2.1 h7.2.2.1 hp1 h3 h20)
  refine sv_aload_n (pc := 14) dX12_octet_14 rfl rfl ?_
  refine gf_X12_103 (pc := 15) dX12_octet_15 wF_X12_484 (A_106 hw) hT ?_
  refine mr_iload_n (pc := 18) (z := p1) dX12_octet_18 rfl rfl ?_
  refine la_174 (pc := 19) dX12_octet_19 (A_174 hw) hT (vc_X12_octet_6 h7.2.1 h7.2.2.1 h21 h17 h22 h3 h20) fun z23 q24 h25 => ?_
  refine sv_goto (pc := 20) (tgt := 25) dX12_octet_20 (by decide) ?_
  exact mr_iretP dX12_octet_25 rfl (le_t rfl) (le_t rfl) ⟨h25, trivial⟩
theorem vc_X12_sends_1 {z222 : Int} (h0 : (11 - z222) < ((0 : Nat) : Int)) (h1 : 0 ≤ z222 ∧ z222 ≤ 10) : False := by omega
theorem vc_X12_sends_2 {z223 : Int} (h0 : ¬ z223 = (-99999999)) (h1 : (-99999999) ≤ z223 ∧ z223 ≤ 9) (h2 : z223 = (-99999999) ∨ (0 ≤ z223 ∧ z223 ≤ 9)) : 0 ≤ z223 ∧ z223 ≤ 9 := by omega
theorem vc_X12_sends_3 {z273 : Int} (h0 : z273 = -99999999 ∨ z273 = -4 ∨ (0 ≤ z273 ∧ z273 ≤ 19)) : -99999999 ≤ z273 ∧ z273 ≤ 19 := by omega
theorem vc_X12_sends_4 {z273 : Int} (h0 : (-99999999) ≤ z273 ∧ z273 ≤ 19) (h1 : z273 = -99999999 ∨ z273 = -4 ∨ (0 ≤ z273 ∧ z273 ≤ 19)) : z273 = -99999999 ∨ z273 = -4 ∨ (0 ≤ z273 ∧ z273 ≤ 19) := by omega
theorem vc_X12_sends_5 {z223 : Int} (h0 : z223 = (-99999999)) (h1 : (-99999999) ≤ z223 ∧ z223 ≤ 9) (h2 : z223 = (-99999999) ∨ (0 ≤ z223 ∧ z223 ≤ 9)) : (-99999999) ≤ z223 ∧ z223 ≤ (-99999999) := by omega
theorem vc_X12_sends_6  : (-(99999999 : Int) : Int) = -(99999999 : Int) ∨ (-(99999999 : Int) : Int) = -(4 : Int) ∨ ((0 : Int) ≤ (-(99999999 : Int) : Int) ∧ (-(99999999 : Int) : Int) ≤ (19 : Int)) := by omega
theorem vc_X12_sends_7 {z222 z233 : Int} (h0 : z222 < z233) (h1 : 0 ≤ z222 ∧ z222 ≤ 10) (h2 : 0 ≤ z233 ∧ z233 ≤ 10) : 0 ≤ z222 ∧ z222 ≤ 9 := by omega
theorem vc_X12_sends_8 {z222 z233 : Int} (h0 : z222 < z233) (h1 : 0 ≤ z222 ∧ z222 ≤ 9) (h2 : 0 ≤ z233 ∧ z233 ≤ 10) : 1 ≤ z233 ∧ z233 ≤ 10 := by omega
theorem vc_X12_sends_9 {z280 : Int} (h0 : z280 = -99999999 ∨ z280 = -4 ∨ (0 ≤ z280 ∧ z280 ≤ 19)) : -99999999 ≤ z280 ∧ z280 ≤ 19 := by omega
theorem vc_X12_sends_10 {z280 : Int} (h0 : z280 = (-99999999)) (h1 : (-99999999) ≤ z280 ∧ z280 ≤ 19) (h2 : z280 = -99999999 ∨ z280 = -4 ∨ (0 ≤ z280 ∧ z280 ≤ 19)) : (-99999999) ≤ z280 ∧ z280 ≤ (-99999999) := by omega
theorem vc_X12_sends_11 {N z222 z233 : Int} (h0 : (11 - z222) < N + 1) (h1 : z222 < z233) (h2 : 0 ≤ z222 ∧ z222 ≤ 9) (h3 : 1 ≤ z233 ∧ z233 ≤ 10) : (11 - (z222 + 1)) < N := by omega
theorem vc_X12_sends_12 {z223 : Int} (h0 : (-99999999) ≤ z223 ∧ z223 ≤ 9) (h1 : z223 = (-99999999) ∨ (0 ≤ z223 ∧ z223 ≤ 9)) : z223 = (-99999999) ∨ (0 ≤ z223 ∧ z223 ≤ 9) := by omega
theorem vc_X12_sends_13 {z280 : Int} (h0 : ¬ z280 = (-99999999)) (h1 : (-99999999) ≤ z280 ∧ z280 ≤ 19) (h2 : z280 = -99999999 ∨ z280 = -4 ∨ (0 ≤ z280 ∧ z280 ≤ 19)) : (-4) ≤ z280 ∧ z280 ≤ 19 := by omega
theorem vc_X12_sends_14 {z319 : Int} (h0 : ¬ z319 = 0) (h1 : 0 ≤ z319 ∧ z319 ≤ 1) : 1 ≤ z319 ∧ z319 ≤ 1 := by omega
theorem vc_X12_sends_15 {z222 z233 : Int} (h0 : z222 < z233) (h1 : 0 ≤ z222 ∧ z222 ≤ 9) (h2 : 1 ≤ z233 ∧ z233 ≤ 10) : z222 = (-99999999) ∨ (0 ≤ z222 ∧ z222 ≤ 9) := by omega
theorem vc_X12_sends_16 {z223 : Int} (h0 : ¬ z223 = (-99999999)) (h1 : 0 ≤ z223 ∧ z223 ≤ 9) (h2 : z223 = (-99999999) ∨ (0 ≤ z223 ∧ z223 ≤ 9)) : z223 = (-99999999) ∨ (0 ≤ z223 ∧ z223 ≤ 9) := by omega
theorem vc_X12_sends_17 {z312 z341 : Int} (h0 : z341 < z312) (h1 : 0 ≤ z312 ∧ z312 ≤ 32) (h2 : 0 ≤ z341 ∧ z341 ≤ 32) : 1 ≤ z312 ∧ z312 ≤ 32 := by omega
theorem vc_X12_sends_18 {z312 z341 : Int} (h0 : z341 < z312) (h1 : 1 ≤ z312 ∧ z312 ≤ 32) (h2 : 0 ≤ z341 ∧ z341 ≤ 32) : 0 ≤ z341 ∧ z341 ≤ 31 := by omega
theorem vc_X12_sends_19 {z319 : Int} (h0 : z319 = 0) (h1 : 0 ≤ z319 ∧ z319 ≤ 1) : 0 ≤ z319 ∧ z319 ≤ 0 := by omega
theorem vc_X12_sends_20  : (11 - 0) < ((12 : Nat) : Int) := by omega
theorem vc_X12_sends_21  : (((-99999999) : Int) : Int) = ((-99999999) : Int) ∨ ((0 : Int) ≤ (((-99999999) : Int) : Int) ∧ (((-99999999) : Int) : Int) ≤ (9 : Int)) := by omega
set_option maxRecDepth 4000 in
set_option maxHeartbeats 4000000 in
theorem c_X12_sends {l : Launch} {D : va_G} {c : Nat → ClassId} {H0 : Heap} {sa : Nat × Nat × (Nat → Int32)} {w : mW} {μ : mM} (hw : mWF w) (hT : mT w μ) {p1 : Int} (hp1 : 0 ≤ p1 ∧ p1 ≤ 9) {p2 : Int} (hp2 : (-2147483648) ≤ p2 ∧ p2 ≤ 2147483647) : sC (gG l D c H0 sa) mX12_sends 3 0 0 [.ref 106, iv p1, iv p2] (mk w μ) (qP w μ (fun z => ((-99999999) ≤ z ∧ z ≤ 19) ∧ (z = -99999999 ∨ z = -4 ∨ (0 ≤ z ∧ z ≤ 19)) ∧ True)) := by
  refine sC.of rfl (by decide) (le_t rfl) ?_
  refine mr_lvE (lv' := [(0, .ref 106), (1, iv p1), (2, iv p2)]) rfl ?_
  refine mr_ldc (pc := 0) (z := (-99999999)) dX12_sends_0 wG_X12_29 (by decide) ?_
  refine mr_istore_n (pc := 2) (lv' := [(3, iv (-99999999)), (0, .ref 106), (1, iv p1), (2, iv p2)]) dX12_sends_2 rfl (by decide) rfl ?_
  refine mr_iconst (pc := 3) (z := 0) dX12_sends_3 ?_
  refine mr_istore (pc := 4) (lv' := [(4, iv 0), (3, iv (-99999999)), (0, .ref 106), (1, iv p1), (2, iv p2)]) dX12_sends_4 (by decide) rfl ?_
  have L224 : ∀ (nL224 : Nat) (z223 z222 : Int), True → ((-99999999) ≤ z223 ∧ z223 ≤ 9) → (0 ≤ z222 ∧ z222 ≤ 10) → (z223 = (-99999999) ∨ (0 ≤ z223 ∧ z223 ≤ 9)) → (11 - z222) < (nL224 : Int) → sV (gG l D c H0 sa) mX12_sends (sRm 3 0 0) (sZ (gG l D c H0 sa) 0 0 (qP w μ (fun z => ((-99999999) ≤ z ∧ z ≤ 19) ∧ (z = -99999999 ∨ z = -4 ∨ (0 ≤ z ∧ z ≤ 19)) ∧ True))) 6 [(0, .ref 106), (1, iv p1), (2, iv p2), (3, iv z223), (4, iv z222)] [] (mk w μ) 0 0 := by
    intro nL224
    induction nL224 with
    | zero => intro z223 z222 _ h225 h226 h230 h231; exact ((vc_X12_sends_1 h231 h226)).elim
    | succ nL224 ih232 =>
      intro z223 z222 _ h225 h226 h230 h231
      refine mr_iload (pc := 6) (z := z222) dX12_sends_6 rfl ?_
      refine sv_aload_n (pc := 8) dX12_sends_8 rfl rfl ?_
      refine gf_X12_2 (pc := 9) dX12_sends_9 wF_X12_15 (A_106 hw) hT fun z233 q234 h235 => ?_
      refine mr_icmp_ge (pc := 12) (tgt := 87) dX12_sends_12 (by decide) (r32 h226 rfl) (r32 h235 rfl) (fun h264 => ?_) (fun h264 => ?_)
      · refine mr_iload_n (pc := 87) (z := z223) dX12_sends_87 rfl rfl ?_
        refine mr_ldc (pc := 88) (z := (-99999999)) dX12_sends_88 wG_X12_29 (by decide) ?_
        refine mr_icmp_ne (pc := 90) (tgt := 98) dX12_sends_90 (by decide) (r32 h225 rfl) (r32 (rR (x := (-99999999))) rfl) (fun h271 => ?_) (fun h271 => ?_)
        · have h272 : 0 ≤ z223 ∧ z223 ≤ 9 := (vc_X12_sends_2 h271 h225 h230)
          refine sv_aload_n (pc := 98) dX12_sends_98 rfl rfl ?_
          refine gf_X12_81 (pc := 99) dX12_sends_99 wF_X12_445 (A_106 hw) hT ?_
          refine mr_bipush (pc := 102) (z := 10) dX12_sends_102 (by decide) ?_
          refine mr_iload_n (pc := 104) (z := p1) dX12_sends_104 rfl rfl ?_
          refine mr_imul (pc := 105) (x := 10) (y := p1) dX12_sends_105 ?_
          refine mr_iload_n (pc := 106) (z := z223) dX12_sends_106 rfl rfl ?_
          refine mr_iadd (pc := 107) (x := (10 * p1)) (y := z223) dX12_sends_107 ?_
          refine la_161 (pc := 108) dX12_sends_108 (A_161 hw) hT (rIx (n := 100) (rAdd (e := 0) (f := 99) (rMulL (n := 10) (e := 0) (f := 90) hp1 rfl) h272 rfl) rfl) fun z273 q274 h275 => ?_
          have h276 : (-99999999) ≤ z273 ∧ z273 ≤ 19 := (vc_X12_sends_3 h275)
          exact mr_iretP dX12_sends_109 rfl (le_t rfl) (le_t rfl) ⟨h276, (vc_X12_sends_4 h276 h275), trivial⟩
        have h277 : (-99999999) ≤ z223 ∧ z223 ≤ (-99999999) := (vc_X12_sends_5 h271 h225 h230)
        refine mr_ldc (pc := 93) (z := (-99999999)) dX12_sends_93 wG_X12_29 (by decide) ?_
        refine sv_goto (pc := 95) (tgt := 109) dX12_sends_95 (by decide) ?_
        exact mr_iretP dX12_sends_109 rfl (le_t rfl) (le_t rfl) ⟨(rW (c := (-99999999)) (d := 19) (rR (x := (-99999999))) rfl), vc_X12_sends_6, trivial⟩
      have h278 : 0 ≤ z222 ∧ z222 ≤ 9 := (vc_X12_sends_7 h264 h226 h235)
      have h279 : 1 ≤ z233 ∧ z233 ≤ 10 := (vc_X12_sends_8 h264 h278 h235)
      refine sv_aload_n (pc := 15) dX12_sends_15 rfl rfl ?_
      refine gf_X12_81 (pc := 16) dX12_sends_16 wF_X12_445 (A_106 hw) hT ?_
      refine mr_bipush (pc := 19) (z := 10) dX12_sends_19 (by decide) ?_
      refine mr_iload_n (pc := 21) (z := p1) dX12_sends_21 rfl rfl ?_
      refine mr_imul (pc := 22) (x := 10) (y := p1) dX12_sends_22 ?_
      refine mr_iload (pc := 23) (z := z222) dX12_sends_23 rfl ?_
      refine mr_iadd (pc := 25) (x := (10 * p1)) (y := z222) dX12_sends_25 ?_
      refine la_161 (pc := 26) dX12_sends_26 (A_161 hw) hT (rIx (n := 100) (rAdd (e := 0) (f := 99) (rMulL (n := 10) (e := 0) (f := 90) hp1 rfl) h278 rfl) rfl) fun z280 q281 h282 => ?_
      have h283 : (-99999999) ≤ z280 ∧ z280 ≤ 19 := (vc_X12_sends_9 h282)
      refine mr_ldc (pc := 27) (z := (-99999999)) dX12_sends_27 wG_X12_29 (by decide) ?_
      refine mr_icmp_eq (pc := 29) (tgt := 81) dX12_sends_29 (by decide) (r32 h283 rfl) (r32 (rR (x := (-99999999))) rfl) (fun h306 => ?_) (fun h306 => ?_)
      · have h307 : (-99999999) ≤ z280 ∧ z280 ≤ (-99999999) := (vc_X12_sends_10 h306 h283 h282)
        refine mr_iinc (pc := 81) (lv' := [(4, iv (z222 + 1)), (0, .ref 106), (1, iv p1), (2, iv p2), (3, iv z223)]) dX12_sends_81 rfl (by decide) rfl ?_
        refine sv_goto (pc := 84) (tgt := 6) dX12_sends_84 (by decide) ?_
        refine mr_lvS (lv' := [(0, .ref 106), (1, iv p1), (2, iv p2), (3, iv z223), (4, iv (z222 + 1))]) (List.forall_mem_cons.mpr ⟨rfl, List.forall_mem_cons.mpr ⟨rfl, List.forall_mem_cons.mpr ⟨rfl, List.forall_mem_cons.mpr ⟨rfl, List.forall_mem_cons.mpr ⟨rfl, fun _ h => absurd h List.not_mem_nil⟩⟩⟩⟩⟩) ?_
        exact ih232 z223 (z222 + 1) trivial h225 (rW (c := 0) (d := 10) (rAdd (e := 1) (f := 10) h278 (rR (x := 1)) rfl) rfl) (vc_X12_sends_12 h225 h230) (vc_X12_sends_11 (nS h231) h264 h278 h279)
      have h308 : (-4) ≤ z280 ∧ z280 ≤ 19 := (vc_X12_sends_13 h306 h283 h282)
      refine sv_aload_n (pc := 32) dX12_sends_32 rfl rfl ?_
      refine gf_X12_3 (pc := 33) dX12_sends_33 wF_X12_22 (A_106 hw) hT ?_
      refine mr_iload (pc := 36) (z := z222) dX12_sends_36 rfl ?_
      refine la_108 (pc := 38) dX12_sends_38 (A_108 hw) hT (rIx (n := 10) h278 rfl) fun z309 q310 h311 => ?_
      refine sv_aload_n (pc := 39) dX12_sends_39 rfl rfl ?_
      refine gf_X12_4 (pc := 40) dX12_sends_40 wF_X12_26 (A_106 hw) hT ?_
      refine mr_iload (pc := 43) (z := z222) dX12_sends_43 rfl ?_
      refine la_109 (pc := 45) dX12_sends_45 (A_109 hw) hT (rIx (n := 10) h278 rfl) fun z312 q313 h314 => ?_
      refine mr_iload_n (pc := 46) (z := p2) dX12_sends_46 rfl rfl ?_
      refine mr_cSP (pc := 47) (c_X12_holds hw hT h311 (rW (c := (-2147483648)) (d := 2147483647) h314 rfl) hp2) (gOk _ _ _ _ _) dX12_sends_47 (tX12_holds _ _ _ _ _) wS_X12_holds wM_X12_142 ⟨le_t rfl, le_t rfl⟩ ⟨le_t rfl, le_t rfl⟩ rfl (le_t rfl) fun z319 h318 => ?_
      refine mr_if_ne (pc := 50) (tgt := 56) dX12_sends_50 (by decide) (r32 h318.1 rfl) (fun h329 => ?_) (fun h329 => ?_)
      · have h330 : 1 ≤ z319 ∧ z319 ≤ 1 := (vc_X12_sends_14 h329 h318.1)
        refine mr_iload_n (pc := 56) (z := z223) dX12_sends_56 rfl rfl ?_
        refine mr_ldc (pc := 57) (z := (-99999999)) dX12_sends_57 wG_X12_29 (by decide) ?_
        refine mr_icmp_eq (pc := 59) (tgt := 78) dX12_sends_59 (by decide) (r32 h225 rfl) (r32 (rR (x := (-99999999))) rfl) (fun h338 => ?_) (fun h338 => ?_)
        · have h339 : (-99999999) ≤ z223 ∧ z223 ≤ (-99999999) := (vc_X12_sends_5 h338 h225 h230)
          refine mr_iload (pc := 78) (z := z222) dX12_sends_78 rfl ?_
          refine mr_istore_n (pc := 80) (lv' := [(3, iv z222), (0, .ref 106), (1, iv p1), (2, iv p2), (4, iv z222)]) dX12_sends_80 rfl (by decide) rfl ?_
          refine mr_iinc (pc := 81) (lv' := [(4, iv (z222 + 1)), (3, iv z222), (0, .ref 106), (1, iv p1), (2, iv p2)]) dX12_sends_81 rfl (by decide) rfl ?_
          refine sv_goto (pc := 84) (tgt := 6) dX12_sends_84 (by decide) ?_
          refine mr_lvS (lv' := [(0, .ref 106), (1, iv p1), (2, iv p2), (3, iv z222), (4, iv (z222 + 1))]) (List.forall_mem_cons.mpr ⟨rfl, List.forall_mem_cons.mpr ⟨rfl, List.forall_mem_cons.mpr ⟨rfl, List.forall_mem_cons.mpr ⟨rfl, List.forall_mem_cons.mpr ⟨rfl, fun _ h => absurd h List.not_mem_nil⟩⟩⟩⟩⟩) ?_
          exact ih232 z222 (z222 + 1) trivial (rW (c := (-99999999)) (d := 9) h278 rfl) (rW (c := 0) (d := 10) (rAdd (e := 1) (f := 10) h278 (rR (x := 1)) rfl) rfl) (vc_X12_sends_15 h264 h278 h279) (vc_X12_sends_11 (nS h231) h264 h278 h279)
        have h340 : 0 ≤ z223 ∧ z223 ≤ 9 := (vc_X12_sends_2 h338 h225 h230)
        refine sv_aload_n (pc := 62) dX12_sends_62 rfl rfl ?_
        refine gf_X12_4 (pc := 63) dX12_sends_63 wF_X12_26 (A_106 hw) hT ?_
        refine mr_iload (pc := 66) (z := z222) dX12_sends_66 rfl ?_
        refine lk_109 (pc := 68) dX12_sends_68 (A_109 hw) (rIx (n := 10) h278 rfl) q313 ?_
        refine sv_aload_n (pc := 69) dX12_sends_69 rfl rfl ?_
        refine gf_X12_4 (pc := 70) dX12_sends_70 wF_X12_26 (A_106 hw) hT ?_
        refine mr_iload_n (pc := 73) (z := z223) dX12_sends_73 rfl rfl ?_
        refine la_109 (pc := 74) dX12_sends_74 (A_109 hw) hT (rIx (n := 10) h340 rfl) fun z341 q342 h343 => ?_
        refine mr_icmp_le (pc := 75) (tgt := 81) dX12_sends_75 (by decide) (r32 h314 rfl) (r32 h343 rfl) (fun h346 => ?_) (fun h346 => ?_)
        · refine mr_iinc (pc := 81) (lv' := [(4, iv (z222 + 1)), (0, .ref 106), (1, iv p1), (2, iv p2), (3, iv z223)]) dX12_sends_81 rfl (by decide) rfl ?_
          refine sv_goto (pc := 84) (tgt := 6) dX12_sends_84 (by decide) ?_
          refine mr_lvS (lv' := [(0, .ref 106), (1, iv p1), (2, iv p2), (3, iv z223), (4, iv (z222 + 1))]) (List.forall_mem_cons.mpr ⟨rfl, List.forall_mem_cons.mpr ⟨rfl, List.forall_mem_cons.mpr ⟨rfl, List.forall_mem_cons.mpr ⟨rfl, List.forall_mem_cons.mpr ⟨rfl, fun _ h => absurd h List.not_mem_nil⟩⟩⟩⟩⟩) ?_
          exact ih232 z223 (z222 + 1) trivial (rW (c := (-99999999)) (d := 9) h340 rfl) (rW (c := 0) (d := 10) (rAdd (e := 1) (f := 10) h278 (rR (x := 1)) rfl) rfl) (vc_X12_sends_16 h338 h340 h230) (vc_X12_sends_11 (nS h231) h264 h278 h279)
        have h347 : 1 ≤ z312 ∧ z312 ≤ 32 := (vc_X12_sends_17 h346 h314 h343)
        have h348 : 0 ≤ z341 ∧ z341 ≤ 31 := (vc_X12_sends_18 h346 h347 h343)
        refine mr_iload (pc := 78) (z := z222) dX12_sends_78 rfl ?_
        refine mr_istore_n (pc := 80) (lv' := [(3, iv z222), (0, .ref 106), (1, iv p1), (2, iv p2), (4, iv z222)]) dX12_sends_80 rfl (by decide) rfl ?_
        refine mr_iinc (pc := 81) (lv' := [(4, iv (z222 + 1)), (3, iv z222), (0, .ref 106), (1, iv p1), (2, iv p2)]) dX12_sends_81 rfl (by decide) rfl ?_
        refine sv_goto (pc := 84) (tgt := 6) dX12_sends_84 (by decide) ?_
        refine mr_lvS (lv' := [(0, .ref 106), (1, iv p1), (2, iv p2), (3, iv z222), (4, iv (z222 + 1))]) (List.forall_mem_cons.mpr ⟨rfl, List.forall_mem_cons.mpr ⟨rfl, List.forall_mem_cons.mpr ⟨rfl, List.forall_mem_cons.mpr ⟨rfl, List.forall_mem_cons.mpr ⟨rfl, fun _ h => absurd h List.not_mem_nil⟩⟩⟩⟩⟩) ?_
        exact ih232 z222 (z222 + 1) trivial (rW (c := (-99999999)) (d := 9) h278 rfl) (rW (c := 0) (d := 10) (rAdd (e := 1) (f := 10) h278 (rR (x := 1)) rfl) rfl) (vc_X12_sends_15 h264 h278 h279) (vc_X12_sends_11 (nS h231) h264 h278 h279)
      have h349 : 0 ≤ z319 ∧ z319 ≤ 0 := (vc_X12_sends_19 h329 h318.1)
      refine sv_goto (pc := 53) (tgt := 81) dX12_sends_53 (by decide) ?_
      refine mr_iinc (pc := 81) (lv' := [(4, iv (z222 + 1)), (0, .ref 106), (1, iv p1), (2, iv p2), (3, iv z223)]) dX12_sends_81 rfl (by decide) rfl ?_
      refine sv_goto (pc := 84) (tgt := 6) dX12_sends_84 (by decide) ?_
      refine mr_lvS (lv' := [(0, .ref 106), (1, iv p1), (2, iv p2), (3, iv z223), (4, iv (z222 + 1))]) (List.forall_mem_cons.mpr ⟨rfl, List.forall_mem_cons.mpr ⟨rfl, List.forall_mem_cons.mpr ⟨rfl, List.forall_mem_cons.mpr ⟨rfl, List.forall_mem_cons.mpr ⟨rfl, fun _ h => absurd h List.not_mem_nil⟩⟩⟩⟩⟩) ?_
      exact ih232 z223 (z222 + 1) trivial h225 (rW (c := 0) (d := 10) (rAdd (e := 1) (f := 10) h278 (rR (x := 1)) rfl) rfl) (vc_X12_sends_12 h225 h230) (vc_X12_sends_11 (nS h231) h264 h278 h279)
  refine mr_lvS (lv' := [(0, .ref 106), (1, iv p1), (2, iv p2), (3, iv (-99999999)), (4, iv 0)]) (List.forall_mem_cons.mpr ⟨rfl, List.forall_mem_cons.mpr ⟨rfl, List.forall_mem_cons.mpr ⟨rfl, List.forall_mem_cons.mpr ⟨rfl, List.forall_mem_cons.mpr ⟨rfl, fun _ h => absurd h List.not_mem_nil⟩⟩⟩⟩⟩) ?_
  exact L224 12 (-99999999) 0 trivial (rW (c := (-99999999)) (d := 9) (rR (x := (-99999999))) rfl) (rW (c := 0) (d := 10) (rR (x := 0)) rfl) vc_X12_sends_21 vc_X12_sends_20
theorem vc_X12_led_1 {p1 z1 z8 : Int} (h0 : z8 = 0) (h1 : (z8 = 1 → (0 : Int) ≤ p1 ∧ p1 ≤ (z1 - 1))) (h2 : (z8 = 0 → p1 < (0 : Int) ∨ (z1 - 1) < p1)) (h3 : (-2147483648) ≤ p1 ∧ p1 ≤ 2147483647) (h4 : 0 ≤ z1 ∧ z1 ≤ 12) (h5 : 0 ≤ z8 ∧ z8 ≤ 1) : 0 ≤ z8 ∧ z8 ≤ 0 := by omega
theorem vc_X12_led_2 {p1 z1 z8 : Int} (h0 : (z8 = 1 → (0 : Int) ≤ p1 ∧ p1 ≤ (z1 - 1))) (h1 : (z8 = 0 → p1 < (0 : Int) ∨ (z1 - 1) < p1)) (h2 : z8 = 0) (h3 : (-2147483648) ≤ p1 ∧ p1 ≤ 2147483647) (h4 : 0 ≤ z1 ∧ z1 ≤ 12) (h5 : 0 ≤ z8 ∧ z8 ≤ 0) : z8 = 0 := by omega
theorem vc_X12_led_3 {p1 z1 z8 : Int} (h0 : ¬ z8 = 0) (h1 : (z8 = 1 → (0 : Int) ≤ p1 ∧ p1 ≤ (z1 - 1))) (h2 : (z8 = 0 → p1 < (0 : Int) ∨ (z1 - 1) < p1)) (h3 : (-2147483648) ≤ p1 ∧ p1 ≤ 2147483647) (h4 : 0 ≤ z1 ∧ z1 ≤ 12) (h5 : 0 ≤ z8 ∧ z8 ≤ 1) : 1 ≤ z8 ∧ z8 ≤ 1 := by omega
theorem vc_X12_led_4 {p1 z1 z8 : Int} (h0 : (z8 = 1 → (0 : Int) ≤ p1 ∧ p1 ≤ (z1 - 1))) (h1 : (z8 = 0 → p1 < (0 : Int) ∨ (z1 - 1) < p1)) (h2 : ¬ z8 = 0) (h3 : (-2147483648) ≤ p1 ∧ p1 ≤ 2147483647) (h4 : 0 ≤ z1 ∧ z1 ≤ 12) (h5 : 1 ≤ z8 ∧ z8 ≤ 1) : z8 = 1 := by omega
theorem vc_X12_led_5 {p1 z1 z8 : Int} (h0 : (0 : Int) ≤ p1 ∧ p1 ≤ (z1 - 1)) (h1 : (z8 = 1 → (0 : Int) ≤ p1 ∧ p1 ≤ (z1 - 1))) (h2 : (z8 = 0 → p1 < (0 : Int) ∨ (z1 - 1) < p1)) (h3 : (-2147483648) ≤ p1 ∧ p1 ≤ 2147483647) (h4 : 0 ≤ z1 ∧ z1 ≤ 12) (h5 : 1 ≤ z8 ∧ z8 ≤ 1) : 0 ≤ p1 ∧ p1 ≤ 2147483647 := by omega
theorem vc_X12_led_6 {p1 z1 z8 : Int} (h0 : (z8 = 1 → (0 : Int) ≤ p1 ∧ p1 ≤ (z1 - 1))) (h1 : (z8 = 0 → p1 < (0 : Int) ∨ (z1 - 1) < p1)) (h2 : (0 : Int) ≤ p1 ∧ p1 ≤ (z1 - 1)) (h3 : ¬ z8 = 0) (h4 : 0 ≤ p1 ∧ p1 ≤ 2147483647) (h5 : 0 ≤ z1 ∧ z1 ≤ 12) (h6 : 1 ≤ z8 ∧ z8 ≤ 1) : 0 ≤ p1 ∧ p1 < 12 := by omega
set_option maxRecDepth 4000 in
set_option maxHeartbeats 4000000 in
theorem c_X12_led {l : Launch} {D : va_G} {c : Nat → ClassId} {H0 : Heap} {sa : Nat × Nat × (Nat → Int32)} {w : mW} {μ : mM} (hw : mWF w) (hT : mT w μ) {p1 : Int} (hp1 : (-2147483648) ≤ p1 ∧ p1 ≤ 2147483647) : sC (gG l D c H0 sa) mX12_led 2 0 0 [.ref 106, iv p1] (mk w μ) (qP w μ (fun z => ((-2147483648) ≤ z ∧ z ≤ 2147483647) ∧ True)) := by
  refine sC.of rfl (by decide) (le_t rfl) ?_
  refine mr_lvE (lv' := [(0, .ref 106), (1, iv p1)]) rfl ?_
  refine mr_iload_n (pc := 0) (z := p1) dX12_led_0 rfl rfl ?_
  refine mr_iconst (pc := 1) (z := 0) dX12_led_1 ?_
  refine sv_aload_n (pc := 2) dX12_led_2 rfl rfl ?_
  refine gf_X12_108 (pc := 3) dX12_led_3 wF_X12_692 (A_106 hw) hT fun z1 q2 h3 => ?_
  refine mr_iconst (pc := 6) (z := 1) dX12_led_6 ?_
  refine mr_isub (pc := 7) (x := z1) (y := 1) dX12_led_7 ?_
  refine mr_cSP (pc := 8) (c_X12_in hw hT hp1 (rW (c := (-2147483648)) (d := 2147483647) (rR (x := 0)) rfl) (rW (c := (-2147483648)) (d := 2147483647) (rSub (e := (-1)) (f := 11) h3 (rR (x := 1)) rfl) rfl)) (gOk _ _ _ _ _) dX12_led_8 (tX12_in _ _ _ _ _) wS_X12_in wM_X12_18 ⟨le_t rfl, le_t rfl⟩ ⟨le_t rfl, le_t rfl⟩ rfl (le_t rfl) fun z8 h7 => ?_
  refine mr_if_eq (pc := 11) (tgt := 23) dX12_led_11 (by decide) (r32 h7.1 rfl) (fun h17 => ?_) (fun h17 => ?_)
  · have h18 : 0 ≤ z8 ∧ z8 ≤ 0 := (vc_X12_led_1 h17 h7.2.1 h7.2.2.1 hp1 h3 h7.1)
    have h19 : p1 < (0 : Int) ∨ (z1 - 1) < p1 := (h7.2.2.1 (vc_X12_led_2 h7.2.1 h7.2.2.1 h17 hp1 h3 h18))
    refine mr_ldc (pc := 23) (z := (-99999999)) dX12_led_23 wG_X12_29 (by decide) ?_
    exact mr_iretP dX12_led_25 rfl (le_t rfl) (le_t rfl) ⟨(rW (c := (-2147483648)) (d := 2147483647) (rR (x := (-99999999))) rfl), trivial⟩
  have h20 : 1 ≤ z8 ∧ z8 ≤ 1 := (vc_X12_led_3 h17 h7.2.1 h7.2.2.1 hp1 h3 h7.1)
  have h21 : (0 : Int) ≤ p1 ∧ p1 ≤ (z1 - 1) := (h7.2.1 (vc_X12_led_4 h7.2.1 h7.2.2.1 h17 hp1 h3 h20))
  have h22 : 0 ≤ p1 ∧ p1 ≤ 2147483647 := (vc_X12_led_5 h21 h7.2.1 h7.2.2.1 hp1 h3 h20)
  refine sv_aload_n (pc := 14) dX12_led_14 rfl rfl ?_
  refine gf_X12_107 (pc := 15) dX12_led_15 wF_X12_490 (A_106 hw) hT ?_
  refine mr_iload_n (pc := 18) (z := p1) dX12_led_18 rfl rfl ?_
  refine la_176 (pc := 19) dX12_led_19 (A_176 hw) hT (vc_X12_led_6 h7.2.1 h7.2.2.1 h21 h17 h22 h3 h20) fun z23 q24 h25 => ?_
  refine sv_goto (pc := 20) (tgt := 25) dX12_led_20 (by decide) ?_
  exact mr_iretP dX12_led_25 rfl (le_t rfl) (le_t rfl) ⟨h25, trivial⟩
theorem vc_X12_demand_1 {p1 z1 z8 : Int} (h0 : z8 = 0) (h1 : (z8 = 1 → 0 ≤ p1 ∧ p1 < z1)) (h2 : (z8 = 0 → p1 < 0 ∨ z1 ≤ p1)) (h3 : (-2147483648) ≤ p1 ∧ p1 ≤ 2147483647) (h4 : 0 ≤ z1 ∧ z1 ≤ 10) (h5 : 0 ≤ z8 ∧ z8 ≤ 1) : 0 ≤ z8 ∧ z8 ≤ 0 := by omega
theorem vc_X12_demand_2 {p1 z1 z8 : Int} (h0 : (z8 = 1 → 0 ≤ p1 ∧ p1 < z1)) (h1 : (z8 = 0 → p1 < 0 ∨ z1 ≤ p1)) (h2 : z8 = 0) (h3 : (-2147483648) ≤ p1 ∧ p1 ≤ 2147483647) (h4 : 0 ≤ z1 ∧ z1 ≤ 10) (h5 : 0 ≤ z8 ∧ z8 ≤ 0) : z8 = 0 := by omega
theorem vc_X12_demand_3 {p1 z1 z8 : Int} (h0 : ¬ z8 = 0) (h1 : (z8 = 1 → 0 ≤ p1 ∧ p1 < z1)) (h2 : (z8 = 0 → p1 < 0 ∨ z1 ≤ p1)) (h3 : (-2147483648) ≤ p1 ∧ p1 ≤ 2147483647) (h4 : 0 ≤ z1 ∧ z1 ≤ 10) (h5 : 0 ≤ z8 ∧ z8 ≤ 1) : 1 ≤ z8 ∧ z8 ≤ 1 := by omega
theorem vc_X12_demand_4 {p1 z1 z8 : Int} (h0 : (z8 = 1 → 0 ≤ p1 ∧ p1 < z1)) (h1 : (z8 = 0 → p1 < 0 ∨ z1 ≤ p1)) (h2 : ¬ z8 = 0) (h3 : (-2147483648) ≤ p1 ∧ p1 ≤ 2147483647) (h4 : 0 ≤ z1 ∧ z1 ≤ 10) (h5 : 1 ≤ z8 ∧ z8 ≤ 1) : z8 = 1 := by omega
theorem vc_X12_demand_5 {p1 z1 z8 : Int} (h0 : 0 ≤ p1 ∧ p1 < z1) (h1 : (z8 = 1 → 0 ≤ p1 ∧ p1 < z1)) (h2 : (z8 = 0 → p1 < 0 ∨ z1 ≤ p1)) (h3 : (-2147483648) ≤ p1 ∧ p1 ≤ 2147483647) (h4 : 0 ≤ z1 ∧ z1 ≤ 10) (h5 : 1 ≤ z8 ∧ z8 ≤ 1) : 0 ≤ p1 ∧ p1 ≤ 9 := by omega
theorem vc_X12_demand_6 {p3 z19 : Int} (h0 : ¬ z19 = 0) (h1 : (z19 = 1 → (1 : Int) ≤ p3 ∧ p3 ≤ (1000000 : Int))) (h2 : (z19 = 0 → p3 < (1 : Int) ∨ (1000000 : Int) < p3)) (h3 : (-2147483648) ≤ p3 ∧ p3 ≤ 2147483647) (h4 : 0 ≤ z19 ∧ z19 ≤ 1) : 1 ≤ z19 ∧ z19 ≤ 1 := by omega
theorem vc_X12_demand_7 {p3 z19 : Int} (h0 : (z19 = 1 → (1 : Int) ≤ p3 ∧ p3 ≤ (1000000 : Int))) (h1 : (z19 = 0 → p3 < (1 : Int) ∨ (1000000 : Int) < p3)) (h2 : ¬ z19 = 0) (h3 : (-2147483648) ≤ p3 ∧ p3 ≤ 2147483647) (h4 : 1 ≤ z19 ∧ z19 ≤ 1) : z19 = 1 := by omega
theorem vc_X12_demand_8 {p3 z19 : Int} (h0 : (1 : Int) ≤ p3 ∧ p3 ≤ (1000000 : Int)) (h1 : (z19 = 1 → (1 : Int) ≤ p3 ∧ p3 ≤ (1000000 : Int))) (h2 : (z19 = 0 → p3 < (1 : Int) ∨ (1000000 : Int) < p3)) (h3 : (-2147483648) ≤ p3 ∧ p3 ≤ 2147483647) (h4 : 1 ≤ z19 ∧ z19 ≤ 1) : 1 ≤ p3 ∧ p3 ≤ 1000000 := by omega
theorem vc_X12_demand_9 {z24 : Int} (h0 : ¬ z24 = 16) (h1 : 0 ≤ z24 ∧ z24 ≤ 16) : 0 ≤ z24 ∧ z24 ≤ 15 := by omega
theorem vc_X12_demand_10 {z24 : Int} (h0 : z24 = 16) (h1 : 0 ≤ z24 ∧ z24 ≤ 16) : 16 ≤ z24 ∧ z24 ≤ 16 := by omega
theorem vc_X12_demand_11 {p3 z19 : Int} (h0 : z19 = 0) (h1 : (z19 = 1 → (1 : Int) ≤ p3 ∧ p3 ≤ (1000000 : Int))) (h2 : (z19 = 0 → p3 < (1 : Int) ∨ (1000000 : Int) < p3)) (h3 : (-2147483648) ≤ p3 ∧ p3 ≤ 2147483647) (h4 : 0 ≤ z19 ∧ z19 ≤ 1) : 0 ≤ z19 ∧ z19 ≤ 0 := by omega
theorem vc_X12_demand_12 {p3 z19 : Int} (h0 : (z19 = 1 → (1 : Int) ≤ p3 ∧ p3 ≤ (1000000 : Int))) (h1 : (z19 = 0 → p3 < (1 : Int) ∨ (1000000 : Int) < p3)) (h2 : z19 = 0) (h3 : (-2147483648) ≤ p3 ∧ p3 ≤ 2147483647) (h4 : 0 ≤ z19 ∧ z19 ≤ 0) : z19 = 0 := by omega
set_option maxRecDepth 4000 in
set_option maxHeartbeats 4000000 in
theorem c_X12_demand {l : Launch} {D : va_G} {c : Nat → ClassId} {H0 : Heap} {sa : Nat × Nat × (Nat → Int32)} {w : mW} {μ : mM} (hw : mWF w) (hT : mT w μ) {p1 : Int} (hp1 : (-2147483648) ≤ p1 ∧ p1 ≤ 2147483647) {p2 : Int} (hp2 : (-2147483648) ≤ p2 ∧ p2 ≤ 2147483647) {p3 : Int} (hp3 : (-2147483648) ≤ p3 ∧ p3 ≤ 2147483647) : sC (gG l D c H0 sa) mX12_demand 3 0 0 [.ref 106, iv p1, iv p2, iv p3] (mk w μ) (qI w [106109, 177999, 178999, 179999] μ (fun z μ1 => ((-2147483648) ≤ z ∧ z ≤ 2147483647) ∧ True)) := by
  refine sC.of rfl (by decide) (le_t rfl) ?_
  refine mr_lvE (lv' := [(0, .ref 106), (1, iv p1), (2, iv p2), (3, iv p3)]) rfl ?_
  refine sv_aload_n (pc := 0) dX12_demand_0 rfl rfl ?_
  refine mr_iload_n (pc := 1) (z := p1) dX12_demand_1 rfl rfl ?_
  obtain ⟨z1, q2⟩ : ∃ z, μ 106 5 = z := ⟨_, rfl⟩
  have h3 : (0 ≤ z1 ∧ z1 ≤ 10) := by rw [← q2]; exact hT 106 106 (A_106 hw) 5
  refine mr_cVP (pc := 2) (c_X12_isDomain hw hT hp1 q2) (gOk _ _ _ _ _) dX12_demand_2 (tX12_isDomain _ _ _ _ _) ⟨wV_X12_isDomain, wL_X12_isDomain⟩ wM_X12_49 (gCX12 _ _ _ _ _) rfl (A_106 hw) rfl ⟨le_t rfl, le_t rfl⟩ ⟨le_t rfl, le_t rfl⟩ rfl (le_t rfl) fun z8 h7 => ?_
  refine mr_if_eq (pc := 5) (tgt := 19) dX12_demand_5 (by decide) (r32 h7.1 rfl) (fun h9 => ?_) (fun h9 => ?_)
  · have h10 : 0 ≤ z8 ∧ z8 ≤ 0 := (vc_X12_demand_1 h9 h7.2.1 h7.2.2.1 hp1 h3 h7.1)
    have h11 : p1 < 0 ∨ z1 ≤ p1 := (h7.2.2.1 (vc_X12_demand_2 h7.2.1 h7.2.2.1 h9 hp1 h3 h10))
    refine mr_iconst (pc := 19) (z := (-1)) dX12_demand_19 ?_
    exact mr_iret dX12_demand_20 rfl (le_t rfl) (le_t rfl) hT mF.refl ⟨(rW (c := (-2147483648)) (d := 2147483647) (rR (x := (-1))) rfl), trivial⟩
  have h12 : 1 ≤ z8 ∧ z8 ≤ 1 := (vc_X12_demand_3 h9 h7.2.1 h7.2.2.1 hp1 h3 h7.1)
  have h13 : 0 ≤ p1 ∧ p1 < z1 := (h7.2.1 (vc_X12_demand_4 h7.2.1 h7.2.2.1 h9 hp1 h3 h12))
  have h14 : 0 ≤ p1 ∧ p1 ≤ 9 := (vc_X12_demand_5 h13 h7.2.1 h7.2.2.1 hp1 h3 h12)
  refine mr_iload_n (pc := 8) (z := p3) dX12_demand_8 rfl rfl ?_
  refine mr_iconst (pc := 9) (z := 1) dX12_demand_9 ?_
  refine mr_ldcw (pc := 10) (z := 1000000) dX12_demand_10 wG_X12_291 (by decide) ?_
  refine mr_cSP (pc := 13) (c_X12_in hw hT hp3 (rW (c := (-2147483648)) (d := 2147483647) (rR (x := 1)) rfl) (rW (c := (-2147483648)) (d := 2147483647) (rR (x := 1000000)) rfl)) (gOk _ _ _ _ _) dX12_demand_13 (tX12_in _ _ _ _ _) wS_X12_in wM_X12_18 ⟨le_t rfl, le_t rfl⟩ ⟨le_t rfl, le_t rfl⟩ rfl (le_t rfl) fun z19 h18 => ?_
  refine mr_if_ne (pc := 16) (tgt := 21) dX12_demand_16 (by decide) (r32 h18.1 rfl) (fun h20 => ?_) (fun h20 => ?_)
  · have h21 : 1 ≤ z19 ∧ z19 ≤ 1 := (vc_X12_demand_6 h20 h18.2.1 h18.2.2.1 hp3 h18.1)
    have h22 : (1 : Int) ≤ p3 ∧ p3 ≤ (1000000 : Int) := (h18.2.1 (vc_X12_demand_7 h18.2.1 h18.2.2.1 h20 hp3 h21))
    have h23 : 1 ≤ p3 ∧ p3 ≤ 1000000 := (vc_X12_demand_8 h22 h18.2.1 h18.2.2.1 hp3 h21)
    refine sv_aload_n (pc := 21) dX12_demand_21 rfl rfl ?_
    refine gf_X12_109 (pc := 22) dX12_demand_22 wF_X12_695 (A_106 hw) hT fun z24 q25 h26 => ?_
    refine mr_bipush (pc := 25) (z := 16) dX12_demand_25 (by decide) ?_
    refine mr_icmp_ne (pc := 27) (tgt := 33) dX12_demand_27 (by decide) (r32 h26 rfl) (r32 (rR (x := 16)) rfl) (fun h27 => ?_) (fun h27 => ?_)
    · have h28 : 0 ≤ z24 ∧ z24 ≤ 15 := (vc_X12_demand_9 h27 h26)
      refine sv_aload_n (pc := 33) dX12_demand_33 rfl rfl ?_
      refine gf_X12_110 (pc := 34) dX12_demand_34 wF_X12_493 (A_106 hw) hT ?_
      refine sv_aload_n (pc := 37) dX12_demand_37 rfl rfl ?_
      refine gk_X12_109 (pc := 38) dX12_demand_38 wF_X12_695 (A_106 hw) q25 ?_
      refine mr_iload_n (pc := 41) (z := p1) dX12_demand_41 rfl rfl ?_
      refine ss_177 (pc := 42) dX12_demand_42 (A_177 hw) hT (rIx (n := 16) h28 rfl) h14 fun μ29 u30 T31 => ?_
      refine sv_aload_n (pc := 43) dX12_demand_43 rfl rfl ?_
      refine gf_X12_111 (pc := 44) dX12_demand_44 wF_X12_496 (A_106 hw) T31 ?_
      refine sv_aload_n (pc := 47) dX12_demand_47 rfl rfl ?_
      refine gk_X12_109 (pc := 48) dX12_demand_48 wF_X12_695 (A_106 hw) (u30.f (Or.inl (mAt.ne (A_177 hw) (A_106 hw) rfl)) q25) ?_
      refine mr_iload_n (pc := 51) (z := p2) dX12_demand_51 rfl rfl ?_
      refine ss_178 (pc := 52) dX12_demand_52 (A_178 hw) T31 (rIx (n := 16) h28 rfl) hp2 fun μ32 u33 T34 => ?_
      refine sv_aload_n (pc := 53) dX12_demand_53 rfl rfl ?_
      refine gf_X12_112 (pc := 54) dX12_demand_54 wF_X12_499 (A_106 hw) T34 ?_
      refine sv_aload_n (pc := 57) dX12_demand_57 rfl rfl ?_
      refine gk_X12_109 (pc := 58) dX12_demand_58 wF_X12_695 (A_106 hw) (u33.f (Or.inl (mAt.ne (A_178 hw) (A_106 hw) rfl)) (u30.f (Or.inl (mAt.ne (A_177 hw) (A_106 hw) rfl)) q25)) ?_
      refine mr_iload_n (pc := 61) (z := p3) dX12_demand_61 rfl rfl ?_
      refine ss_179 (pc := 62) dX12_demand_62 (A_179 hw) T34 (rIx (n := 16) h28 rfl) (rW (c := (-2147483648)) (d := 2147483647) h23 rfl) fun μ35 u36 T37 => ?_
      refine sv_aload_n (pc := 63) dX12_demand_63 rfl rfl ?_
      refine sv_dup (pc := 64) dX12_demand_64 rfl ?_
      refine gk_X12_109 (pc := 65) dX12_demand_65 wF_X12_695 (A_106 hw) (u36.f (Or.inl (mAt.ne (A_179 hw) (A_106 hw) rfl)) (u33.f (Or.inl (mAt.ne (A_178 hw) (A_106 hw) rfl)) (u30.f (Or.inl (mAt.ne (A_177 hw) (A_106 hw) rfl)) q25))) ?_
      refine mr_iconst (pc := 68) (z := 1) dX12_demand_68 ?_
      refine mr_iadd (pc := 69) (x := z24) (y := 1) dX12_demand_69 ?_
      refine pf_X12_109 (pc := 70) dX12_demand_70 wF_X12_695 (A_106 hw) T37 (rW (c := 0) (d := 16) (rAdd (e := 1) (f := 16) h28 (rR (x := 1)) rfl) rfl) fun μ38 u39 T40 => ?_
      refine sv_aload_n (pc := 73) dX12_demand_73 rfl rfl ?_
      refine gk_X12_109 (pc := 74) dX12_demand_74 wF_X12_695 (A_106 hw) u39.1 ?_
      refine mr_iconst (pc := 77) (z := 1) dX12_demand_77 ?_
      refine mr_isub (pc := 78) (x := (z24 + 1)) (y := 1) dX12_demand_78 ?_
      exact mr_iret dX12_demand_79 rfl (le_t rfl) (le_t rfl) T40 (mF.up (mF.up (mF.up (mF.up mF.refl (A_177 hw) u30 rfl) (A_178 hw) u33 rfl) (A_179 hw) u36 rfl) (A_106 hw) u39 rfl) ⟨(rW (c := (-2147483648)) (d := 2147483647) (rSub (e := 0) (f := 15) (rAdd (e := 1) (f := 16) h28 (rR (x := 1)) rfl) (rR (x := 1)) rfl) rfl), trivial⟩
    have h41 : 16 ≤ z24 ∧ z24 ≤ 16 := (vc_X12_demand_10 h27 h26)
    refine mr_bipush (pc := 30) (z := (-3)) dX12_demand_30 (by decide) ?_
    exact mr_iret dX12_demand_32 rfl (le_t rfl) (le_t rfl) hT mF.refl ⟨(rW (c := (-2147483648)) (d := 2147483647) (rR (x := (-3))) rfl), trivial⟩
  have h42 : 0 ≤ z19 ∧ z19 ≤ 0 := (vc_X12_demand_11 h20 h18.2.1 h18.2.2.1 hp3 h18.1)
  have h43 : p3 < (1 : Int) ∨ (1000000 : Int) < p3 := (h18.2.2.1 (vc_X12_demand_12 h18.2.1 h18.2.2.1 h20 hp3 h42))
  refine mr_iconst (pc := 19) (z := (-1)) dX12_demand_19 ?_
  exact mr_iret dX12_demand_20 rfl (le_t rfl) (le_t rfl) hT mF.refl ⟨(rW (c := (-2147483648)) (d := 2147483647) (rR (x := (-1))) rfl), trivial⟩
theorem vc_X12_nodeOf_1 {z121 : Int} (h0 : (401 - z121) < ((0 : Nat) : Int)) (h1 : 0 ≤ z121 ∧ z121 ≤ 400) : False := by omega
theorem vc_X12_nodeOf_2  : (-(99999999 : Int) : Int) = -(99999999 : Int) ∨ ((0 : Int) ≤ (-(99999999 : Int) : Int) ∧ (-(99999999 : Int) : Int) ≤ (399 : Int)) := by omega
theorem vc_X12_nodeOf_3 {z121 z129 : Int} (h0 : z121 < z129) (h1 : 0 ≤ z121 ∧ z121 ≤ 400) (h2 : 0 ≤ z129 ∧ z129 ≤ 400) : 0 ≤ z121 ∧ z121 ≤ 399 := by omega
theorem vc_X12_nodeOf_4 {z121 z129 : Int} (h0 : z121 < z129) (h1 : 0 ≤ z121 ∧ z121 ≤ 399) (h2 : 0 ≤ z129 ∧ z129 ≤ 400) : 1 ≤ z129 ∧ z129 ≤ 400 := by omega
theorem vc_X12_nodeOf_5 {N z121 z129 : Int} (h0 : (401 - z121) < N + 1) (h1 : z121 < z129) (h2 : 0 ≤ z121 ∧ z121 ≤ 399) (h3 : 1 ≤ z129 ∧ z129 ≤ 400) : (401 - (z121 + 1)) < N := by omega
theorem vc_X12_nodeOf_6 {z121 z129 : Int} (h0 : z121 < z129) (h1 : 0 ≤ z121 ∧ z121 ≤ 399) (h2 : 1 ≤ z129 ∧ z129 ≤ 400) : z121 = -99999999 ∨ (0 ≤ z121 ∧ z121 ≤ 399) := by omega
theorem vc_X12_nodeOf_7  : (401 - 0) < ((402 : Nat) : Int) := by omega
set_option maxRecDepth 4000 in
set_option maxHeartbeats 4000000 in
theorem c_X12_nodeOf {l : Launch} {D : va_G} {c : Nat → ClassId} {H0 : Heap} {sa : Nat × Nat × (Nat → Int32)} {w : mW} {μ : mM} (hw : mWF w) (hT : mT w μ) {p1 : Int} (hp1 : (-2147483648) ≤ p1 ∧ p1 ≤ 2147483647) {p2 : Int} (hp2 : (-2147483648) ≤ p2 ∧ p2 ≤ 2147483647) : sC (gG l D c H0 sa) mX12_nodeOf 1 0 0 [.ref 106, iv p1, iv p2] (mk w μ) (qP w μ (fun z => ((-99999999) ≤ z ∧ z ≤ 399) ∧ (z = -99999999 ∨ (0 ≤ z ∧ z ≤ 399)) ∧ True)) := by
  refine sC.of rfl (by decide) (le_t rfl) ?_
  refine mr_lvE (lv' := [(0, .ref 106), (1, iv p1), (2, iv p2)]) rfl ?_
  refine mr_iconst (pc := 0) (z := 0) dX12_nodeOf_0 ?_
  refine mr_istore_n (pc := 1) (lv' := [(3, iv 0), (0, .ref 106), (1, iv p1), (2, iv p2)]) dX12_nodeOf_1 rfl (by decide) rfl ?_
  have L122 : ∀ (nL122 : Nat) (z121 : Int), True → (0 ≤ z121 ∧ z121 ≤ 400) → (401 - z121) < (nL122 : Int) → sV (gG l D c H0 sa) mX12_nodeOf (sRm 1 0 0) (sZ (gG l D c H0 sa) 0 0 (qP w μ (fun z => ((-99999999) ≤ z ∧ z ≤ 399) ∧ (z = -99999999 ∨ (0 ≤ z ∧ z ≤ 399)) ∧ True))) 2 [(0, .ref 106), (1, iv p1), (2, iv p2), (3, iv z121)] [] (mk w μ) 0 0 := by
    intro nL122
    induction nL122 with
    | zero => intro z121 _ h123 h127; exact ((vc_X12_nodeOf_1 h127 h123)).elim
    | succ nL122 ih128 =>
      intro z121 _ h123 h127
      refine mr_iload_n (pc := 2) (z := z121) dX12_nodeOf_2 rfl rfl ?_
      refine sv_aload_n (pc := 3) dX12_nodeOf_3 rfl rfl ?_
      refine gf_X12_116 (pc := 4) dX12_nodeOf_4 wF_X12_698 (A_106 hw) hT fun z129 q130 h131 => ?_
      refine mr_icmp_ge (pc := 7) (tgt := 38) dX12_nodeOf_7 (by decide) (r32 h123 rfl) (r32 h131 rfl) (fun h132 => ?_) (fun h132 => ?_)
      · refine mr_ldc (pc := 38) (z := (-99999999)) dX12_nodeOf_38 wG_X12_29 (by decide) ?_
        exact mr_iretP dX12_nodeOf_40 rfl (le_t rfl) (le_t rfl) ⟨(rW (c := (-99999999)) (d := 399) (rR (x := (-99999999))) rfl), vc_X12_nodeOf_2, trivial⟩
      have h133 : 0 ≤ z121 ∧ z121 ≤ 399 := (vc_X12_nodeOf_3 h132 h123 h131)
      have h134 : 1 ≤ z129 ∧ z129 ≤ 400 := (vc_X12_nodeOf_4 h132 h133 h131)
      refine sv_aload_n (pc := 10) dX12_nodeOf_10 rfl rfl ?_
      refine gf_X12_113 (pc := 11) dX12_nodeOf_11 wF_X12_502 (A_106 hw) hT ?_
      refine mr_iload_n (pc := 14) (z := z121) dX12_nodeOf_14 rfl rfl ?_
      refine la_180 (pc := 15) dX12_nodeOf_15 (A_180 hw) hT (rIx (n := 400) h133 rfl) fun z135 q136 h137 => ?_
      refine mr_iload_n (pc := 16) (z := p1) dX12_nodeOf_16 rfl rfl ?_
      refine mr_icmp_ne (pc := 17) (tgt := 32) dX12_nodeOf_17 (by decide) h137 hp1 (fun h138 => ?_) (fun h138 => ?_)
      · refine mr_iinc (pc := 32) (lv' := [(3, iv (z121 + 1)), (0, .ref 106), (1, iv p1), (2, iv p2)]) dX12_nodeOf_32 rfl (by decide) rfl ?_
        refine sv_goto (pc := 35) (tgt := 2) dX12_nodeOf_35 (by decide) ?_
        refine mr_lvS (lv' := [(0, .ref 106), (1, iv p1), (2, iv p2), (3, iv (z121 + 1))]) (List.forall_mem_cons.mpr ⟨rfl, List.forall_mem_cons.mpr ⟨rfl, List.forall_mem_cons.mpr ⟨rfl, List.forall_mem_cons.mpr ⟨rfl, fun _ h => absurd h List.not_mem_nil⟩⟩⟩⟩) ?_
        exact ih128 (z121 + 1) trivial (rW (c := 0) (d := 400) (rAdd (e := 1) (f := 400) h133 (rR (x := 1)) rfl) rfl) (vc_X12_nodeOf_5 (nS h127) h132 h133 h134)
      refine sv_aload_n (pc := 20) dX12_nodeOf_20 rfl rfl ?_
      refine gf_X12_114 (pc := 21) dX12_nodeOf_21 wF_X12_505 (A_106 hw) hT ?_
      refine mr_iload_n (pc := 24) (z := z121) dX12_nodeOf_24 rfl rfl ?_
      refine la_181 (pc := 25) dX12_nodeOf_25 (A_181 hw) hT (rIx (n := 400) h133 rfl) fun z139 q140 h141 => ?_
      refine mr_iload_n (pc := 26) (z := p2) dX12_nodeOf_26 rfl rfl ?_
      refine mr_icmp_ne (pc := 27) (tgt := 32) dX12_nodeOf_27 (by decide) h141 hp2 (fun h142 => ?_) (fun h142 => ?_)
      · refine mr_iinc (pc := 32) (lv' := [(3, iv (z121 + 1)), (0, .ref 106), (1, iv p1), (2, iv p2)]) dX12_nodeOf_32 rfl (by decide) rfl ?_
        refine sv_goto (pc := 35) (tgt := 2) dX12_nodeOf_35 (by decide) ?_
        refine mr_lvS (lv' := [(0, .ref 106), (1, iv p1), (2, iv p2), (3, iv (z121 + 1))]) (List.forall_mem_cons.mpr ⟨rfl, List.forall_mem_cons.mpr ⟨rfl, List.forall_mem_cons.mpr ⟨rfl, List.forall_mem_cons.mpr ⟨rfl, fun _ h => absurd h List.not_mem_nil⟩⟩⟩⟩) ?_
        exact ih128 (z121 + 1) trivial (rW (c := 0) (d := 400) (rAdd (e := 1) (f := 400) h133 (rR (x := 1)) rfl) rfl) (vc_X12_nodeOf_5 (nS h127) h132 h133 h134)
      refine mr_iload_n (pc := 30) (z := z121) dX12_nodeOf_30 rfl rfl ?_
      exact mr_iretP dX12_nodeOf_31 rfl (le_t rfl) (le_t rfl) ⟨(rW (c := (-99999999)) (d := 399) h133 rfl), (vc_X12_nodeOf_6 h132 h133 h134), trivial⟩
  refine mr_lvS (lv' := [(0, .ref 106), (1, iv p1), (2, iv p2), (3, iv 0)]) (List.forall_mem_cons.mpr ⟨rfl, List.forall_mem_cons.mpr ⟨rfl, List.forall_mem_cons.mpr ⟨rfl, List.forall_mem_cons.mpr ⟨rfl, fun _ h => absurd h List.not_mem_nil⟩⟩⟩⟩) ?_
  exact L122 402 0 trivial (rW (c := 0) (d := 400) (rR (x := 0)) rfl) vc_X12_nodeOf_7
theorem vc_X12_aim_1 {p1 : Int} (h0 : p1 = (-99999999)) (h1 : ¬ p1 = (-4)) (h2 : (-2147483648) ≤ p1 ∧ p1 ≤ 2147483647) : (-99999999) ≤ p1 ∧ p1 ≤ (-99999999) := by omega
theorem vc_X12_aim_2 {p1 : Int} (h0 : p1 = (-4)) (h1 : (-2147483648) ≤ p1 ∧ p1 ≤ 2147483647) : (-4) ≤ p1 ∧ p1 ≤ (-4) := by omega
set_option maxRecDepth 4000 in
set_option maxHeartbeats 4000000 in
theorem c_X12_aim {l : Launch} {D : va_G} {c : Nat → ClassId} {H0 : Heap} {sa : Nat × Nat × (Nat → Int32)} {w : mW} {μ : mM} (hw : mWF w) (hT : mT w μ) {p1 : Int} (hp1 : (-2147483648) ≤ p1 ∧ p1 ≤ 2147483647) : sC (gG l D c H0 sa) mX12_aim 1 0 0 [iv p1] (mk w μ) (qP w μ (fun z => ((-2147483648) ≤ z ∧ z ≤ 2147483647) ∧ True)) := by
  refine sC.of rfl (by decide) (le_t rfl) ?_
  refine mr_lvE (lv' := [(0, iv p1)]) rfl ?_
  refine mr_iload_n (pc := 0) (z := p1) dX12_aim_0 rfl rfl ?_
  refine mr_bipush (pc := 1) (z := (-4)) dX12_aim_1 (by decide) ?_
  refine mr_icmp_ne (pc := 3) (tgt := 11) dX12_aim_3 (by decide) hp1 (r32 (rR (x := (-4))) rfl) (fun h3 => ?_) (fun h3 => ?_)
  · refine mr_iload_n (pc := 11) (z := p1) dX12_aim_11 rfl rfl ?_
    refine mr_ldc (pc := 12) (z := (-99999999)) dX12_aim_12 wG_X12_29 (by decide) ?_
    refine mr_icmp_ne (pc := 14) (tgt := 22) dX12_aim_14 (by decide) hp1 (r32 (rR (x := (-99999999))) rfl) (fun h5 => ?_) (fun h5 => ?_)
    · refine mr_iload_n (pc := 22) (z := p1) dX12_aim_22 rfl rfl ?_
      exact mr_iretP dX12_aim_23 rfl (le_t rfl) (le_t rfl) ⟨hp1, trivial⟩
    have h6 : (-99999999) ≤ p1 ∧ p1 ≤ (-99999999) := (vc_X12_aim_1 h5 h3 hp1)
    refine mr_bipush (pc := 17) (z := 21) dX12_aim_17 (by decide) ?_
    refine sv_goto (pc := 19) (tgt := 23) dX12_aim_19 (by decide) ?_
    exact mr_iretP dX12_aim_23 rfl (le_t rfl) (le_t rfl) ⟨(rW (c := (-2147483648)) (d := 2147483647) (rR (x := 21)) rfl), trivial⟩
  have h7 : (-4) ≤ p1 ∧ p1 ≤ (-4) := (vc_X12_aim_2 h3 hp1)
  refine mr_bipush (pc := 6) (z := 20) dX12_aim_6 (by decide) ?_
  refine sv_goto (pc := 8) (tgt := 23) dX12_aim_8 (by decide) ?_
  exact mr_iretP dX12_aim_23 rfl (le_t rfl) (le_t rfl) ⟨(rW (c := (-2147483648)) (d := 2147483647) (rR (x := 20)) rfl), trivial⟩
