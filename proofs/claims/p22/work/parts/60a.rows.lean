section
set_option maxRecDepth 4000 in
set_option maxHeartbeats 4000000 in
theorem c_X7_begin {l : Launch} {D : va_G} {c : Nat → ClassId} {H0 : Heap} {sa : Nat × Nat × (Nat → Int32)} {w : mW} {μ : mM} (hw : mWF w) (hT : mT w μ) {a0 : Nat} (hA0 : mAt w a0 200) {p1 : Int} (hp1 : 0 ≤ p1 ∧ p1 ≤ 9) {p2 : Int} (hp2 : (-2147483648) ≤ p2 ∧ p2 ≤ 2147483647) : sC (gG l D c H0 sa) mX7_begin 1 0 0 [.ref a0, iv p1, iv p2] (mk w μ) (qV w [200002, 200003, 200004, 200005, 200006, 200007, 200008] μ (fun μ1 => True)) := by
  refine sC.of rfl (by decide) (le_t rfl) ?_
  refine mr_lvE (lv' := [(0, .ref a0), (1, iv p1), (2, iv p2)]) rfl ?_
  refine sv_aload_n (pc := 0) dX7_begin_0 rfl rfl ?_
  refine mr_iconst (pc := 1) (z := 1) dX7_begin_1 ?_
  refine pf_X7_2 (pc := 2) dX7_begin_2 wF_X7_22 hA0 hT (rW (c := 0) (d := 1) (rR (x := 1)) rfl) fun μ1 u2 T3 => ?_
  refine sv_aload_n (pc := 5) dX7_begin_5 rfl rfl ?_
  refine mr_iload_n (pc := 6) (z := p1) dX7_begin_6 rfl rfl ?_
  refine pf_X7_3 (pc := 7) dX7_begin_7 wF_X7_26 hA0 T3 hp1 fun μ4 u5 T6 => ?_
  refine sv_aload_n (pc := 10) dX7_begin_10 rfl rfl ?_
  refine mr_bipush (pc := 11) (z := 100) dX7_begin_11 (by decide) ?_
  refine pf_X7_4 (pc := 13) dX7_begin_13 wF_X7_29 hA0 T6 (rW (c := (-2147483648)) (d := 2147483647) (rR (x := 100)) rfl) fun μ7 u8 T9 => ?_
  refine sv_aload_n (pc := 16) dX7_begin_16 rfl rfl ?_
  refine mr_iload_n (pc := 17) (z := p2) dX7_begin_17 rfl rfl ?_
  refine pf_X7_5 (pc := 18) dX7_begin_18 wF_X7_32 hA0 T9 hp2 fun μ10 u11 T12 => ?_
  refine sv_aload_n (pc := 21) dX7_begin_21 rfl rfl ?_
  refine mr_iconst (pc := 22) (z := 0) dX7_begin_22 ?_
  refine pf_X7_6 (pc := 23) dX7_begin_23 wF_X7_35 hA0 T12 (rW (c := (-2147483648)) (d := 2147483647) (rR (x := 0)) rfl) fun μ13 u14 T15 => ?_
  refine sv_aload_n (pc := 26) dX7_begin_26 rfl rfl ?_
  refine mr_iconst (pc := 27) (z := 0) dX7_begin_27 ?_
  refine pf_X7_7 (pc := 28) dX7_begin_28 wF_X7_38 hA0 T15 (rW (c := 0) (d := 20) (rR (x := 0)) rfl) fun μ16 u17 T18 => ?_
  refine sv_aload_n (pc := 31) dX7_begin_31 rfl rfl ?_
  refine mr_iconst (pc := 32) (z := 0) dX7_begin_32 ?_
  refine pf_X7_8 (pc := 33) dX7_begin_33 wF_X7_41 hA0 T18 (rW (c := 0) (d := 8) (rR (x := 0)) rfl) fun μ19 u20 T21 => ?_
  exact mr_vret dX7_begin_36 rfl (le_t rfl) (le_t rfl) T21 (mF.up (mF.up (mF.up (mF.up (mF.up (mF.up (mF.up mF.refl hA0 u2 rfl) hA0 u5 rfl) hA0 u8 rfl) hA0 u11 rfl) hA0 u14 rfl) hA0 u17 rfl) hA0 u20 rfl) trivial
set_option maxRecDepth 4000 in
set_option maxHeartbeats 4000000 in
theorem c_X7_vanish {l : Launch} {D : va_G} {c : Nat → ClassId} {H0 : Heap} {sa : Nat × Nat × (Nat → Int32)} {w : mW} {μ : mM} (hw : mWF w) (hT : mT w μ) {a0 : Nat} (hA0 : mAt w a0 200) : sC (gG l D c H0 sa) mX7_vanish 1 0 0 [.ref a0] (mk w μ) (qV w [200002, 200009] μ (fun μ1 => True)) := by
  refine sC.of rfl (by decide) (le_t rfl) ?_
  refine mr_lvE (lv' := [(0, .ref a0)]) rfl ?_
  refine sv_aload_n (pc := 0) dX7_vanish_0 rfl rfl ?_
  refine mr_iconst (pc := 1) (z := 0) dX7_vanish_1 ?_
  refine pf_X7_2 (pc := 2) dX7_vanish_2 wF_X7_22 hA0 hT (rW (c := 0) (d := 1) (rR (x := 0)) rfl) fun μ1 u2 T3 => ?_
  refine sv_aload_n (pc := 5) dX7_vanish_5 rfl rfl ?_
  refine mr_iconst (pc := 6) (z := (-1)) dX7_vanish_6 ?_
  refine pf_X7_9 (pc := 7) dX7_vanish_7 wF_X7_18 hA0 T3 (rW (c := (-1)) (d := 2000000000) (rR (x := (-1))) rfl) fun μ4 u5 T6 => ?_
  exact mr_vret dX7_vanish_10 rfl (le_t rfl) (le_t rfl) T6 (mF.up (mF.up mF.refl hA0 u2 rfl) hA0 u5 rfl) trivial
theorem vc_X7_become_1  : (0 : Int) ≤ (0 : Int) := by omega
theorem vc_X7_become_2 {z45 : Int} (h0 : 0 ≤ z45 ∧ z45 ≤ 20) : 0 ≤ z45 := by omega
theorem vc_X7_become_3 {z45 : Int} (h0 : 0 ≤ z45 ∧ z45 ≤ 20) : 0 + z45 ≤ ((20 : Nat) : Int) := by omega
theorem vc_X7_become_4 {z54 : Int} (h0 : 0 ≤ z54 ∧ z54 ≤ 8) : 0 ≤ z54 := by omega
theorem vc_X7_become_5 {z54 : Int} (h0 : 0 ≤ z54 ∧ z54 ≤ 8) : 0 + z54 ≤ ((8 : Nat) : Int) := by omega
set_option maxRecDepth 4000 in
set_option maxHeartbeats 4000000 in
theorem c_X7_become {l : Launch} {D : va_G} {c : Nat → ClassId} {H0 : Heap} {sa : Nat × Nat × (Nat → Int32)} {w : mW} {μ : mM} (hw : mWF w) (hT : mT w μ) {a0 : Nat} (hA0 : mAt w a0 200) {a1 : Nat} (hA1 : mAt w a1 200) : sC (gG l D c H0 sa) mX7_become 3 0 0 [.ref a0, .ref a1] (mk w μ) (qV w [200002, 200003, 200004, 200005, 200006, 200007, 200008, 201999, 202999] μ (fun μ1 => True)) := by
  refine sC.of rfl (by decide) (le_t rfl) ?_
  refine mr_lvE (lv' := [(0, .ref a0), (1, .ref a1)]) rfl ?_
  refine sv_aload_n (pc := 0) dX7_become_0 rfl rfl ?_
  refine sv_aload_n (pc := 1) dX7_become_1 rfl rfl ?_
  refine gf_X7_2 (pc := 2) dX7_become_2 wF_X7_22 hA1 hT fun z1 q2 h3 => ?_
  refine pf_X7_2 (pc := 5) dX7_become_5 wF_X7_22 hA0 hT h3 fun μ4 u5 T6 => ?_
  refine sv_aload_n (pc := 8) dX7_become_8 rfl rfl ?_
  refine sv_aload_n (pc := 9) dX7_become_9 rfl rfl ?_
  refine gf_X7_3 (pc := 10) dX7_become_10 wF_X7_26 hA1 T6 fun z7 q8 h9 => ?_
  refine pf_X7_3 (pc := 13) dX7_become_13 wF_X7_26 hA0 T6 h9 fun μ10 u11 T12 => ?_
  refine sv_aload_n (pc := 16) dX7_become_16 rfl rfl ?_
  refine sv_aload_n (pc := 17) dX7_become_17 rfl rfl ?_
  refine gf_X7_4 (pc := 18) dX7_become_18 wF_X7_29 hA1 T12 fun z13 q14 h15 => ?_
  refine pf_X7_4 (pc := 21) dX7_become_21 wF_X7_29 hA0 T12 h15 fun μ16 u17 T18 => ?_
  refine sv_aload_n (pc := 24) dX7_become_24 rfl rfl ?_
  refine sv_aload_n (pc := 25) dX7_become_25 rfl rfl ?_
  refine gf_X7_5 (pc := 26) dX7_become_26 wF_X7_32 hA1 T18 fun z19 q20 h21 => ?_
  refine pf_X7_5 (pc := 29) dX7_become_29 wF_X7_32 hA0 T18 h21 fun μ22 u23 T24 => ?_
  refine sv_aload_n (pc := 32) dX7_become_32 rfl rfl ?_
  refine sv_aload_n (pc := 33) dX7_become_33 rfl rfl ?_
  refine gf_X7_6 (pc := 34) dX7_become_34 wF_X7_35 hA1 T24 fun z25 q26 h27 => ?_
  refine pf_X7_6 (pc := 37) dX7_become_37 wF_X7_35 hA0 T24 h27 fun μ28 u29 T30 => ?_
  refine sv_aload_n (pc := 40) dX7_become_40 rfl rfl ?_
  refine sv_aload_n (pc := 41) dX7_become_41 rfl rfl ?_
  refine gf_X7_7 (pc := 42) dX7_become_42 wF_X7_38 hA1 T30 fun z31 q32 h33 => ?_
  refine pf_X7_7 (pc := 45) dX7_become_45 wF_X7_38 hA0 T30 h33 fun μ34 u35 T36 => ?_
  refine sv_aload_n (pc := 48) dX7_become_48 rfl rfl ?_
  refine sv_aload_n (pc := 49) dX7_become_49 rfl rfl ?_
  refine gf_X7_8 (pc := 50) dX7_become_50 wF_X7_41 hA1 T36 fun z37 q38 h39 => ?_
  refine pf_X7_8 (pc := 53) dX7_become_53 wF_X7_41 hA0 T36 h39 fun μ40 u41 T42 => ?_
  refine sv_aload_n (pc := 56) dX7_become_56 rfl rfl ?_
  refine gf_X7_0 (pc := 57) dX7_become_57 wF_X7_9 hA1 T42 fun A43 => ?_
  refine mr_iconst (pc := 60) (z := 0) dX7_become_60 ?_
  refine sv_aload_n (pc := 61) dX7_become_61 rfl rfl ?_
  refine gf_X7_0 (pc := 62) dX7_become_62 wF_X7_9 hA0 T42 fun A44 => ?_
  refine mr_iconst (pc := 65) (z := 0) dX7_become_65 ?_
  refine sv_aload_n (pc := 66) dX7_become_66 rfl rfl ?_
  refine gf_X7_7 (pc := 67) dX7_become_67 wF_X7_38 hA1 T42 fun z45 q46 h47 => ?_
  refine mr_ac (pc := 70) (sp := 0) (dp := 0) (n := z45) dX7_become_70 wM_X7_44 wN_J_ac wS_J_ac wI_J_sys rfl A43 rfl A44 rfl vc_X7_become_1 vc_X7_become_1 (vc_X7_become_2 h47) (by have h := A43.2.2.2 rfl; rw [h]; exact (vc_X7_become_3 h47)) (by have h := A44.2.2.2 rfl; rw [h]; exact (vc_X7_become_3 h47)) (Nat.le_trans A43.2.2.1 (le_t rfl)) (Nat.le_trans A44.2.2.1 (le_t rfl)) (le_t rfl) (le_t rfl) (le_t rfl) T42 (fun i j _ _ => rW (T42 _ _ A43 i) rfl) fun μ48 q49 T50 => ?_
  have F51 : mF [201999] w μ40 μ48 := mF.cell q49.1 A44 rfl
  refine sv_aload_n (pc := 73) dX7_become_73 rfl rfl ?_
  refine gf_X7_1 (pc := 74) dX7_become_74 wF_X7_15 hA1 T50 fun A52 => ?_
  refine mr_iconst (pc := 77) (z := 0) dX7_become_77 ?_
  refine sv_aload_n (pc := 78) dX7_become_78 rfl rfl ?_
  refine gf_X7_1 (pc := 79) dX7_become_79 wF_X7_15 hA0 T50 fun A53 => ?_
  refine mr_iconst (pc := 82) (z := 0) dX7_become_82 ?_
  refine sv_aload_n (pc := 83) dX7_become_83 rfl rfl ?_
  refine gf_X7_8 (pc := 84) dX7_become_84 wF_X7_41 hA1 T50 fun z54 q55 h56 => ?_
  refine mr_ac (pc := 87) (sp := 0) (dp := 0) (n := z54) dX7_become_87 wM_X7_44 wN_J_ac wS_J_ac wI_J_sys rfl A52 rfl A53 rfl vc_X7_become_1 vc_X7_become_1 (vc_X7_become_4 h56) (by have h := A52.2.2.2 rfl; rw [h]; exact (vc_X7_become_5 h56)) (by have h := A53.2.2.2 rfl; rw [h]; exact (vc_X7_become_5 h56)) (Nat.le_trans A52.2.2.1 (le_t rfl)) (Nat.le_trans A53.2.2.1 (le_t rfl)) (le_t rfl) (le_t rfl) (le_t rfl) T50 (fun i j _ _ => rW (T50 _ _ A52 i) rfl) fun μ57 q58 T59 => ?_
  have F60 : mF [202999] w μ48 μ57 := mF.cell q58.1 A53 rfl
  exact mr_vret dX7_become_90 rfl (le_t rfl) (le_t rfl) T59 (mF.call (mF.call (mF.up (mF.up (mF.up (mF.up (mF.up (mF.up (mF.up mF.refl hA0 u5 rfl) hA0 u11 rfl) hA0 u17 rfl) hA0 u23 rfl) hA0 u29 rfl) hA0 u35 rfl) hA0 u41 rfl) F51 rfl) F60 rfl) trivial
theorem vc_X7_isAlike_2 {z1 z6 : Int} (h0 : ¬ z1 = z6) (h1 : z1 = 0) (h2 : 0 ≤ z1 ∧ z1 ≤ 0) (h3 : 0 ≤ z6 ∧ z6 ≤ 1) : 1 ≤ z6 ∧ z6 ≤ 1 := by omega
theorem vc_X7_isAlike_3 {z1 z6 : Int} (h0 : z1 = z6) (h1 : z1 = 0) (h2 : 0 ≤ z1 ∧ z1 ≤ 0) (h3 : 0 ≤ z6 ∧ z6 ≤ 1) : 0 ≤ z6 ∧ z6 ≤ 0 := by omega
theorem vc_X7_isAlike_8 {z416 z48 z51 : Int} (h0 : z416 < z48) (h1 : z48 = z51) (h2 : 0 ≤ z416 ∧ z416 ≤ 8) (h3 : 0 ≤ z48 ∧ z48 ≤ 8) (h4 : 0 ≤ z51 ∧ z51 ≤ 8) : 0 ≤ z416 ∧ z416 ≤ 7 := by omega
theorem vc_X7_isAlike_9 {z416 z48 z51 : Int} (h0 : z416 < z48) (h1 : z48 = z51) (h2 : 0 ≤ z416 ∧ z416 ≤ 7) (h3 : 0 ≤ z48 ∧ z48 ≤ 8) (h4 : 0 ≤ z51 ∧ z51 ≤ 8) : 1 ≤ z48 ∧ z48 ≤ 8 := by omega
theorem vc_X7_isAlike_10 {N z416 z48 z51 : Int} (h0 : (9 - z416) < N + 1) (h1 : z416 < z48) (h2 : z48 = z51) (h3 : 0 ≤ z416 ∧ z416 ≤ 7) (h4 : 1 ≤ z48 ∧ z48 ≤ 8) (h5 : 0 ≤ z51 ∧ z51 ≤ 8) : (9 - (z416 + 1)) < N := by omega
theorem vc_X7_isAlike_12 {z352 z41 z44 : Int} (h0 : z352 < z41) (h1 : z41 = z44) (h2 : 0 ≤ z352 ∧ z352 ≤ 20) (h3 : 0 ≤ z41 ∧ z41 ≤ 20) (h4 : 0 ≤ z44 ∧ z44 ≤ 20) : 0 ≤ z352 ∧ z352 ≤ 19 := by omega
theorem vc_X7_isAlike_13 {z352 z41 z44 : Int} (h0 : z352 < z41) (h1 : z41 = z44) (h2 : 0 ≤ z352 ∧ z352 ≤ 19) (h3 : 0 ≤ z41 ∧ z41 ≤ 20) (h4 : 0 ≤ z44 ∧ z44 ≤ 20) : 1 ≤ z41 ∧ z41 ≤ 20 := by omega
theorem vc_X7_isAlike_14 {N z352 z41 z44 : Int} (h0 : (21 - z352) < N + 1) (h1 : z352 < z41) (h2 : z41 = z44) (h3 : 0 ≤ z352 ∧ z352 ≤ 19) (h4 : 1 ≤ z41 ∧ z41 ≤ 20) (h5 : 0 ≤ z44 ∧ z44 ≤ 20) : (21 - (z352 + 1)) < N := by omega
theorem vc_X7_isAlike_17 {z1 z15 : Int} (h0 : z1 = z15) (h1 : 1 ≤ z1 ∧ z1 ≤ 1) (h2 : 0 ≤ z15 ∧ z15 ≤ 0) : False := by omega
set_option maxRecDepth 4000 in
set_option maxHeartbeats 4000000 in
theorem c_X7_isAlike {l : Launch} {D : va_G} {c : Nat → ClassId} {H0 : Heap} {sa : Nat × Nat × (Nat → Int32)} {w : mW} {μ : mM} (hw : mWF w) (hT : mT w μ) {a0 : Nat} (hA0 : mAt w a0 200) {a1 : Nat} (hA1 : mAt w a1 200) : sC (gG l D c H0 sa) mX7_isAlike 1 0 0 [.ref a0, .ref a1] (mk w μ) (qP w μ (fun z => (0 ≤ z ∧ z ≤ 1) ∧ True)) := by
  refine sC.of rfl (by decide) (le_t rfl) ?_
  refine mr_lvE (lv' := [(0, .ref a0), (1, .ref a1)]) rfl ?_
  refine sv_aload_n (pc := 0) dX7_isAlike_0 rfl rfl ?_
  refine gf_X7_2 (pc := 1) dX7_isAlike_1 wF_X7_22 hA0 hT fun z1 q2 h3 => ?_
  refine mr_if_eq (pc := 4) (tgt := 14) dX7_isAlike_4 (by decide) (r32 h3 rfl) (fun h4 => ?_) (fun h4 => ?_)
  · have h5 : 0 ≤ z1 ∧ z1 ≤ 0 := (vc_X12_ring_22 h4 h3)
    refine sv_aload_n (pc := 14) dX7_isAlike_14 rfl rfl ?_
    refine gk_X7_2 (pc := 15) dX7_isAlike_15 wF_X7_22 hA0 q2 ?_
    refine sv_aload_n (pc := 18) dX7_isAlike_18 rfl rfl ?_
    refine gf_X7_2 (pc := 19) dX7_isAlike_19 wF_X7_22 hA1 hT fun z6 q7 h8 => ?_
    refine mr_icmp_ne (pc := 22) (tgt := 29) dX7_isAlike_22 (by decide) (r32 h5 rfl) (r32 h8 rfl) (fun h11 => ?_) (fun h11 => ?_)
    · have h12 : 1 ≤ z6 ∧ z6 ≤ 1 := (vc_X7_isAlike_2 h11 h4 h5 h8)
      refine mr_iconst (pc := 29) (z := 0) dX7_isAlike_29 ?_
      exact mr_zretP dX7_isAlike_30 rfl (rW (c := 0) (d := 1) (rR (x := 0)) rfl) (le_t rfl) (le_t rfl) ⟨(rW (c := 0) (d := 1) (rR (x := 0)) rfl), trivial⟩
    have h13 : 0 ≤ z6 ∧ z6 ≤ 0 := (vc_X7_isAlike_3 h11 h4 h5 h8)
    refine mr_iconst (pc := 25) (z := 1) dX7_isAlike_25 ?_
    refine sv_goto (pc := 26) (tgt := 30) dX7_isAlike_26 (by decide) ?_
    exact mr_zretP dX7_isAlike_30 rfl (rW (c := 0) (d := 1) (rR (x := 1)) rfl) (le_t rfl) (le_t rfl) ⟨(rW (c := 0) (d := 1) (rR (x := 1)) rfl), trivial⟩
  have h14 : 1 ≤ z1 ∧ z1 ≤ 1 := (vc_X12_ring_24 h4 h3)
  refine sv_aload_n (pc := 7) dX7_isAlike_7 rfl rfl ?_
  refine gf_X7_2 (pc := 8) dX7_isAlike_8 wF_X7_22 hA1 hT fun z15 q16 h17 => ?_
  refine mr_if_ne (pc := 11) (tgt := 31) dX7_isAlike_11 (by decide) (r32 h17 rfl) (fun h18 => ?_) (fun h18 => ?_)
  · have h19 : 1 ≤ z15 ∧ z15 ≤ 1 := (vc_X12_ring_24 h18 h17)
    refine sv_aload_n (pc := 31) dX7_isAlike_31 rfl rfl ?_
    refine gf_X7_4 (pc := 32) dX7_isAlike_32 wF_X7_29 hA0 hT fun z20 q21 h22 => ?_
    refine sv_aload_n (pc := 35) dX7_isAlike_35 rfl rfl ?_
    refine gf_X7_4 (pc := 36) dX7_isAlike_36 wF_X7_29 hA1 hT fun z23 q24 h25 => ?_
    refine mr_icmp_ne (pc := 39) (tgt := 64) dX7_isAlike_39 (by decide) h22 h25 (fun h26 => ?_) (fun h26 => ?_)
    · refine mr_iconst (pc := 64) (z := 0) dX7_isAlike_64 ?_
      exact mr_zretP dX7_isAlike_65 rfl (rW (c := 0) (d := 1) (rR (x := 0)) rfl) (le_t rfl) (le_t rfl) ⟨(rW (c := 0) (d := 1) (rR (x := 0)) rfl), trivial⟩
    refine sv_aload_n (pc := 42) dX7_isAlike_42 rfl rfl ?_
    refine gf_X7_5 (pc := 43) dX7_isAlike_43 wF_X7_32 hA0 hT fun z27 q28 h29 => ?_
    refine sv_aload_n (pc := 46) dX7_isAlike_46 rfl rfl ?_
    refine gf_X7_5 (pc := 47) dX7_isAlike_47 wF_X7_32 hA1 hT fun z30 q31 h32 => ?_
    refine mr_icmp_ne (pc := 50) (tgt := 64) dX7_isAlike_50 (by decide) h29 h32 (fun h33 => ?_) (fun h33 => ?_)
    · refine mr_iconst (pc := 64) (z := 0) dX7_isAlike_64 ?_
      exact mr_zretP dX7_isAlike_65 rfl (rW (c := 0) (d := 1) (rR (x := 0)) rfl) (le_t rfl) (le_t rfl) ⟨(rW (c := 0) (d := 1) (rR (x := 0)) rfl), trivial⟩
    refine sv_aload_n (pc := 53) dX7_isAlike_53 rfl rfl ?_
    refine gf_X7_6 (pc := 54) dX7_isAlike_54 wF_X7_35 hA0 hT fun z34 q35 h36 => ?_
    refine sv_aload_n (pc := 57) dX7_isAlike_57 rfl rfl ?_
    refine gf_X7_6 (pc := 58) dX7_isAlike_58 wF_X7_35 hA1 hT fun z37 q38 h39 => ?_
    refine mr_icmp_eq (pc := 61) (tgt := 66) dX7_isAlike_61 (by decide) h36 h39 (fun h40 => ?_) (fun h40 => ?_)
    · refine sv_aload_n (pc := 66) dX7_isAlike_66 rfl rfl ?_
      refine gf_X7_7 (pc := 67) dX7_isAlike_67 wF_X7_38 hA0 hT fun z41 q42 h43 => ?_
      refine sv_aload_n (pc := 70) dX7_isAlike_70 rfl rfl ?_
      refine gf_X7_7 (pc := 71) dX7_isAlike_71 wF_X7_38 hA1 hT fun z44 q45 h46 => ?_
      refine mr_icmp_ne (pc := 74) (tgt := 88) dX7_isAlike_74 (by decide) (r32 h43 rfl) (r32 h46 rfl) (fun h47 => ?_) (fun h47 => ?_)
      · refine mr_iconst (pc := 88) (z := 0) dX7_isAlike_88 ?_
        exact mr_zretP dX7_isAlike_89 rfl (rW (c := 0) (d := 1) (rR (x := 0)) rfl) (le_t rfl) (le_t rfl) ⟨(rW (c := 0) (d := 1) (rR (x := 0)) rfl), trivial⟩
      refine sv_aload_n (pc := 77) dX7_isAlike_77 rfl rfl ?_
      refine gf_X7_8 (pc := 78) dX7_isAlike_78 wF_X7_41 hA0 hT fun z48 q49 h50 => ?_
      refine sv_aload_n (pc := 81) dX7_isAlike_81 rfl rfl ?_
      refine gf_X7_8 (pc := 82) dX7_isAlike_82 wF_X7_41 hA1 hT fun z51 q52 h53 => ?_
      refine mr_icmp_eq (pc := 85) (tgt := 90) dX7_isAlike_85 (by decide) (r32 h50 rfl) (r32 h53 rfl) (fun h54 => ?_) (fun h54 => ?_)
      · refine mr_iconst (pc := 90) (z := 0) dX7_isAlike_90 ?_
        refine mr_istore_n (pc := 91) (lv' := [(2, iv 0), (0, .ref a0), (1, .ref a1)]) dX7_isAlike_91 rfl (by decide) rfl ?_
        have L353 : ∀ (nL353 : Nat) (z352 : Int), True → (0 ≤ z352 ∧ z352 ≤ 20) → (21 - z352) < (nL353 : Int) → sV (gG l D c H0 sa) mX7_isAlike (sRm 1 0 0) (sZ (gG l D c H0 sa) 0 0 (qP w μ (fun z => (0 ≤ z ∧ z ≤ 1) ∧ True))) 92 [(0, .ref a0), (1, .ref a1), (2, iv z352)] [] (mk w μ) 0 0 := by
          intro nL353
          induction nL353 with
          | zero => intro z352 _ h354 h358; exact ((vc_X12_tieOf_1 h358 h354)).elim
          | succ nL353 ih359 =>
            intro z352 _ h354 h358
            refine mr_iload_n (pc := 92) (z := z352) dX7_isAlike_92 rfl rfl ?_
            refine sv_aload_n (pc := 93) dX7_isAlike_93 rfl rfl ?_
            refine gk_X7_7 (pc := 94) dX7_isAlike_94 wF_X7_38 hA0 q42 ?_
            refine mr_icmp_ge (pc := 97) (tgt := 123) dX7_isAlike_97 (by decide) (r32 h354 rfl) (r32 h43 rfl) (fun h360 => ?_) (fun h360 => ?_)
            · refine mr_iconst (pc := 123) (z := 0) dX7_isAlike_123 ?_
              refine mr_istore_n (pc := 124) (lv' := [(2, iv 0), (0, .ref a0), (1, .ref a1)]) dX7_isAlike_124 rfl (by decide) rfl ?_
              have L417 : ∀ (nL417 : Nat) (z416 : Int), True → (0 ≤ z416 ∧ z416 ≤ 8) → (9 - z416) < (nL417 : Int) → sV (gG l D c H0 sa) mX7_isAlike (sRm 1 0 0) (sZ (gG l D c H0 sa) 0 0 (qP w μ (fun z => (0 ≤ z ∧ z ≤ 1) ∧ True))) 125 [(0, .ref a0), (1, .ref a1), (2, iv z416)] [] (mk w μ) 0 0 := by
                intro nL417
                induction nL417 with
                | zero => intro z416 _ h418 h422; exact ((vc_X12_same_17 h422 h418)).elim
                | succ nL417 ih423 =>
                  intro z416 _ h418 h422
                  refine mr_iload_n (pc := 125) (z := z416) dX7_isAlike_125 rfl rfl ?_
                  refine sv_aload_n (pc := 126) dX7_isAlike_126 rfl rfl ?_
                  refine gk_X7_8 (pc := 127) dX7_isAlike_127 wF_X7_41 hA0 q49 ?_
                  refine mr_icmp_ge (pc := 130) (tgt := 156) dX7_isAlike_130 (by decide) (r32 h418 rfl) (r32 h50 rfl) (fun h424 => ?_) (fun h424 => ?_)
                  · refine mr_iconst (pc := 156) (z := 1) dX7_isAlike_156 ?_
                    exact mr_zretP dX7_isAlike_157 rfl (rW (c := 0) (d := 1) (rR (x := 1)) rfl) (le_t rfl) (le_t rfl) ⟨(rW (c := 0) (d := 1) (rR (x := 1)) rfl), trivial⟩
                  have h425 : 0 ≤ z416 ∧ z416 ≤ 7 := (vc_X7_isAlike_8 h424 h54 h418 h50 h53)
                  have h426 : 1 ≤ z48 ∧ z48 ≤ 8 := (vc_X7_isAlike_9 h424 h54 h425 h50 h53)
                  refine sv_aload_n (pc := 133) dX7_isAlike_133 rfl rfl ?_
                  refine gf_X7_1 (pc := 134) dX7_isAlike_134 wF_X7_15 hA0 hT fun A427 => ?_
                  refine mr_iload_n (pc := 137) (z := z416) dX7_isAlike_137 rfl rfl ?_
                  refine la_202 (pc := 138) dX7_isAlike_138 A427 hT (rIx (n := 8) h425 rfl) fun z428 q429 h430 => ?_
                  refine sv_aload_n (pc := 139) dX7_isAlike_139 rfl rfl ?_
                  refine gf_X7_1 (pc := 140) dX7_isAlike_140 wF_X7_15 hA1 hT fun A431 => ?_
                  refine mr_iload_n (pc := 143) (z := z416) dX7_isAlike_143 rfl rfl ?_
                  refine la_202 (pc := 144) dX7_isAlike_144 A431 hT (rIx (n := 8) h425 rfl) fun z432 q433 h434 => ?_
                  refine mr_icmp_eq (pc := 145) (tgt := 150) dX7_isAlike_145 (by decide) h430 h434 (fun h435 => ?_) (fun h435 => ?_)
                  · refine mr_iinc (pc := 150) (lv' := [(2, iv (z416 + 1)), (0, .ref a0), (1, .ref a1)]) dX7_isAlike_150 rfl (by decide) rfl ?_
                    refine sv_goto (pc := 153) (tgt := 125) dX7_isAlike_153 (by decide) ?_
                    refine mr_lvS (lv' := [(0, .ref a0), (1, .ref a1), (2, iv (z416 + 1))]) (List.forall_mem_cons.mpr ⟨rfl, List.forall_mem_cons.mpr ⟨rfl, List.forall_mem_cons.mpr ⟨rfl, fun _ h => absurd h List.not_mem_nil⟩⟩⟩) ?_
                    exact ih423 (z416 + 1) trivial (rW (c := 0) (d := 8) (rAdd (e := 1) (f := 8) h425 (rR (x := 1)) rfl) rfl) (vc_X7_isAlike_10 (nS h422) h424 h54 h425 h426 h53)
                  refine mr_iconst (pc := 148) (z := 0) dX7_isAlike_148 ?_
                  exact mr_zretP dX7_isAlike_149 rfl (rW (c := 0) (d := 1) (rR (x := 0)) rfl) (le_t rfl) (le_t rfl) ⟨(rW (c := 0) (d := 1) (rR (x := 0)) rfl), trivial⟩
              refine mr_lvS (lv' := [(0, .ref a0), (1, .ref a1), (2, iv 0)]) (List.forall_mem_cons.mpr ⟨rfl, List.forall_mem_cons.mpr ⟨rfl, List.forall_mem_cons.mpr ⟨rfl, fun _ h => absurd h List.not_mem_nil⟩⟩⟩) ?_
              exact L417 10 0 trivial (rW (c := 0) (d := 8) (rR (x := 0)) rfl) vc_X12_same_28
            have h436 : 0 ≤ z352 ∧ z352 ≤ 19 := (vc_X7_isAlike_12 h360 h47 h354 h43 h46)
            have h437 : 1 ≤ z41 ∧ z41 ≤ 20 := (vc_X7_isAlike_13 h360 h47 h436 h43 h46)
            refine sv_aload_n (pc := 100) dX7_isAlike_100 rfl rfl ?_
            refine gf_X7_0 (pc := 101) dX7_isAlike_101 wF_X7_9 hA0 hT fun A438 => ?_
            refine mr_iload_n (pc := 104) (z := z352) dX7_isAlike_104 rfl rfl ?_
            refine la_201 (pc := 105) dX7_isAlike_105 A438 hT (rIx (n := 20) h436 rfl) fun z439 q440 h441 => ?_
            refine sv_aload_n (pc := 106) dX7_isAlike_106 rfl rfl ?_
            refine gf_X7_0 (pc := 107) dX7_isAlike_107 wF_X7_9 hA1 hT fun A442 => ?_
            refine mr_iload_n (pc := 110) (z := z352) dX7_isAlike_110 rfl rfl ?_
            refine la_201 (pc := 111) dX7_isAlike_111 A442 hT (rIx (n := 20) h436 rfl) fun z443 q444 h445 => ?_
            refine mr_icmp_eq (pc := 112) (tgt := 117) dX7_isAlike_112 (by decide) h441 h445 (fun h446 => ?_) (fun h446 => ?_)
            · refine mr_iinc (pc := 117) (lv' := [(2, iv (z352 + 1)), (0, .ref a0), (1, .ref a1)]) dX7_isAlike_117 rfl (by decide) rfl ?_
              refine sv_goto (pc := 120) (tgt := 92) dX7_isAlike_120 (by decide) ?_
              refine mr_lvS (lv' := [(0, .ref a0), (1, .ref a1), (2, iv (z352 + 1))]) (List.forall_mem_cons.mpr ⟨rfl, List.forall_mem_cons.mpr ⟨rfl, List.forall_mem_cons.mpr ⟨rfl, fun _ h => absurd h List.not_mem_nil⟩⟩⟩) ?_
              exact ih359 (z352 + 1) trivial (rW (c := 0) (d := 20) (rAdd (e := 1) (f := 20) h436 (rR (x := 1)) rfl) rfl) (vc_X7_isAlike_14 (nS h358) h360 h47 h436 h437 h46)
            refine mr_iconst (pc := 115) (z := 0) dX7_isAlike_115 ?_
            exact mr_zretP dX7_isAlike_116 rfl (rW (c := 0) (d := 1) (rR (x := 0)) rfl) (le_t rfl) (le_t rfl) ⟨(rW (c := 0) (d := 1) (rR (x := 0)) rfl), trivial⟩
        refine mr_lvS (lv' := [(0, .ref a0), (1, .ref a1), (2, iv 0)]) (List.forall_mem_cons.mpr ⟨rfl, List.forall_mem_cons.mpr ⟨rfl, List.forall_mem_cons.mpr ⟨rfl, fun _ h => absurd h List.not_mem_nil⟩⟩⟩) ?_
        exact L353 22 0 trivial (rW (c := 0) (d := 20) (rR (x := 0)) rfl) vc_X12_tieOf_12
      refine mr_iconst (pc := 88) (z := 0) dX7_isAlike_88 ?_
      exact mr_zretP dX7_isAlike_89 rfl (rW (c := 0) (d := 1) (rR (x := 0)) rfl) (le_t rfl) (le_t rfl) ⟨(rW (c := 0) (d := 1) (rR (x := 0)) rfl), trivial⟩
    refine mr_iconst (pc := 64) (z := 0) dX7_isAlike_64 ?_
    exact mr_zretP dX7_isAlike_65 rfl (rW (c := 0) (d := 1) (rR (x := 0)) rfl) (le_t rfl) (le_t rfl) ⟨(rW (c := 0) (d := 1) (rR (x := 0)) rfl), trivial⟩
  have h447 : 0 ≤ z15 ∧ z15 ≤ 0 := (vc_X12_ring_22 h18 h17)
  refine sv_aload_n (pc := 14) dX7_isAlike_14 rfl rfl ?_
  refine gk_X7_2 (pc := 15) dX7_isAlike_15 wF_X7_22 hA0 q2 ?_
  refine sv_aload_n (pc := 18) dX7_isAlike_18 rfl rfl ?_
  refine gk_X7_2 (pc := 19) dX7_isAlike_19 wF_X7_22 hA1 q16 ?_
  refine mr_icmp_ne (pc := 22) (tgt := 29) dX7_isAlike_22 (by decide) (r32 h14 rfl) (r32 h447 rfl) (fun _ => ?_) (fun h => ((vc_X7_isAlike_17 h h14 h447)).elim)
  refine mr_iconst (pc := 29) (z := 0) dX7_isAlike_29 ?_
  exact mr_zretP dX7_isAlike_30 rfl (rW (c := 0) (d := 1) (rR (x := 0)) rfl) (le_t rfl) (le_t rfl) ⟨(rW (c := 0) (d := 1) (rR (x := 0)) rfl), trivial⟩
set_option maxRecDepth 4000 in
set_option maxHeartbeats 4000000 in
theorem c_X7_passes {l : Launch} {D : va_G} {c : Nat → ClassId} {H0 : Heap} {sa : Nat × Nat × (Nat → Int32)} {w : mW} {μ : mM} (hw : mWF w) (hT : mT w μ) {a0 : Nat} (hA0 : mAt w a0 200) {p1 : Int} (hp1 : (-2147483648) ≤ p1 ∧ p1 ≤ 2147483647) : sC (gG l D c H0 sa) mX7_passes 1 0 0 [.ref a0, iv p1] (mk w μ) (qP w μ (fun z => (0 ≤ z ∧ z ≤ 1) ∧ True)) := by
  refine sC.of rfl (by decide) (le_t rfl) ?_
  refine mr_lvE (lv' := [(0, .ref a0), (1, iv p1)]) rfl ?_
  refine mr_iconst (pc := 0) (z := 0) dX7_passes_0 ?_
  refine mr_istore_n (pc := 1) (lv' := [(2, iv 0), (0, .ref a0), (1, iv p1)]) dX7_passes_1 rfl (by decide) rfl ?_
  have L92 : ∀ (nL92 : Nat) (z91 : Int), True → (0 ≤ z91 ∧ z91 ≤ 20) → (21 - z91) < (nL92 : Int) → sV (gG l D c H0 sa) mX7_passes (sRm 1 0 0) (sZ (gG l D c H0 sa) 0 0 (qP w μ (fun z => (0 ≤ z ∧ z ≤ 1) ∧ True))) 2 [(0, .ref a0), (1, iv p1), (2, iv z91)] [] (mk w μ) 0 0 := by
    intro nL92
    induction nL92 with
    | zero => intro z91 _ h93 h97; exact ((vc_X12_tieOf_1 h97 h93)).elim
    | succ nL92 ih98 =>
      intro z91 _ h93 h97
      refine mr_iload_n (pc := 2) (z := z91) dX7_passes_2 rfl rfl ?_
      refine sv_aload_n (pc := 3) dX7_passes_3 rfl rfl ?_
      refine gf_X7_7 (pc := 4) dX7_passes_4 wF_X7_38 hA0 hT fun z99 q100 h101 => ?_
      refine mr_icmp_ge (pc := 7) (tgt := 28) dX7_passes_7 (by decide) (r32 h93 rfl) (r32 h101 rfl) (fun h102 => ?_) (fun h102 => ?_)
      · refine mr_iconst (pc := 28) (z := 0) dX7_passes_28 ?_
        exact mr_zretP dX7_passes_29 rfl (rW (c := 0) (d := 1) (rR (x := 0)) rfl) (le_t rfl) (le_t rfl) ⟨(rW (c := 0) (d := 1) (rR (x := 0)) rfl), trivial⟩
      have h103 : 0 ≤ z91 ∧ z91 ≤ 19 := (vc_X12_tieOf_3 h102 h93 h101)
      have h104 : 1 ≤ z99 ∧ z99 ≤ 20 := (vc_X12_tieOf_4 h102 h103 h101)
      refine sv_aload_n (pc := 10) dX7_passes_10 rfl rfl ?_
      refine gf_X7_0 (pc := 11) dX7_passes_11 wF_X7_9 hA0 hT fun A105 => ?_
      refine mr_iload_n (pc := 14) (z := z91) dX7_passes_14 rfl rfl ?_
      refine la_201 (pc := 15) dX7_passes_15 A105 hT (rIx (n := 20) h103 rfl) fun z106 q107 h108 => ?_
      refine mr_iload_n (pc := 16) (z := p1) dX7_passes_16 rfl rfl ?_
      refine mr_icmp_ne (pc := 17) (tgt := 22) dX7_passes_17 (by decide) h108 hp1 (fun h109 => ?_) (fun h109 => ?_)
      · refine mr_iinc (pc := 22) (lv' := [(2, iv (z91 + 1)), (0, .ref a0), (1, iv p1)]) dX7_passes_22 rfl (by decide) rfl ?_
        refine sv_goto (pc := 25) (tgt := 2) dX7_passes_25 (by decide) ?_
        refine mr_lvS (lv' := [(0, .ref a0), (1, iv p1), (2, iv (z91 + 1))]) (List.forall_mem_cons.mpr ⟨rfl, List.forall_mem_cons.mpr ⟨rfl, List.forall_mem_cons.mpr ⟨rfl, fun _ h => absurd h List.not_mem_nil⟩⟩⟩) ?_
        exact ih98 (z91 + 1) trivial (rW (c := 0) (d := 20) (rAdd (e := 1) (f := 20) h103 (rR (x := 1)) rfl) rfl) (vc_X12_tieOf_5 (nS h97) h102 h103 h104)
      refine mr_iconst (pc := 20) (z := 1) dX7_passes_20 ?_
      exact mr_zretP dX7_passes_21 rfl (rW (c := 0) (d := 1) (rR (x := 1)) rfl) (le_t rfl) (le_t rfl) ⟨(rW (c := 0) (d := 1) (rR (x := 1)) rfl), trivial⟩
  refine mr_lvS (lv' := [(0, .ref a0), (1, iv p1), (2, iv 0)]) (List.forall_mem_cons.mpr ⟨rfl, List.forall_mem_cons.mpr ⟨rfl, List.forall_mem_cons.mpr ⟨rfl, fun _ h => absurd h List.not_mem_nil⟩⟩⟩) ?_
  exact L92 22 0 trivial (rW (c := 0) (d := 20) (rR (x := 0)) rfl) vc_X12_tieOf_12
set_option maxRecDepth 4000 in
set_option maxHeartbeats 4000000 in
theorem c_X7_sharesFirst {l : Launch} {D : va_G} {c : Nat → ClassId} {H0 : Heap} {sa : Nat × Nat × (Nat → Int32)} {w : mW} {μ : mM} (hw : mWF w) (hT : mT w μ) {a0 : Nat} (hA0 : mAt w a0 200) {a1 : Nat} (hA1 : mAt w a1 200) : sC (gG l D c H0 sa) mX7_sharesFirst 1 0 0 [.ref a0, .ref a1] (mk w μ) (qP w μ (fun z => (0 ≤ z ∧ z ≤ 1) ∧ True)) := by
  refine sC.of rfl (by decide) (le_t rfl) ?_
  refine mr_lvE (lv' := [(0, .ref a0), (1, .ref a1)]) rfl ?_
  refine sv_aload_n (pc := 0) dX7_sharesFirst_0 rfl rfl ?_
  refine gf_X7_7 (pc := 1) dX7_sharesFirst_1 wF_X7_38 hA0 hT fun z1 q2 h3 => ?_
  refine mr_if_le (pc := 4) (tgt := 33) dX7_sharesFirst_4 (by decide) (r32 h3 rfl) (fun h19 => ?_) (fun h19 => ?_)
  · have h20 : 0 ≤ z1 ∧ z1 ≤ 0 := (vc_X12_unlike_21 h19 h3)
    refine mr_iconst (pc := 33) (z := 0) dX7_sharesFirst_33 ?_
    exact mr_zretP dX7_sharesFirst_34 rfl (rW (c := 0) (d := 1) (rR (x := 0)) rfl) (le_t rfl) (le_t rfl) ⟨(rW (c := 0) (d := 1) (rR (x := 0)) rfl), trivial⟩
  have h21 : 1 ≤ z1 ∧ z1 ≤ 20 := (vc_X12_unlike_22 h19 h3)
  refine sv_aload_n (pc := 7) dX7_sharesFirst_7 rfl rfl ?_
  refine gf_X7_7 (pc := 8) dX7_sharesFirst_8 wF_X7_38 hA1 hT fun z22 q23 h24 => ?_
  refine mr_if_le (pc := 11) (tgt := 33) dX7_sharesFirst_11 (by decide) (r32 h24 rfl) (fun h35 => ?_) (fun h35 => ?_)
  · have h36 : 0 ≤ z22 ∧ z22 ≤ 0 := (vc_X12_unlike_21 h35 h24)
    refine mr_iconst (pc := 33) (z := 0) dX7_sharesFirst_33 ?_
    exact mr_zretP dX7_sharesFirst_34 rfl (rW (c := 0) (d := 1) (rR (x := 0)) rfl) (le_t rfl) (le_t rfl) ⟨(rW (c := 0) (d := 1) (rR (x := 0)) rfl), trivial⟩
  have h37 : 1 ≤ z22 ∧ z22 ≤ 20 := (vc_X12_unlike_22 h35 h24)
  refine sv_aload_n (pc := 14) dX7_sharesFirst_14 rfl rfl ?_
  refine gf_X7_0 (pc := 15) dX7_sharesFirst_15 wF_X7_9 hA0 hT fun A38 => ?_
  refine mr_iconst (pc := 18) (z := 0) dX7_sharesFirst_18 ?_
  refine la_201 (pc := 19) dX7_sharesFirst_19 A38 hT (rIx (n := 20) (rR (x := 0)) rfl) fun z39 q40 h41 => ?_
  refine sv_aload_n (pc := 20) dX7_sharesFirst_20 rfl rfl ?_
  refine gf_X7_0 (pc := 21) dX7_sharesFirst_21 wF_X7_9 hA1 hT fun A42 => ?_
  refine mr_iconst (pc := 24) (z := 0) dX7_sharesFirst_24 ?_
  refine la_201 (pc := 25) dX7_sharesFirst_25 A42 hT (rIx (n := 20) (rR (x := 0)) rfl) fun z43 q44 h45 => ?_
  refine mr_icmp_ne (pc := 26) (tgt := 33) dX7_sharesFirst_26 (by decide) h41 h45 (fun h46 => ?_) (fun h46 => ?_)
  · refine mr_iconst (pc := 33) (z := 0) dX7_sharesFirst_33 ?_
    exact mr_zretP dX7_sharesFirst_34 rfl (rW (c := 0) (d := 1) (rR (x := 0)) rfl) (le_t rfl) (le_t rfl) ⟨(rW (c := 0) (d := 1) (rR (x := 0)) rfl), trivial⟩
  refine mr_iconst (pc := 29) (z := 1) dX7_sharesFirst_29 ?_
  refine sv_goto (pc := 30) (tgt := 34) dX7_sharesFirst_30 (by decide) ?_
  exact mr_zretP dX7_sharesFirst_34 rfl (rW (c := 0) (d := 1) (rR (x := 1)) rfl) (le_t rfl) (le_t rfl) ⟨(rW (c := 0) (d := 1) (rR (x := 1)) rfl), trivial⟩
set_option maxRecDepth 4000 in
set_option maxHeartbeats 4000000 in
theorem c_X7_hasMark {l : Launch} {D : va_G} {c : Nat → ClassId} {H0 : Heap} {sa : Nat × Nat × (Nat → Int32)} {w : mW} {μ : mM} (hw : mWF w) (hT : mT w μ) {a0 : Nat} (hA0 : mAt w a0 200) {p1 : Int} (hp1 : (-2147483648) ≤ p1 ∧ p1 ≤ 2147483647) : sC (gG l D c H0 sa) mX7_hasMark 1 0 0 [.ref a0, iv p1] (mk w μ) (qP w μ (fun z => (0 ≤ z ∧ z ≤ 1) ∧ True)) := by
  refine sC.of rfl (by decide) (le_t rfl) ?_
  refine mr_lvE (lv' := [(0, .ref a0), (1, iv p1)]) rfl ?_
  refine mr_iconst (pc := 0) (z := 0) dX7_hasMark_0 ?_
  refine mr_istore_n (pc := 1) (lv' := [(2, iv 0), (0, .ref a0), (1, iv p1)]) dX7_hasMark_1 rfl (by decide) rfl ?_
  have L52 : ∀ (nL52 : Nat) (z51 : Int), True → (0 ≤ z51 ∧ z51 ≤ 8) → (9 - z51) < (nL52 : Int) → sV (gG l D c H0 sa) mX7_hasMark (sRm 1 0 0) (sZ (gG l D c H0 sa) 0 0 (qP w μ (fun z => (0 ≤ z ∧ z ≤ 1) ∧ True))) 2 [(0, .ref a0), (1, iv p1), (2, iv z51)] [] (mk w μ) 0 0 := by
    intro nL52
    induction nL52 with
    | zero => intro z51 _ h53 h57; exact ((vc_X12_same_17 h57 h53)).elim
    | succ nL52 ih58 =>
      intro z51 _ h53 h57
      refine mr_iload_n (pc := 2) (z := z51) dX7_hasMark_2 rfl rfl ?_
      refine sv_aload_n (pc := 3) dX7_hasMark_3 rfl rfl ?_
      refine gf_X7_8 (pc := 4) dX7_hasMark_4 wF_X7_41 hA0 hT fun z59 q60 h61 => ?_
      refine mr_icmp_ge (pc := 7) (tgt := 28) dX7_hasMark_7 (by decide) (r32 h53 rfl) (r32 h61 rfl) (fun h62 => ?_) (fun h62 => ?_)
      · refine mr_iconst (pc := 28) (z := 0) dX7_hasMark_28 ?_
        exact mr_zretP dX7_hasMark_29 rfl (rW (c := 0) (d := 1) (rR (x := 0)) rfl) (le_t rfl) (le_t rfl) ⟨(rW (c := 0) (d := 1) (rR (x := 0)) rfl), trivial⟩
      have h63 : 0 ≤ z51 ∧ z51 ≤ 7 := (vc_X12_marked_3 h62 h53 h61)
      have h64 : 1 ≤ z59 ∧ z59 ≤ 8 := (vc_X12_marked_4 h62 h63 h61)
      refine sv_aload_n (pc := 10) dX7_hasMark_10 rfl rfl ?_
      refine gf_X7_1 (pc := 11) dX7_hasMark_11 wF_X7_15 hA0 hT fun A65 => ?_
      refine mr_iload_n (pc := 14) (z := z51) dX7_hasMark_14 rfl rfl ?_
      refine la_202 (pc := 15) dX7_hasMark_15 A65 hT (rIx (n := 8) h63 rfl) fun z66 q67 h68 => ?_
      refine mr_iload_n (pc := 16) (z := p1) dX7_hasMark_16 rfl rfl ?_
      refine mr_icmp_ne (pc := 17) (tgt := 22) dX7_hasMark_17 (by decide) h68 hp1 (fun h69 => ?_) (fun h69 => ?_)
      · refine mr_iinc (pc := 22) (lv' := [(2, iv (z51 + 1)), (0, .ref a0), (1, iv p1)]) dX7_hasMark_22 rfl (by decide) rfl ?_
        refine sv_goto (pc := 25) (tgt := 2) dX7_hasMark_25 (by decide) ?_
        refine mr_lvS (lv' := [(0, .ref a0), (1, iv p1), (2, iv (z51 + 1))]) (List.forall_mem_cons.mpr ⟨rfl, List.forall_mem_cons.mpr ⟨rfl, List.forall_mem_cons.mpr ⟨rfl, fun _ h => absurd h List.not_mem_nil⟩⟩⟩) ?_
        exact ih58 (z51 + 1) trivial (rW (c := 0) (d := 8) (rAdd (e := 1) (f := 8) h63 (rR (x := 1)) rfl) rfl) (vc_X12_marked_6 (nS h57) h62 h63 h64)
      refine mr_iconst (pc := 20) (z := 1) dX7_hasMark_20 ?_
      exact mr_zretP dX7_hasMark_21 rfl (rW (c := 0) (d := 1) (rR (x := 1)) rfl) (le_t rfl) (le_t rfl) ⟨(rW (c := 0) (d := 1) (rR (x := 1)) rfl), trivial⟩
  refine mr_lvS (lv' := [(0, .ref a0), (1, iv p1), (2, iv 0)]) (List.forall_mem_cons.mpr ⟨rfl, List.forall_mem_cons.mpr ⟨rfl, List.forall_mem_cons.mpr ⟨rfl, fun _ h => absurd h List.not_mem_nil⟩⟩⟩) ?_
  exact L52 10 0 trivial (rW (c := 0) (d := 8) (rR (x := 0)) rfl) vc_X12_same_28
theorem vc_X7_addMark_1 {z1 z994 : Int} (h0 : (9 - z994) < ((0 : Nat) : Int)) (h1 : z994 ≤ z1) (h2 : 0 ≤ z1 ∧ z1 ≤ 8) (h3 : 0 ≤ z994 ∧ z994 ≤ 8) : False := by omega
theorem vc_X7_addMark_4 {z1 z994 : Int} (h0 : z1 < 8) (h1 : z994 ≤ z1) (h2 : 0 ≤ z1 ∧ z1 ≤ 8) (h3 : 0 ≤ z994 ∧ z994 ≤ 8) : 0 ≤ z1 ∧ z1 ≤ 7 := by omega
theorem vc_X7_addMark_5 {z1 z1066 z994 : Int} (h0 : (z1066 - (-1)) < ((0 : Nat) : Int)) (h1 : z994 ≤ z1066) (h2 : z994 ≤ z1) (h3 : 0 ≤ z1 ∧ z1 ≤ 7) (h4 : 0 ≤ z1066 ∧ z1066 ≤ 7) (h5 : 0 ≤ z994 ∧ z994 ≤ 8) : False := by omega
theorem vc_X7_addMark_6 {z1 z1066 z994 : Int} (h0 : z994 ≤ z1) (h1 : z994 ≤ z1066) (h2 : z1066 ≤ z994) (h3 : z1 < 8) (h4 : 0 ≤ z1 ∧ z1 ≤ 7) (h5 : 0 ≤ z1066 ∧ z1066 ≤ 7) (h6 : 0 ≤ z994 ∧ z994 ≤ 8) : 0 ≤ z994 ∧ z994 < 8 := by omega
theorem vc_X7_addMark_7 {z1 z1066 z994 : Int} (h0 : z994 < z1066) (h1 : z994 ≤ z1) (h2 : z994 ≤ z1066) (h3 : 0 ≤ z1 ∧ z1 ≤ 7) (h4 : 0 ≤ z1066 ∧ z1066 ≤ 7) (h5 : 0 ≤ z994 ∧ z994 ≤ 8) : 1 ≤ z1066 ∧ z1066 ≤ 7 := by omega
theorem vc_X7_addMark_8 {z1 z1066 z994 : Int} (h0 : z994 < z1066) (h1 : z994 ≤ z1) (h2 : z994 ≤ z1066) (h3 : 0 ≤ z1 ∧ z1 ≤ 7) (h4 : 1 ≤ z1066 ∧ z1066 ≤ 7) (h5 : 0 ≤ z994 ∧ z994 ≤ 8) : 0 ≤ z994 ∧ z994 ≤ 6 := by omega
theorem vc_X7_addMark_9 {z1 z1066 z994 : Int} (h0 : z994 ≤ z1) (h1 : z994 ≤ z1066) (h2 : z994 < z1066) (h3 : z1 < 8) (h4 : 0 ≤ z1 ∧ z1 ≤ 7) (h5 : 1 ≤ z1066 ∧ z1066 ≤ 7) (h6 : 0 ≤ z994 ∧ z994 ≤ 6) : z994 ≤ (z1066 + (-1)) := by omega
theorem vc_X7_addMark_10 {N z1 z1066 z994 : Int} (h0 : (z1066 - (-1)) < N + 1) (h1 : z994 ≤ z1066) (h2 : z994 < z1066) (h3 : z994 ≤ z1) (h4 : 0 ≤ z1 ∧ z1 ≤ 7) (h5 : 1 ≤ z1066 ∧ z1066 ≤ 7) (h6 : 0 ≤ z994 ∧ z994 ≤ 6) : ((z1066 + (-1)) - (-1)) < N := by omega
theorem vc_X7_addMark_11 {z1 z994 : Int} (h0 : z994 ≤ z1) (h1 : z1 < 8) (h2 : 0 ≤ z1 ∧ z1 ≤ 7) (h3 : 0 ≤ z994 ∧ z994 ≤ 8) : z994 ≤ z1 := by omega
theorem vc_X7_addMark_12 {z1 z994 : Int} (h0 : z994 ≤ z1) (h1 : z1 < 8) (h2 : 0 ≤ z1 ∧ z1 ≤ 7) (h3 : 0 ≤ z994 ∧ z994 ≤ 8) : (z1 - (-1)) < ((9 : Nat) : Int) := by omega
theorem vc_X7_addMark_13 {z1 z994 : Int} (h0 : 8 ≤ z1) (h1 : z994 ≤ z1) (h2 : 0 ≤ z1 ∧ z1 ≤ 8) (h3 : 0 ≤ z994 ∧ z994 ≤ 8) : 8 ≤ z1 ∧ z1 ≤ 8 := by omega
theorem vc_X7_addMark_14 {z1 z994 : Int} (h0 : z994 < z1) (h1 : z994 ≤ z1) (h2 : 0 ≤ z1 ∧ z1 ≤ 8) (h3 : 0 ≤ z994 ∧ z994 ≤ 8) : 0 ≤ z994 ∧ z994 ≤ 7 := by omega
theorem vc_X7_addMark_15 {z1 z994 : Int} (h0 : z994 < z1) (h1 : z994 ≤ z1) (h2 : 0 ≤ z1 ∧ z1 ≤ 8) (h3 : 0 ≤ z994 ∧ z994 ≤ 7) : 1 ≤ z1 ∧ z1 ≤ 8 := by omega
theorem vc_X7_addMark_16 {p1 z1117 : Int} (h0 : z1117 < p1) (h1 : (-2147483648) ≤ p1 ∧ p1 ≤ 2147483647) (h2 : (-2147483648) ≤ z1117 ∧ z1117 ≤ 2147483647) : (-2147483648) ≤ z1117 ∧ z1117 ≤ 2147483646 := by omega
theorem vc_X7_addMark_17 {p1 z1117 : Int} (h0 : z1117 < p1) (h1 : (-2147483648) ≤ p1 ∧ p1 ≤ 2147483647) (h2 : (-2147483648) ≤ z1117 ∧ z1117 ≤ 2147483646) : (-2147483647) ≤ p1 ∧ p1 ≤ 2147483647 := by omega
theorem vc_X7_addMark_18 {z1 z994 : Int} (h0 : z994 ≤ z1) (h1 : z994 < z1) (h2 : 1 ≤ z1 ∧ z1 ≤ 8) (h3 : 0 ≤ z994 ∧ z994 ≤ 7) : (z994 + 1) ≤ z1 := by omega
theorem vc_X7_addMark_19 {N z1 z994 : Int} (h0 : (9 - z994) < N + 1) (h1 : z994 ≤ z1) (h2 : z994 < z1) (h3 : 1 ≤ z1 ∧ z1 ≤ 8) (h4 : 0 ≤ z994 ∧ z994 ≤ 7) : (9 - (z994 + 1)) < N := by omega
theorem vc_X7_addMark_20 {z1 : Int} (h0 : 0 ≤ z1 ∧ z1 ≤ 8) : (0 : Int) ≤ z1 := by omega
set_option maxRecDepth 4000 in
set_option maxHeartbeats 4000000 in
theorem c_X7_addMark {l : Launch} {D : va_G} {c : Nat → ClassId} {H0 : Heap} {sa : Nat × Nat × (Nat → Int32)} {w : mW} {μ : mM} (hw : mWF w) (hT : mT w μ) {a0 : Nat} (hA0 : mAt w a0 200) {p1 : Int} (hp1 : (-2147483648) ≤ p1 ∧ p1 ≤ 2147483647) : sC (gG l D c H0 sa) mX7_addMark 1 0 0 [.ref a0, iv p1] (mk w μ) (qV w [200008, 202999] μ (fun μ1 => True)) := by
  refine sC.of rfl (by decide) (le_t rfl) ?_
  obtain ⟨z1, q2⟩ : ∃ z, μ a0 8 = z := ⟨_, rfl⟩
  have h3 : (0 ≤ z1 ∧ z1 ≤ 8) := by rw [← q2]; exact hT a0 200 hA0 8
  refine mr_lvE (lv' := [(0, .ref a0), (1, iv p1)]) rfl ?_
  refine mr_iconst (pc := 0) (z := 0) dX7_addMark_0 ?_
  refine mr_istore_n (pc := 1) (lv' := [(2, iv 0), (0, .ref a0), (1, iv p1)]) dX7_addMark_1 rfl (by decide) rfl ?_
  have L995 : ∀ (nL995 : Nat) (z994 : Int), True → (0 ≤ z994 ∧ z994 ≤ 8) → (z994 ≤ z1) → (9 - z994) < (nL995 : Int) → sV (gG l D c H0 sa) mX7_addMark (sRm 1 0 0) (sZ (gG l D c H0 sa) 0 0 (qV w [200008, 202999] μ (fun μ1 => True))) 2 [(0, .ref a0), (1, iv p1), (2, iv z994)] [] (mk w μ) 0 0 := by
    intro nL995
    induction nL995 with
    | zero => intro z994 _ h996 h1000 h1001; exact ((vc_X7_addMark_1 h1001 h1000 h3 h996)).elim
    | succ nL995 ih1002 =>
      intro z994 _ h996 h1000 h1001
      refine mr_iload_n (pc := 2) (z := z994) dX7_addMark_2 rfl rfl ?_
      refine sv_aload_n (pc := 3) dX7_addMark_3 rfl rfl ?_
      refine gk_X7_8 (pc := 4) dX7_addMark_4 wF_X7_41 hA0 q2 ?_
      have J1011 : sV (gG l D c H0 sa) mX7_addMark (sRm 1 0 0) (sZ (gG l D c H0 sa) 0 0 (qV w [200008, 202999] μ (fun μ1 => True))) 26 [(0, .ref a0), (1, iv p1), (2, iv z994)] [] (mk w μ) 0 0 := by
        refine mr_iload_n (pc := 26) (z := z994) dX7_addMark_26 rfl rfl ?_
        refine sv_aload_n (pc := 27) dX7_addMark_27 rfl rfl ?_
        refine gk_X7_8 (pc := 28) dX7_addMark_28 wF_X7_41 hA0 q2 ?_
        have J1020 : ∀ (z1018 : Int), ((0 ≤ z1018 ∧ z1018 ≤ 1)) → sV (gG l D c H0 sa) mX7_addMark (sRm 1 0 0) (sZ (gG l D c H0 sa) 0 0 (qV w [200008, 202999] μ (fun μ1 => True))) 49 [(0, .ref a0), (1, iv p1), (2, iv z994)] [iv z1018] (mk w μ) 0 0 := by
          intro z1018 h1019
          refine mr_istore_n (pc := 49) (lv' := [(3, iv z1018), (0, .ref a0), (1, iv p1), (2, iv z994)]) dX7_addMark_49 rfl (by decide) rfl ?_
          refine mr_iload_n (pc := 50) (z := z1018) dX7_addMark_50 rfl rfl ?_
          refine mr_if_ne (pc := 51) (tgt := 63) dX7_addMark_51 (by decide) (r32 h1019 rfl) (fun h1021 => ?_) (fun h1021 => ?_)
          · have h1022 : 1 ≤ z1018 ∧ z1018 ≤ 1 := (vc_X12_ring_24 h1021 h1019)
            exact mr_vret dX7_addMark_63 rfl (le_t rfl) (le_t rfl) hT mF.refl trivial
          have h1023 : 0 ≤ z1018 ∧ z1018 ≤ 0 := (vc_X12_ring_22 h1021 h1019)
          refine sv_aload_n (pc := 54) dX7_addMark_54 rfl rfl ?_
          refine gk_X7_8 (pc := 55) dX7_addMark_55 wF_X7_41 hA0 q2 ?_
          refine mr_bipush (pc := 58) (z := 8) dX7_addMark_58 (by decide) ?_
          refine mr_icmp_lt (pc := 60) (tgt := 64) dX7_addMark_60 (by decide) (r32 h3 rfl) (r32 (rR (x := 8)) rfl) (fun h1024 => ?_) (fun h1024 => ?_)
          · have h1025 : 0 ≤ z1 ∧ z1 ≤ 7 := (vc_X7_addMark_4 h1024 h1000 h3 h996)
            refine sv_aload_n (pc := 64) dX7_addMark_64 rfl rfl ?_
            refine gk_X7_8 (pc := 65) dX7_addMark_65 wF_X7_41 hA0 q2 ?_
            refine mr_istore (pc := 68) (lv' := [(4, iv z1), (3, iv z1018), (0, .ref a0), (1, iv p1), (2, iv z994)]) dX7_addMark_68 (by decide) rfl ?_
            have L1068 : ∀ (nL1068 : Nat) (z1066 : Int) (μ1067 : mM), mT w μ1067 → mF [202999] w μ μ1067 → (0 ≤ z1066 ∧ z1066 ≤ 7) → (z994 ≤ z1066) → (z1066 - (-1)) < (nL1068 : Int) → sV (gG l D c H0 sa) mX7_addMark (sRm 1 0 0) (sZ (gG l D c H0 sa) 0 0 (qV w [200008, 202999] μ (fun μ1 => True))) 70 [(0, .ref a0), (1, iv p1), (2, iv z994), (4, iv z1066)] [] (mk w μ1067) 0 0 := by
              intro nL1068
              induction nL1068 with
              | zero => intro z1066 μ1067 T1070 F1071 h1069 h1073 h1074; exact ((vc_X7_addMark_5 h1074 h1073 h1000 h1025 h1069 h996)).elim
              | succ nL1068 ih1075 =>
                intro z1066 μ1067 T1070 F1071 h1069 h1073 h1074
                refine mr_iload (pc := 70) (z := z1066) dX7_addMark_70 rfl ?_
                refine mr_iload_n (pc := 72) (z := z994) dX7_addMark_72 rfl rfl ?_
                refine mr_icmp_le (pc := 73) (tgt := 98) dX7_addMark_73 (by decide) (r32 h1069 rfl) (r32 h996 rfl) (fun h1086 => ?_) (fun h1086 => ?_)
                · refine sv_aload_n (pc := 98) dX7_addMark_98 rfl rfl ?_
                  refine gf_X7_1 (pc := 99) dX7_addMark_99 wF_X7_15 hA0 T1070 fun A1087 => ?_
                  refine mr_iload_n (pc := 102) (z := z994) dX7_addMark_102 rfl rfl ?_
                  refine mr_iload_n (pc := 103) (z := p1) dX7_addMark_103 rfl rfl ?_
                  refine ss_202 (pc := 104) dX7_addMark_104 A1087 T1070 (vc_X7_addMark_6 h1000 h1073 h1086 h1024 h1025 h1069 h996) hp1 fun μ1088 u1089 T1090 => ?_
                  refine sv_aload_n (pc := 105) dX7_addMark_105 rfl rfl ?_
                  refine sv_dup (pc := 106) dX7_addMark_106 rfl ?_
                  refine gk_X7_8 (pc := 107) dX7_addMark_107 wF_X7_41 hA0 (u1089.f (Or.inl (mAt.ne A1087 hA0 rfl)) (F1071.f hA0 rfl q2)) ?_
                  refine mr_iconst (pc := 110) (z := 1) dX7_addMark_110 ?_
                  refine mr_iadd (pc := 111) (x := z1) (y := 1) dX7_addMark_111 ?_
                  refine pf_X7_8 (pc := 112) dX7_addMark_112 wF_X7_41 hA0 T1090 (rW (c := 0) (d := 8) (rAdd (e := 1) (f := 8) h1025 (rR (x := 1)) rfl) rfl) fun μ1091 u1092 T1093 => ?_
                  exact mr_vret dX7_addMark_115 rfl (le_t rfl) (le_t rfl) T1093 (mF.up (mF.up (mF.call mF.refl F1071 rfl) A1087 u1089 rfl) hA0 u1092 rfl) trivial
                have h1094 : 1 ≤ z1066 ∧ z1066 ≤ 7 := (vc_X7_addMark_7 h1086 h1000 h1073 h1025 h1069 h996)
                have h1095 : 0 ≤ z994 ∧ z994 ≤ 6 := (vc_X7_addMark_8 h1086 h1000 h1073 h1025 h1094 h996)
                refine sv_aload_n (pc := 76) dX7_addMark_76 rfl rfl ?_
                refine gf_X7_1 (pc := 77) dX7_addMark_77 wF_X7_15 hA0 T1070 fun A1096 => ?_
                refine mr_iload (pc := 80) (z := z1066) dX7_addMark_80 rfl ?_
                refine sv_aload_n (pc := 82) dX7_addMark_82 rfl rfl ?_
                refine gf_X7_1 (pc := 83) dX7_addMark_83 wF_X7_15 hA0 T1070 fun A1097 => ?_
                refine mr_iload (pc := 86) (z := z1066) dX7_addMark_86 rfl ?_
                refine mr_iconst (pc := 88) (z := 1) dX7_addMark_88 ?_
                refine mr_isub (pc := 89) (x := z1066) (y := 1) dX7_addMark_89 ?_
                refine la_202 (pc := 90) dX7_addMark_90 A1097 T1070 (rIx (n := 8) (rSub (e := 0) (f := 6) h1094 (rR (x := 1)) rfl) rfl) fun z1098 q1099 h1100 => ?_
                refine ss_202 (pc := 91) dX7_addMark_91 A1096 T1070 (rIx (n := 8) h1094 rfl) h1100 fun μ1101 u1102 T1103 => ?_
                refine mr_iinc (pc := 92) (lv' := [(4, iv (z1066 + (-1))), (0, .ref a0), (1, iv p1), (2, iv z994)]) dX7_addMark_92 rfl (by decide) rfl ?_
                refine sv_goto (pc := 95) (tgt := 70) dX7_addMark_95 (by decide) ?_
                refine mr_lvS (lv' := [(0, .ref a0), (1, iv p1), (2, iv z994), (4, iv (z1066 + (-1)))]) (List.forall_mem_cons.mpr ⟨rfl, List.forall_mem_cons.mpr ⟨rfl, List.forall_mem_cons.mpr ⟨rfl, List.forall_mem_cons.mpr ⟨rfl, fun _ h => absurd h List.not_mem_nil⟩⟩⟩⟩) ?_
                exact ih1075 (z1066 + (-1)) μ1101 T1103 (mF.up (mF.call mF.refl F1071 rfl) A1096 u1102 rfl) (rW (c := 0) (d := 7) (rAdd (e := 0) (f := 6) h1094 (rR (x := (-1))) rfl) rfl) (vc_X7_addMark_9 h1000 h1073 h1086 h1024 h1025 h1094 h1095) (vc_X7_addMark_10 (nS h1074) h1073 h1086 h1000 h1025 h1094 h1095)
            refine mr_lvS (lv' := [(0, .ref a0), (1, iv p1), (2, iv z994), (4, iv z1)]) (List.forall_mem_cons.mpr ⟨rfl, List.forall_mem_cons.mpr ⟨rfl, List.forall_mem_cons.mpr ⟨rfl, List.forall_mem_cons.mpr ⟨rfl, fun _ h => absurd h List.not_mem_nil⟩⟩⟩⟩) ?_
            exact L1068 9 z1 μ hT mF.refl h1025 (vc_X7_addMark_11 h1000 h1024 h1025 h996) (vc_X7_addMark_12 h1000 h1024 h1025 h996)
          have h1104 : 8 ≤ z1 ∧ z1 ≤ 8 := (vc_X7_addMark_13 h1024 h1000 h3 h996)
          exact mr_vret dX7_addMark_63 rfl (le_t rfl) (le_t rfl) hT mF.refl trivial
        refine mr_icmp_ge (pc := 31) (tgt := 48) dX7_addMark_31 (by decide) (r32 h996 rfl) (r32 h3 rfl) (fun h1105 => ?_) (fun h1105 => ?_)
        · refine mr_iconst (pc := 48) (z := 0) dX7_addMark_48 ?_
          exact J1020 0 (rW (c := 0) (d := 1) (rR (x := 0)) rfl)
        have h1106 : 0 ≤ z994 ∧ z994 ≤ 7 := (vc_X7_addMark_14 h1105 h1000 h3 h996)
        have h1107 : 1 ≤ z1 ∧ z1 ≤ 8 := (vc_X7_addMark_15 h1105 h1000 h3 h1106)
        refine sv_aload_n (pc := 34) dX7_addMark_34 rfl rfl ?_
        refine gf_X7_1 (pc := 35) dX7_addMark_35 wF_X7_15 hA0 hT fun A1108 => ?_
        refine mr_iload_n (pc := 38) (z := z994) dX7_addMark_38 rfl rfl ?_
        refine la_202 (pc := 39) dX7_addMark_39 A1108 hT (rIx (n := 8) h1106 rfl) fun z1109 q1110 h1111 => ?_
        refine mr_iload_n (pc := 40) (z := p1) dX7_addMark_40 rfl rfl ?_
        refine mr_icmp_ne (pc := 41) (tgt := 48) dX7_addMark_41 (by decide) h1111 hp1 (fun h1112 => ?_) (fun h1112 => ?_)
        · refine mr_iconst (pc := 48) (z := 0) dX7_addMark_48 ?_
          exact J1020 0 (rW (c := 0) (d := 1) (rR (x := 0)) rfl)
        refine mr_iconst (pc := 44) (z := 1) dX7_addMark_44 ?_
        refine sv_goto (pc := 45) (tgt := 49) dX7_addMark_45 (by decide) ?_
        exact J1020 1 (rW (c := 0) (d := 1) (rR (x := 1)) rfl)
      refine mr_icmp_ge (pc := 7) (tgt := 26) dX7_addMark_7 (by decide) (r32 h996 rfl) (r32 h3 rfl) (fun h1113 => ?_) (fun h1113 => ?_)
      · exact J1011 
      have h1114 : 0 ≤ z994 ∧ z994 ≤ 7 := (vc_X7_addMark_14 h1113 h1000 h3 h996)
      have h1115 : 1 ≤ z1 ∧ z1 ≤ 8 := (vc_X7_addMark_15 h1113 h1000 h3 h1114)
      refine sv_aload_n (pc := 10) dX7_addMark_10 rfl rfl ?_
      refine gf_X7_1 (pc := 11) dX7_addMark_11 wF_X7_15 hA0 hT fun A1116 => ?_
      refine mr_iload_n (pc := 14) (z := z994) dX7_addMark_14 rfl rfl ?_
      refine la_202 (pc := 15) dX7_addMark_15 A1116 hT (rIx (n := 8) h1114 rfl) fun z1117 q1118 h1119 => ?_
      refine mr_iload_n (pc := 16) (z := p1) dX7_addMark_16 rfl rfl ?_
      refine mr_icmp_ge (pc := 17) (tgt := 26) dX7_addMark_17 (by decide) h1119 hp1 (fun h1120 => ?_) (fun h1120 => ?_)
      · exact J1011 
      have h1121 : (-2147483648) ≤ z1117 ∧ z1117 ≤ 2147483646 := (vc_X7_addMark_16 h1120 hp1 h1119)
      have h1122 : (-2147483647) ≤ p1 ∧ p1 ≤ 2147483647 := (vc_X7_addMark_17 h1120 hp1 h1121)
      refine mr_iinc (pc := 20) (lv' := [(2, iv (z994 + 1)), (0, .ref a0), (1, iv p1)]) dX7_addMark_20 rfl (by decide) rfl ?_
      refine sv_goto (pc := 23) (tgt := 2) dX7_addMark_23 (by decide) ?_
      refine mr_lvS (lv' := [(0, .ref a0), (1, iv p1), (2, iv (z994 + 1))]) (List.forall_mem_cons.mpr ⟨rfl, List.forall_mem_cons.mpr ⟨rfl, List.forall_mem_cons.mpr ⟨rfl, fun _ h => absurd h List.not_mem_nil⟩⟩⟩) ?_
      exact ih1002 (z994 + 1) trivial (rW (c := 0) (d := 8) (rAdd (e := 1) (f := 8) h1114 (rR (x := 1)) rfl) rfl) (vc_X7_addMark_18 h1000 h1113 h1115 h1114) (vc_X7_addMark_19 (nS h1001) h1000 h1113 h1115 h1114)
  refine mr_lvS (lv' := [(0, .ref a0), (1, iv p1), (2, iv 0)]) (List.forall_mem_cons.mpr ⟨rfl, List.forall_mem_cons.mpr ⟨rfl, List.forall_mem_cons.mpr ⟨rfl, fun _ h => absurd h List.not_mem_nil⟩⟩⟩) ?_
  exact L995 10 0 trivial (rW (c := 0) (d := 8) (rR (x := 0)) rfl) (vc_X7_addMark_20 h3) vc_X12_same_28
theorem vc_X7_dropMark_1 {z85 z86 : Int} (h0 : (9 - z85) < ((0 : Nat) : Int)) (h1 : z86 ≤ z85) (h2 : 0 ≤ z85 ∧ z85 ≤ 8) (h3 : 0 ≤ z86 ∧ z86 ≤ 8) : False := by omega
theorem vc_X7_dropMark_2 {z85 z86 z97 : Int} (h0 : z85 < z97) (h1 : z86 ≤ z85) (h2 : 0 ≤ z85 ∧ z85 ≤ 8) (h3 : 0 ≤ z86 ∧ z86 ≤ 8) (h4 : 0 ≤ z97 ∧ z97 ≤ 8) : 0 ≤ z85 ∧ z85 ≤ 7 := by omega
theorem vc_X7_dropMark_3 {z85 z86 z97 : Int} (h0 : z85 < z97) (h1 : z86 ≤ z85) (h2 : 0 ≤ z85 ∧ z85 ≤ 7) (h3 : 0 ≤ z86 ∧ z86 ≤ 8) (h4 : 0 ≤ z97 ∧ z97 ≤ 8) : 1 ≤ z97 ∧ z97 ≤ 8 := by omega
theorem vc_X7_dropMark_4 {z85 z86 z97 : Int} (h0 : z86 ≤ z85) (h1 : z85 < z97) (h2 : 0 ≤ z85 ∧ z85 ≤ 7) (h3 : 0 ≤ z86 ∧ z86 ≤ 8) (h4 : 1 ≤ z97 ∧ z97 ≤ 8) : z86 ≤ (z85 + 1) := by omega
theorem vc_X7_dropMark_5 {N z85 z86 z97 : Int} (h0 : (9 - z85) < N + 1) (h1 : z86 ≤ z85) (h2 : z85 < z97) (h3 : 0 ≤ z85 ∧ z85 ≤ 7) (h4 : 0 ≤ z86 ∧ z86 ≤ 8) (h5 : 1 ≤ z97 ∧ z97 ≤ 8) : (9 - (z85 + 1)) < N := by omega
theorem vc_X7_dropMark_6 {z85 z86 z97 : Int} (h0 : z86 ≤ z85) (h1 : z85 < z97) (h2 : 0 ≤ z85 ∧ z85 ≤ 7) (h3 : 0 ≤ z86 ∧ z86 ≤ 8) (h4 : 1 ≤ z97 ∧ z97 ≤ 8) : 0 ≤ z86 ∧ z86 < 8 := by omega
theorem vc_X7_dropMark_7 {z85 z86 z97 : Int} (h0 : z86 ≤ z85) (h1 : z85 < z97) (h2 : 0 ≤ z85 ∧ z85 ≤ 7) (h3 : 0 ≤ z86 ∧ z86 ≤ 8) (h4 : 1 ≤ z97 ∧ z97 ≤ 8) : 0 ≤ (z86 + 1) ∧ (z86 + 1) ≤ 8 := by omega
theorem vc_X7_dropMark_8 {z85 z86 z97 : Int} (h0 : z86 ≤ z85) (h1 : z85 < z97) (h2 : 0 ≤ z85 ∧ z85 ≤ 7) (h3 : 0 ≤ z86 ∧ z86 ≤ 8) (h4 : 1 ≤ z97 ∧ z97 ≤ 8) : (z86 + 1) ≤ (z85 + 1) := by omega
set_option maxRecDepth 4000 in
set_option maxHeartbeats 4000000 in
theorem c_X7_dropMark {l : Launch} {D : va_G} {c : Nat → ClassId} {H0 : Heap} {sa : Nat × Nat × (Nat → Int32)} {w : mW} {μ : mM} (hw : mWF w) (hT : mT w μ) {a0 : Nat} (hA0 : mAt w a0 200) {p1 : Int} (hp1 : (-2147483648) ≤ p1 ∧ p1 ≤ 2147483647) : sC (gG l D c H0 sa) mX7_dropMark 1 0 0 [.ref a0, iv p1] (mk w μ) (qV w [200008, 202999] μ (fun μ1 => True)) := by
  refine sC.of rfl (by decide) (le_t rfl) ?_
  refine mr_lvE (lv' := [(0, .ref a0), (1, iv p1)]) rfl ?_
  refine mr_iconst (pc := 0) (z := 0) dX7_dropMark_0 ?_
  refine mr_istore_n (pc := 1) (lv' := [(2, iv 0), (0, .ref a0), (1, iv p1)]) dX7_dropMark_1 rfl (by decide) rfl ?_
  refine mr_iconst (pc := 2) (z := 0) dX7_dropMark_2 ?_
  refine mr_istore_n (pc := 3) (lv' := [(3, iv 0), (2, iv 0), (0, .ref a0), (1, iv p1)]) dX7_dropMark_3 rfl (by decide) rfl ?_
  have L88 : ∀ (nL88 : Nat) (z86 z85 : Int) (μ87 : mM), mT w μ87 → mF [202999] w μ μ87 → (0 ≤ z86 ∧ z86 ≤ 8) → (0 ≤ z85 ∧ z85 ≤ 8) → (z86 ≤ z85) → (9 - z85) < (nL88 : Int) → sV (gG l D c H0 sa) mX7_dropMark (sRm 1 0 0) (sZ (gG l D c H0 sa) 0 0 (qV w [200008, 202999] μ (fun μ1 => True))) 4 [(0, .ref a0), (1, iv p1), (2, iv z86), (3, iv z85)] [] (mk w μ87) 0 0 := by
    intro nL88
    induction nL88 with
    | zero => intro z86 z85 μ87 T91 F92 h89 h90 h94 h95; exact ((vc_X7_dropMark_1 h95 h94 h90 h89)).elim
    | succ nL88 ih96 =>
      intro z86 z85 μ87 T91 F92 h89 h90 h94 h95
      refine mr_iload_n (pc := 4) (z := z85) dX7_dropMark_4 rfl rfl ?_
      refine sv_aload_n (pc := 5) dX7_dropMark_5 rfl rfl ?_
      refine gf_X7_8 (pc := 6) dX7_dropMark_6 wF_X7_41 hA0 T91 fun z97 q98 h99 => ?_
      refine mr_icmp_ge (pc := 9) (tgt := 43) dX7_dropMark_9 (by decide) (r32 h90 rfl) (r32 h99 rfl) (fun h111 => ?_) (fun h111 => ?_)
      · refine sv_aload_n (pc := 43) dX7_dropMark_43 rfl rfl ?_
        refine mr_iload_n (pc := 44) (z := z86) dX7_dropMark_44 rfl rfl ?_
        refine pf_X7_8 (pc := 45) dX7_dropMark_45 wF_X7_41 hA0 T91 h89 fun μ112 u113 T114 => ?_
        exact mr_vret dX7_dropMark_48 rfl (le_t rfl) (le_t rfl) T114 (mF.up (mF.call mF.refl F92 rfl) hA0 u113 rfl) trivial
      have h115 : 0 ≤ z85 ∧ z85 ≤ 7 := (vc_X7_dropMark_2 h111 h94 h90 h89 h99)
      have h116 : 1 ≤ z97 ∧ z97 ≤ 8 := (vc_X7_dropMark_3 h111 h94 h115 h89 h99)
      refine sv_aload_n (pc := 12) dX7_dropMark_12 rfl rfl ?_
      refine gf_X7_1 (pc := 13) dX7_dropMark_13 wF_X7_15 hA0 T91 fun A117 => ?_
      refine mr_iload_n (pc := 16) (z := z85) dX7_dropMark_16 rfl rfl ?_
      refine la_202 (pc := 17) dX7_dropMark_17 A117 T91 (rIx (n := 8) h115 rfl) fun z118 q119 h120 => ?_
      refine mr_iload_n (pc := 18) (z := p1) dX7_dropMark_18 rfl rfl ?_
      refine mr_icmp_eq (pc := 19) (tgt := 37) dX7_dropMark_19 (by decide) h120 hp1 (fun h126 => ?_) (fun h126 => ?_)
      · refine mr_iinc (pc := 37) (lv' := [(3, iv (z85 + 1)), (0, .ref a0), (1, iv p1), (2, iv z86)]) dX7_dropMark_37 rfl (by decide) rfl ?_
        refine sv_goto (pc := 40) (tgt := 4) dX7_dropMark_40 (by decide) ?_
        refine mr_lvS (lv' := [(0, .ref a0), (1, iv p1), (2, iv z86), (3, iv (z85 + 1))]) (List.forall_mem_cons.mpr ⟨rfl, List.forall_mem_cons.mpr ⟨rfl, List.forall_mem_cons.mpr ⟨rfl, List.forall_mem_cons.mpr ⟨rfl, fun _ h => absurd h List.not_mem_nil⟩⟩⟩⟩) ?_
        exact ih96 z86 (z85 + 1) μ87 T91 (mF.call mF.refl F92 rfl) h89 (rW (c := 0) (d := 8) (rAdd (e := 1) (f := 8) h115 (rR (x := 1)) rfl) rfl) (vc_X7_dropMark_4 h94 h111 h115 h89 h116) (vc_X7_dropMark_5 (nS h95) h94 h111 h115 h89 h116)
      refine sv_aload_n (pc := 22) dX7_dropMark_22 rfl rfl ?_
      refine gf_X7_1 (pc := 23) dX7_dropMark_23 wF_X7_15 hA0 T91 fun A127 => ?_
      refine mr_iload_n (pc := 26) (z := z86) dX7_dropMark_26 rfl rfl ?_
      refine sv_aload_n (pc := 27) dX7_dropMark_27 rfl rfl ?_
      refine gf_X7_1 (pc := 28) dX7_dropMark_28 wF_X7_15 hA0 T91 fun A128 => ?_
      refine mr_iload_n (pc := 31) (z := z85) dX7_dropMark_31 rfl rfl ?_
      refine lk_202 (pc := 32) dX7_dropMark_32 A128 (rIx (n := 8) h115 rfl) q119 ?_
      refine ss_202 (pc := 33) dX7_dropMark_33 A127 T91 (vc_X7_dropMark_6 h94 h111 h115 h89 h116) h120 fun μ129 u130 T131 => ?_
      refine mr_iinc (pc := 34) (lv' := [(2, iv (z86 + 1)), (0, .ref a0), (1, iv p1), (3, iv z85)]) dX7_dropMark_34 rfl (by decide) rfl ?_
      refine mr_iinc (pc := 37) (lv' := [(3, iv (z85 + 1)), (2, iv (z86 + 1)), (0, .ref a0), (1, iv p1)]) dX7_dropMark_37 rfl (by decide) rfl ?_
      refine sv_goto (pc := 40) (tgt := 4) dX7_dropMark_40 (by decide) ?_
      refine mr_lvS (lv' := [(0, .ref a0), (1, iv p1), (2, iv (z86 + 1)), (3, iv (z85 + 1))]) (List.forall_mem_cons.mpr ⟨rfl, List.forall_mem_cons.mpr ⟨rfl, List.forall_mem_cons.mpr ⟨rfl, List.forall_mem_cons.mpr ⟨rfl, fun _ h => absurd h List.not_mem_nil⟩⟩⟩⟩) ?_
      exact ih96 (z86 + 1) (z85 + 1) μ129 T131 (mF.up (mF.call mF.refl F92 rfl) A127 u130 rfl) (vc_X7_dropMark_7 h94 h111 h115 h89 h116) (rW (c := 0) (d := 8) (rAdd (e := 1) (f := 8) h115 (rR (x := 1)) rfl) rfl) (vc_X7_dropMark_8 h94 h111 h115 h89 h116) (vc_X7_dropMark_5 (nS h95) h94 h111 h115 h89 h116)
  refine mr_lvS (lv' := [(0, .ref a0), (1, iv p1), (2, iv 0), (3, iv 0)]) (List.forall_mem_cons.mpr ⟨rfl, List.forall_mem_cons.mpr ⟨rfl, List.forall_mem_cons.mpr ⟨rfl, List.forall_mem_cons.mpr ⟨rfl, fun _ h => absurd h List.not_mem_nil⟩⟩⟩⟩) ?_
  exact L88 10 0 0 μ hT mF.refl (rW (c := 0) (d := 8) (rR (x := 0)) rfl) (rW (c := 0) (d := 8) (rR (x := 0)) rfl) vc_X12_dropMark_20 vc_X12_same_28
theorem vc_X7_putInFront_1 {p2 : Int} (h0 : p2 < 0) (h1 : (-2147483648) ≤ p2 ∧ p2 ≤ 1000000) : (-2147483648) ≤ p2 ∧ p2 ≤ (-1) := by omega
theorem vc_X7_putInFront_2 {p2 : Int} (h0 : 0 ≤ p2) (h1 : (-2147483648) ≤ p2 ∧ p2 ≤ 1000000) : 0 ≤ p2 ∧ p2 ≤ 1000000 := by omega
theorem vc_X7_putInFront_3 {p2 z1 : Int} (h0 : (z1 + p2) ≤ 20) (h1 : 0 ≤ p2) (h2 : 0 ≤ p2 ∧ p2 ≤ 1000000) (h3 : 0 ≤ z1 ∧ z1 ≤ 20) : 0 ≤ p2 ∧ p2 ≤ 20 := by omega
theorem vc_X7_putInFront_4 {p2 z1 z367 : Int} (h0 : (z367 - (-2)) < ((0 : Nat) : Int)) (h1 : z367 < z1) (h2 : (z1 + p2) ≤ 20) (h3 : 0 ≤ p2 ∧ p2 ≤ 20) (h4 : 0 ≤ z1 ∧ z1 ≤ 20) (h5 : (-1) ≤ z367 ∧ z367 ≤ 19) : False := by omega
theorem vc_X7_putInFront_5 {z1 z367 : Int} (h0 : z367 < 0) (h1 : z367 < z1) (h2 : 0 ≤ z1 ∧ z1 ≤ 20) (h3 : (-1) ≤ z367 ∧ z367 ≤ 19) : (-1) ≤ z367 ∧ z367 ≤ (-1) := by omega
theorem vc_X7_putInFront_7 {p2 z1 z367 z488 : Int} (h0 : 0 ≤ p2) (h1 : (z1 + p2) ≤ 20) (h2 : z367 < z1) (h3 : p2 ≤ z488) (h4 : z367 < 0) (h5 : 0 ≤ p2 ∧ p2 ≤ 20) (h6 : 0 ≤ z1 ∧ z1 ≤ 20) (h7 : (-1) ≤ z367 ∧ z367 ≤ (-1)) (h8 : 0 ≤ z488 ∧ z488 ≤ 20) : 0 ≤ (z1 + p2) ∧ (z1 + p2) ≤ 20 := by omega
theorem vc_X7_putInFront_8 {p2 z1 z488 : Int} (h0 : z488 < p2) (h1 : 0 ≤ p2) (h2 : (z1 + p2) ≤ 20) (h3 : 0 ≤ p2 ∧ p2 ≤ 20) (h4 : 0 ≤ z1 ∧ z1 ≤ 20) (h5 : 0 ≤ z488 ∧ z488 ≤ 20) : 0 ≤ z488 ∧ z488 ≤ 19 := by omega
theorem vc_X7_putInFront_9 {p2 z1 z488 : Int} (h0 : z488 < p2) (h1 : 0 ≤ p2) (h2 : (z1 + p2) ≤ 20) (h3 : 0 ≤ p2 ∧ p2 ≤ 20) (h4 : 0 ≤ z1 ∧ z1 ≤ 20) (h5 : 0 ≤ z488 ∧ z488 ≤ 19) : 1 ≤ p2 ∧ p2 ≤ 20 := by omega
theorem vc_X7_putInFront_10 {N p2 z1 z488 : Int} (h0 : (21 - z488) < N + 1) (h1 : z488 < p2) (h2 : 0 ≤ p2) (h3 : (z1 + p2) ≤ 20) (h4 : 1 ≤ p2 ∧ p2 ≤ 20) (h5 : 0 ≤ z1 ∧ z1 ≤ 20) (h6 : 0 ≤ z488 ∧ z488 ≤ 19) : (21 - (z488 + 1)) < N := by omega
theorem vc_X7_putInFront_12 {z1 z367 : Int} (h0 : 0 ≤ z367) (h1 : z367 < z1) (h2 : 0 ≤ z1 ∧ z1 ≤ 20) (h3 : (-1) ≤ z367 ∧ z367 ≤ 19) : 0 ≤ z367 ∧ z367 ≤ 19 := by omega
theorem vc_X7_putInFront_13 {p2 z1 z367 : Int} (h0 : 0 ≤ p2) (h1 : (z1 + p2) ≤ 20) (h2 : z367 < z1) (h3 : 0 ≤ z367) (h4 : 0 ≤ p2 ∧ p2 ≤ 20) (h5 : 0 ≤ z1 ∧ z1 ≤ 20) (h6 : 0 ≤ z367 ∧ z367 ≤ 19) : 0 ≤ (z367 + p2) ∧ (z367 + p2) < 20 := by omega
theorem vc_X7_putInFront_14 {p2 z1 z367 : Int} (h0 : (z1 + p2) ≤ 20) (h1 : z367 < z1) (h2 : 0 ≤ z367) (h3 : 0 ≤ p2) (h4 : 0 ≤ p2 ∧ p2 ≤ 20) (h5 : 0 ≤ z1 ∧ z1 ≤ 20) (h6 : 0 ≤ z367 ∧ z367 ≤ 19) : (z367 + (-1)) < z1 := by omega
theorem vc_X7_putInFront_15 {N p2 z1 z367 : Int} (h0 : (z367 - (-2)) < N + 1) (h1 : z367 < z1) (h2 : 0 ≤ z367) (h3 : (z1 + p2) ≤ 20) (h4 : 0 ≤ p2 ∧ p2 ≤ 20) (h5 : 0 ≤ z1 ∧ z1 ≤ 20) (h6 : 0 ≤ z367 ∧ z367 ≤ 19) : ((z367 + (-1)) - (-2)) < N := by omega
theorem vc_X7_putInFront_16 {p2 z1 : Int} (h0 : (z1 + p2) ≤ 20) (h1 : 0 ≤ p2) (h2 : 0 ≤ p2 ∧ p2 ≤ 20) (h3 : 0 ≤ z1 ∧ z1 ≤ 20) : (z1 - 1) < z1 := by omega
theorem vc_X7_putInFront_17 {p2 z1 : Int} (h0 : (z1 + p2) ≤ 20) (h1 : 0 ≤ p2) (h2 : 0 ≤ p2 ∧ p2 ≤ 20) (h3 : 0 ≤ z1 ∧ z1 ≤ 20) : ((z1 - 1) - (-2)) < ((22 : Nat) : Int) := by omega
theorem vc_X7_putInFront_18 {p2 z1 : Int} (h0 : 20 < (z1 + p2)) (h1 : 0 ≤ p2) (h2 : 0 ≤ p2 ∧ p2 ≤ 1000000) (h3 : 0 ≤ z1 ∧ z1 ≤ 20) : 1 ≤ p2 ∧ p2 ≤ 1000000 := by omega
set_option maxRecDepth 4000 in
set_option maxHeartbeats 4000000 in
theorem c_X7_putInFront {l : Launch} {D : va_G} {c : Nat → ClassId} {H0 : Heap} {sa : Nat × Nat × (Nat → Int32)} {w : mW} {μ : mM} (hw : mWF w) (hT : mT w μ) {a0 : Nat} (hA0 : mAt w a0 200) {p1 : Int} (hp1 : (-2147483648) ≤ p1 ∧ p1 ≤ 2147483647) {p2 : Int} (hp2 : (-2147483648) ≤ p2 ∧ p2 ≤ 1000000) : sC (gG l D c H0 sa) mX7_putInFront 1 0 0 [.ref a0, iv p1, iv p2] (mk w μ) (qI w [200007, 201999] μ (fun z μ1 => (0 ≤ z ∧ z ≤ 1) ∧ True)) := by
  refine sC.of rfl (by decide) (le_t rfl) ?_
  obtain ⟨z1, q2⟩ : ∃ z, μ a0 7 = z := ⟨_, rfl⟩
  have h3 : (0 ≤ z1 ∧ z1 ≤ 20) := by rw [← q2]; exact hT a0 200 hA0 7
  refine mr_lvE (lv' := [(0, .ref a0), (1, iv p1), (2, iv p2)]) rfl ?_
  refine mr_iload_n (pc := 0) (z := p2) dX7_putInFront_0 rfl rfl ?_
  refine mr_if_lt (pc := 1) (tgt := 15) dX7_putInFront_1 (by decide) (r32 hp2 rfl) (fun h292 => ?_) (fun h292 => ?_)
  · have h293 : (-2147483648) ≤ p2 ∧ p2 ≤ (-1) := (vc_X7_putInFront_1 h292 hp2)
    refine mr_iconst (pc := 15) (z := 0) dX7_putInFront_15 ?_
    exact mr_zret dX7_putInFront_16 rfl (rW (c := 0) (d := 1) (rR (x := 0)) rfl) (le_t rfl) (le_t rfl) hT mF.refl ⟨(rW (c := 0) (d := 1) (rR (x := 0)) rfl), trivial⟩
  have h294 : 0 ≤ p2 ∧ p2 ≤ 1000000 := (vc_X7_putInFront_2 h292 hp2)
  refine sv_aload_n (pc := 4) dX7_putInFront_4 rfl rfl ?_
  refine gk_X7_7 (pc := 5) dX7_putInFront_5 wF_X7_38 hA0 q2 ?_
  refine mr_iload_n (pc := 8) (z := p2) dX7_putInFront_8 rfl rfl ?_
  refine mr_iadd (pc := 9) (x := z1) (y := p2) dX7_putInFront_9 ?_
  refine mr_bipush (pc := 10) (z := 20) dX7_putInFront_10 (by decide) ?_
  refine mr_icmp_le (pc := 12) (tgt := 17) dX7_putInFront_12 (by decide) (r32 (rAdd (e := 0) (f := 1000020) h3 h294 rfl) rfl) (r32 (rR (x := 20)) rfl) (fun h295 => ?_) (fun h295 => ?_)
  · have h296 : 0 ≤ p2 ∧ p2 ≤ 20 := (vc_X7_putInFront_3 h295 h292 h294 h3)
    refine sv_aload_n (pc := 17) dX7_putInFront_17 rfl rfl ?_
    refine gk_X7_7 (pc := 18) dX7_putInFront_18 wF_X7_38 hA0 q2 ?_
    refine mr_iconst (pc := 21) (z := 1) dX7_putInFront_21 ?_
    refine mr_isub (pc := 22) (x := z1) (y := 1) dX7_putInFront_22 ?_
    refine mr_istore_n (pc := 23) (lv' := [(3, iv (z1 - 1)), (0, .ref a0), (1, iv p1), (2, iv p2)]) dX7_putInFront_23 rfl (by decide) rfl ?_
    have L369 : ∀ (nL369 : Nat) (z367 : Int) (μ368 : mM), mT w μ368 → mF [201999] w μ μ368 → ((-1) ≤ z367 ∧ z367 ≤ 19) → (z367 < z1) → (z367 - (-2)) < (nL369 : Int) → sV (gG l D c H0 sa) mX7_putInFront (sRm 1 0 0) (sZ (gG l D c H0 sa) 0 0 (qI w [200007, 201999] μ (fun z μ1 => (0 ≤ z ∧ z ≤ 1) ∧ True))) 24 [(0, .ref a0), (1, iv p1), (2, iv p2), (3, iv z367)] [] (mk w μ368) 0 0 := by
      intro nL369
      induction nL369 with
      | zero => intro z367 μ368 T371 F372 h370 h374 h375; exact ((vc_X7_putInFront_4 h375 h374 h295 h296 h3 h370)).elim
      | succ nL369 ih376 =>
        intro z367 μ368 T371 F372 h370 h374 h375
        refine mr_iload_n (pc := 24) (z := z367) dX7_putInFront_24 rfl rfl ?_
        refine mr_if_lt (pc := 25) (tgt := 48) dX7_putInFront_25 (by decide) (r32 h370 rfl) (fun h387 => ?_) (fun h387 => ?_)
        · have h388 : (-1) ≤ z367 ∧ z367 ≤ (-1) := (vc_X7_putInFront_5 h387 h374 h3 h370)
          refine mr_iconst (pc := 48) (z := 0) dX7_putInFront_48 ?_
          refine mr_istore_n (pc := 49) (lv' := [(3, iv 0), (0, .ref a0), (1, iv p1), (2, iv p2)]) dX7_putInFront_49 rfl (by decide) rfl ?_
          have L490 : ∀ (nL490 : Nat) (z488 : Int) (μ489 : mM), mT w μ489 → mF [201999] w μ368 μ489 → (0 ≤ z488 ∧ z488 ≤ 20) → (21 - z488) < (nL490 : Int) → sV (gG l D c H0 sa) mX7_putInFront (sRm 1 0 0) (sZ (gG l D c H0 sa) 0 0 (qI w [200007, 201999] μ (fun z μ1 => (0 ≤ z ∧ z ≤ 1) ∧ True))) 50 [(0, .ref a0), (1, iv p1), (2, iv p2), (3, iv z488)] [] (mk w μ489) 0 0 := by
            intro nL490
            induction nL490 with
            | zero => intro z488 μ489 T492 F493 h491 h495; exact ((vc_X12_tieOf_1 h495 h491)).elim
            | succ nL490 ih496 =>
              intro z488 μ489 T492 F493 h491 h495
              refine mr_iload_n (pc := 50) (z := z488) dX7_putInFront_50 rfl rfl ?_
              refine mr_iload_n (pc := 51) (z := p2) dX7_putInFront_51 rfl rfl ?_
              refine mr_icmp_ge (pc := 52) (tgt := 68) dX7_putInFront_52 (by decide) (r32 h491 rfl) (r32 h296 rfl) (fun h503 => ?_) (fun h503 => ?_)
              · refine sv_aload_n (pc := 68) dX7_putInFront_68 rfl rfl ?_
                refine sv_dup (pc := 69) dX7_putInFront_69 rfl ?_
                refine gk_X7_7 (pc := 70) dX7_putInFront_70 wF_X7_38 hA0 (F493.f hA0 rfl (F372.f hA0 rfl q2)) ?_
                refine mr_iload_n (pc := 73) (z := p2) dX7_putInFront_73 rfl rfl ?_
                refine mr_iadd (pc := 74) (x := z1) (y := p2) dX7_putInFront_74 ?_
                refine pf_X7_7 (pc := 75) dX7_putInFront_75 wF_X7_38 hA0 T492 (vc_X7_putInFront_7 h292 h295 h374 h503 h387 h296 h3 h388 h491) fun μ504 u505 T506 => ?_
                refine mr_iconst (pc := 78) (z := 1) dX7_putInFront_78 ?_
                exact mr_zret dX7_putInFront_79 rfl (rW (c := 0) (d := 1) (rR (x := 1)) rfl) (le_t rfl) (le_t rfl) T506 (mF.up (mF.call (mF.call mF.refl F372 rfl) F493 rfl) hA0 u505 rfl) ⟨(rW (c := 0) (d := 1) (rR (x := 1)) rfl), trivial⟩
              have h507 : 0 ≤ z488 ∧ z488 ≤ 19 := (vc_X7_putInFront_8 h503 h292 h295 h296 h3 h491)
              have h508 : 1 ≤ p2 ∧ p2 ≤ 20 := (vc_X7_putInFront_9 h503 h292 h295 h296 h3 h507)
              refine sv_aload_n (pc := 55) dX7_putInFront_55 rfl rfl ?_
              refine gf_X7_0 (pc := 56) dX7_putInFront_56 wF_X7_9 hA0 T492 fun A509 => ?_
              refine mr_iload_n (pc := 59) (z := z488) dX7_putInFront_59 rfl rfl ?_
              refine mr_iload_n (pc := 60) (z := p1) dX7_putInFront_60 rfl rfl ?_
              refine ss_201 (pc := 61) dX7_putInFront_61 A509 T492 (rIx (n := 20) h507 rfl) hp1 fun μ510 u511 T512 => ?_
              refine mr_iinc (pc := 62) (lv' := [(3, iv (z488 + 1)), (0, .ref a0), (1, iv p1), (2, iv p2)]) dX7_putInFront_62 rfl (by decide) rfl ?_
              refine sv_goto (pc := 65) (tgt := 50) dX7_putInFront_65 (by decide) ?_
              refine mr_lvS (lv' := [(0, .ref a0), (1, iv p1), (2, iv p2), (3, iv (z488 + 1))]) (List.forall_mem_cons.mpr ⟨rfl, List.forall_mem_cons.mpr ⟨rfl, List.forall_mem_cons.mpr ⟨rfl, List.forall_mem_cons.mpr ⟨rfl, fun _ h => absurd h List.not_mem_nil⟩⟩⟩⟩) ?_
              exact ih496 (z488 + 1) μ510 T512 (mF.up (mF.call mF.refl F493 rfl) A509 u511 rfl) (rW (c := 0) (d := 20) (rAdd (e := 1) (f := 20) h507 (rR (x := 1)) rfl) rfl) (vc_X7_putInFront_10 (nS h495) h503 h292 h295 h508 h3 h507)
          refine mr_lvS (lv' := [(0, .ref a0), (1, iv p1), (2, iv p2), (3, iv 0)]) (List.forall_mem_cons.mpr ⟨rfl, List.forall_mem_cons.mpr ⟨rfl, List.forall_mem_cons.mpr ⟨rfl, List.forall_mem_cons.mpr ⟨rfl, fun _ h => absurd h List.not_mem_nil⟩⟩⟩⟩) ?_
          exact L490 22 0 μ368 T371 mF.refl (rW (c := 0) (d := 20) (rR (x := 0)) rfl) vc_X12_tieOf_12
        have h513 : 0 ≤ z367 ∧ z367 ≤ 19 := (vc_X7_putInFront_12 h387 h374 h3 h370)
        refine sv_aload_n (pc := 28) dX7_putInFront_28 rfl rfl ?_
        refine gf_X7_0 (pc := 29) dX7_putInFront_29 wF_X7_9 hA0 T371 fun A514 => ?_
        refine mr_iload_n (pc := 32) (z := z367) dX7_putInFront_32 rfl rfl ?_
        refine mr_iload_n (pc := 33) (z := p2) dX7_putInFront_33 rfl rfl ?_
        refine mr_iadd (pc := 34) (x := z367) (y := p2) dX7_putInFront_34 ?_
        refine sv_aload_n (pc := 35) dX7_putInFront_35 rfl rfl ?_
        refine gf_X7_0 (pc := 36) dX7_putInFront_36 wF_X7_9 hA0 T371 fun A515 => ?_
        refine mr_iload_n (pc := 39) (z := z367) dX7_putInFront_39 rfl rfl ?_
        refine la_201 (pc := 40) dX7_putInFront_40 A515 T371 (rIx (n := 20) h513 rfl) fun z516 q517 h518 => ?_
        refine ss_201 (pc := 41) dX7_putInFront_41 A514 T371 (vc_X7_putInFront_13 h292 h295 h374 h387 h296 h3 h513) h518 fun μ519 u520 T521 => ?_
        refine mr_iinc (pc := 42) (lv' := [(3, iv (z367 + (-1))), (0, .ref a0), (1, iv p1), (2, iv p2)]) dX7_putInFront_42 rfl (by decide) rfl ?_
        refine sv_goto (pc := 45) (tgt := 24) dX7_putInFront_45 (by decide) ?_
        refine mr_lvS (lv' := [(0, .ref a0), (1, iv p1), (2, iv p2), (3, iv (z367 + (-1)))]) (List.forall_mem_cons.mpr ⟨rfl, List.forall_mem_cons.mpr ⟨rfl, List.forall_mem_cons.mpr ⟨rfl, List.forall_mem_cons.mpr ⟨rfl, fun _ h => absurd h List.not_mem_nil⟩⟩⟩⟩) ?_
        exact ih376 (z367 + (-1)) μ519 T521 (mF.up (mF.call mF.refl F372 rfl) A514 u520 rfl) (rW (c := (-1)) (d := 19) (rAdd (e := (-1)) (f := 18) h513 (rR (x := (-1))) rfl) rfl) (vc_X7_putInFront_14 h295 h374 h387 h292 h296 h3 h513) (vc_X7_putInFront_15 (nS h375) h374 h387 h295 h296 h3 h513)
    refine mr_lvS (lv' := [(0, .ref a0), (1, iv p1), (2, iv p2), (3, iv (z1 - 1))]) (List.forall_mem_cons.mpr ⟨rfl, List.forall_mem_cons.mpr ⟨rfl, List.forall_mem_cons.mpr ⟨rfl, List.forall_mem_cons.mpr ⟨rfl, fun _ h => absurd h List.not_mem_nil⟩⟩⟩⟩) ?_
    exact L369 22 (z1 - 1) μ hT mF.refl (rSub (e := (-1)) (f := 19) h3 (rR (x := 1)) rfl) (vc_X7_putInFront_16 h295 h292 h296 h3) (vc_X7_putInFront_17 h295 h292 h296 h3)
  have h522 : 1 ≤ p2 ∧ p2 ≤ 1000000 := (vc_X7_putInFront_18 h295 h292 h294 h3)
  refine mr_iconst (pc := 15) (z := 0) dX7_putInFront_15 ?_
  exact mr_zret dX7_putInFront_16 rfl (rW (c := 0) (d := 1) (rR (x := 0)) rfl) (le_t rfl) (le_t rfl) hT mF.refl ⟨(rW (c := 0) (d := 1) (rR (x := 0)) rfl), trivial⟩
set_option maxRecDepth 4000 in
set_option maxHeartbeats 4000000 in
theorem c_X9_placeOf {l : Launch} {D : va_G} {c : Nat → ClassId} {H0 : Heap} {sa : Nat × Nat × (Nat → Int32)} {w : mW} {μ : mM} (hw : mWF w) (hT : mT w μ) {p1 : Int} (hp1 : 0 ≤ p1 ∧ p1 ≤ 1) {p2 : Int} (hp2 : 0 ≤ p2 ∧ p2 ≤ 9) : sC (gG l D c H0 sa) mX9_placeOf 1 0 0 [iv p1, iv p2] (mk w μ) (qP w μ (fun z => (0 ≤ z ∧ z ≤ 19) ∧ True)) := by
  refine sC.of rfl (by decide) (le_t rfl) ?_
  refine mr_lvE (lv' := [(0, iv p1), (1, iv p2)]) rfl ?_
  refine mr_iload_n (pc := 0) (z := p1) dX9_placeOf_0 rfl rfl ?_
  refine mr_bipush (pc := 1) (z := 10) dX9_placeOf_1 (by decide) ?_
  refine mr_imul (pc := 3) (x := p1) (y := 10) dX9_placeOf_3 ?_
  refine mr_iload_n (pc := 4) (z := p2) dX9_placeOf_4 rfl rfl ?_
  refine mr_iadd (pc := 5) (x := (p1 * 10)) (y := p2) dX9_placeOf_5 ?_
  exact mr_iretP dX9_placeOf_6 rfl (le_t rfl) (le_t rfl) ⟨(rAdd (e := 0) (f := 19) (rMulR (n := 10) (e := 0) (f := 10) hp1 rfl) hp2 rfl), trivial⟩
theorem vc_X9_end_1 {n0 z11 : Int} (h0 : z11 < n0) (h1 : 0 ≤ z11 ∧ z11 ≤ 9) : z11 < n0 := by omega
set_option maxRecDepth 4000 in
set_option maxHeartbeats 4000000 in
theorem c_X9_end {l : Launch} {D : va_G} {c : Nat → ClassId} {H0 : Heap} {sa : Nat × Nat × (Nat → Int32)} {w : mW} {μ : mM} (hw : mWF w) (hT : mT w μ) {a0 : Nat} (hA0 : mAt w a0 220) {p1 : Int} (hp1 : (-2147483648) ≤ p1 ∧ p1 ≤ 2147483647) : sC (gG l D c H0 sa) mX9_end 1 0 0 [.ref a0, iv p1] (mk w μ) (qP w μ (fun z => (0 ≤ z ∧ z ≤ 9) ∧ (z < w.2.2.2 0) ∧ True)) := by
  refine sC.of rfl (by decide) (le_t rfl) ?_
  refine mr_lvE (lv' := [(0, .ref a0), (1, iv p1)]) rfl ?_
  refine mr_iload_n (pc := 0) (z := p1) dX9_end_0 rfl rfl ?_
  refine mr_if_ne (pc := 1) (tgt := 11) dX9_end_1 (by decide) hp1 (fun h10 => ?_) (fun h10 => ?_)
  · refine sv_aload_n (pc := 11) dX9_end_11 rfl rfl ?_
    refine gf_X9_1 (pc := 12) dX9_end_12 wF_X9_15 hA0 hT fun z11 q12 h13 => ?_
    have h14 : 0 ≤ z11 ∧ z11 ≤ 9 := ⟨h13.1, h13.2.1⟩
    exact mr_iretP dX9_end_15 rfl (le_t rfl) (le_t rfl) ⟨h14, (vc_X9_end_1 h13.2.2 h14), trivial⟩
  have h15 : 0 ≤ p1 ∧ p1 ≤ 0 := (vc_X12_mask_1 h10 hp1)
  refine sv_aload_n (pc := 4) dX9_end_4 rfl rfl ?_
  refine gf_X9_0 (pc := 5) dX9_end_5 wF_X9_9 hA0 hT fun z16 q17 h18 => ?_
  have h19 : 0 ≤ z16 ∧ z16 ≤ 9 := ⟨h18.1, h18.2.1⟩
  refine sv_goto (pc := 8) (tgt := 15) dX9_end_8 (by decide) ?_
  exact mr_iretP dX9_end_15 rfl (le_t rfl) (le_t rfl) ⟨h19, (vc_X9_end_1 h18.2.2 h19), trivial⟩
theorem vc_X9_sideOf_1 {n0 p1 z1 z6 : Int} (h0 : p1 = z6) (h1 : ¬ p1 = z1) (h2 : z6 < n0) (h3 : (-2147483648) ≤ p1 ∧ p1 ≤ 2147483647) (h4 : 0 ≤ z1 ∧ z1 ≤ 9) (h5 : 0 ≤ z6 ∧ z6 ≤ 9) : 0 ≤ p1 ∧ p1 ≤ 9 := by omega
theorem vc_X9_sideOf_2 {n0 p1 z1 : Int} (h0 : p1 = z1) (h1 : z1 < n0) (h2 : (-2147483648) ≤ p1 ∧ p1 ≤ 2147483647) (h3 : 0 ≤ z1 ∧ z1 ≤ 9) : 0 ≤ p1 ∧ p1 ≤ 9 := by omega
set_option maxRecDepth 4000 in
set_option maxHeartbeats 4000000 in
theorem c_X9_sideOf {l : Launch} {D : va_G} {c : Nat → ClassId} {H0 : Heap} {sa : Nat × Nat × (Nat → Int32)} {w : mW} {μ : mM} (hw : mWF w) (hT : mT w μ) {a0 : Nat} (hA0 : mAt w a0 220) {p1 : Int} (hp1 : (-2147483648) ≤ p1 ∧ p1 ≤ 2147483647) : sC (gG l D c H0 sa) mX9_sideOf 1 0 0 [.ref a0, iv p1] (mk w μ) (qP w μ (fun z => ((-1) ≤ z ∧ z ≤ 1) ∧ True)) := by
  refine sC.of rfl (by decide) (le_t rfl) ?_
  refine mr_lvE (lv' := [(0, .ref a0), (1, iv p1)]) rfl ?_
  refine mr_iload_n (pc := 0) (z := p1) dX9_sideOf_0 rfl rfl ?_
  refine sv_aload_n (pc := 1) dX9_sideOf_1 rfl rfl ?_
  refine gf_X9_0 (pc := 2) dX9_sideOf_2 wF_X9_9 hA0 hT fun z1 q2 h3 => ?_
  have h4 : 0 ≤ z1 ∧ z1 ≤ 9 := ⟨h3.1, h3.2.1⟩
  refine mr_icmp_ne (pc := 5) (tgt := 10) dX9_sideOf_5 (by decide) hp1 (r32 h4 rfl) (fun h5 => ?_) (fun h5 => ?_)
  · refine mr_iload_n (pc := 10) (z := p1) dX9_sideOf_10 rfl rfl ?_
    refine sv_aload_n (pc := 11) dX9_sideOf_11 rfl rfl ?_
    refine gf_X9_1 (pc := 12) dX9_sideOf_12 wF_X9_15 hA0 hT fun z6 q7 h8 => ?_
    have h9 : 0 ≤ z6 ∧ z6 ≤ 9 := ⟨h8.1, h8.2.1⟩
    refine mr_icmp_ne (pc := 15) (tgt := 22) dX9_sideOf_15 (by decide) hp1 (r32 h9 rfl) (fun h11 => ?_) (fun h11 => ?_)
    · refine mr_iconst (pc := 22) (z := (-1)) dX9_sideOf_22 ?_
      exact mr_iretP dX9_sideOf_23 rfl (le_t rfl) (le_t rfl) ⟨(rW (c := (-1)) (d := 1) (rR (x := (-1))) rfl), trivial⟩
    have h12 : 0 ≤ p1 ∧ p1 ≤ 9 := (vc_X9_sideOf_1 h11 h5 h8.2.2 hp1 h4 h9)
    refine mr_iconst (pc := 18) (z := 1) dX9_sideOf_18 ?_
    refine sv_goto (pc := 19) (tgt := 23) dX9_sideOf_19 (by decide) ?_
    exact mr_iretP dX9_sideOf_23 rfl (le_t rfl) (le_t rfl) ⟨(rW (c := (-1)) (d := 1) (rR (x := 1)) rfl), trivial⟩
  have h13 : 0 ≤ p1 ∧ p1 ≤ 9 := (vc_X9_sideOf_2 h5 h3.2.2 hp1 h4)
  refine mr_iconst (pc := 8) (z := 0) dX9_sideOf_8 ?_
  exact mr_iretP dX9_sideOf_9 rfl (le_t rfl) (le_t rfl) ⟨(rW (c := (-1)) (d := 1) (rR (x := 0)) rfl), trivial⟩
theorem vc_X9_partnerRole_1 {z1 : Int} (h0 : ¬ z1 = 2) (h1 : ¬ z1 = 1) (h2 : 0 ≤ z1 ∧ z1 ≤ 2) : 0 ≤ z1 ∧ z1 ≤ 1 := by omega
theorem vc_X9_partnerRole_3 {z1 : Int} (h0 : z1 = 2) (h1 : ¬ z1 = 1) (h2 : 0 ≤ z1 ∧ z1 ≤ 2) : 2 ≤ z1 ∧ z1 ≤ 2 := by omega
theorem vc_X9_partnerRole_4 {z1 : Int} (h0 : z1 = 1) (h1 : 0 ≤ z1 ∧ z1 ≤ 2) : 1 ≤ z1 ∧ z1 ≤ 1 := by omega
set_option maxRecDepth 4000 in
set_option maxHeartbeats 4000000 in
theorem c_X9_partnerRole {l : Launch} {D : va_G} {c : Nat → ClassId} {H0 : Heap} {sa : Nat × Nat × (Nat → Int32)} {w : mW} {μ : mM} (hw : mWF w) (hT : mT w μ) {a0 : Nat} (hA0 : mAt w a0 220) {p1 : Int} (hp1 : (-2147483648) ≤ p1 ∧ p1 ≤ 2147483647) : sC (gG l D c H0 sa) mX9_partnerRole 1 0 0 [.ref a0, iv p1] (mk w μ) (qP w μ (fun z => (0 ≤ z ∧ z ≤ 3) ∧ True)) := by
  refine sC.of rfl (by decide) (le_t rfl) ?_
  refine mr_lvE (lv' := [(0, .ref a0), (1, iv p1)]) rfl ?_
  refine sv_aload_n (pc := 0) dX9_partnerRole_0 rfl rfl ?_
  refine gf_X9_2 (pc := 1) dX9_partnerRole_1 wF_X9_18 hA0 hT fun z1 q2 h3 => ?_
  refine mr_iconst (pc := 4) (z := 1) dX9_partnerRole_4 ?_
  refine mr_icmp_ne (pc := 5) (tgt := 10) dX9_partnerRole_5 (by decide) (r32 h3 rfl) (r32 (rR (x := 1)) rfl) (fun h4 => ?_) (fun h4 => ?_)
  · refine sv_aload_n (pc := 10) dX9_partnerRole_10 rfl rfl ?_
    refine gk_X9_2 (pc := 11) dX9_partnerRole_11 wF_X9_18 hA0 q2 ?_
    refine mr_iconst (pc := 14) (z := 2) dX9_partnerRole_14 ?_
    refine mr_icmp_ne (pc := 15) (tgt := 20) dX9_partnerRole_15 (by decide) (r32 h3 rfl) (r32 (rR (x := 2)) rfl) (fun h5 => ?_) (fun h5 => ?_)
    · have h6 : 0 ≤ z1 ∧ z1 ≤ 1 := (vc_X9_partnerRole_1 h5 h4 h3)
      refine mr_iload_n (pc := 20) (z := p1) dX9_partnerRole_20 rfl rfl ?_
      refine mr_if_ne (pc := 21) (tgt := 28) dX9_partnerRole_21 (by decide) hp1 (fun h8 => ?_) (fun h8 => ?_)
      · refine mr_iconst (pc := 28) (z := 1) dX9_partnerRole_28 ?_
        exact mr_iretP dX9_partnerRole_29 rfl (le_t rfl) (le_t rfl) ⟨(rW (c := 0) (d := 3) (rR (x := 1)) rfl), trivial⟩
      have h9 : 0 ≤ p1 ∧ p1 ≤ 0 := (vc_X12_mask_1 h8 hp1)
      refine mr_iconst (pc := 24) (z := 0) dX9_partnerRole_24 ?_
      refine sv_goto (pc := 25) (tgt := 29) dX9_partnerRole_25 (by decide) ?_
      exact mr_iretP dX9_partnerRole_29 rfl (le_t rfl) (le_t rfl) ⟨(rW (c := 0) (d := 3) (rR (x := 0)) rfl), trivial⟩
    have h10 : 2 ≤ z1 ∧ z1 ≤ 2 := (vc_X9_partnerRole_3 h5 h4 h3)
    refine mr_iconst (pc := 18) (z := 3) dX9_partnerRole_18 ?_
    exact mr_iretP dX9_partnerRole_19 rfl (le_t rfl) (le_t rfl) ⟨(rW (c := 0) (d := 3) (rR (x := 3)) rfl), trivial⟩
  have h11 : 1 ≤ z1 ∧ z1 ≤ 1 := (vc_X9_partnerRole_4 h4 h3)
  refine mr_iconst (pc := 8) (z := 2) dX9_partnerRole_8 ?_
  exact mr_iretP dX9_partnerRole_9 rfl (le_t rfl) (le_t rfl) ⟨(rW (c := 0) (d := 3) (rR (x := 2)) rfl), trivial⟩
theorem vc_X0_compareAt_1 {p1 : Int} (h0 : p1 = 1) (h1 : (-2147483648) ≤ p1 ∧ p1 ≤ 2147483647) : 1 ≤ p1 ∧ p1 ≤ 1 := by omega
theorem vc_X0_compareAt_2 {p1 : Int} (h0 : p1 = 2) (h1 : ¬ p1 = 1) (h2 : (-2147483648) ≤ p1 ∧ p1 ≤ 2147483647) : 2 ≤ p1 ∧ p1 ≤ 2 := by omega
theorem vc_X0_compareAt_3 {p1 : Int} (h0 : p1 = 3) (h1 : ¬ p1 = 1) (h2 : ¬ p1 = 2) (h3 : (-2147483648) ≤ p1 ∧ p1 ≤ 2147483647) : 3 ≤ p1 ∧ p1 ≤ 3 := by omega
theorem vc_X0_compareAt_4 {p1 : Int} (h0 : p1 = 4) (h1 : ¬ p1 = 1) (h2 : ¬ p1 = 2) (h3 : ¬ p1 = 3) (h4 : (-2147483648) ≤ p1 ∧ p1 ≤ 2147483647) : 4 ≤ p1 ∧ p1 ≤ 4 := by omega
theorem vc_X0_compareAt_7 {p1 : Int} (h0 : p1 = 5) (h1 : ¬ p1 = 1) (h2 : ¬ p1 = 2) (h3 : ¬ p1 = 3) (h4 : ¬ p1 = 4) (h5 : (-2147483648) ≤ p1 ∧ p1 ≤ 2147483647) : 5 ≤ p1 ∧ p1 ≤ 5 := by omega
theorem vc_X0_compareAt_8 {p1 : Int} (h0 : p1 = 6) (h1 : ¬ p1 = 1) (h2 : ¬ p1 = 2) (h3 : ¬ p1 = 3) (h4 : ¬ p1 = 4) (h5 : ¬ p1 = 5) (h6 : (-2147483648) ≤ p1 ∧ p1 ≤ 2147483647) : 6 ≤ p1 ∧ p1 ≤ 6 := by omega
theorem vc_X0_compareAt_9 {p1 : Int} (h0 : ¬ p1 = 1) (h1 : ¬ p1 = 2) (h2 : ¬ p1 = 3) (h3 : ¬ p1 = 4) (h4 : ¬ p1 = 5) (h5 : ¬ p1 = 6) (h6 : (-2147483648) ≤ p1 ∧ p1 ≤ 2147483647) : p1 < 1 ∨ 6 < p1 := by omega
set_option maxRecDepth 4000 in
set_option maxHeartbeats 4000000 in
theorem c_X0_compareAt {l : Launch} {D : va_G} {c : Nat → ClassId} {H0 : Heap} {sa : Nat × Nat × (Nat → Int32)} {w : mW} {μ : mM} (hw : mWF w) (hT : mT w μ) {p1 : Int} (hp1 : (-2147483648) ≤ p1 ∧ p1 ≤ 2147483647) {a2 : Nat} (hA2 : mAt w a2 200) {a3 : Nat} (hA3 : mAt w a3 200) : sC (gG l D c H0 sa) mX0_compareAt 2 0 0 [iv p1, .ref a2, .ref a3] (mk w μ) (qP w μ (fun z => ((-1) ≤ z ∧ z ≤ 1) ∧ True)) := by
  refine sC.of rfl (by decide) (le_t rfl) ?_
  refine mr_lvE (lv' := [(0, iv p1), (1, .ref a2), (2, .ref a3)]) rfl ?_
  refine mr_iload_n (pc := 0) (z := p1) dX0_compareAt_0 rfl rfl ?_
  by_cases h1 : p1 = 1
  · refine mr_tableIn (pc := 1) (v := 1) (tgt := 40) dX0_compareAt_1 h1 rfl rfl (by decide) ?_
    have h2 : 1 ≤ p1 ∧ p1 ≤ 1 := (vc_X0_compareAt_1 h1 hp1)
    refine sv_aload_n (pc := 40) dX0_compareAt_40 rfl rfl ?_
    refine gf_X7_4 (pc := 41) dX0_compareAt_41 wF_X0_48 hA3 hT fun z3 q4 h5 => ?_
    refine sv_aload_n (pc := 44) dX0_compareAt_44 rfl rfl ?_
    refine gf_X7_4 (pc := 45) dX0_compareAt_45 wF_X0_48 hA2 hT fun z6 q7 h8 => ?_
    refine mr_cSP (pc := 48) (c_J_cmp h5 h8) (gOk _ _ _ _ _) dX0_compareAt_48 (tJ_cmp _ _ _ _ _) wS_J_cmp wM_X0_51 ⟨le_t rfl, le_t rfl⟩ ⟨le_t rfl, le_t rfl⟩ rfl (le_t rfl) fun z9 h10 => ?_
    exact mr_iretP dX0_compareAt_51 rfl (le_t rfl) (le_t rfl) ⟨h10.1, trivial⟩
  by_cases h11 : p1 = 2
  · refine mr_tableIn (pc := 1) (v := 2) (tgt := 52) dX0_compareAt_1 h11 rfl rfl (by decide) ?_
    have h12 : 2 ≤ p1 ∧ p1 ≤ 2 := (vc_X0_compareAt_2 h11 h1 hp1)
    refine sv_aload_n (pc := 52) dX0_compareAt_52 rfl rfl ?_
    refine gf_X7_7 (pc := 53) dX0_compareAt_53 wF_X0_57 hA2 hT fun z13 q14 h15 => ?_
    refine sv_aload_n (pc := 56) dX0_compareAt_56 rfl rfl ?_
    refine gf_X7_7 (pc := 57) dX0_compareAt_57 wF_X0_57 hA3 hT fun z16 q17 h18 => ?_
    refine mr_cSP (pc := 60) (c_J_cmp (r32 h15 rfl) (r32 h18 rfl)) (gOk _ _ _ _ _) dX0_compareAt_60 (tJ_cmp _ _ _ _ _) wS_J_cmp wM_X0_51 ⟨le_t rfl, le_t rfl⟩ ⟨le_t rfl, le_t rfl⟩ rfl (le_t rfl) fun z19 h20 => ?_
    exact mr_iretP dX0_compareAt_63 rfl (le_t rfl) (le_t rfl) ⟨h20.1, trivial⟩
  by_cases h21 : p1 = 3
  · refine mr_tableIn (pc := 1) (v := 3) (tgt := 64) dX0_compareAt_1 h21 rfl rfl (by decide) ?_
    have h22 : 3 ≤ p1 ∧ p1 ≤ 3 := (vc_X0_compareAt_3 h21 h1 h11 hp1)
    refine sv_aload_n (pc := 64) dX0_compareAt_64 rfl rfl ?_
    refine gf_X7_5 (pc := 65) dX0_compareAt_65 wF_X0_60 hA2 hT fun z23 q24 h25 => ?_
    refine sv_aload_n (pc := 68) dX0_compareAt_68 rfl rfl ?_
    refine gf_X7_5 (pc := 69) dX0_compareAt_69 wF_X0_60 hA3 hT fun z26 q27 h28 => ?_
    refine mr_cSP (pc := 72) (c_J_cmp h25 h28) (gOk _ _ _ _ _) dX0_compareAt_72 (tJ_cmp _ _ _ _ _) wS_J_cmp wM_X0_51 ⟨le_t rfl, le_t rfl⟩ ⟨le_t rfl, le_t rfl⟩ rfl (le_t rfl) fun z29 h30 => ?_
    exact mr_iretP dX0_compareAt_75 rfl (le_t rfl) (le_t rfl) ⟨h30.1, trivial⟩
  by_cases h31 : p1 = 4
  · refine mr_tableIn (pc := 1) (v := 4) (tgt := 76) dX0_compareAt_1 h31 rfl rfl (by decide) ?_
    have h32 : 4 ≤ p1 ∧ p1 ≤ 4 := (vc_X0_compareAt_4 h31 h1 h11 h21 hp1)
    refine sv_aload_n (pc := 76) dX0_compareAt_76 rfl rfl ?_
    refine sv_aload_n (pc := 77) dX0_compareAt_77 rfl rfl ?_
    refine mr_cVP (pc := 78) (c_X7_sharesFirst hw hT hA2 hA3) (gOk _ _ _ _ _) dX0_compareAt_78 (tX7_sharesFirst _ _ _ _ _) ⟨wV_X7_sharesFirst, wL_X7_sharesFirst⟩ wM_X0_63 (gCX7 _ _ _ _ _) rfl hA2 rfl ⟨le_t rfl, le_t rfl⟩ ⟨le_t rfl, le_t rfl⟩ rfl (le_t rfl) fun z37 h36 => ?_
    refine mr_if_eq (pc := 81) (tgt := 98) dX0_compareAt_81 (by decide) (r32 h36.1 rfl) (fun h48 => ?_) (fun h48 => ?_)
    · have h49 : 0 ≤ z37 ∧ z37 ≤ 0 := (vc_X12_ring_22 h48 h36.1)
      refine mr_iconst (pc := 98) (z := 0) dX0_compareAt_98 ?_
      exact mr_iretP dX0_compareAt_99 rfl (le_t rfl) (le_t rfl) ⟨(rW (c := (-1)) (d := 1) (rR (x := 0)) rfl), trivial⟩
    have h50 : 1 ≤ z37 ∧ z37 ≤ 1 := (vc_X12_ring_24 h48 h36.1)
    refine sv_aload_n (pc := 84) dX0_compareAt_84 rfl rfl ?_
    refine gf_X7_6 (pc := 85) dX0_compareAt_85 wF_X0_67 hA2 hT fun z51 q52 h53 => ?_
    refine sv_aload_n (pc := 88) dX0_compareAt_88 rfl rfl ?_
    refine gf_X7_6 (pc := 89) dX0_compareAt_89 wF_X0_67 hA3 hT fun z54 q55 h56 => ?_
    refine mr_cSP (pc := 92) (c_J_cmp h53 h56) (gOk _ _ _ _ _) dX0_compareAt_92 (tJ_cmp _ _ _ _ _) wS_J_cmp wM_X0_51 ⟨le_t rfl, le_t rfl⟩ ⟨le_t rfl, le_t rfl⟩ rfl (le_t rfl) fun z57 h58 => ?_
    refine sv_goto (pc := 95) (tgt := 99) dX0_compareAt_95 (by decide) ?_
    exact mr_iretP dX0_compareAt_99 rfl (le_t rfl) (le_t rfl) ⟨h58.1, trivial⟩
  by_cases h59 : p1 = 5
  · refine mr_tableIn (pc := 1) (v := 5) (tgt := 100) dX0_compareAt_1 h59 rfl rfl (by decide) ?_
    have h60 : 5 ≤ p1 ∧ p1 ≤ 5 := (vc_X0_compareAt_7 h59 h1 h11 h21 h31 hp1)
    refine sv_aload_n (pc := 100) dX0_compareAt_100 rfl rfl ?_
    refine gf_X7_9 (pc := 101) dX0_compareAt_101 wF_X0_70 hA2 hT fun z61 q62 h63 => ?_
    refine sv_aload_n (pc := 104) dX0_compareAt_104 rfl rfl ?_
    refine gf_X7_9 (pc := 105) dX0_compareAt_105 wF_X0_70 hA3 hT fun z64 q65 h66 => ?_
    refine mr_cSP (pc := 108) (c_J_cmp (r32 h63 rfl) (r32 h66 rfl)) (gOk _ _ _ _ _) dX0_compareAt_108 (tJ_cmp _ _ _ _ _) wS_J_cmp wM_X0_51 ⟨le_t rfl, le_t rfl⟩ ⟨le_t rfl, le_t rfl⟩ rfl (le_t rfl) fun z67 h68 => ?_
    exact mr_iretP dX0_compareAt_111 rfl (le_t rfl) (le_t rfl) ⟨h68.1, trivial⟩
  by_cases h69 : p1 = 6
  · refine mr_tableIn (pc := 1) (v := 6) (tgt := 112) dX0_compareAt_1 h69 rfl rfl (by decide) ?_
    have h70 : 6 ≤ p1 ∧ p1 ≤ 6 := (vc_X0_compareAt_8 h69 h1 h11 h21 h31 h59 hp1)
    refine sv_aload_n (pc := 112) dX0_compareAt_112 rfl rfl ?_
    refine gf_X7_6 (pc := 113) dX0_compareAt_113 wF_X0_67 hA2 hT fun z71 q72 h73 => ?_
    refine sv_aload_n (pc := 116) dX0_compareAt_116 rfl rfl ?_
    refine gf_X7_6 (pc := 117) dX0_compareAt_117 wF_X0_67 hA3 hT fun z74 q75 h76 => ?_
    refine mr_cSP (pc := 120) (c_J_cmp h73 h76) (gOk _ _ _ _ _) dX0_compareAt_120 (tJ_cmp _ _ _ _ _) wS_J_cmp wM_X0_51 ⟨le_t rfl, le_t rfl⟩ ⟨le_t rfl, le_t rfl⟩ rfl (le_t rfl) fun z77 h78 => ?_
    exact mr_iretP dX0_compareAt_123 rfl (le_t rfl) (le_t rfl) ⟨h78.1, trivial⟩
  refine mr_tableOut (pc := 1) (tgt := 124) dX0_compareAt_1 hp1 (vc_X0_compareAt_9 h1 h11 h21 h31 h59 h69 hp1) (by decide) ?_
  refine mr_iconst (pc := 124) (z := 0) dX0_compareAt_124 ?_
  exact mr_iretP dX0_compareAt_125 rfl (le_t rfl) (le_t rfl) ⟨(rW (c := (-1)) (d := 1) (rR (x := 0)) rfl), trivial⟩
theorem vc_X0_firstUnlikeStep_2 {z69 z77 : Int} (h0 : z69 < z77) (h1 : 0 ≤ z69 ∧ z69 ≤ 6) (h2 : 0 ≤ z77 ∧ z77 ≤ 6) : 0 ≤ z69 ∧ z69 ≤ 5 := by omega
theorem vc_X0_firstUnlikeStep_3 {z69 z77 : Int} (h0 : z69 < z77) (h1 : 0 ≤ z69 ∧ z69 ≤ 5) (h2 : 0 ≤ z77 ∧ z77 ≤ 6) : 1 ≤ z77 ∧ z77 ≤ 6 := by omega
theorem vc_X0_firstUnlikeStep_5 {N z69 z77 : Int} (h0 : (7 - z69) < N + 1) (h1 : z69 < z77) (h2 : 0 ≤ z69 ∧ z69 ≤ 5) (h3 : 1 ≤ z77 ∧ z77 ≤ 6) : (7 - (z69 + 1)) < N := by omega
set_option maxRecDepth 4000 in
set_option maxHeartbeats 4000000 in
theorem c_X0_firstUnlikeStep {l : Launch} {D : va_G} {c : Nat → ClassId} {H0 : Heap} {sa : Nat × Nat × (Nat → Int32)} {w : mW} {μ : mM} (hw : mWF w) (hT : mT w μ) {a0 : Nat} (hA0 : mAt w a0 210) {a1 : Nat} (hA1 : mAt w a1 200) {a2 : Nat} (hA2 : mAt w a2 200) : sC (gG l D c H0 sa) mX0_firstUnlikeStep 3 0 0 [.ref a0, .ref a1, .ref a2] (mk w μ) (qP w μ (fun z => ((-2147483648) ≤ z ∧ z ≤ 2147483647) ∧ True)) := by
  refine sC.of rfl (by decide) (le_t rfl) ?_
  refine mr_lvE (lv' := [(0, .ref a0), (1, .ref a1), (2, .ref a2)]) rfl ?_
  refine mr_iconst (pc := 0) (z := 0) dX0_firstUnlikeStep_0 ?_
  refine mr_istore_n (pc := 1) (lv' := [(3, iv 0), (0, .ref a0), (1, .ref a1), (2, .ref a2)]) dX0_firstUnlikeStep_1 rfl (by decide) rfl ?_
  have L70 : ∀ (nL70 : Nat) (z69 : Int), True → (0 ≤ z69 ∧ z69 ≤ 6) → (7 - z69) < (nL70 : Int) → sV (gG l D c H0 sa) mX0_firstUnlikeStep (sRm 3 0 0) (sZ (gG l D c H0 sa) 0 0 (qP w μ (fun z => ((-2147483648) ≤ z ∧ z ≤ 2147483647) ∧ True))) 2 [(0, .ref a0), (1, .ref a1), (2, .ref a2), (3, iv z69)] [] (mk w μ) 0 0 := by
    intro nL70
    induction nL70 with
    | zero => intro z69 _ h71 h75; exact ((vc_X12_same_14 h75 h71)).elim
    | succ nL70 ih76 =>
      intro z69 _ h71 h75
      refine mr_iload_n (pc := 2) (z := z69) dX0_firstUnlikeStep_2 rfl rfl ?_
      refine sv_aload_n (pc := 3) dX0_firstUnlikeStep_3 rfl rfl ?_
      refine gf_X0_4 (pc := 4) dX0_firstUnlikeStep_4 wF_X0_37 hA0 hT fun z77 q78 h79 => ?_
      refine mr_icmp_ge (pc := 7) (tgt := 37) dX0_firstUnlikeStep_7 (by decide) (r32 h71 rfl) (r32 h79 rfl) (fun h80 => ?_) (fun h80 => ?_)
      · refine mr_bipush (pc := 37) (z := 7) dX0_firstUnlikeStep_37 (by decide) ?_
        exact mr_iretP dX0_firstUnlikeStep_39 rfl (le_t rfl) (le_t rfl) ⟨(rW (c := (-2147483648)) (d := 2147483647) (rR (x := 7)) rfl), trivial⟩
      have h81 : 0 ≤ z69 ∧ z69 ≤ 5 := (vc_X0_firstUnlikeStep_2 h80 h71 h79)
      have h82 : 1 ≤ z77 ∧ z77 ≤ 6 := (vc_X0_firstUnlikeStep_3 h80 h81 h79)
      refine sv_aload_n (pc := 10) dX0_firstUnlikeStep_10 rfl rfl ?_
      refine gf_X0_0 (pc := 11) dX0_firstUnlikeStep_11 wF_X0_9 hA0 hT fun A83 => ?_
      refine mr_iload_n (pc := 14) (z := z69) dX0_firstUnlikeStep_14 rfl rfl ?_
      refine la_211 (pc := 15) dX0_firstUnlikeStep_15 A83 hT (rIx (n := 6) h81 rfl) fun z84 q85 h86 => ?_
      refine sv_aload_n (pc := 16) dX0_firstUnlikeStep_16 rfl rfl ?_
      refine sv_aload_n (pc := 17) dX0_firstUnlikeStep_17 rfl rfl ?_
      refine mr_cSP (pc := 18) (c_X0_compareAt hw hT (rW (c := (-2147483648)) (d := 2147483647) h86 rfl) hA1 hA2) (gOk _ _ _ _ _) dX0_firstUnlikeStep_18 (tX0_compareAt _ _ _ _ _) wS_X0_compareAt wM_X0_41 ⟨le_t rfl, le_t rfl⟩ ⟨le_t rfl, le_t rfl⟩ rfl (le_t rfl) fun z91 h90 => ?_
      refine mr_if_eq (pc := 21) (tgt := 31) dX0_firstUnlikeStep_21 (by decide) (r32 h90.1 rfl) (fun h92 => ?_) (fun h92 => ?_)
      · have h93 : 0 ≤ z91 ∧ z91 ≤ 0 := (vc_X12_waysMatch_5 h92 h90.1)
        refine mr_iinc (pc := 31) (lv' := [(3, iv (z69 + 1)), (0, .ref a0), (1, .ref a1), (2, .ref a2)]) dX0_firstUnlikeStep_31 rfl (by decide) rfl ?_
        refine sv_goto (pc := 34) (tgt := 2) dX0_firstUnlikeStep_34 (by decide) ?_
        refine mr_lvS (lv' := [(0, .ref a0), (1, .ref a1), (2, .ref a2), (3, iv (z69 + 1))]) (List.forall_mem_cons.mpr ⟨rfl, List.forall_mem_cons.mpr ⟨rfl, List.forall_mem_cons.mpr ⟨rfl, List.forall_mem_cons.mpr ⟨rfl, fun _ h => absurd h List.not_mem_nil⟩⟩⟩⟩) ?_
        exact ih76 (z69 + 1) trivial (rW (c := 0) (d := 6) (rAdd (e := 1) (f := 6) h81 (rR (x := 1)) rfl) rfl) (vc_X0_firstUnlikeStep_5 (nS h75) h80 h81 h82)
      refine sv_aload_n (pc := 24) dX0_firstUnlikeStep_24 rfl rfl ?_
      refine gf_X0_0 (pc := 25) dX0_firstUnlikeStep_25 wF_X0_9 hA0 hT fun A94 => ?_
      refine mr_iload_n (pc := 28) (z := z69) dX0_firstUnlikeStep_28 rfl rfl ?_
      refine lk_211 (pc := 29) dX0_firstUnlikeStep_29 A94 (rIx (n := 6) h81 rfl) q85 ?_
      exact mr_iretP dX0_firstUnlikeStep_30 rfl (le_t rfl) (le_t rfl) ⟨(rW (c := (-2147483648)) (d := 2147483647) h86 rfl), trivial⟩
  refine mr_lvS (lv' := [(0, .ref a0), (1, .ref a1), (2, .ref a2), (3, iv 0)]) (List.forall_mem_cons.mpr ⟨rfl, List.forall_mem_cons.mpr ⟨rfl, List.forall_mem_cons.mpr ⟨rfl, List.forall_mem_cons.mpr ⟨rfl, fun _ h => absurd h List.not_mem_nil⟩⟩⟩⟩) ?_
  exact L70 8 0 trivial (rW (c := 0) (d := 6) (rR (x := 0)) rfl) vc_X12_same_46
theorem vc_X0_prefers_8 {z164 : Int} (h0 : 0 ≤ z164) (h1 : ¬ z164 = 0) (h2 : (-1) ≤ z164 ∧ z164 ≤ 1) : 0 ≤ z164 ∧ z164 ≤ 1 := by omega
theorem vc_X0_prefers_9 {z164 : Int} (h0 : z164 < 0) (h1 : ¬ z164 = 0) (h2 : (-1) ≤ z164 ∧ z164 ≤ 1) : (-1) ≤ z164 ∧ z164 ≤ (-1) := by omega
set_option maxRecDepth 4000 in
set_option maxHeartbeats 4000000 in
theorem c_X0_prefers {l : Launch} {D : va_G} {c : Nat → ClassId} {H0 : Heap} {sa : Nat × Nat × (Nat → Int32)} {w : mW} {μ : mM} (hw : mWF w) (hT : mT w μ) {a0 : Nat} (hA0 : mAt w a0 210) {a1 : Nat} (hA1 : mAt w a1 200) {a2 : Nat} (hA2 : mAt w a2 200) : sC (gG l D c H0 sa) mX0_prefers 3 0 0 [.ref a0, .ref a1, .ref a2] (mk w μ) (qP w μ (fun z => (0 ≤ z ∧ z ≤ 1) ∧ True)) := by
  refine sC.of rfl (by decide) (le_t rfl) ?_
  refine mr_lvE (lv' := [(0, .ref a0), (1, .ref a1), (2, .ref a2)]) rfl ?_
  refine mr_iconst (pc := 0) (z := 0) dX0_prefers_0 ?_
  refine mr_istore_n (pc := 1) (lv' := [(3, iv 0), (0, .ref a0), (1, .ref a1), (2, .ref a2)]) dX0_prefers_1 rfl (by decide) rfl ?_
  have L132 : ∀ (nL132 : Nat) (z131 : Int), True → (0 ≤ z131 ∧ z131 ≤ 6) → (7 - z131) < (nL132 : Int) → sV (gG l D c H0 sa) mX0_prefers (sRm 3 0 0) (sZ (gG l D c H0 sa) 0 0 (qP w μ (fun z => (0 ≤ z ∧ z ≤ 1) ∧ True))) 2 [(0, .ref a0), (1, .ref a1), (2, .ref a2), (3, iv z131)] [] (mk w μ) 0 0 := by
    intro nL132
    induction nL132 with
    | zero => intro z131 _ h133 h137; exact ((vc_X12_same_14 h137 h133)).elim
    | succ nL132 ih138 =>
      intro z131 _ h133 h137
      refine mr_iload_n (pc := 2) (z := z131) dX0_prefers_2 rfl rfl ?_
      refine sv_aload_n (pc := 3) dX0_prefers_3 rfl rfl ?_
      refine gf_X0_4 (pc := 4) dX0_prefers_4 wF_X0_37 hA0 hT fun z139 q140 h141 => ?_
      refine mr_icmp_ge (pc := 7) (tgt := 45) dX0_prefers_7 (by decide) (r32 h133 rfl) (r32 h141 rfl) (fun h142 => ?_) (fun h142 => ?_)
      · refine sv_aload_n (pc := 45) dX0_prefers_45 rfl rfl ?_
        refine gf_X7_11 (pc := 46) dX0_prefers_46 wF_X0_45 hA1 hT fun z143 q144 h145 => ?_
        refine sv_aload_n (pc := 49) dX0_prefers_49 rfl rfl ?_
        refine gf_X7_11 (pc := 50) dX0_prefers_50 wF_X0_45 hA2 hT fun z146 q147 h148 => ?_
        refine mr_icmp_ge (pc := 53) (tgt := 60) dX0_prefers_53 (by decide) h145 h148 (fun h151 => ?_) (fun h151 => ?_)
        · refine mr_iconst (pc := 60) (z := 0) dX0_prefers_60 ?_
          exact mr_zretP dX0_prefers_61 rfl (rW (c := 0) (d := 1) (rR (x := 0)) rfl) (le_t rfl) (le_t rfl) ⟨(rW (c := 0) (d := 1) (rR (x := 0)) rfl), trivial⟩
        have h152 : (-2147483648) ≤ z143 ∧ z143 ≤ 2147483646 := (vc_X12_in_1 h151 h145 h148)
        have h153 : (-2147483647) ≤ z146 ∧ z146 ≤ 2147483647 := (vc_X12_in_2 h151 h152 h148)
        refine mr_iconst (pc := 56) (z := 1) dX0_prefers_56 ?_
        refine sv_goto (pc := 57) (tgt := 61) dX0_prefers_57 (by decide) ?_
        exact mr_zretP dX0_prefers_61 rfl (rW (c := 0) (d := 1) (rR (x := 1)) rfl) (le_t rfl) (le_t rfl) ⟨(rW (c := 0) (d := 1) (rR (x := 1)) rfl), trivial⟩
      have h154 : 0 ≤ z131 ∧ z131 ≤ 5 := (vc_X0_firstUnlikeStep_2 h142 h133 h141)
      have h155 : 1 ≤ z139 ∧ z139 ≤ 6 := (vc_X0_firstUnlikeStep_3 h142 h154 h141)
      refine sv_aload_n (pc := 10) dX0_prefers_10 rfl rfl ?_
      refine gf_X0_0 (pc := 11) dX0_prefers_11 wF_X0_9 hA0 hT fun A156 => ?_
      refine mr_iload_n (pc := 14) (z := z131) dX0_prefers_14 rfl rfl ?_
      refine la_211 (pc := 15) dX0_prefers_15 A156 hT (rIx (n := 6) h154 rfl) fun z157 q158 h159 => ?_
      refine sv_aload_n (pc := 16) dX0_prefers_16 rfl rfl ?_
      refine sv_aload_n (pc := 17) dX0_prefers_17 rfl rfl ?_
      refine mr_cSP (pc := 18) (c_X0_compareAt hw hT (rW (c := (-2147483648)) (d := 2147483647) h159 rfl) hA1 hA2) (gOk _ _ _ _ _) dX0_prefers_18 (tX0_compareAt _ _ _ _ _) wS_X0_compareAt wM_X0_41 ⟨le_t rfl, le_t rfl⟩ ⟨le_t rfl, le_t rfl⟩ rfl (le_t rfl) fun z164 h163 => ?_
      refine mr_istore (pc := 21) (lv' := [(4, iv z164), (0, .ref a0), (1, .ref a1), (2, .ref a2), (3, iv z131)]) dX0_prefers_21 (by decide) rfl ?_
      refine mr_iload (pc := 23) (z := z164) dX0_prefers_23 rfl ?_
      refine mr_if_eq (pc := 25) (tgt := 39) dX0_prefers_25 (by decide) (r32 h163.1 rfl) (fun h165 => ?_) (fun h165 => ?_)
      · have h166 : 0 ≤ z164 ∧ z164 ≤ 0 := (vc_X12_waysMatch_5 h165 h163.1)
        refine mr_iinc (pc := 39) (lv' := [(3, iv (z131 + 1)), (4, iv z164), (0, .ref a0), (1, .ref a1), (2, .ref a2)]) dX0_prefers_39 rfl (by decide) rfl ?_
        refine sv_goto (pc := 42) (tgt := 2) dX0_prefers_42 (by decide) ?_
        refine mr_lvS (lv' := [(0, .ref a0), (1, .ref a1), (2, .ref a2), (3, iv (z131 + 1))]) (List.forall_mem_cons.mpr ⟨rfl, List.forall_mem_cons.mpr ⟨rfl, List.forall_mem_cons.mpr ⟨rfl, List.forall_mem_cons.mpr ⟨rfl, fun _ h => absurd h List.not_mem_nil⟩⟩⟩⟩) ?_
        exact ih138 (z131 + 1) trivial (rW (c := 0) (d := 6) (rAdd (e := 1) (f := 6) h154 (rR (x := 1)) rfl) rfl) (vc_X0_firstUnlikeStep_5 (nS h137) h142 h154 h155)
      refine mr_iload (pc := 28) (z := z164) dX0_prefers_28 rfl ?_
      refine mr_if_ge (pc := 30) (tgt := 37) dX0_prefers_30 (by decide) (r32 h163.1 rfl) (fun h169 => ?_) (fun h169 => ?_)
      · have h170 : 0 ≤ z164 ∧ z164 ≤ 1 := (vc_X0_prefers_8 h169 h165 h163.1)
        refine mr_iconst (pc := 37) (z := 0) dX0_prefers_37 ?_
        exact mr_zretP dX0_prefers_38 rfl (rW (c := 0) (d := 1) (rR (x := 0)) rfl) (le_t rfl) (le_t rfl) ⟨(rW (c := 0) (d := 1) (rR (x := 0)) rfl), trivial⟩
      have h171 : (-1) ≤ z164 ∧ z164 ≤ (-1) := (vc_X0_prefers_9 h169 h165 h163.1)
      refine mr_iconst (pc := 33) (z := 1) dX0_prefers_33 ?_
      refine sv_goto (pc := 34) (tgt := 38) dX0_prefers_34 (by decide) ?_
      exact mr_zretP dX0_prefers_38 rfl (rW (c := 0) (d := 1) (rR (x := 1)) rfl) (le_t rfl) (le_t rfl) ⟨(rW (c := 0) (d := 1) (rR (x := 1)) rfl), trivial⟩
  refine mr_lvS (lv' := [(0, .ref a0), (1, .ref a1), (2, .ref a2), (3, iv 0)]) (List.forall_mem_cons.mpr ⟨rfl, List.forall_mem_cons.mpr ⟨rfl, List.forall_mem_cons.mpr ⟨rfl, List.forall_mem_cons.mpr ⟨rfl, fun _ h => absurd h List.not_mem_nil⟩⟩⟩⟩) ?_
  exact L132 8 0 trivial (rW (c := 0) (d := 6) (rR (x := 0)) rfl) vc_X12_same_46
set_option maxRecDepth 4000 in
set_option maxHeartbeats 4000000 in
theorem c_X10_maskOf {l : Launch} {D : va_G} {c : Nat → ClassId} {H0 : Heap} {sa : Nat × Nat × (Nat → Int32)} {w : mW} {μ : mM} (hw : mWF w) (hT : mT w μ) {p1 : Int} (hp1 : (-2147483648) ≤ p1 ∧ p1 ≤ 2147483647) : sC (gG l D c H0 sa) mX10_maskOf 1 0 0 [iv p1] (mk w μ) (qP w μ (fun z => ((-2147483648) ≤ z ∧ z ≤ 2147483647) ∧ True)) := by
  refine sC.of rfl (by decide) (le_t rfl) ?_
  refine mr_lvE (lv' := [(0, iv p1)]) rfl ?_
  refine mr_iload_n (pc := 0) (z := p1) dX10_maskOf_0 rfl rfl ?_
  refine mr_if_ne (pc := 1) (tgt := 8) dX10_maskOf_1 (by decide) hp1 (fun h7 => ?_) (fun h7 => ?_)
  · refine mr_iconst (pc := 8) (z := (-1)) dX10_maskOf_8 ?_
    refine mr_bipush (pc := 9) (z := 32) dX10_maskOf_9 (by decide) ?_
    refine mr_iload_n (pc := 11) (z := p1) dX10_maskOf_11 rfl rfl ?_
    refine mr_isub (pc := 12) (x := 32) (y := p1) dX10_maskOf_12 ?_
    refine mr_wrap fun z8 h9 => ?_
    refine mr_ishl (pc := 13) (x := (-1)) (y := z8) dX10_maskOf_13 ?_
    refine mr_gen (P := fun z => (-2147483648) ≤ z ∧ z ≤ 2147483647) (r32i _) fun z10 q11 h12 => ?_
    exact mr_iretP dX10_maskOf_14 rfl (le_t rfl) (le_t rfl) ⟨h12, trivial⟩
  have h13 : 0 ≤ p1 ∧ p1 ≤ 0 := (vc_X12_mask_1 h7 hp1)
  refine mr_iconst (pc := 4) (z := 0) dX10_maskOf_4 ?_
  refine sv_goto (pc := 5) (tgt := 14) dX10_maskOf_5 (by decide) ?_
  exact mr_iretP dX10_maskOf_14 rfl (le_t rfl) (le_t rfl) ⟨(rW (c := (-2147483648)) (d := 2147483647) (rR (x := 0)) rfl), trivial⟩
theorem vc_X10_findPrefix_5 {p2 z97 : Int} (h0 : z97 = p2) (h1 : (-2147483648) ≤ p2 ∧ p2 ≤ 2147483647) (h2 : 0 ≤ z97 ∧ z97 ≤ 32) : 0 ≤ p2 ∧ p2 ≤ 32 := by omega
set_option maxRecDepth 4000 in
set_option maxHeartbeats 4000000 in
theorem c_X10_findPrefix {l : Launch} {D : va_G} {c : Nat → ClassId} {H0 : Heap} {sa : Nat × Nat × (Nat → Int32)} {w : mW} {μ : mM} (hw : mWF w) (hT : mT w μ) {p1 : Int} (hp1 : (-2147483648) ≤ p1 ∧ p1 ≤ 2147483647) {p2 : Int} (hp2 : (-2147483648) ≤ p2 ∧ p2 ≤ 2147483647) : sC (gG l D c H0 sa) mX10_findPrefix 1 0 0 [.ref 6, iv p1, iv p2] (mk w μ) (qP w μ (fun z => ((-1) ≤ z ∧ z ≤ 9) ∧ True)) := by
  refine sC.of rfl (by decide) (le_t rfl) ?_
  refine mr_lvE (lv' := [(0, .ref 6), (1, iv p1), (2, iv p2)]) rfl ?_
  refine mr_iconst (pc := 0) (z := 0) dX10_findPrefix_0 ?_
  refine mr_istore_n (pc := 1) (lv' := [(3, iv 0), (0, .ref 6), (1, iv p1), (2, iv p2)]) dX10_findPrefix_1 rfl (by decide) rfl ?_
  have L80 : ∀ (nL80 : Nat) (z79 : Int), True → (0 ≤ z79 ∧ z79 ≤ 10) → (11 - z79) < (nL80 : Int) → sV (gG l D c H0 sa) mX10_findPrefix (sRm 1 0 0) (sZ (gG l D c H0 sa) 0 0 (qP w μ (fun z => ((-1) ≤ z ∧ z ≤ 9) ∧ True))) 2 [(0, .ref 6), (1, iv p1), (2, iv p2), (3, iv z79)] [] (mk w μ) 0 0 := by
    intro nL80
    induction nL80 with
    | zero => intro z79 _ h81 h85; exact ((vc_X12_ring_2 h85 h81)).elim
    | succ nL80 ih86 =>
      intro z79 _ h81 h85
      refine mr_iload_n (pc := 2) (z := z79) dX10_findPrefix_2 rfl rfl ?_
      refine sv_aload_n (pc := 3) dX10_findPrefix_3 rfl rfl ?_
      refine gf_X10_14 (pc := 4) dX10_findPrefix_4 wF_X10_60 (A_6 hw) hT fun z87 q88 h89 => ?_
      refine mr_icmp_ge (pc := 7) (tgt := 38) dX10_findPrefix_7 (by decide) (r32 h81 rfl) (r32 h89 rfl) (fun h90 => ?_) (fun h90 => ?_)
      · refine mr_iconst (pc := 38) (z := (-1)) dX10_findPrefix_38 ?_
        exact mr_iretP dX10_findPrefix_39 rfl (le_t rfl) (le_t rfl) ⟨(rW (c := (-1)) (d := 9) (rR (x := (-1))) rfl), trivial⟩
      have h91 : 0 ≤ z79 ∧ z79 ≤ 9 := (vc_X12_ring_3 h90 h81 h89)
      have h92 : 1 ≤ z87 ∧ z87 ≤ 10 := (vc_X12_ring_4 h90 h91 h89)
      refine sv_aload_n (pc := 10) dX10_findPrefix_10 rfl rfl ?_
      refine gf_X10_0 (pc := 11) dX10_findPrefix_11 wF_X10_9 (A_6 hw) hT ?_
      refine mr_iload_n (pc := 14) (z := z79) dX10_findPrefix_14 rfl rfl ?_
      refine la_7 (pc := 15) dX10_findPrefix_15 (A_7 hw) hT (rIx (n := 10) h91 rfl) fun z93 q94 h95 => ?_
      refine mr_iload_n (pc := 16) (z := p1) dX10_findPrefix_16 rfl rfl ?_
      refine mr_icmp_ne (pc := 17) (tgt := 32) dX10_findPrefix_17 (by decide) h95 hp1 (fun h96 => ?_) (fun h96 => ?_)
      · refine mr_iinc (pc := 32) (lv' := [(3, iv (z79 + 1)), (0, .ref 6), (1, iv p1), (2, iv p2)]) dX10_findPrefix_32 rfl (by decide) rfl ?_
        refine sv_goto (pc := 35) (tgt := 2) dX10_findPrefix_35 (by decide) ?_
        refine mr_lvS (lv' := [(0, .ref 6), (1, iv p1), (2, iv p2), (3, iv (z79 + 1))]) (List.forall_mem_cons.mpr ⟨rfl, List.forall_mem_cons.mpr ⟨rfl, List.forall_mem_cons.mpr ⟨rfl, List.forall_mem_cons.mpr ⟨rfl, fun _ h => absurd h List.not_mem_nil⟩⟩⟩⟩) ?_
        exact ih86 (z79 + 1) trivial (rW (c := 0) (d := 10) (rAdd (e := 1) (f := 10) h91 (rR (x := 1)) rfl) rfl) (vc_X12_sends_11 (nS h85) h90 h91 h92)
      refine sv_aload_n (pc := 20) dX10_findPrefix_20 rfl rfl ?_
      refine gf_X10_1 (pc := 21) dX10_findPrefix_21 wF_X10_15 (A_6 hw) hT ?_
      refine mr_iload_n (pc := 24) (z := z79) dX10_findPrefix_24 rfl rfl ?_
      refine la_8 (pc := 25) dX10_findPrefix_25 (A_8 hw) hT (rIx (n := 10) h91 rfl) fun z97 q98 h99 => ?_
      refine mr_iload_n (pc := 26) (z := p2) dX10_findPrefix_26 rfl rfl ?_
      refine mr_icmp_ne (pc := 27) (tgt := 32) dX10_findPrefix_27 (by decide) (r32 h99 rfl) hp2 (fun h100 => ?_) (fun h100 => ?_)
      · refine mr_iinc (pc := 32) (lv' := [(3, iv (z79 + 1)), (0, .ref 6), (1, iv p1), (2, iv p2)]) dX10_findPrefix_32 rfl (by decide) rfl ?_
        refine sv_goto (pc := 35) (tgt := 2) dX10_findPrefix_35 (by decide) ?_
        refine mr_lvS (lv' := [(0, .ref 6), (1, iv p1), (2, iv p2), (3, iv (z79 + 1))]) (List.forall_mem_cons.mpr ⟨rfl, List.forall_mem_cons.mpr ⟨rfl, List.forall_mem_cons.mpr ⟨rfl, List.forall_mem_cons.mpr ⟨rfl, fun _ h => absurd h List.not_mem_nil⟩⟩⟩⟩) ?_
        exact ih86 (z79 + 1) trivial (rW (c := 0) (d := 10) (rAdd (e := 1) (f := 10) h91 (rR (x := 1)) rfl) rfl) (vc_X12_sends_11 (nS h85) h90 h91 h92)
      have h101 : 0 ≤ p2 ∧ p2 ≤ 32 := (vc_X10_findPrefix_5 h100 hp2 h99)
      refine mr_iload_n (pc := 30) (z := z79) dX10_findPrefix_30 rfl rfl ?_
      exact mr_iretP dX10_findPrefix_31 rfl (le_t rfl) (le_t rfl) ⟨(rW (c := (-1)) (d := 9) h91 rfl), trivial⟩
  refine mr_lvS (lv' := [(0, .ref 6), (1, iv p1), (2, iv p2), (3, iv 0)]) (List.forall_mem_cons.mpr ⟨rfl, List.forall_mem_cons.mpr ⟨rfl, List.forall_mem_cons.mpr ⟨rfl, List.forall_mem_cons.mpr ⟨rfl, fun _ h => absurd h List.not_mem_nil⟩⟩⟩⟩) ?_
  exact L80 12 0 trivial (rW (c := 0) (d := 10) (rR (x := 0)) rfl) vc_X12_ring_27
theorem vc_X10_tieBetween_2 {n1 z209 z217 : Int} (h0 : z217 = n1) (h1 : z217 ≤ z209) (h2 : 0 ≤ z209 ∧ z209 ≤ 20) (h3 : 0 ≤ z217 ∧ z217 ≤ 20) : (-1 : Int) < n1 := by omega
theorem vc_X10_tieBetween_3 {n1 z209 z217 : Int} (h0 : z209 < z217) (h1 : z217 = n1) (h2 : 0 ≤ z209 ∧ z209 ≤ 20) (h3 : 0 ≤ z217 ∧ z217 ≤ 20) : 0 ≤ z209 ∧ z209 ≤ 19 := by omega
theorem vc_X10_tieBetween_4 {n1 z209 z217 : Int} (h0 : z209 < z217) (h1 : z217 = n1) (h2 : 0 ≤ z209 ∧ z209 ≤ 19) (h3 : 0 ≤ z217 ∧ z217 ≤ 20) : 1 ≤ z217 ∧ z217 ≤ 20 := by omega
theorem vc_X10_tieBetween_5 {n1 z209 z217 : Int} (h0 : z217 = n1) (h1 : z209 < z217) (h2 : 0 ≤ z209 ∧ z209 ≤ 19) (h3 : 1 ≤ z217 ∧ z217 ≤ 20) : z209 < n1 := by omega
theorem vc_X10_tieBetween_6 {N n1 z209 z217 : Int} (h0 : (21 - z209) < N + 1) (h1 : z209 < z217) (h2 : z217 = n1) (h3 : 0 ≤ z209 ∧ z209 ≤ 19) (h4 : 1 ≤ z217 ∧ z217 ≤ 20) : (21 - (z209 + 1)) < N := by omega
theorem vc_X10_tieBetween_7 {n0 p1 p2 z226 : Int} (h0 : z226 = p2) (h1 : z226 < n0) (h2 : ¬ z226 = p1) (h3 : (-2147483648) ≤ p1 ∧ p1 ≤ 2147483647) (h4 : (-2147483648) ≤ p2 ∧ p2 ≤ 2147483647) (h5 : 0 ≤ z226 ∧ z226 ≤ 9) : 0 ≤ p2 ∧ p2 ≤ 9 := by omega
theorem vc_X10_tieBetween_8 {n0 p1 z226 z233 : Int} (h0 : z233 = p1) (h1 : ¬ z226 = p1) (h2 : z233 < n0) (h3 : (-2147483648) ≤ p1 ∧ p1 ≤ 2147483647) (h4 : 0 ≤ z226 ∧ z226 ≤ 9) (h5 : 0 ≤ z233 ∧ z233 ≤ 9) : 0 ≤ p1 ∧ p1 ≤ 9 := by omega
theorem vc_X10_tieBetween_9 {n0 p1 z226 : Int} (h0 : z226 = p1) (h1 : z226 < n0) (h2 : (-2147483648) ≤ p1 ∧ p1 ≤ 2147483647) (h3 : 0 ≤ z226 ∧ z226 ≤ 9) : 0 ≤ p1 ∧ p1 ≤ 9 := by omega
theorem vc_X10_tieBetween_11 {n0 p1 p2 z226 z240 : Int} (h0 : z226 = p2) (h1 : z226 < n0) (h2 : z226 = p1) (h3 : ¬ z240 = p2) (h4 : 0 ≤ p1 ∧ p1 ≤ 9) (h5 : (-2147483648) ≤ p2 ∧ p2 ≤ 2147483647) (h6 : 0 ≤ z226 ∧ z226 ≤ 9) (h7 : 0 ≤ z240 ∧ z240 ≤ 9) : 0 ≤ p2 ∧ p2 ≤ 9 := by omega
set_option maxRecDepth 4000 in
set_option maxHeartbeats 4000000 in
theorem c_X10_tieBetween {l : Launch} {D : va_G} {c : Nat → ClassId} {H0 : Heap} {sa : Nat × Nat × (Nat → Int32)} {w : mW} {μ : mM} (hw : mWF w) (hT : mT w μ) {p1 : Int} (hp1 : (-2147483648) ≤ p1 ∧ p1 ≤ 2147483647) {p2 : Int} (hp2 : (-2147483648) ≤ p2 ∧ p2 ≤ 2147483647) : sC (gG l D c H0 sa) mX10_tieBetween 1 0 0 [.ref 6, iv p1, iv p2] (mk w μ) (qP w μ (fun z => ((-1) ≤ z ∧ z ≤ 19) ∧ (z < w.2.2.2 1) ∧ True)) := by
  refine sC.of rfl (by decide) (le_t rfl) ?_
  refine mr_lvE (lv' := [(0, .ref 6), (1, iv p1), (2, iv p2)]) rfl ?_
  refine mr_iconst (pc := 0) (z := 0) dX10_tieBetween_0 ?_
  refine mr_istore_n (pc := 1) (lv' := [(3, iv 0), (0, .ref 6), (1, iv p1), (2, iv p2)]) dX10_tieBetween_1 rfl (by decide) rfl ?_
  have L210 : ∀ (nL210 : Nat) (z209 : Int), True → (0 ≤ z209 ∧ z209 ≤ 20) → (21 - z209) < (nL210 : Int) → sV (gG l D c H0 sa) mX10_tieBetween (sRm 1 0 0) (sZ (gG l D c H0 sa) 0 0 (qP w μ (fun z => ((-1) ≤ z ∧ z ≤ 19) ∧ (z < w.2.2.2 1) ∧ True))) 2 [(0, .ref 6), (1, iv p1), (2, iv p2), (3, iv z209)] [] (mk w μ) 0 0 := by
    intro nL210
    induction nL210 with
    | zero => intro z209 _ h211 h215; exact ((vc_X12_tieOf_1 h215 h211)).elim
    | succ nL210 ih216 =>
      intro z209 _ h211 h215
      refine mr_iload_n (pc := 2) (z := z209) dX10_tieBetween_2 rfl rfl ?_
      refine sv_aload_n (pc := 3) dX10_tieBetween_3 rfl rfl ?_
      refine gf_X10_16 (pc := 4) dX10_tieBetween_4 wF_X10_72 (A_6 hw) hT fun z217 q218 h219 => ?_
      refine mr_icmp_ge (pc := 7) (tgt := 62) dX10_tieBetween_7 (by decide) (r32 h211 rfl) (r32 h219.2 rfl) (fun h220 => ?_) (fun h220 => ?_)
      · refine mr_iconst (pc := 62) (z := (-1)) dX10_tieBetween_62 ?_
        exact mr_iretP dX10_tieBetween_63 rfl (le_t rfl) (le_t rfl) ⟨(rW (c := (-1)) (d := 19) (rR (x := (-1))) rfl), (vc_X10_tieBetween_2 h219.1 h220 h211 h219.2), trivial⟩
      have h221 : 0 ≤ z209 ∧ z209 ≤ 19 := (vc_X10_tieBetween_3 h220 h219.1 h211 h219.2)
      have h222 : 1 ≤ z217 ∧ z217 ≤ 20 := (vc_X10_tieBetween_4 h220 h219.1 h221 h219.2)
      refine sv_aload_n (pc := 10) dX10_tieBetween_10 rfl rfl ?_
      refine gf_X10_4 (pc := 11) dX10_tieBetween_11 wF_X10_29 (A_6 hw) hT ?_
      refine mr_iload_n (pc := 14) (z := z209) dX10_tieBetween_14 rfl rfl ?_
      refine la_11 (pc := 15) dX10_tieBetween_15 (A_11 hw) hT (rIx (n := 20) h221 rfl) (vc_X10_tieBetween_5 h219.1 h220 h221 h222) fun b223 q224 A225 => ?_
      refine mr_astore (pc := 16) (lv' := [(4, .ref b223), (0, .ref 6), (1, iv p1), (2, iv p2), (3, iv z209)]) dX10_tieBetween_16 (by decide) rfl ?_
      refine sv_aload (pc := 18) dX10_tieBetween_18 rfl ?_
      refine gf_X9_0 (pc := 20) dX10_tieBetween_20 wF_X10_78 A225 hT fun z226 q227 h228 => ?_
      have h229 : 0 ≤ z226 ∧ z226 ≤ 9 := ⟨h228.1, h228.2.1⟩
      refine mr_iload_n (pc := 23) (z := p1) dX10_tieBetween_23 rfl rfl ?_
      refine mr_icmp_ne (pc := 24) (tgt := 36) dX10_tieBetween_24 (by decide) (r32 h229 rfl) hp1 (fun h230 => ?_) (fun h230 => ?_)
      · refine sv_aload (pc := 36) dX10_tieBetween_36 rfl ?_
        refine gk_X9_0 (pc := 38) dX10_tieBetween_38 wF_X10_78 A225 q227 ?_
        refine mr_iload_n (pc := 41) (z := p2) dX10_tieBetween_41 rfl rfl ?_
        refine mr_icmp_ne (pc := 42) (tgt := 56) dX10_tieBetween_42 (by decide) (r32 h229 rfl) hp2 (fun h231 => ?_) (fun h231 => ?_)
        · refine mr_iinc (pc := 56) (lv' := [(3, iv (z209 + 1)), (4, .ref b223), (0, .ref 6), (1, iv p1), (2, iv p2)]) dX10_tieBetween_56 rfl (by decide) rfl ?_
          refine sv_goto (pc := 59) (tgt := 2) dX10_tieBetween_59 (by decide) ?_
          refine mr_lvS (lv' := [(0, .ref 6), (1, iv p1), (2, iv p2), (3, iv (z209 + 1))]) (List.forall_mem_cons.mpr ⟨rfl, List.forall_mem_cons.mpr ⟨rfl, List.forall_mem_cons.mpr ⟨rfl, List.forall_mem_cons.mpr ⟨rfl, fun _ h => absurd h List.not_mem_nil⟩⟩⟩⟩) ?_
          exact ih216 (z209 + 1) trivial (rW (c := 0) (d := 20) (rAdd (e := 1) (f := 20) h221 (rR (x := 1)) rfl) rfl) (vc_X10_tieBetween_6 (nS h215) h220 h219.1 h221 h222)
        have h232 : 0 ≤ p2 ∧ p2 ≤ 9 := (vc_X10_tieBetween_7 h231 h228.2.2 h230 hp1 hp2 h229)
        refine sv_aload (pc := 45) dX10_tieBetween_45 rfl ?_
        refine gf_X9_1 (pc := 47) dX10_tieBetween_47 wF_X10_81 A225 hT fun z233 q234 h235 => ?_
        have h236 : 0 ≤ z233 ∧ z233 ≤ 9 := ⟨h235.1, h235.2.1⟩
        refine mr_iload_n (pc := 50) (z := p1) dX10_tieBetween_50 rfl rfl ?_
        refine mr_icmp_ne (pc := 51) (tgt := 56) dX10_tieBetween_51 (by decide) (r32 h236 rfl) hp1 (fun h237 => ?_) (fun h237 => ?_)
        · refine mr_iinc (pc := 56) (lv' := [(3, iv (z209 + 1)), (4, .ref b223), (0, .ref 6), (1, iv p1), (2, iv p2)]) dX10_tieBetween_56 rfl (by decide) rfl ?_
          refine sv_goto (pc := 59) (tgt := 2) dX10_tieBetween_59 (by decide) ?_
          refine mr_lvS (lv' := [(0, .ref 6), (1, iv p1), (2, iv p2), (3, iv (z209 + 1))]) (List.forall_mem_cons.mpr ⟨rfl, List.forall_mem_cons.mpr ⟨rfl, List.forall_mem_cons.mpr ⟨rfl, List.forall_mem_cons.mpr ⟨rfl, fun _ h => absurd h List.not_mem_nil⟩⟩⟩⟩) ?_
          exact ih216 (z209 + 1) trivial (rW (c := 0) (d := 20) (rAdd (e := 1) (f := 20) h221 (rR (x := 1)) rfl) rfl) (vc_X10_tieBetween_6 (nS h215) h220 h219.1 h221 h222)
        have h238 : 0 ≤ p1 ∧ p1 ≤ 9 := (vc_X10_tieBetween_8 h237 h230 h235.2.2 hp1 h229 h236)
        refine mr_iload_n (pc := 54) (z := z209) dX10_tieBetween_54 rfl rfl ?_
        exact mr_iretP dX10_tieBetween_55 rfl (le_t rfl) (le_t rfl) ⟨(rW (c := (-1)) (d := 19) h221 rfl), (vc_X10_tieBetween_5 h219.1 h220 h221 h222), trivial⟩
      have h239 : 0 ≤ p1 ∧ p1 ≤ 9 := (vc_X10_tieBetween_9 h230 h228.2.2 hp1 h229)
      refine sv_aload (pc := 27) dX10_tieBetween_27 rfl ?_
      refine gf_X9_1 (pc := 29) dX10_tieBetween_29 wF_X10_81 A225 hT fun z240 q241 h242 => ?_
      have h243 : 0 ≤ z240 ∧ z240 ≤ 9 := ⟨h242.1, h242.2.1⟩
      refine mr_iload_n (pc := 32) (z := p2) dX10_tieBetween_32 rfl rfl ?_
      refine mr_icmp_eq (pc := 33) (tgt := 54) dX10_tieBetween_33 (by decide) (r32 h243 rfl) hp2 (fun h244 => ?_) (fun h244 => ?_)
      · have h245 : 0 ≤ p2 ∧ p2 ≤ 9 := (vc_X10_tieBetween_9 h244 h242.2.2 hp2 h243)
        refine mr_iload_n (pc := 54) (z := z209) dX10_tieBetween_54 rfl rfl ?_
        exact mr_iretP dX10_tieBetween_55 rfl (le_t rfl) (le_t rfl) ⟨(rW (c := (-1)) (d := 19) h221 rfl), (vc_X10_tieBetween_5 h219.1 h220 h221 h222), trivial⟩
      refine sv_aload (pc := 36) dX10_tieBetween_36 rfl ?_
      refine gk_X9_0 (pc := 38) dX10_tieBetween_38 wF_X10_78 A225 q227 ?_
      refine mr_iload_n (pc := 41) (z := p2) dX10_tieBetween_41 rfl rfl ?_
      refine mr_icmp_ne (pc := 42) (tgt := 56) dX10_tieBetween_42 (by decide) (r32 h229 rfl) hp2 (fun h246 => ?_) (fun h246 => ?_)
      · refine mr_iinc (pc := 56) (lv' := [(3, iv (z209 + 1)), (4, .ref b223), (0, .ref 6), (1, iv p1), (2, iv p2)]) dX10_tieBetween_56 rfl (by decide) rfl ?_
        refine sv_goto (pc := 59) (tgt := 2) dX10_tieBetween_59 (by decide) ?_
        refine mr_lvS (lv' := [(0, .ref 6), (1, iv p1), (2, iv p2), (3, iv (z209 + 1))]) (List.forall_mem_cons.mpr ⟨rfl, List.forall_mem_cons.mpr ⟨rfl, List.forall_mem_cons.mpr ⟨rfl, List.forall_mem_cons.mpr ⟨rfl, fun _ h => absurd h List.not_mem_nil⟩⟩⟩⟩) ?_
        exact ih216 (z209 + 1) trivial (rW (c := 0) (d := 20) (rAdd (e := 1) (f := 20) h221 (rR (x := 1)) rfl) rfl) (vc_X10_tieBetween_6 (nS h215) h220 h219.1 h221 h222)
      have h247 : 0 ≤ p2 ∧ p2 ≤ 9 := (vc_X10_tieBetween_11 h246 h228.2.2 h230 h244 h239 hp2 h229 h243)
      refine sv_aload (pc := 45) dX10_tieBetween_45 rfl ?_
      refine gk_X9_1 (pc := 47) dX10_tieBetween_47 wF_X10_81 A225 q241 ?_
      refine mr_iload_n (pc := 50) (z := p1) dX10_tieBetween_50 rfl rfl ?_
      refine mr_icmp_ne (pc := 51) (tgt := 56) dX10_tieBetween_51 (by decide) (r32 h243 rfl) (r32 h239 rfl) (fun h248 => ?_) (fun h248 => ?_)
      · refine mr_iinc (pc := 56) (lv' := [(3, iv (z209 + 1)), (4, .ref b223), (0, .ref 6), (1, iv p1), (2, iv p2)]) dX10_tieBetween_56 rfl (by decide) rfl ?_
        refine sv_goto (pc := 59) (tgt := 2) dX10_tieBetween_59 (by decide) ?_
        refine mr_lvS (lv' := [(0, .ref 6), (1, iv p1), (2, iv p2), (3, iv (z209 + 1))]) (List.forall_mem_cons.mpr ⟨rfl, List.forall_mem_cons.mpr ⟨rfl, List.forall_mem_cons.mpr ⟨rfl, List.forall_mem_cons.mpr ⟨rfl, fun _ h => absurd h List.not_mem_nil⟩⟩⟩⟩) ?_
        exact ih216 (z209 + 1) trivial (rW (c := 0) (d := 20) (rAdd (e := 1) (f := 20) h221 (rR (x := 1)) rfl) rfl) (vc_X10_tieBetween_6 (nS h215) h220 h219.1 h221 h222)
      refine mr_iload_n (pc := 54) (z := z209) dX10_tieBetween_54 rfl rfl ?_
      exact mr_iretP dX10_tieBetween_55 rfl (le_t rfl) (le_t rfl) ⟨(rW (c := (-1)) (d := 19) h221 rfl), (vc_X10_tieBetween_5 h219.1 h220 h221 h222), trivial⟩
  refine mr_lvS (lv' := [(0, .ref 6), (1, iv p1), (2, iv p2), (3, iv 0)]) (List.forall_mem_cons.mpr ⟨rfl, List.forall_mem_cons.mpr ⟨rfl, List.forall_mem_cons.mpr ⟨rfl, List.forall_mem_cons.mpr ⟨rfl, fun _ h => absurd h List.not_mem_nil⟩⟩⟩⟩) ?_
  exact L210 22 0 trivial (rW (c := 0) (d := 20) (rR (x := 0)) rfl) vc_X12_tieOf_12
theorem vc_X10_coneOf_2 {n0 z627 z637 : Int} (h0 : z627 < z637) (h1 : z637 = n0) (h2 : 0 ≤ z627 ∧ z627 ≤ 10) (h3 : 0 ≤ z637 ∧ z637 ≤ 10) : 0 ≤ z627 ∧ z627 ≤ 9 := by omega
theorem vc_X10_coneOf_3 {n0 z627 z637 : Int} (h0 : z627 < z637) (h1 : z637 = n0) (h2 : 0 ≤ z627 ∧ z627 ≤ 9) (h3 : 0 ≤ z637 ∧ z637 ≤ 10) : 1 ≤ z637 ∧ z637 ≤ 10 := by omega
theorem vc_X10_coneOf_5 {N n0 z627 z637 : Int} (h0 : (11 - z627) < N + 1) (h1 : z627 < z637) (h2 : z637 = n0) (h3 : 0 ≤ z627 ∧ z627 ≤ 9) (h4 : 1 ≤ z637 ∧ z637 ≤ 10) : (11 - (z627 + 1)) < N := by omega
set_option maxRecDepth 4000 in
set_option maxHeartbeats 4000000 in
theorem c_X10_coneOf {l : Launch} {D : va_G} {c : Nat → ClassId} {H0 : Heap} {sa : Nat × Nat × (Nat → Int32)} {w : mW} {μ : mM} (hw : mWF w) (hT : mT w μ) {p1 : Int} (hp1 : 0 ≤ p1 ∧ p1 ≤ 9) : sC (gG l D c H0 sa) mX10_coneOf 1 0 0 [.ref 6, iv p1] (mk w μ) (qP w μ (fun z => ((-2147483648) ≤ z ∧ z ≤ 2147483647) ∧ True)) := by
  refine sC.of rfl (by decide) (le_t rfl) ?_
  refine mr_lvE (lv' := [(0, .ref 6), (1, iv p1)]) rfl ?_
  refine mr_iconst (pc := 0) (z := 1) dX10_coneOf_0 ?_
  refine mr_iload_n (pc := 1) (z := p1) dX10_coneOf_1 rfl rfl ?_
  refine mr_ishl (pc := 2) (x := 1) (y := p1) dX10_coneOf_2 ?_
  refine mr_gen (P := fun z => (-2147483648) ≤ z ∧ z ≤ 2147483647) (r32i _) fun z1 q2 h3 => ?_
  refine mr_istore_n (pc := 3) (lv' := [(2, iv z1), (0, .ref 6), (1, iv p1)]) dX10_coneOf_3 rfl (by decide) rfl ?_
  refine mr_iconst (pc := 4) (z := 0) dX10_coneOf_4 ?_
  refine mr_istore_n (pc := 5) (lv' := [(3, iv 0), (2, iv z1), (0, .ref 6), (1, iv p1)]) dX10_coneOf_5 rfl (by decide) rfl ?_
  have L629 : ∀ (nL629 : Nat) (z628 z627 : Int), True → ((-2147483648) ≤ z628 ∧ z628 ≤ 2147483647) → (0 ≤ z627 ∧ z627 ≤ 10) → (11 - z627) < (nL629 : Int) → sV (gG l D c H0 sa) mX10_coneOf (sRm 1 0 0) (sZ (gG l D c H0 sa) 0 0 (qP w μ (fun z => ((-2147483648) ≤ z ∧ z ≤ 2147483647) ∧ True))) 6 [(0, .ref 6), (2, iv z628), (3, iv z627)] [] (mk w μ) 0 0 := by
    intro nL629
    induction nL629 with
    | zero => intro z628 z627 _ h630 h631 h635; exact ((vc_X12_ring_2 h635 h631)).elim
    | succ nL629 ih636 =>
      intro z628 z627 _ h630 h631 h635
      refine mr_iload_n (pc := 6) (z := z627) dX10_coneOf_6 rfl rfl ?_
      refine sv_aload_n (pc := 7) dX10_coneOf_7 rfl rfl ?_
      refine gf_X10_15 (pc := 8) dX10_coneOf_8 wF_X10_68 (A_6 hw) hT fun z637 q638 h639 => ?_
      refine mr_icmp_ge (pc := 11) (tgt := 95) dX10_coneOf_11 (by decide) (r32 h631 rfl) (r32 h639.2 rfl) (fun h724 => ?_) (fun h724 => ?_)
      · refine mr_iload_n (pc := 95) (z := z628) dX10_coneOf_95 rfl rfl ?_
        exact mr_iretP dX10_coneOf_96 rfl (le_t rfl) (le_t rfl) ⟨h630, trivial⟩
      have h725 : 0 ≤ z627 ∧ z627 ≤ 9 := (vc_X10_coneOf_2 h724 h639.1 h631 h639.2)
      have h726 : 1 ≤ z637 ∧ z637 ≤ 10 := (vc_X10_coneOf_3 h724 h639.1 h725 h639.2)
      refine mr_iconst (pc := 14) (z := 0) dX10_coneOf_14 ?_
      refine mr_istore (pc := 15) (lv' := [(4, iv 0), (0, .ref 6), (2, iv z628), (3, iv z627)]) dX10_coneOf_15 (by decide) rfl ?_
      have L1098 : ∀ (nL1098 : Nat) (z1097 z1096 : Int), True → ((-2147483648) ≤ z1097 ∧ z1097 ≤ 2147483647) → (0 ≤ z1096 ∧ z1096 ≤ 20) → (21 - z1096) < (nL1098 : Int) → sV (gG l D c H0 sa) mX10_coneOf (sRm 1 0 0) (sZ (gG l D c H0 sa) 0 0 (qP w μ (fun z => ((-2147483648) ≤ z ∧ z ≤ 2147483647) ∧ True))) 17 [(0, .ref 6), (2, iv z1097), (3, iv z627), (4, iv z1096)] [] (mk w μ) 0 0 := by
        intro nL1098
        induction nL1098 with
        | zero => intro z1097 z1096 _ h1099 h1100 h1104; exact ((vc_X12_tieOf_1 h1104 h1100)).elim
        | succ nL1098 ih1105 =>
          intro z1097 z1096 _ h1099 h1100 h1104
          refine mr_iload (pc := 17) (z := z1096) dX10_coneOf_17 rfl ?_
          refine sv_aload_n (pc := 19) dX10_coneOf_19 rfl rfl ?_
          refine gf_X10_16 (pc := 20) dX10_coneOf_20 wF_X10_72 (A_6 hw) hT fun z1106 q1107 h1108 => ?_
          refine mr_icmp_ge (pc := 23) (tgt := 89) dX10_coneOf_23 (by decide) (r32 h1100 rfl) (r32 h1108.2 rfl) (fun h1145 => ?_) (fun h1145 => ?_)
          · refine mr_iinc (pc := 89) (lv' := [(3, iv (z627 + 1)), (0, .ref 6), (2, iv z1097), (4, iv z1096)]) dX10_coneOf_89 rfl (by decide) rfl ?_
            refine sv_goto (pc := 92) (tgt := 6) dX10_coneOf_92 (by decide) ?_
            refine mr_lvS (lv' := [(0, .ref 6), (2, iv z1097), (3, iv (z627 + 1))]) (List.forall_mem_cons.mpr ⟨rfl, List.forall_mem_cons.mpr ⟨rfl, List.forall_mem_cons.mpr ⟨rfl, fun _ h => absurd h List.not_mem_nil⟩⟩⟩) ?_
            exact ih636 z1097 (z627 + 1) trivial h1099 (rW (c := 0) (d := 10) (rAdd (e := 1) (f := 10) h725 (rR (x := 1)) rfl) rfl) (vc_X10_coneOf_5 (nS h635) h724 h639.1 h725 h726)
          have h1146 : 0 ≤ z1096 ∧ z1096 ≤ 19 := (vc_X10_tieBetween_3 h1145 h1108.1 h1100 h1108.2)
          have h1147 : 1 ≤ z1106 ∧ z1106 ≤ 20 := (vc_X10_tieBetween_4 h1145 h1108.1 h1146 h1108.2)
          refine sv_aload_n (pc := 26) dX10_coneOf_26 rfl rfl ?_
          refine gf_X10_4 (pc := 27) dX10_coneOf_27 wF_X10_29 (A_6 hw) hT ?_
          refine mr_iload (pc := 30) (z := z1096) dX10_coneOf_30 rfl ?_
          refine la_11 (pc := 32) dX10_coneOf_32 (A_11 hw) hT (rIx (n := 20) h1146 rfl) (vc_X10_tieBetween_5 h1108.1 h1145 h1146 h1147) fun b1148 q1149 A1150 => ?_
          refine gf_X9_2 (pc := 33) dX10_coneOf_33 wF_X10_84 A1150 hT fun z1151 q1152 h1153 => ?_
          have J1170 : ∀ (z1168 : Int), ((0 ≤ z1168 ∧ z1168 ≤ 1)) → sV (gG l D c H0 sa) mX10_coneOf (sRm 1 0 0) (sZ (gG l D c H0 sa) 0 0 (qP w μ (fun z => ((-2147483648) ≤ z ∧ z ≤ 2147483647) ∧ True))) 61 [(0, .ref 6), (2, iv z1097), (3, iv z627), (4, iv z1096)] [iv z1168] (mk w μ) 0 0 := by
            intro z1168 h1169
            refine mr_istore (pc := 61) (lv' := [(5, iv z1168), (0, .ref 6), (2, iv z1097), (3, iv z627), (4, iv z1096)]) dX10_coneOf_61 (by decide) rfl ?_
            refine mr_iload (pc := 63) (z := z1168) dX10_coneOf_63 rfl ?_
            refine mr_if_eq (pc := 65) (tgt := 83) dX10_coneOf_65 (by decide) (r32 h1169 rfl) (fun h1183 => ?_) (fun h1183 => ?_)
            · have h1184 : 0 ≤ z1168 ∧ z1168 ≤ 0 := (vc_X12_ring_22 h1183 h1169)
              refine mr_iinc (pc := 83) (lv' := [(4, iv (z1096 + 1)), (5, iv z1168), (0, .ref 6), (2, iv z1097), (3, iv z627)]) dX10_coneOf_83 rfl (by decide) rfl ?_
              refine sv_goto (pc := 86) (tgt := 17) dX10_coneOf_86 (by decide) ?_
              refine mr_lvS (lv' := [(0, .ref 6), (2, iv z1097), (3, iv z627), (4, iv (z1096 + 1))]) (List.forall_mem_cons.mpr ⟨rfl, List.forall_mem_cons.mpr ⟨rfl, List.forall_mem_cons.mpr ⟨rfl, List.forall_mem_cons.mpr ⟨rfl, fun _ h => absurd h List.not_mem_nil⟩⟩⟩⟩) ?_
              exact ih1105 z1097 (z1096 + 1) trivial h1099 (rW (c := 0) (d := 20) (rAdd (e := 1) (f := 20) h1146 (rR (x := 1)) rfl) rfl) (vc_X10_tieBetween_6 (nS h1104) h1145 h1108.1 h1146 h1147)
            have h1185 : 1 ≤ z1168 ∧ z1168 ≤ 1 := (vc_X12_ring_24 h1183 h1169)
            refine mr_iload_n (pc := 68) (z := z1097) dX10_coneOf_68 rfl rfl ?_
            refine mr_iconst (pc := 69) (z := 1) dX10_coneOf_69 ?_
            refine sv_aload_n (pc := 70) dX10_coneOf_70 rfl rfl ?_
            refine gf_X10_4 (pc := 71) dX10_coneOf_71 wF_X10_29 (A_6 hw) hT ?_
            refine mr_iload (pc := 74) (z := z1096) dX10_coneOf_74 rfl ?_
            refine lk_11 (pc := 76) dX10_coneOf_76 (A_11 hw) (rIx (n := 20) h1146 rfl) q1149 ?_
            refine gf_X9_1 (pc := 77) dX10_coneOf_77 wF_X10_81 A1150 hT fun z1186 q1187 h1188 => ?_
            have h1189 : 0 ≤ z1186 ∧ z1186 ≤ 9 := ⟨h1188.1, h1188.2.1⟩
            refine mr_ishl (pc := 80) (x := 1) (y := z1186) dX10_coneOf_80 ?_
            refine mr_gen (P := fun z => (-2147483648) ≤ z ∧ z ≤ 2147483647) (r32i _) fun z1190 q1191 h1192 => ?_
            refine mr_ior (pc := 81) (x := z1097) (y := z1190) dX10_coneOf_81 ?_
            refine mr_gen (P := fun z => (-2147483648) ≤ z ∧ z ≤ 2147483647) (r32i _) fun z1193 q1194 h1195 => ?_
            refine mr_istore_n (pc := 82) (lv' := [(2, iv z1193), (5, iv z1168), (0, .ref 6), (3, iv z627), (4, iv z1096)]) dX10_coneOf_82 rfl (by decide) rfl ?_
            refine mr_iinc (pc := 83) (lv' := [(4, iv (z1096 + 1)), (2, iv z1193), (5, iv z1168), (0, .ref 6), (3, iv z627)]) dX10_coneOf_83 rfl (by decide) rfl ?_
            refine sv_goto (pc := 86) (tgt := 17) dX10_coneOf_86 (by decide) ?_
            refine mr_lvS (lv' := [(0, .ref 6), (2, iv z1193), (3, iv z627), (4, iv (z1096 + 1))]) (List.forall_mem_cons.mpr ⟨rfl, List.forall_mem_cons.mpr ⟨rfl, List.forall_mem_cons.mpr ⟨rfl, List.forall_mem_cons.mpr ⟨rfl, fun _ h => absurd h List.not_mem_nil⟩⟩⟩⟩) ?_
            exact ih1105 z1193 (z1096 + 1) trivial h1195 (rW (c := 0) (d := 20) (rAdd (e := 1) (f := 20) h1146 (rR (x := 1)) rfl) rfl) (vc_X10_tieBetween_6 (nS h1104) h1145 h1108.1 h1146 h1147)
          refine mr_if_ne (pc := 36) (tgt := 60) dX10_coneOf_36 (by decide) (r32 h1153 rfl) (fun h1196 => ?_) (fun h1196 => ?_)
          · have h1197 : 1 ≤ z1151 ∧ z1151 ≤ 2 := (vc_X12_provides_3 h1196 h1153)
            refine mr_iconst (pc := 60) (z := 0) dX10_coneOf_60 ?_
            exact J1170 0 (rW (c := 0) (d := 1) (rR (x := 0)) rfl)
          have h1198 : 0 ≤ z1151 ∧ z1151 ≤ 0 := (vc_X12_provides_4 h1196 h1153)
          refine mr_iload_n (pc := 39) (z := z1097) dX10_coneOf_39 rfl rfl ?_
          refine sv_aload_n (pc := 40) dX10_coneOf_40 rfl rfl ?_
          refine gf_X10_4 (pc := 41) dX10_coneOf_41 wF_X10_29 (A_6 hw) hT ?_
          refine mr_iload (pc := 44) (z := z1096) dX10_coneOf_44 rfl ?_
          refine lk_11 (pc := 46) dX10_coneOf_46 (A_11 hw) (rIx (n := 20) h1146 rfl) q1149 ?_
          refine gf_X9_0 (pc := 47) dX10_coneOf_47 wF_X10_78 A1150 hT fun z1199 q1200 h1201 => ?_
          have h1202 : 0 ≤ z1199 ∧ z1199 ≤ 9 := ⟨h1201.1, h1201.2.1⟩
          refine mr_ishr (pc := 50) (x := z1097) (y := z1199) dX10_coneOf_50 ?_
          refine mr_gen (P := fun z => (-2147483648) ≤ z ∧ z ≤ 2147483647) (r32i _) fun z1203 q1204 h1205 => ?_
          refine mr_iconst (pc := 51) (z := 1) dX10_coneOf_51 ?_
          refine mr_iand (pc := 52) (x := z1203) (y := 1) dX10_coneOf_52 ?_
          refine mr_gen (P := fun z => 0 ≤ z ∧ z ≤ 1) (rAndR (rR (x := 1)) rfl) fun z1206 q1207 h1208 => ?_
          refine mr_if_eq (pc := 53) (tgt := 60) dX10_coneOf_53 (by decide) (r32 h1208 rfl) (fun h1209 => ?_) (fun h1209 => ?_)
          · have h1210 : 0 ≤ z1206 ∧ z1206 ≤ 0 := (vc_X12_ring_22 h1209 h1208)
            refine mr_iconst (pc := 60) (z := 0) dX10_coneOf_60 ?_
            exact J1170 0 (rW (c := 0) (d := 1) (rR (x := 0)) rfl)
          have h1211 : 1 ≤ z1206 ∧ z1206 ≤ 1 := (vc_X12_ring_24 h1209 h1208)
          refine mr_iconst (pc := 56) (z := 1) dX10_coneOf_56 ?_
          refine sv_goto (pc := 57) (tgt := 61) dX10_coneOf_57 (by decide) ?_
          exact J1170 1 (rW (c := 0) (d := 1) (rR (x := 1)) rfl)
      refine mr_lvS (lv' := [(0, .ref 6), (2, iv z628), (3, iv z627), (4, iv 0)]) (List.forall_mem_cons.mpr ⟨rfl, List.forall_mem_cons.mpr ⟨rfl, List.forall_mem_cons.mpr ⟨rfl, List.forall_mem_cons.mpr ⟨rfl, fun _ h => absurd h List.not_mem_nil⟩⟩⟩⟩) ?_
      exact L1098 22 z628 0 trivial h630 (rW (c := 0) (d := 20) (rR (x := 0)) rfl) vc_X12_tieOf_12
  refine mr_lvS (lv' := [(0, .ref 6), (2, iv z1), (3, iv 0)]) (List.forall_mem_cons.mpr ⟨rfl, List.forall_mem_cons.mpr ⟨rfl, List.forall_mem_cons.mpr ⟨rfl, fun _ h => absurd h List.not_mem_nil⟩⟩⟩) ?_
  exact L629 12 z1 0 trivial h3 (rW (c := 0) (d := 10) (rR (x := 0)) rfl) vc_X12_ring_27
theorem vc_X10_leastCustomer_9 {p2 z402 : Int} (h0 : z402 = p2) (h1 : (-2147483648) ≤ p2 ∧ p2 ≤ 2147483647) (h2 : 0 ≤ z402 ∧ z402 ≤ 11) : 0 ≤ p2 ∧ p2 ≤ 11 := by omega
theorem vc_X10_leastCustomer_10 {n0 z312 z398 z411 : Int} (h0 : z398 < n0) (h1 : ((z411 = z312 ∨ z411 = z398) ∧ z411 ≤ z312 ∧ z411 ≤ z398)) (h2 : 0 ≤ z312 ∧ z312 ≤ 10) (h3 : 0 ≤ z398 ∧ z398 ≤ 9) : 0 ≤ z411 ∧ z411 ≤ 9 := by omega
set_option maxRecDepth 4000 in
set_option maxHeartbeats 4000000 in
theorem c_X10_leastCustomer {l : Launch} {D : va_G} {c : Nat → ClassId} {H0 : Heap} {sa : Nat × Nat × (Nat → Int32)} {w : mW} {μ : mM} (hw : mWF w) (hT : mT w μ) {p1 : Int} (hp1 : (-2147483648) ≤ p1 ∧ p1 ≤ 2147483647) {p2 : Int} (hp2 : (-2147483648) ≤ p2 ∧ p2 ≤ 2147483647) : sC (gG l D c H0 sa) mX10_leastCustomer 1 0 0 [.ref 6, iv p1, iv p2] (mk w μ) (qP w μ (fun z => (0 ≤ z ∧ z ≤ 10) ∧ True)) := by
  refine sC.of rfl (by decide) (le_t rfl) ?_
  refine mr_lvE (lv' := [(0, .ref 6), (1, iv p1), (2, iv p2)]) rfl ?_
  refine mr_bipush (pc := 0) (z := 10) dX10_leastCustomer_0 (by decide) ?_
  refine mr_istore_n (pc := 2) (lv' := [(3, iv 10), (0, .ref 6), (1, iv p1), (2, iv p2)]) dX10_leastCustomer_2 rfl (by decide) rfl ?_
  refine mr_iconst (pc := 3) (z := 0) dX10_leastCustomer_3 ?_
  refine mr_istore (pc := 4) (lv' := [(4, iv 0), (3, iv 10), (0, .ref 6), (1, iv p1), (2, iv p2)]) dX10_leastCustomer_4 (by decide) rfl ?_
  have L313 : ∀ (nL313 : Nat) (z312 z311 : Int), True → (0 ≤ z312 ∧ z312 ≤ 10) → (0 ≤ z311 ∧ z311 ≤ 20) → (21 - z311) < (nL313 : Int) → sV (gG l D c H0 sa) mX10_leastCustomer (sRm 1 0 0) (sZ (gG l D c H0 sa) 0 0 (qP w μ (fun z => (0 ≤ z ∧ z ≤ 10) ∧ True))) 6 [(0, .ref 6), (1, iv p1), (2, iv p2), (3, iv z312), (4, iv z311)] [] (mk w μ) 0 0 := by
    intro nL313
    induction nL313 with
    | zero => intro z312 z311 _ h314 h315 h319; exact ((vc_X12_tieOf_1 h319 h315)).elim
    | succ nL313 ih320 =>
      intro z312 z311 _ h314 h315 h319
      refine mr_iload (pc := 6) (z := z311) dX10_leastCustomer_6 rfl ?_
      refine sv_aload_n (pc := 8) dX10_leastCustomer_8 rfl rfl ?_
      refine gf_X10_16 (pc := 9) dX10_leastCustomer_9 wF_X10_72 (A_6 hw) hT fun z321 q322 h323 => ?_
      refine mr_icmp_ge (pc := 12) (tgt := 71) dX10_leastCustomer_12 (by decide) (r32 h315 rfl) (r32 h323.2 rfl) (fun h350 => ?_) (fun h350 => ?_)
      · refine mr_iload_n (pc := 71) (z := z312) dX10_leastCustomer_71 rfl rfl ?_
        exact mr_iretP dX10_leastCustomer_72 rfl (le_t rfl) (le_t rfl) ⟨h314, trivial⟩
      have h351 : 0 ≤ z311 ∧ z311 ≤ 19 := (vc_X10_tieBetween_3 h350 h323.1 h315 h323.2)
      have h352 : 1 ≤ z321 ∧ z321 ≤ 20 := (vc_X10_tieBetween_4 h350 h323.1 h351 h323.2)
      refine sv_aload_n (pc := 15) dX10_leastCustomer_15 rfl rfl ?_
      refine gf_X10_4 (pc := 16) dX10_leastCustomer_16 wF_X10_29 (A_6 hw) hT ?_
      refine mr_iload (pc := 19) (z := z311) dX10_leastCustomer_19 rfl ?_
      refine la_11 (pc := 21) dX10_leastCustomer_21 (A_11 hw) hT (rIx (n := 20) h351 rfl) (vc_X10_tieBetween_5 h323.1 h350 h351 h352) fun b353 q354 A355 => ?_
      refine mr_astore (pc := 22) (lv' := [(5, .ref b353), (0, .ref 6), (1, iv p1), (2, iv p2), (3, iv z312), (4, iv z311)]) dX10_leastCustomer_22 (by decide) rfl ?_
      refine sv_aload (pc := 24) dX10_leastCustomer_24 rfl ?_
      refine gf_X9_2 (pc := 26) dX10_leastCustomer_26 wF_X10_84 A355 hT fun z356 q357 h358 => ?_
      refine mr_if_ne (pc := 29) (tgt := 65) dX10_leastCustomer_29 (by decide) (r32 h358 rfl) (fun h377 => ?_) (fun h377 => ?_)
      · have h378 : 1 ≤ z356 ∧ z356 ≤ 2 := (vc_X12_provides_3 h377 h358)
        refine mr_iinc (pc := 65) (lv' := [(4, iv (z311 + 1)), (5, .ref b353), (0, .ref 6), (1, iv p1), (2, iv p2), (3, iv z312)]) dX10_leastCustomer_65 rfl (by decide) rfl ?_
        refine sv_goto (pc := 68) (tgt := 6) dX10_leastCustomer_68 (by decide) ?_
        refine mr_lvS (lv' := [(0, .ref 6), (1, iv p1), (2, iv p2), (3, iv z312), (4, iv (z311 + 1))]) (List.forall_mem_cons.mpr ⟨rfl, List.forall_mem_cons.mpr ⟨rfl, List.forall_mem_cons.mpr ⟨rfl, List.forall_mem_cons.mpr ⟨rfl, List.forall_mem_cons.mpr ⟨rfl, fun _ h => absurd h List.not_mem_nil⟩⟩⟩⟩⟩) ?_
        exact ih320 z312 (z311 + 1) trivial h314 (rW (c := 0) (d := 20) (rAdd (e := 1) (f := 20) h351 (rR (x := 1)) rfl) rfl) (vc_X10_tieBetween_6 (nS h319) h350 h323.1 h351 h352)
      have h379 : 0 ≤ z356 ∧ z356 ≤ 0 := (vc_X12_provides_4 h377 h358)
      refine sv_aload (pc := 32) dX10_leastCustomer_32 rfl ?_
      refine gf_X9_0 (pc := 34) dX10_leastCustomer_34 wF_X10_78 A355 hT fun z380 q381 h382 => ?_
      have h383 : 0 ≤ z380 ∧ z380 ≤ 9 := ⟨h382.1, h382.2.1⟩
      refine mr_iload_n (pc := 37) (z := p1) dX10_leastCustomer_37 rfl rfl ?_
      refine mr_icmp_ne (pc := 38) (tgt := 65) dX10_leastCustomer_38 (by decide) (r32 h383 rfl) hp1 (fun h396 => ?_) (fun h396 => ?_)
      · refine mr_iinc (pc := 65) (lv' := [(4, iv (z311 + 1)), (5, .ref b353), (0, .ref 6), (1, iv p1), (2, iv p2), (3, iv z312)]) dX10_leastCustomer_65 rfl (by decide) rfl ?_
        refine sv_goto (pc := 68) (tgt := 6) dX10_leastCustomer_68 (by decide) ?_
        refine mr_lvS (lv' := [(0, .ref 6), (1, iv p1), (2, iv p2), (3, iv z312), (4, iv (z311 + 1))]) (List.forall_mem_cons.mpr ⟨rfl, List.forall_mem_cons.mpr ⟨rfl, List.forall_mem_cons.mpr ⟨rfl, List.forall_mem_cons.mpr ⟨rfl, List.forall_mem_cons.mpr ⟨rfl, fun _ h => absurd h List.not_mem_nil⟩⟩⟩⟩⟩) ?_
        exact ih320 z312 (z311 + 1) trivial h314 (rW (c := 0) (d := 20) (rAdd (e := 1) (f := 20) h351 (rR (x := 1)) rfl) rfl) (vc_X10_tieBetween_6 (nS h319) h350 h323.1 h351 h352)
      have h397 : 0 ≤ p1 ∧ p1 ≤ 9 := (vc_X10_tieBetween_9 h396 h382.2.2 hp1 h383)
      refine sv_aload_n (pc := 41) dX10_leastCustomer_41 rfl rfl ?_
      refine gf_X10_6 (pc := 42) dX10_leastCustomer_42 wF_X10_36 (A_6 hw) hT ?_
      refine sv_aload (pc := 45) dX10_leastCustomer_45 rfl ?_
      refine gf_X9_1 (pc := 47) dX10_leastCustomer_47 wF_X10_81 A355 hT fun z398 q399 h400 => ?_
      have h401 : 0 ≤ z398 ∧ z398 ≤ 9 := ⟨h400.1, h400.2.1⟩
      refine la_13 (pc := 50) dX10_leastCustomer_50 (A_13 hw) hT (rIx (n := 10) h401 rfl) fun z402 q403 h404 => ?_
      refine mr_iload_n (pc := 51) (z := p2) dX10_leastCustomer_51 rfl rfl ?_
      refine mr_icmp_ne (pc := 52) (tgt := 65) dX10_leastCustomer_52 (by decide) (r32 h404 rfl) hp2 (fun h409 => ?_) (fun h409 => ?_)
      · refine mr_iinc (pc := 65) (lv' := [(4, iv (z311 + 1)), (5, .ref b353), (0, .ref 6), (1, iv p1), (2, iv p2), (3, iv z312)]) dX10_leastCustomer_65 rfl (by decide) rfl ?_
        refine sv_goto (pc := 68) (tgt := 6) dX10_leastCustomer_68 (by decide) ?_
        refine mr_lvS (lv' := [(0, .ref 6), (1, iv p1), (2, iv p2), (3, iv z312), (4, iv (z311 + 1))]) (List.forall_mem_cons.mpr ⟨rfl, List.forall_mem_cons.mpr ⟨rfl, List.forall_mem_cons.mpr ⟨rfl, List.forall_mem_cons.mpr ⟨rfl, List.forall_mem_cons.mpr ⟨rfl, fun _ h => absurd h List.not_mem_nil⟩⟩⟩⟩⟩) ?_
        exact ih320 z312 (z311 + 1) trivial h314 (rW (c := 0) (d := 20) (rAdd (e := 1) (f := 20) h351 (rR (x := 1)) rfl) rfl) (vc_X10_tieBetween_6 (nS h319) h350 h323.1 h351 h352)
      have h410 : 0 ≤ p2 ∧ p2 ≤ 11 := (vc_X10_leastCustomer_9 h409 hp2 h404)
      refine mr_iload_n (pc := 55) (z := z312) dX10_leastCustomer_55 rfl rfl ?_
      refine sv_aload (pc := 56) dX10_leastCustomer_56 rfl ?_
      refine gk_X9_1 (pc := 58) dX10_leastCustomer_58 wF_X10_81 A355 q399 ?_
      refine mr_min (pc := 61) dX10_leastCustomer_61 wM_X10_100 wS_J_min wI_J_math wK_J_min ⟨le_t rfl, le_t rfl⟩ ⟨le_t rfl, le_t rfl⟩ (le_t rfl) (r32 h314 rfl) (r32 h401 rfl) fun z411 h412 => ?_
      have h413 : 0 ≤ z411 ∧ z411 ≤ 9 := (vc_X10_leastCustomer_10 h400.2.2 h412 h314 h401)
      refine mr_istore_n (pc := 64) (lv' := [(3, iv z411), (5, .ref b353), (0, .ref 6), (1, iv p1), (2, iv p2), (4, iv z311)]) dX10_leastCustomer_64 rfl (by decide) rfl ?_
      refine mr_iinc (pc := 65) (lv' := [(4, iv (z311 + 1)), (3, iv z411), (5, .ref b353), (0, .ref 6), (1, iv p1), (2, iv p2)]) dX10_leastCustomer_65 rfl (by decide) rfl ?_
      refine sv_goto (pc := 68) (tgt := 6) dX10_leastCustomer_68 (by decide) ?_
      refine mr_lvS (lv' := [(0, .ref 6), (1, iv p1), (2, iv p2), (3, iv z411), (4, iv (z311 + 1))]) (List.forall_mem_cons.mpr ⟨rfl, List.forall_mem_cons.mpr ⟨rfl, List.forall_mem_cons.mpr ⟨rfl, List.forall_mem_cons.mpr ⟨rfl, List.forall_mem_cons.mpr ⟨rfl, fun _ h => absurd h List.not_mem_nil⟩⟩⟩⟩⟩) ?_
      exact ih320 z411 (z311 + 1) trivial (rW (c := 0) (d := 10) h413 rfl) (rW (c := 0) (d := 20) (rAdd (e := 1) (f := 20) h351 (rR (x := 1)) rfl) rfl) (vc_X10_tieBetween_6 (nS h319) h350 h323.1 h351 h352)
  refine mr_lvS (lv' := [(0, .ref 6), (1, iv p1), (2, iv p2), (3, iv 10), (4, iv 0)]) (List.forall_mem_cons.mpr ⟨rfl, List.forall_mem_cons.mpr ⟨rfl, List.forall_mem_cons.mpr ⟨rfl, List.forall_mem_cons.mpr ⟨rfl, List.forall_mem_cons.mpr ⟨rfl, fun _ h => absurd h List.not_mem_nil⟩⟩⟩⟩⟩) ?_
  exact L313 22 10 0 trivial (rW (c := 0) (d := 10) (rR (x := 10)) rfl) (rW (c := 0) (d := 20) (rR (x := 0)) rfl) vc_X12_tieOf_12
theorem vc_X10_shortestRing_2 {z623 : Int} (h0 : 11 ≤ z623) (h1 : 1 ≤ z623 ∧ z623 ≤ 11) : 11 ≤ z623 ∧ z623 ≤ 11 := by omega
theorem vc_X10_shortestRing_3 {z623 : Int} (h0 : z623 < 11) (h1 : 1 ≤ z623 ∧ z623 ≤ 11) : 1 ≤ z623 ∧ z623 ≤ 10 := by omega
theorem vc_X10_shortestRing_12 {z1240 z1260 z1263 : Int} (h0 : ((z1263 = z1260 ∨ z1263 = (z1240 + 1)) ∧ z1263 ≤ z1260 ∧ z1263 ≤ (z1240 + 1))) (h1 : 0 ≤ z1240 ∧ z1240 ≤ 11) (h2 : 0 ≤ z1260 ∧ z1260 ≤ 11) : 0 ≤ z1263 ∧ z1263 ≤ 11 := by omega
theorem vc_X10_shortestRing_14 {z1154 z1240 z1269 : Int} (h0 : ((z1269 = z1154 ∨ z1269 = (z1240 + 1)) ∧ z1269 ≤ z1154 ∧ z1269 ≤ (z1240 + 1))) (h1 : 1 ≤ z1154 ∧ z1154 ≤ 11) (h2 : 0 ≤ z1240 ∧ z1240 ≤ 11) : 1 ≤ z1269 ∧ z1269 ≤ 11 := by omega
set_option maxRecDepth 4000 in
set_option maxHeartbeats 4000000 in
theorem c_X10_shortestRing {l : Launch} {D : va_G} {c : Nat → ClassId} {H0 : Heap} {sa : Nat × Nat × (Nat → Int32)} {w : mW} {μ : mM} (hw : mWF w) (hT : mT w μ) {p1 : Int} (hp1 : 0 ≤ p1 ∧ p1 ≤ 9) : sC (gG l D c H0 sa) mX10_shortestRing 3 0 0 [.ref 6, iv p1] (mk w μ) (qI w [13999] μ (fun z μ1 => (0 ≤ z ∧ z ≤ 10) ∧ True)) := by
  refine sC.of rfl (by decide) (le_t rfl) ?_
  refine mr_lvE (lv' := [(0, .ref 6), (1, iv p1)]) rfl ?_
  refine mr_bipush (pc := 0) (z := 11) dX10_shortestRing_0 (by decide) ?_
  refine mr_istore_n (pc := 2) (lv' := [(2, iv 11), (0, .ref 6), (1, iv p1)]) dX10_shortestRing_2 rfl (by decide) rfl ?_
  refine sv_aload_n (pc := 3) dX10_shortestRing_3 rfl rfl ?_
  refine gf_X10_6 (pc := 4) dX10_shortestRing_4 wF_X10_36 (A_6 hw) hT ?_
  refine mr_iload_n (pc := 7) (z := 11) dX10_shortestRing_7 rfl rfl ?_
  refine mr_fillI (pc := 8) dX10_shortestRing_8 wM_X10_94 (A_13 hw) rfl ((A_13 hw).2.2.2 rfl) (lt_t rfl) hT (fun _ => (rW (c := 0) (d := 11) (rR (x := 11)) rfl)) ⟨le_t rfl, le_t rfl⟩ ⟨le_t rfl, le_t rfl⟩ (le_t rfl) fun μ1 q2 T3 => ?_
  have F4 : mF [13999] w μ μ1 := mF.cell q2.1 (A_13 hw) rfl
  refine sv_aload_n (pc := 11) dX10_shortestRing_11 rfl rfl ?_
  refine gf_X10_6 (pc := 12) dX10_shortestRing_12 wF_X10_36 (A_6 hw) T3 ?_
  refine mr_iload_n (pc := 15) (z := p1) dX10_shortestRing_15 rfl rfl ?_
  refine mr_iconst (pc := 16) (z := 0) dX10_shortestRing_16 ?_
  refine ss_13 (pc := 17) dX10_shortestRing_17 (A_13 hw) T3 (rIx (n := 10) hp1 rfl) (rW (c := 0) (d := 11) (rR (x := 0)) rfl) fun μ5 u6 T7 => ?_
  refine mr_iload_n (pc := 18) (z := 11) dX10_shortestRing_18 rfl rfl ?_
  refine mr_istore_n (pc := 19) (lv' := [(3, iv 11), (2, iv 11), (0, .ref 6), (1, iv p1)]) dX10_shortestRing_19 rfl (by decide) rfl ?_
  refine mr_iconst (pc := 20) (z := 0) dX10_shortestRing_20 ?_
  refine mr_istore (pc := 21) (lv' := [(4, iv 0), (3, iv 11), (2, iv 11), (0, .ref 6), (1, iv p1)]) dX10_shortestRing_21 (by decide) rfl ?_
  have L625 : ∀ (nL625 : Nat) (z623 z622 : Int) (μ624 : mM), mT w μ624 → mF [13999] w μ5 μ624 → (1 ≤ z623 ∧ z623 ≤ 11) → (0 ≤ z622 ∧ z622 ≤ 10) → (11 - z622) < (nL625 : Int) → sV (gG l D c H0 sa) mX10_shortestRing (sRm 3 0 0) (sZ (gG l D c H0 sa) 0 0 (qI w [13999] μ (fun z μ1 => (0 ≤ z ∧ z ≤ 10) ∧ True))) 23 [(0, .ref 6), (1, iv p1), (2, iv 11), (3, iv z623), (4, iv z622)] [] (mk w μ624) 0 0 := by
    intro nL625
    induction nL625 with
    | zero => intro z623 z622 μ624 T628 F629 h626 h627 h631; exact ((vc_X12_ring_2 h631 h627)).elim
    | succ nL625 ih632 =>
      intro z623 z622 μ624 T628 F629 h626 h627 h631
      refine mr_iload (pc := 23) (z := z622) dX10_shortestRing_23 rfl ?_
      refine sv_aload_n (pc := 25) dX10_shortestRing_25 rfl rfl ?_
      refine gf_X10_15 (pc := 26) dX10_shortestRing_26 wF_X10_68 (A_6 hw) T628 fun z633 q634 h635 => ?_
      refine mr_icmp_ge (pc := 29) (tgt := 150) dX10_shortestRing_29 (by decide) (r32 h627 rfl) (r32 h635.2 rfl) (fun h716 => ?_) (fun h716 => ?_)
      · refine mr_iload_n (pc := 150) (z := z623) dX10_shortestRing_150 rfl rfl ?_
        refine mr_iload_n (pc := 151) (z := 11) dX10_shortestRing_151 rfl rfl ?_
        refine mr_icmp_ge (pc := 152) (tgt := 159) dX10_shortestRing_152 (by decide) (r32 h626 rfl) (r32 (rR (x := 11)) rfl) (fun h719 => ?_) (fun h719 => ?_)
        · have h720 : 11 ≤ z623 ∧ z623 ≤ 11 := (vc_X10_shortestRing_2 h719 h626)
          refine mr_iconst (pc := 159) (z := 0) dX10_shortestRing_159 ?_
          exact mr_iret dX10_shortestRing_160 rfl (le_t rfl) (le_t rfl) T628 (mF.call (mF.up (mF.call mF.refl F4 rfl) (A_13 hw) u6 rfl) F629 rfl) ⟨(rW (c := 0) (d := 10) (rR (x := 0)) rfl), trivial⟩
        have h721 : 1 ≤ z623 ∧ z623 ≤ 10 := (vc_X10_shortestRing_3 h719 h626)
        refine mr_iload_n (pc := 155) (z := z623) dX10_shortestRing_155 rfl rfl ?_
        refine sv_goto (pc := 156) (tgt := 160) dX10_shortestRing_156 (by decide) ?_
        exact mr_iret dX10_shortestRing_160 rfl (le_t rfl) (le_t rfl) T628 (mF.call (mF.up (mF.call mF.refl F4 rfl) (A_13 hw) u6 rfl) F629 rfl) ⟨(rW (c := 0) (d := 10) h721 rfl), trivial⟩
      have h722 : 0 ≤ z622 ∧ z622 ≤ 9 := (vc_X10_coneOf_2 h716 h635.1 h627 h635.2)
      have h723 : 1 ≤ z633 ∧ z633 ≤ 10 := (vc_X10_coneOf_3 h716 h635.1 h722 h635.2)
      refine mr_iconst (pc := 32) (z := 0) dX10_shortestRing_32 ?_
      refine mr_istore (pc := 33) (lv' := [(5, iv 0), (0, .ref 6), (1, iv p1), (2, iv 11), (3, iv z623), (4, iv z622)]) dX10_shortestRing_33 (by decide) rfl ?_
      have L1156 : ∀ (nL1156 : Nat) (z1154 z1153 : Int) (μ1155 : mM), mT w μ1155 → mF [13999] w μ624 μ1155 → (1 ≤ z1154 ∧ z1154 ≤ 11) → (0 ≤ z1153 ∧ z1153 ≤ 20) → (21 - z1153) < (nL1156 : Int) → sV (gG l D c H0 sa) mX10_shortestRing (sRm 3 0 0) (sZ (gG l D c H0 sa) 0 0 (qI w [13999] μ (fun z μ1 => (0 ≤ z ∧ z ≤ 10) ∧ True))) 35 [(0, .ref 6), (1, iv p1), (2, iv 11), (3, iv z1154), (4, iv z622), (5, iv z1153)] [] (mk w μ1155) 0 0 := by
        intro nL1156
        induction nL1156 with
        | zero => intro z1154 z1153 μ1155 T1159 F1160 h1157 h1158 h1162; exact ((vc_X12_tieOf_1 h1162 h1158)).elim
        | succ nL1156 ih1163 =>
          intro z1154 z1153 μ1155 T1159 F1160 h1157 h1158 h1162
          refine mr_iload (pc := 35) (z := z1153) dX10_shortestRing_35 rfl ?_
          refine sv_aload_n (pc := 37) dX10_shortestRing_37 rfl rfl ?_
          refine gf_X10_16 (pc := 38) dX10_shortestRing_38 wF_X10_72 (A_6 hw) T1159 fun z1164 q1165 h1166 => ?_
          refine mr_icmp_ge (pc := 41) (tgt := 144) dX10_shortestRing_41 (by decide) (r32 h1158 rfl) (r32 h1166.2 rfl) (fun h1200 => ?_) (fun h1200 => ?_)
          · refine mr_iinc (pc := 144) (lv' := [(4, iv (z622 + 1)), (0, .ref 6), (1, iv p1), (2, iv 11), (3, iv z1154), (5, iv z1153)]) dX10_shortestRing_144 rfl (by decide) rfl ?_
            refine sv_goto (pc := 147) (tgt := 23) dX10_shortestRing_147 (by decide) ?_
            refine mr_lvS (lv' := [(0, .ref 6), (1, iv p1), (2, iv 11), (3, iv z1154), (4, iv (z622 + 1))]) (List.forall_mem_cons.mpr ⟨rfl, List.forall_mem_cons.mpr ⟨rfl, List.forall_mem_cons.mpr ⟨rfl, List.forall_mem_cons.mpr ⟨rfl, List.forall_mem_cons.mpr ⟨rfl, fun _ h => absurd h List.not_mem_nil⟩⟩⟩⟩⟩) ?_
            exact ih632 z1154 (z622 + 1) μ1155 T1159 (mF.call (mF.call mF.refl F629 rfl) F1160 rfl) h1157 (rW (c := 0) (d := 10) (rAdd (e := 1) (f := 10) h722 (rR (x := 1)) rfl) rfl) (vc_X10_coneOf_5 (nS h631) h716 h635.1 h722 h723)
          have h1201 : 0 ≤ z1153 ∧ z1153 ≤ 19 := (vc_X10_tieBetween_3 h1200 h1166.1 h1158 h1166.2)
          have h1202 : 1 ≤ z1164 ∧ z1164 ≤ 20 := (vc_X10_tieBetween_4 h1200 h1166.1 h1201 h1166.2)
          refine sv_aload_n (pc := 44) dX10_shortestRing_44 rfl rfl ?_
          refine gf_X10_4 (pc := 45) dX10_shortestRing_45 wF_X10_29 (A_6 hw) T1159 ?_
          refine mr_iload (pc := 48) (z := z1153) dX10_shortestRing_48 rfl ?_
          refine la_11 (pc := 50) dX10_shortestRing_50 (A_11 hw) T1159 (rIx (n := 20) h1201 rfl) (vc_X10_tieBetween_5 h1166.1 h1200 h1201 h1202) fun b1203 q1204 A1205 => ?_
          refine gf_X9_2 (pc := 51) dX10_shortestRing_51 wF_X10_84 A1205 T1159 fun z1206 q1207 h1208 => ?_
          refine mr_if_eq (pc := 54) (tgt := 60) dX10_shortestRing_54 (by decide) (r32 h1208 rfl) (fun h1234 => ?_) (fun h1234 => ?_)
          · have h1235 : 0 ≤ z1206 ∧ z1206 ≤ 0 := (vc_X12_provides_4 h1234 h1208)
            refine sv_aload_n (pc := 60) dX10_shortestRing_60 rfl rfl ?_
            refine gf_X10_6 (pc := 61) dX10_shortestRing_61 wF_X10_36 (A_6 hw) T1159 ?_
            refine sv_aload_n (pc := 64) dX10_shortestRing_64 rfl rfl ?_
            refine gf_X10_4 (pc := 65) dX10_shortestRing_65 wF_X10_29 (A_6 hw) T1159 ?_
            refine mr_iload (pc := 68) (z := z1153) dX10_shortestRing_68 rfl ?_
            refine lk_11 (pc := 70) dX10_shortestRing_70 (A_11 hw) (rIx (n := 20) h1201 rfl) q1204 ?_
            refine gf_X9_1 (pc := 71) dX10_shortestRing_71 wF_X10_81 A1205 T1159 fun z1236 q1237 h1238 => ?_
            have h1239 : 0 ≤ z1236 ∧ z1236 ≤ 9 := ⟨h1238.1, h1238.2.1⟩
            refine la_13 (pc := 74) dX10_shortestRing_74 (A_13 hw) T1159 (rIx (n := 10) h1239 rfl) fun z1240 q1241 h1242 => ?_
            refine mr_iconst (pc := 75) (z := 1) dX10_shortestRing_75 ?_
            refine mr_iadd (pc := 76) (x := z1240) (y := 1) dX10_shortestRing_76 ?_
            refine mr_istore (pc := 77) (lv' := [(6, iv (z1240 + 1)), (0, .ref 6), (1, iv p1), (2, iv 11), (3, iv z1154), (4, iv z622), (5, iv z1153)]) dX10_shortestRing_77 (by decide) rfl ?_
            refine sv_aload_n (pc := 79) dX10_shortestRing_79 rfl rfl ?_
            refine gf_X10_4 (pc := 80) dX10_shortestRing_80 wF_X10_29 (A_6 hw) T1159 ?_
            refine mr_iload (pc := 83) (z := z1153) dX10_shortestRing_83 rfl ?_
            refine lk_11 (pc := 85) dX10_shortestRing_85 (A_11 hw) (rIx (n := 20) h1201 rfl) q1204 ?_
            refine gf_X9_0 (pc := 86) dX10_shortestRing_86 wF_X10_78 A1205 T1159 fun z1243 q1244 h1245 => ?_
            have h1246 : 0 ≤ z1243 ∧ z1243 ≤ 9 := ⟨h1245.1, h1245.2.1⟩
            refine mr_iload_n (pc := 89) (z := p1) dX10_shortestRing_89 rfl rfl ?_
            refine mr_icmp_ne (pc := 90) (tgt := 103) dX10_shortestRing_90 (by decide) (r32 h1246 rfl) (r32 hp1 rfl) (fun h1259 => ?_) (fun h1259 => ?_)
            · refine sv_aload_n (pc := 103) dX10_shortestRing_103 rfl rfl ?_
              refine gf_X10_6 (pc := 104) dX10_shortestRing_104 wF_X10_36 (A_6 hw) T1159 ?_
              refine sv_aload_n (pc := 107) dX10_shortestRing_107 rfl rfl ?_
              refine gf_X10_4 (pc := 108) dX10_shortestRing_108 wF_X10_29 (A_6 hw) T1159 ?_
              refine mr_iload (pc := 111) (z := z1153) dX10_shortestRing_111 rfl ?_
              refine lk_11 (pc := 113) dX10_shortestRing_113 (A_11 hw) (rIx (n := 20) h1201 rfl) q1204 ?_
              refine gk_X9_0 (pc := 114) dX10_shortestRing_114 wF_X10_78 A1205 q1244 ?_
              refine sv_aload_n (pc := 117) dX10_shortestRing_117 rfl rfl ?_
              refine gf_X10_6 (pc := 118) dX10_shortestRing_118 wF_X10_36 (A_6 hw) T1159 ?_
              refine sv_aload_n (pc := 121) dX10_shortestRing_121 rfl rfl ?_
              refine gf_X10_4 (pc := 122) dX10_shortestRing_122 wF_X10_29 (A_6 hw) T1159 ?_
              refine mr_iload (pc := 125) (z := z1153) dX10_shortestRing_125 rfl ?_
              refine lk_11 (pc := 127) dX10_shortestRing_127 (A_11 hw) (rIx (n := 20) h1201 rfl) q1204 ?_
              refine gk_X9_0 (pc := 128) dX10_shortestRing_128 wF_X10_78 A1205 q1244 ?_
              refine la_13 (pc := 131) dX10_shortestRing_131 (A_13 hw) T1159 (rIx (n := 10) h1246 rfl) fun z1260 q1261 h1262 => ?_
              refine mr_iload (pc := 132) (z := (z1240 + 1)) dX10_shortestRing_132 rfl ?_
              refine mr_min (pc := 134) dX10_shortestRing_134 wM_X10_100 wS_J_min wI_J_math wK_J_min ⟨le_t rfl, le_t rfl⟩ ⟨le_t rfl, le_t rfl⟩ (le_t rfl) (r32 h1262 rfl) (r32 (rAdd (e := 1) (f := 12) h1242 (rR (x := 1)) rfl) rfl) fun z1263 h1264 => ?_
              have h1265 : 0 ≤ z1263 ∧ z1263 ≤ 11 := (vc_X10_shortestRing_12 h1264 h1242 h1262)
              refine ss_13 (pc := 137) dX10_shortestRing_137 (A_13 hw) T1159 (rIx (n := 10) h1246 rfl) h1265 fun μ1266 u1267 T1268 => ?_
              refine mr_iinc (pc := 138) (lv' := [(5, iv (z1153 + 1)), (6, iv (z1240 + 1)), (0, .ref 6), (1, iv p1), (2, iv 11), (3, iv z1154), (4, iv z622)]) dX10_shortestRing_138 rfl (by decide) rfl ?_
              refine sv_goto (pc := 141) (tgt := 35) dX10_shortestRing_141 (by decide) ?_
              refine mr_lvS (lv' := [(0, .ref 6), (1, iv p1), (2, iv 11), (3, iv z1154), (4, iv z622), (5, iv (z1153 + 1))]) (List.forall_mem_cons.mpr ⟨rfl, List.forall_mem_cons.mpr ⟨rfl, List.forall_mem_cons.mpr ⟨rfl, List.forall_mem_cons.mpr ⟨rfl, List.forall_mem_cons.mpr ⟨rfl, List.forall_mem_cons.mpr ⟨rfl, fun _ h => absurd h List.not_mem_nil⟩⟩⟩⟩⟩⟩) ?_
              exact ih1163 z1154 (z1153 + 1) μ1266 T1268 (mF.up (mF.call mF.refl F1160 rfl) (A_13 hw) u1267 rfl) h1157 (rW (c := 0) (d := 20) (rAdd (e := 1) (f := 20) h1201 (rR (x := 1)) rfl) rfl) (vc_X10_tieBetween_6 (nS h1162) h1200 h1166.1 h1201 h1202)
            refine mr_iload_n (pc := 93) (z := z1154) dX10_shortestRing_93 rfl rfl ?_
            refine mr_iload (pc := 94) (z := (z1240 + 1)) dX10_shortestRing_94 rfl ?_
            refine mr_min (pc := 96) dX10_shortestRing_96 wM_X10_100 wS_J_min wI_J_math wK_J_min ⟨le_t rfl, le_t rfl⟩ ⟨le_t rfl, le_t rfl⟩ (le_t rfl) (r32 h1157 rfl) (r32 (rAdd (e := 1) (f := 12) h1242 (rR (x := 1)) rfl) rfl) fun z1269 h1270 => ?_
            have h1271 : 1 ≤ z1269 ∧ z1269 ≤ 11 := (vc_X10_shortestRing_14 h1270 h1157 h1242)
            refine mr_istore_n (pc := 99) (lv' := [(3, iv z1269), (6, iv (z1240 + 1)), (0, .ref 6), (1, iv p1), (2, iv 11), (4, iv z622), (5, iv z1153)]) dX10_shortestRing_99 rfl (by decide) rfl ?_
            refine sv_goto (pc := 100) (tgt := 138) dX10_shortestRing_100 (by decide) ?_
            refine mr_iinc (pc := 138) (lv' := [(5, iv (z1153 + 1)), (3, iv z1269), (6, iv (z1240 + 1)), (0, .ref 6), (1, iv p1), (2, iv 11), (4, iv z622)]) dX10_shortestRing_138 rfl (by decide) rfl ?_
            refine sv_goto (pc := 141) (tgt := 35) dX10_shortestRing_141 (by decide) ?_
            refine mr_lvS (lv' := [(0, .ref 6), (1, iv p1), (2, iv 11), (3, iv z1269), (4, iv z622), (5, iv (z1153 + 1))]) (List.forall_mem_cons.mpr ⟨rfl, List.forall_mem_cons.mpr ⟨rfl, List.forall_mem_cons.mpr ⟨rfl, List.forall_mem_cons.mpr ⟨rfl, List.forall_mem_cons.mpr ⟨rfl, List.forall_mem_cons.mpr ⟨rfl, fun _ h => absurd h List.not_mem_nil⟩⟩⟩⟩⟩⟩) ?_
            exact ih1163 z1269 (z1153 + 1) μ1155 T1159 (mF.call mF.refl F1160 rfl) h1271 (rW (c := 0) (d := 20) (rAdd (e := 1) (f := 20) h1201 (rR (x := 1)) rfl) rfl) (vc_X10_tieBetween_6 (nS h1162) h1200 h1166.1 h1201 h1202)
          have h1272 : 1 ≤ z1206 ∧ z1206 ≤ 2 := (vc_X12_provides_3 h1234 h1208)
          refine sv_goto (pc := 57) (tgt := 138) dX10_shortestRing_57 (by decide) ?_
          refine mr_iinc (pc := 138) (lv' := [(5, iv (z1153 + 1)), (0, .ref 6), (1, iv p1), (2, iv 11), (3, iv z1154), (4, iv z622)]) dX10_shortestRing_138 rfl (by decide) rfl ?_
          refine sv_goto (pc := 141) (tgt := 35) dX10_shortestRing_141 (by decide) ?_
          refine mr_lvS (lv' := [(0, .ref 6), (1, iv p1), (2, iv 11), (3, iv z1154), (4, iv z622), (5, iv (z1153 + 1))]) (List.forall_mem_cons.mpr ⟨rfl, List.forall_mem_cons.mpr ⟨rfl, List.forall_mem_cons.mpr ⟨rfl, List.forall_mem_cons.mpr ⟨rfl, List.forall_mem_cons.mpr ⟨rfl, List.forall_mem_cons.mpr ⟨rfl, fun _ h => absurd h List.not_mem_nil⟩⟩⟩⟩⟩⟩) ?_
          exact ih1163 z1154 (z1153 + 1) μ1155 T1159 (mF.call mF.refl F1160 rfl) h1157 (rW (c := 0) (d := 20) (rAdd (e := 1) (f := 20) h1201 (rR (x := 1)) rfl) rfl) (vc_X10_tieBetween_6 (nS h1162) h1200 h1166.1 h1201 h1202)
      refine mr_lvS (lv' := [(0, .ref 6), (1, iv p1), (2, iv 11), (3, iv z623), (4, iv z622), (5, iv 0)]) (List.forall_mem_cons.mpr ⟨rfl, List.forall_mem_cons.mpr ⟨rfl, List.forall_mem_cons.mpr ⟨rfl, List.forall_mem_cons.mpr ⟨rfl, List.forall_mem_cons.mpr ⟨rfl, List.forall_mem_cons.mpr ⟨rfl, fun _ h => absurd h List.not_mem_nil⟩⟩⟩⟩⟩⟩) ?_
      exact L1156 22 z623 0 μ624 T628 mF.refl h626 (rW (c := 0) (d := 20) (rR (x := 0)) rfl) vc_X12_tieOf_12
  refine mr_lvS (lv' := [(0, .ref 6), (1, iv p1), (2, iv 11), (3, iv 11), (4, iv 0)]) (List.forall_mem_cons.mpr ⟨rfl, List.forall_mem_cons.mpr ⟨rfl, List.forall_mem_cons.mpr ⟨rfl, List.forall_mem_cons.mpr ⟨rfl, List.forall_mem_cons.mpr ⟨rfl, fun _ h => absurd h List.not_mem_nil⟩⟩⟩⟩⟩) ?_
  exact L625 12 11 0 μ5 T7 mF.refl (rW (c := 1) (d := 11) (rR (x := 11)) rfl) (rW (c := 0) (d := 10) (rR (x := 0)) rfl) vc_X12_ring_27
theorem vc_X10_fillRing_1 {z94 : Int} (h0 : (11 - z94) < ((0 : Nat) : Int)) (h1 : 1 ≤ z94 ∧ z94 ≤ 10) : False := by omega
theorem vc_X10_fillRing_2 {p2 z94 : Int} (h0 : z94 < p2) (h1 : 0 ≤ p2 ∧ p2 ≤ 10) (h2 : 1 ≤ z94 ∧ z94 ≤ 10) : 1 ≤ z94 ∧ z94 ≤ 9 := by omega
theorem vc_X10_fillRing_3 {p2 z94 : Int} (h0 : z94 < p2) (h1 : 0 ≤ p2 ∧ p2 ≤ 10) (h2 : 1 ≤ z94 ∧ z94 ≤ 9) : 2 ≤ p2 ∧ p2 ≤ 10 := by omega
theorem vc_X10_fillRing_4 {N p2 z94 : Int} (h0 : (11 - z94) < N + 1) (h1 : z94 < p2) (h2 : 2 ≤ p2 ∧ p2 ≤ 10) (h3 : 1 ≤ z94 ∧ z94 ≤ 9) : (11 - (z94 + 1)) < N := by omega
theorem vc_X10_fillRing_5  : (11 - 1) < ((11 : Nat) : Int) := by omega
set_option maxRecDepth 4000 in
set_option maxHeartbeats 4000000 in
theorem c_X10_fillRing {l : Launch} {D : va_G} {c : Nat → ClassId} {H0 : Heap} {sa : Nat × Nat × (Nat → Int32)} {w : mW} {μ : mM} (hw : mWF w) (hT : mT w μ) {p1 : Int} (hp1 : 0 ≤ p1 ∧ p1 ≤ 9) {p2 : Int} (hp2 : 0 ≤ p2 ∧ p2 ≤ 10) : sC (gG l D c H0 sa) mX10_fillRing 2 0 0 [.ref 6, iv p1, iv p2] (mk w μ) (qV w [12999] μ (fun μ1 => True)) := by
  refine sC.of rfl (by decide) (le_t rfl) ?_
  refine mr_lvE (lv' := [(0, .ref 6), (1, iv p1), (2, iv p2)]) rfl ?_
  refine sv_aload_n (pc := 0) dX10_fillRing_0 rfl rfl ?_
  refine gf_X10_5 (pc := 1) dX10_fillRing_1 wF_X10_33 (A_6 hw) hT ?_
  refine mr_iconst (pc := 4) (z := 0) dX10_fillRing_4 ?_
  refine mr_iload_n (pc := 5) (z := p1) dX10_fillRing_5 rfl rfl ?_
  refine ss_12 (pc := 6) dX10_fillRing_6 (A_12 hw) hT (rIx (n := 10) (rR (x := 0)) rfl) (rW (c := 0) (d := 10) hp1 rfl) fun μ1 u2 T3 => ?_
  refine mr_iconst (pc := 7) (z := 1) dX10_fillRing_7 ?_
  refine mr_istore_n (pc := 8) (lv' := [(3, iv 1), (0, .ref 6), (1, iv p1), (2, iv p2)]) dX10_fillRing_8 rfl (by decide) rfl ?_
  have L96 : ∀ (nL96 : Nat) (z94 : Int) (μ95 : mM), mT w μ95 → mF [12999] w μ1 μ95 → (1 ≤ z94 ∧ z94 ≤ 10) → (11 - z94) < (nL96 : Int) → sV (gG l D c H0 sa) mX10_fillRing (sRm 2 0 0) (sZ (gG l D c H0 sa) 0 0 (qV w [12999] μ (fun μ1 => True))) 9 [(0, .ref 6), (2, iv p2), (3, iv z94)] [] (mk w μ95) 0 0 := by
    intro nL96
    induction nL96 with
    | zero => intro z94 μ95 T98 F99 h97 h101; exact ((vc_X10_fillRing_1 h101 h97)).elim
    | succ nL96 ih102 =>
      intro z94 μ95 T98 F99 h97 h101
      refine mr_iload_n (pc := 9) (z := z94) dX10_fillRing_9 rfl rfl ?_
      refine mr_iload_n (pc := 10) (z := p2) dX10_fillRing_10 rfl rfl ?_
      refine mr_icmp_ge (pc := 11) (tgt := 41) dX10_fillRing_11 (by decide) (r32 h97 rfl) (r32 hp2 rfl) (fun h116 => ?_) (fun h116 => ?_)
      · exact mr_vret dX10_fillRing_41 rfl (le_t rfl) (le_t rfl) T98 (mF.call (mF.up mF.refl (A_12 hw) u2 rfl) F99 rfl) trivial
      have h117 : 1 ≤ z94 ∧ z94 ≤ 9 := (vc_X10_fillRing_2 h116 hp2 h97)
      have h118 : 2 ≤ p2 ∧ p2 ≤ 10 := (vc_X10_fillRing_3 h116 hp2 h117)
      refine sv_aload_n (pc := 14) dX10_fillRing_14 rfl rfl ?_
      refine gf_X10_5 (pc := 15) dX10_fillRing_15 wF_X10_33 (A_6 hw) T98 ?_
      refine mr_iload_n (pc := 18) (z := z94) dX10_fillRing_18 rfl rfl ?_
      refine sv_aload_n (pc := 19) dX10_fillRing_19 rfl rfl ?_
      refine sv_aload_n (pc := 20) dX10_fillRing_20 rfl rfl ?_
      refine gf_X10_5 (pc := 21) dX10_fillRing_21 wF_X10_33 (A_6 hw) T98 ?_
      refine mr_iload_n (pc := 24) (z := z94) dX10_fillRing_24 rfl rfl ?_
      refine mr_iconst (pc := 25) (z := 1) dX10_fillRing_25 ?_
      refine mr_isub (pc := 26) (x := z94) (y := 1) dX10_fillRing_26 ?_
      refine la_12 (pc := 27) dX10_fillRing_27 (A_12 hw) T98 (rIx (n := 10) (rSub (e := 0) (f := 8) h117 (rR (x := 1)) rfl) rfl) fun z119 q120 h121 => ?_
      refine mr_iload_n (pc := 28) (z := p2) dX10_fillRing_28 rfl rfl ?_
      refine mr_iload_n (pc := 29) (z := z94) dX10_fillRing_29 rfl rfl ?_
      refine mr_isub (pc := 30) (x := p2) (y := z94) dX10_fillRing_30 ?_
      refine mr_cVP (pc := 31) (c_X10_leastCustomer hw T98 (rW (c := (-2147483648)) (d := 2147483647) h121 rfl) (rW (c := (-2147483648)) (d := 2147483647) (rSub (e := (-7)) (f := 9) h118 h117 rfl) rfl)) (gOk _ _ _ _ _) dX10_fillRing_31 (tX10_leastCustomer _ _ _ _ _) ⟨wV_X10_leastCustomer, wL_X10_leastCustomer⟩ wM_X10_106 (gCX10 _ _ _ _ _) rfl (A_6 hw) rfl ⟨le_t rfl, le_t rfl⟩ ⟨le_t rfl, le_t rfl⟩ rfl (le_t rfl) fun z126 h125 => ?_
      refine ss_12 (pc := 34) dX10_fillRing_34 (A_12 hw) T98 (rIx (n := 10) h117 rfl) h125.1 fun μ127 u128 T129 => ?_
      refine mr_iinc (pc := 35) (lv' := [(3, iv (z94 + 1)), (0, .ref 6), (2, iv p2)]) dX10_fillRing_35 rfl (by decide) rfl ?_
      refine sv_goto (pc := 38) (tgt := 9) dX10_fillRing_38 (by decide) ?_
      refine mr_lvS (lv' := [(0, .ref 6), (2, iv p2), (3, iv (z94 + 1))]) (List.forall_mem_cons.mpr ⟨rfl, List.forall_mem_cons.mpr ⟨rfl, List.forall_mem_cons.mpr ⟨rfl, fun _ h => absurd h List.not_mem_nil⟩⟩⟩) ?_
      exact ih102 (z94 + 1) μ127 T129 (mF.up (mF.call mF.refl F99 rfl) (A_12 hw) u128 rfl) (rW (c := 1) (d := 10) (rAdd (e := 2) (f := 10) h117 (rR (x := 1)) rfl) rfl) (vc_X10_fillRing_4 (nS h101) h116 h118 h117)
  refine mr_lvS (lv' := [(0, .ref 6), (2, iv p2), (3, iv 1)]) (List.forall_mem_cons.mpr ⟨rfl, List.forall_mem_cons.mpr ⟨rfl, List.forall_mem_cons.mpr ⟨rfl, fun _ h => absurd h List.not_mem_nil⟩⟩⟩) ?_
  exact L96 11 1 μ1 T3 mF.refl (rW (c := 1) (d := 10) (rR (x := 1)) rfl) vc_X10_fillRing_5
theorem vc_X10_findRing_4 {z128 : Int} (h0 : z128 ≤ 0) (h1 : 0 ≤ z128 ∧ z128 ≤ 10) : 0 ≤ z128 ∧ z128 ≤ 0 := by omega
theorem vc_X10_findRing_6 {z128 : Int} (h0 : 0 < z128) (h1 : 0 ≤ z128 ∧ z128 ≤ 10) : 1 ≤ z128 ∧ z128 ≤ 10 := by omega
set_option maxRecDepth 4000 in
set_option maxHeartbeats 4000000 in
theorem c_X10_findRing {l : Launch} {D : va_G} {c : Nat → ClassId} {H0 : Heap} {sa : Nat × Nat × (Nat → Int32)} {w : mW} {μ : mM} (hw : mWF w) (hT : mT w μ) : sC (gG l D c H0 sa) mX10_findRing 4 0 0 [.ref 6] (mk w μ) (qI w [12999, 13999] μ (fun z μ1 => (0 ≤ z ∧ z ≤ 10) ∧ True)) := by
  refine sC.of rfl (by decide) (le_t rfl) ?_
  refine mr_lvE (lv' := [(0, .ref 6)]) rfl ?_
  refine mr_iconst (pc := 0) (z := 0) dX10_findRing_0 ?_
  refine mr_istore_n (pc := 1) (lv' := [(1, iv 0), (0, .ref 6)]) dX10_findRing_1 rfl (by decide) rfl ?_
  have L111 : ∀ (nL111 : Nat) (z109 : Int) (μ110 : mM), mT w μ110 → mF [13999] w μ μ110 → (0 ≤ z109 ∧ z109 ≤ 10) → (11 - z109) < (nL111 : Int) → sV (gG l D c H0 sa) mX10_findRing (sRm 4 0 0) (sZ (gG l D c H0 sa) 0 0 (qI w [12999, 13999] μ (fun z μ1 => (0 ≤ z ∧ z ≤ 10) ∧ True))) 2 [(0, .ref 6), (1, iv z109)] [] (mk w μ110) 0 0 := by
    intro nL111
    induction nL111 with
    | zero => intro z109 μ110 T113 F114 h112 h116; exact ((vc_X12_ring_2 h116 h112)).elim
    | succ nL111 ih117 =>
      intro z109 μ110 T113 F114 h112 h116
      refine mr_iload_n (pc := 2) (z := z109) dX10_findRing_2 rfl rfl ?_
      refine sv_aload_n (pc := 3) dX10_findRing_3 rfl rfl ?_
      refine gf_X10_15 (pc := 4) dX10_findRing_4 wF_X10_68 (A_6 hw) T113 fun z118 q119 h120 => ?_
      refine mr_icmp_ge (pc := 7) (tgt := 34) dX10_findRing_7 (by decide) (r32 h112 rfl) (r32 h120.2 rfl) (fun h121 => ?_) (fun h121 => ?_)
      · refine mr_iconst (pc := 34) (z := 0) dX10_findRing_34 ?_
        exact mr_iret dX10_findRing_35 rfl (le_t rfl) (le_t rfl) T113 (mF.call mF.refl F114 rfl) ⟨(rW (c := 0) (d := 10) (rR (x := 0)) rfl), trivial⟩
      have h122 : 0 ≤ z109 ∧ z109 ≤ 9 := (vc_X10_coneOf_2 h121 h120.1 h112 h120.2)
      have h123 : 1 ≤ z118 ∧ z118 ≤ 10 := (vc_X10_coneOf_3 h121 h120.1 h122 h120.2)
      refine sv_aload_n (pc := 10) dX10_findRing_10 rfl rfl ?_
      refine mr_iload_n (pc := 11) (z := z109) dX10_findRing_11 rfl rfl ?_
      refine mr_cVI (pc := 12) (c_X10_shortestRing hw T113 h122) (gOk _ _ _ _ _) dX10_findRing_12 (tX10_shortestRing _ _ _ _ _) ⟨wV_X10_shortestRing, wL_X10_shortestRing⟩ wM_X10_87 (gCX10 _ _ _ _ _) rfl (A_6 hw) rfl ⟨le_t rfl, le_t rfl⟩ ⟨le_t rfl, le_t rfl⟩ rfl (le_t rfl) fun z128 μ124 T125 F126 h127 => ?_
      refine mr_istore_n (pc := 15) (lv' := [(2, iv z128), (0, .ref 6), (1, iv z109)]) dX10_findRing_15 rfl (by decide) rfl ?_
      refine mr_iload_n (pc := 16) (z := z128) dX10_findRing_16 rfl rfl ?_
      refine mr_if_le (pc := 17) (tgt := 28) dX10_findRing_17 (by decide) (r32 h127.1 rfl) (fun h129 => ?_) (fun h129 => ?_)
      · have h130 : 0 ≤ z128 ∧ z128 ≤ 0 := (vc_X10_findRing_4 h129 h127.1)
        refine mr_iinc (pc := 28) (lv' := [(1, iv (z109 + 1)), (2, iv z128), (0, .ref 6)]) dX10_findRing_28 rfl (by decide) rfl ?_
        refine sv_goto (pc := 31) (tgt := 2) dX10_findRing_31 (by decide) ?_
        refine mr_lvS (lv' := [(0, .ref 6), (1, iv (z109 + 1))]) (List.forall_mem_cons.mpr ⟨rfl, List.forall_mem_cons.mpr ⟨rfl, fun _ h => absurd h List.not_mem_nil⟩⟩) ?_
        exact ih117 (z109 + 1) μ124 T125 (mF.call (mF.call mF.refl F114 rfl) F126 rfl) (rW (c := 0) (d := 10) (rAdd (e := 1) (f := 10) h122 (rR (x := 1)) rfl) rfl) (vc_X10_coneOf_5 (nS h116) h121 h120.1 h122 h123)
      have h131 : 1 ≤ z128 ∧ z128 ≤ 10 := (vc_X10_findRing_6 h129 h127.1)
      refine sv_aload_n (pc := 20) dX10_findRing_20 rfl rfl ?_
      refine mr_iload_n (pc := 21) (z := z109) dX10_findRing_21 rfl rfl ?_
      refine mr_iload_n (pc := 22) (z := z128) dX10_findRing_22 rfl rfl ?_
      refine mr_cVV (pc := 23) (c_X10_fillRing hw T125 h122 (rW (c := 0) (d := 10) h131 rfl)) (gOk _ _ _ _ _) dX10_findRing_23 (tX10_fillRing _ _ _ _ _) ⟨wV_X10_fillRing, wL_X10_fillRing⟩ wM_X10_90 (gCX10 _ _ _ _ _) rfl (A_6 hw) rfl ⟨le_t rfl, le_t rfl⟩ ⟨le_t rfl, le_t rfl⟩ rfl (le_t rfl) fun μ132 T133 F134 h135 => ?_
      refine mr_iload_n (pc := 26) (z := z128) dX10_findRing_26 rfl rfl ?_
      exact mr_iret dX10_findRing_27 rfl (le_t rfl) (le_t rfl) T133 (mF.call (mF.call (mF.call mF.refl F114 rfl) F126 rfl) F134 rfl) ⟨(rW (c := 0) (d := 10) h131 rfl), trivial⟩
  refine mr_lvS (lv' := [(0, .ref 6), (1, iv 0)]) (List.forall_mem_cons.mpr ⟨rfl, List.forall_mem_cons.mpr ⟨rfl, fun _ h => absurd h List.not_mem_nil⟩⟩) ?_
  exact L111 12 0 μ hT mF.refl (rW (c := 0) (d := 10) (rR (x := 0)) rfl) vc_X12_ring_27
end
section
theorem vc_X10_firstWrongStep_2 {p2 z366 : Int} (h0 : (z366 + 1) < p2) (h1 : 0 ≤ p2 ∧ p2 ≤ 20) (h2 : 0 ≤ z366 ∧ z366 ≤ 19) : 0 ≤ z366 ∧ z366 ≤ 18 := by omega
theorem vc_X10_firstWrongStep_3 {p2 z366 : Int} (h0 : (z366 + 1) < p2) (h1 : 0 ≤ p2 ∧ p2 ≤ 20) (h2 : 0 ≤ z366 ∧ z366 ≤ 18) : 2 ≤ p2 ∧ p2 ≤ 20 := by omega
theorem vc_X10_firstWrongStep_4 {n1 z389 : Int} (h0 : 0 ≤ z389) (h1 : z389 < n1) (h2 : (-1) ≤ z389 ∧ z389 ≤ 19) : 0 ≤ z389 ∧ z389 ≤ 19 := by omega
theorem vc_X10_firstWrongStep_5 {n1 z389 : Int} (h0 : z389 < n1) (h1 : 0 ≤ z389) (h2 : 0 ≤ z389 ∧ z389 ≤ 19) : z389 < n1 := by omega
theorem vc_X10_firstWrongStep_7 {z367 : Int} (h0 : ¬ z367 = 0) (h1 : 0 ≤ z367 ∧ z367 ≤ 0) : False := by omega
theorem vc_X10_firstWrongStep_8 {z404 : Int} (h0 : z404 = 2) (h1 : 0 ≤ z404 ∧ z404 ≤ 3) : 2 ≤ z404 ∧ z404 ≤ 2 := by omega
theorem vc_X10_firstWrongStep_9 {N p2 z366 : Int} (h0 : (20 - z366) < N + 1) (h1 : (z366 + 1) < p2) (h2 : 2 ≤ p2 ∧ p2 ≤ 20) (h3 : 0 ≤ z366 ∧ z366 ≤ 18) : (20 - (z366 + 1)) < N := by omega
theorem vc_X10_firstWrongStep_10 {z404 : Int} (h0 : ¬ z404 = 0) (h1 : ¬ z404 = 2) (h2 : 0 ≤ z404 ∧ z404 ≤ 3) : 1 ≤ z404 ∧ z404 ≤ 3 := by omega
theorem vc_X10_firstWrongStep_11 {z404 : Int} (h0 : z404 = 0) (h1 : ¬ z404 = 2) (h2 : 0 ≤ z404 ∧ z404 ≤ 3) : 0 ≤ z404 ∧ z404 ≤ 0 := by omega
theorem vc_X10_firstWrongStep_17 {z404 : Int} (h0 : z404 = 2) (h1 : ¬ z404 = 1) (h2 : 0 ≤ z404 ∧ z404 ≤ 3) : 2 ≤ z404 ∧ z404 ≤ 2 := by omega
theorem vc_X10_firstWrongStep_18 {n1 z389 : Int} (h0 : z389 < 0) (h1 : z389 < n1) (h2 : (-1) ≤ z389 ∧ z389 ≤ 19) : (-1) ≤ z389 ∧ z389 ≤ (-1) := by omega
set_option maxRecDepth 4000 in
set_option maxHeartbeats 4000000 in
theorem c_X10_firstWrongStep {l : Launch} {D : va_G} {c : Nat → ClassId} {H0 : Heap} {sa : Nat × Nat × (Nat → Int32)} {w : mW} {μ : mM} (hw : mWF w) (hT : mT w μ) (hA1 : mAt w 2 2) {p2 : Int} (hp2 : 0 ≤ p2 ∧ p2 ≤ 20) : sC (gG l D c H0 sa) mX10_firstWrongStep 2 0 0 [.ref 6, .ref 2, iv p2] (mk w μ) (qP w μ (fun z => ((-1) ≤ z ∧ z ≤ 19) ∧ True)) := by
  refine sC.of rfl (by decide) (le_t rfl) ?_
  refine mr_lvE (lv' := [(0, .ref 6), (1, .ref 2), (2, iv p2)]) rfl ?_
  refine mr_iconst (pc := 0) (z := 0) dX10_firstWrongStep_0 ?_
  refine mr_istore_n (pc := 1) (lv' := [(3, iv 0), (0, .ref 6), (1, .ref 2), (2, iv p2)]) dX10_firstWrongStep_1 rfl (by decide) rfl ?_
  refine mr_iconst (pc := 2) (z := 0) dX10_firstWrongStep_2 ?_
  refine mr_istore (pc := 3) (lv' := [(4, iv 0), (3, iv 0), (0, .ref 6), (1, .ref 2), (2, iv p2)]) dX10_firstWrongStep_3 (by decide) rfl ?_
  have L368 : ∀ (nL368 : Nat) (z367 z366 : Int), True → (0 ≤ z367 ∧ z367 ≤ 1) → (0 ≤ z366 ∧ z366 ≤ 19) → (20 - z366) < (nL368 : Int) → sV (gG l D c H0 sa) mX10_firstWrongStep (sRm 2 0 0) (sZ (gG l D c H0 sa) 0 0 (qP w μ (fun z => ((-1) ≤ z ∧ z ≤ 19) ∧ True))) 5 [(0, .ref 6), (1, .ref 2), (2, iv p2), (3, iv z367), (4, iv z366)] [] (mk w μ) 0 0 := by
    intro nL368
    induction nL368 with
    | zero => intro z367 z366 _ h369 h370 h374; exact ((vc_X12_letWay_1 h374 h370)).elim
    | succ nL368 ih375 =>
      intro z367 z366 _ h369 h370 h374
      refine mr_iload (pc := 5) (z := z366) dX10_firstWrongStep_5 rfl ?_
      refine mr_iconst (pc := 7) (z := 1) dX10_firstWrongStep_7 ?_
      refine mr_iadd (pc := 8) (x := z366) (y := 1) dX10_firstWrongStep_8 ?_
      refine mr_iload_n (pc := 9) (z := p2) dX10_firstWrongStep_9 rfl rfl ?_
      refine mr_icmp_ge (pc := 10) (tgt := 121) dX10_firstWrongStep_10 (by decide) (r32 (rAdd (e := 1) (f := 20) h370 (rR (x := 1)) rfl) rfl) (r32 hp2 rfl) (fun h376 => ?_) (fun h376 => ?_)
      · refine mr_iconst (pc := 121) (z := (-1)) dX10_firstWrongStep_121 ?_
        exact mr_iretP dX10_firstWrongStep_122 rfl (le_t rfl) (le_t rfl) ⟨(rW (c := (-1)) (d := 19) (rR (x := (-1))) rfl), trivial⟩
      have h377 : 0 ≤ z366 ∧ z366 ≤ 18 := (vc_X10_firstWrongStep_2 h376 hp2 h370)
      have h378 : 2 ≤ p2 ∧ p2 ≤ 20 := (vc_X10_firstWrongStep_3 h376 hp2 h377)
      refine sv_aload_n (pc := 13) dX10_firstWrongStep_13 rfl rfl ?_
      refine sv_aload_n (pc := 14) dX10_firstWrongStep_14 rfl rfl ?_
      refine mr_iload (pc := 15) (z := z366) dX10_firstWrongStep_15 rfl ?_
      refine la_2 (pc := 17) dX10_firstWrongStep_17 (A_2 hw) hT (rIx (n := 20) h377 rfl) fun z379 q380 h381 => ?_
      refine sv_aload_n (pc := 18) dX10_firstWrongStep_18 rfl rfl ?_
      refine mr_iload (pc := 19) (z := z366) dX10_firstWrongStep_19 rfl ?_
      refine mr_iconst (pc := 21) (z := 1) dX10_firstWrongStep_21 ?_
      refine mr_iadd (pc := 22) (x := z366) (y := 1) dX10_firstWrongStep_22 ?_
      refine la_2 (pc := 23) dX10_firstWrongStep_23 (A_2 hw) hT (rIx (n := 20) (rAdd (e := 1) (f := 19) h377 (rR (x := 1)) rfl) rfl) fun z382 q383 h384 => ?_
      refine mr_cVP (pc := 24) (c_X10_tieBetween hw hT (rW (c := (-2147483648)) (d := 2147483647) h381 rfl) (rW (c := (-2147483648)) (d := 2147483647) h384 rfl)) (gOk _ _ _ _ _) dX10_firstWrongStep_24 (tX10_tieBetween _ _ _ _ _) ⟨wV_X10_tieBetween, wL_X10_tieBetween⟩ wM_X10_109 (gCX10 _ _ _ _ _) rfl (A_6 hw) rfl ⟨le_t rfl, le_t rfl⟩ ⟨le_t rfl, le_t rfl⟩ rfl (le_t rfl) fun z389 h388 => ?_
      refine mr_istore (pc := 27) (lv' := [(5, iv z389), (0, .ref 6), (1, .ref 2), (2, iv p2), (3, iv z367), (4, iv z366)]) dX10_firstWrongStep_27 (by decide) rfl ?_
      refine mr_iload (pc := 29) (z := z389) dX10_firstWrongStep_29 rfl ?_
      refine mr_if_ge (pc := 31) (tgt := 37) dX10_firstWrongStep_31 (by decide) (r32 h388.1 rfl) (fun h390 => ?_) (fun h390 => ?_)
      · have h391 : 0 ≤ z389 ∧ z389 ≤ 19 := (vc_X10_firstWrongStep_4 h390 h388.2.1 h388.1)
        refine sv_aload_n (pc := 37) dX10_firstWrongStep_37 rfl rfl ?_
        refine gf_X10_4 (pc := 38) dX10_firstWrongStep_38 wF_X10_29 (A_6 hw) hT ?_
        refine mr_iload (pc := 41) (z := z389) dX10_firstWrongStep_41 rfl ?_
        refine la_11 (pc := 43) dX10_firstWrongStep_43 (A_11 hw) hT (rIx (n := 20) h391 rfl) (vc_X10_firstWrongStep_5 h388.2.1 h390 h391) fun b392 q393 A394 => ?_
        refine sv_aload_n (pc := 44) dX10_firstWrongStep_44 rfl rfl ?_
        refine gf_X10_4 (pc := 45) dX10_firstWrongStep_45 wF_X10_29 (A_6 hw) hT ?_
        refine mr_iload (pc := 48) (z := z389) dX10_firstWrongStep_48 rfl ?_
        refine lk_11 (pc := 50) dX10_firstWrongStep_50 (A_11 hw) (rIx (n := 20) h391 rfl) q393 ?_
        refine sv_aload_n (pc := 51) dX10_firstWrongStep_51 rfl rfl ?_
        refine mr_iload (pc := 52) (z := z366) dX10_firstWrongStep_52 rfl ?_
        refine lk_2 (pc := 54) dX10_firstWrongStep_54 (A_2 hw) (rIx (n := 20) h377 rfl) q380 ?_
        refine mr_cVP (pc := 55) (c_X9_sideOf hw hT A394 (rW (c := (-2147483648)) (d := 2147483647) h381 rfl)) (gOk _ _ _ _ _) dX10_firstWrongStep_55 (tX9_sideOf _ _ _ _ _) ⟨wV_X9_sideOf, wL_X9_sideOf⟩ wM_X10_112 (gCX9 _ _ _ _ _) rfl A394 rfl ⟨le_t rfl, le_t rfl⟩ ⟨le_t rfl, le_t rfl⟩ rfl (le_t rfl) fun z399 h398 => ?_
        refine mr_cVP (pc := 58) (c_X9_partnerRole hw hT A394 (rW (c := (-2147483648)) (d := 2147483647) h398.1 rfl)) (gOk _ _ _ _ _) dX10_firstWrongStep_58 (tX9_partnerRole _ _ _ _ _) ⟨wV_X9_partnerRole, wL_X9_partnerRole⟩ wM_X10_115 (gCX9 _ _ _ _ _) rfl A394 rfl ⟨le_t rfl, le_t rfl⟩ ⟨le_t rfl, le_t rfl⟩ rfl (le_t rfl) fun z404 h403 => ?_
        refine mr_istore (pc := 61) (lv' := [(6, iv z404), (5, iv z389), (0, .ref 6), (1, .ref 2), (2, iv p2), (3, iv z367), (4, iv z366)]) dX10_firstWrongStep_61 (by decide) rfl ?_
        refine mr_iload (pc := 63) (z := z404) dX10_firstWrongStep_63 rfl ?_
        refine mr_iconst (pc := 65) (z := 1) dX10_firstWrongStep_65 ?_
        have J409 : ∀ (z407 : Int), ((0 ≤ z407 ∧ z407 ≤ 1)) → sV (gG l D c H0 sa) mX10_firstWrongStep (sRm 2 0 0) (sZ (gG l D c H0 sa) 0 0 (qP w μ (fun z => ((-1) ≤ z ∧ z ≤ 19) ∧ True))) 80 [(0, .ref 6), (1, .ref 2), (2, iv p2), (3, iv z367), (4, iv z366), (6, iv z404)] [iv z407] (mk w μ) 0 0 := by
          intro z407 h408
          refine mr_istore (pc := 80) (lv' := [(7, iv z407), (0, .ref 6), (1, .ref 2), (2, iv p2), (3, iv z367), (4, iv z366), (6, iv z404)]) dX10_firstWrongStep_80 (by decide) rfl ?_
          refine mr_iload_n (pc := 82) (z := z367) dX10_firstWrongStep_82 rfl rfl ?_
          refine mr_if_eq (pc := 83) (tgt := 94) dX10_firstWrongStep_83 (by decide) (r32 h369 rfl) (fun h410 => ?_) (fun h410 => ?_)
          · have h411 : 0 ≤ z367 ∧ z367 ≤ 0 := (vc_X12_ring_22 h410 h369)
            refine mr_iload_n (pc := 94) (z := z367) dX10_firstWrongStep_94 rfl rfl ?_
            refine mr_if_ne (pc := 95) (tgt := 109) dX10_firstWrongStep_95 (by decide) (r32 h411 rfl) (fun h => ((vc_X10_firstWrongStep_7 h h411)).elim) (fun _ => ?_)
            refine mr_iload (pc := 98) (z := z404) dX10_firstWrongStep_98 rfl ?_
            refine mr_iconst (pc := 100) (z := 2) dX10_firstWrongStep_100 ?_
            refine mr_icmp_eq (pc := 101) (tgt := 109) dX10_firstWrongStep_101 (by decide) (r32 h403.1 rfl) (r32 (rR (x := 2)) rfl) (fun h415 => ?_) (fun h415 => ?_)
            · have h416 : 2 ≤ z404 ∧ z404 ≤ 2 := (vc_X10_firstWrongStep_8 h415 h403.1)
              refine mr_iconst (pc := 109) (z := 1) dX10_firstWrongStep_109 ?_
              refine sv_goto (pc := 110) (tgt := 114) dX10_firstWrongStep_110 (by decide) ?_
              refine mr_istore_n (pc := 114) (lv' := [(3, iv 1), (7, iv z407), (0, .ref 6), (1, .ref 2), (2, iv p2), (4, iv z366), (6, iv z404)]) dX10_firstWrongStep_114 rfl (by decide) rfl ?_
              refine mr_iinc (pc := 115) (lv' := [(4, iv (z366 + 1)), (3, iv 1), (7, iv z407), (0, .ref 6), (1, .ref 2), (2, iv p2), (6, iv z404)]) dX10_firstWrongStep_115 rfl (by decide) rfl ?_
              refine sv_goto (pc := 118) (tgt := 5) dX10_firstWrongStep_118 (by decide) ?_
              refine mr_lvS (lv' := [(0, .ref 6), (1, .ref 2), (2, iv p2), (3, iv 1), (4, iv (z366 + 1))]) (List.forall_mem_cons.mpr ⟨rfl, List.forall_mem_cons.mpr ⟨rfl, List.forall_mem_cons.mpr ⟨rfl, List.forall_mem_cons.mpr ⟨rfl, List.forall_mem_cons.mpr ⟨rfl, fun _ h => absurd h List.not_mem_nil⟩⟩⟩⟩⟩) ?_
              exact ih375 1 (z366 + 1) trivial (rW (c := 0) (d := 1) (rR (x := 1)) rfl) (rW (c := 0) (d := 19) (rAdd (e := 1) (f := 19) h377 (rR (x := 1)) rfl) rfl) (vc_X10_firstWrongStep_9 (nS h374) h376 h378 h377)
            refine mr_iload (pc := 104) (z := z404) dX10_firstWrongStep_104 rfl ?_
            refine mr_if_ne (pc := 106) (tgt := 113) dX10_firstWrongStep_106 (by decide) (r32 h403.1 rfl) (fun h419 => ?_) (fun h419 => ?_)
            · have h420 : 1 ≤ z404 ∧ z404 ≤ 3 := (vc_X10_firstWrongStep_10 h419 h415 h403.1)
              refine mr_iconst (pc := 113) (z := 0) dX10_firstWrongStep_113 ?_
              refine mr_istore_n (pc := 114) (lv' := [(3, iv 0), (7, iv z407), (0, .ref 6), (1, .ref 2), (2, iv p2), (4, iv z366), (6, iv z404)]) dX10_firstWrongStep_114 rfl (by decide) rfl ?_
              refine mr_iinc (pc := 115) (lv' := [(4, iv (z366 + 1)), (3, iv 0), (7, iv z407), (0, .ref 6), (1, .ref 2), (2, iv p2), (6, iv z404)]) dX10_firstWrongStep_115 rfl (by decide) rfl ?_
              refine sv_goto (pc := 118) (tgt := 5) dX10_firstWrongStep_118 (by decide) ?_
              refine mr_lvS (lv' := [(0, .ref 6), (1, .ref 2), (2, iv p2), (3, iv 0), (4, iv (z366 + 1))]) (List.forall_mem_cons.mpr ⟨rfl, List.forall_mem_cons.mpr ⟨rfl, List.forall_mem_cons.mpr ⟨rfl, List.forall_mem_cons.mpr ⟨rfl, List.forall_mem_cons.mpr ⟨rfl, fun _ h => absurd h List.not_mem_nil⟩⟩⟩⟩⟩) ?_
              exact ih375 0 (z366 + 1) trivial (rW (c := 0) (d := 1) (rR (x := 0)) rfl) (rW (c := 0) (d := 19) (rAdd (e := 1) (f := 19) h377 (rR (x := 1)) rfl) rfl) (vc_X10_firstWrongStep_9 (nS h374) h376 h378 h377)
            have h421 : 0 ≤ z404 ∧ z404 ≤ 0 := (vc_X10_firstWrongStep_11 h419 h415 h403.1)
            refine mr_iconst (pc := 109) (z := 1) dX10_firstWrongStep_109 ?_
            refine sv_goto (pc := 110) (tgt := 114) dX10_firstWrongStep_110 (by decide) ?_
            refine mr_istore_n (pc := 114) (lv' := [(3, iv 1), (7, iv z407), (0, .ref 6), (1, .ref 2), (2, iv p2), (4, iv z366), (6, iv z404)]) dX10_firstWrongStep_114 rfl (by decide) rfl ?_
            refine mr_iinc (pc := 115) (lv' := [(4, iv (z366 + 1)), (3, iv 1), (7, iv z407), (0, .ref 6), (1, .ref 2), (2, iv p2), (6, iv z404)]) dX10_firstWrongStep_115 rfl (by decide) rfl ?_
            refine sv_goto (pc := 118) (tgt := 5) dX10_firstWrongStep_118 (by decide) ?_
            refine mr_lvS (lv' := [(0, .ref 6), (1, .ref 2), (2, iv p2), (3, iv 1), (4, iv (z366 + 1))]) (List.forall_mem_cons.mpr ⟨rfl, List.forall_mem_cons.mpr ⟨rfl, List.forall_mem_cons.mpr ⟨rfl, List.forall_mem_cons.mpr ⟨rfl, List.forall_mem_cons.mpr ⟨rfl, fun _ h => absurd h List.not_mem_nil⟩⟩⟩⟩⟩) ?_
            exact ih375 1 (z366 + 1) trivial (rW (c := 0) (d := 1) (rR (x := 1)) rfl) (rW (c := 0) (d := 19) (rAdd (e := 1) (f := 19) h377 (rR (x := 1)) rfl) rfl) (vc_X10_firstWrongStep_9 (nS h374) h376 h378 h377)
          have h422 : 1 ≤ z367 ∧ z367 ≤ 1 := (vc_X12_ring_24 h410 h369)
          refine mr_iload (pc := 86) (z := z407) dX10_firstWrongStep_86 rfl ?_
          refine mr_if_eq (pc := 88) (tgt := 94) dX10_firstWrongStep_88 (by decide) (r32 h408 rfl) (fun h423 => ?_) (fun h423 => ?_)
          · have h424 : 0 ≤ z407 ∧ z407 ≤ 0 := (vc_X12_ring_22 h423 h408)
            refine mr_iload_n (pc := 94) (z := z367) dX10_firstWrongStep_94 rfl rfl ?_
            refine mr_if_ne (pc := 95) (tgt := 109) dX10_firstWrongStep_95 (by decide) (r32 h422 rfl) (fun _ => ?_) (fun h => ((vc_X12_letWay_13 h h422)).elim)
            refine mr_iconst (pc := 109) (z := 1) dX10_firstWrongStep_109 ?_
            refine sv_goto (pc := 110) (tgt := 114) dX10_firstWrongStep_110 (by decide) ?_
            refine mr_istore_n (pc := 114) (lv' := [(3, iv 1), (7, iv z407), (0, .ref 6), (1, .ref 2), (2, iv p2), (4, iv z366), (6, iv z404)]) dX10_firstWrongStep_114 rfl (by decide) rfl ?_
            refine mr_iinc (pc := 115) (lv' := [(4, iv (z366 + 1)), (3, iv 1), (7, iv z407), (0, .ref 6), (1, .ref 2), (2, iv p2), (6, iv z404)]) dX10_firstWrongStep_115 rfl (by decide) rfl ?_
            refine sv_goto (pc := 118) (tgt := 5) dX10_firstWrongStep_118 (by decide) ?_
            refine mr_lvS (lv' := [(0, .ref 6), (1, .ref 2), (2, iv p2), (3, iv 1), (4, iv (z366 + 1))]) (List.forall_mem_cons.mpr ⟨rfl, List.forall_mem_cons.mpr ⟨rfl, List.forall_mem_cons.mpr ⟨rfl, List.forall_mem_cons.mpr ⟨rfl, List.forall_mem_cons.mpr ⟨rfl, fun _ h => absurd h List.not_mem_nil⟩⟩⟩⟩⟩) ?_
            exact ih375 1 (z366 + 1) trivial (rW (c := 0) (d := 1) (rR (x := 1)) rfl) (rW (c := 0) (d := 19) (rAdd (e := 1) (f := 19) h377 (rR (x := 1)) rfl) rfl) (vc_X10_firstWrongStep_9 (nS h374) h376 h378 h377)
          have h425 : 1 ≤ z407 ∧ z407 ≤ 1 := (vc_X12_ring_24 h423 h408)
          refine mr_iload (pc := 91) (z := z366) dX10_firstWrongStep_91 rfl ?_
          exact mr_iretP dX10_firstWrongStep_93 rfl (le_t rfl) (le_t rfl) ⟨(rW (c := (-1)) (d := 19) h377 rfl), trivial⟩
        refine mr_icmp_eq (pc := 66) (tgt := 75) dX10_firstWrongStep_66 (by decide) (r32 h403.1 rfl) (r32 (rR (x := 1)) rfl) (fun h426 => ?_) (fun h426 => ?_)
        · have h427 : 1 ≤ z404 ∧ z404 ≤ 1 := (vc_X12_isWord_7 h426 h403.1)
          refine mr_iconst (pc := 75) (z := 1) dX10_firstWrongStep_75 ?_
          refine sv_goto (pc := 76) (tgt := 80) dX10_firstWrongStep_76 (by decide) ?_
          refine mr_lvS (lv' := [(0, .ref 6), (1, .ref 2), (2, iv p2), (3, iv z367), (4, iv z366), (6, iv z404)]) (List.forall_mem_cons.mpr ⟨rfl, List.forall_mem_cons.mpr ⟨rfl, List.forall_mem_cons.mpr ⟨rfl, List.forall_mem_cons.mpr ⟨rfl, List.forall_mem_cons.mpr ⟨rfl, List.forall_mem_cons.mpr ⟨rfl, fun _ h => absurd h List.not_mem_nil⟩⟩⟩⟩⟩⟩) ?_
          exact J409 1 (rW (c := 0) (d := 1) (rR (x := 1)) rfl)
        refine mr_iload (pc := 69) (z := z404) dX10_firstWrongStep_69 rfl ?_
        refine mr_iconst (pc := 71) (z := 2) dX10_firstWrongStep_71 ?_
        refine mr_icmp_ne (pc := 72) (tgt := 79) dX10_firstWrongStep_72 (by decide) (r32 h403.1 rfl) (r32 (rR (x := 2)) rfl) (fun h428 => ?_) (fun h428 => ?_)
        · refine mr_iconst (pc := 79) (z := 0) dX10_firstWrongStep_79 ?_
          refine mr_lvS (lv' := [(0, .ref 6), (1, .ref 2), (2, iv p2), (3, iv z367), (4, iv z366), (6, iv z404)]) (List.forall_mem_cons.mpr ⟨rfl, List.forall_mem_cons.mpr ⟨rfl, List.forall_mem_cons.mpr ⟨rfl, List.forall_mem_cons.mpr ⟨rfl, List.forall_mem_cons.mpr ⟨rfl, List.forall_mem_cons.mpr ⟨rfl, fun _ h => absurd h List.not_mem_nil⟩⟩⟩⟩⟩⟩) ?_
          exact J409 0 (rW (c := 0) (d := 1) (rR (x := 0)) rfl)
        have h429 : 2 ≤ z404 ∧ z404 ≤ 2 := (vc_X10_firstWrongStep_17 h428 h426 h403.1)
        refine mr_iconst (pc := 75) (z := 1) dX10_firstWrongStep_75 ?_
        refine sv_goto (pc := 76) (tgt := 80) dX10_firstWrongStep_76 (by decide) ?_
        refine mr_lvS (lv' := [(0, .ref 6), (1, .ref 2), (2, iv p2), (3, iv z367), (4, iv z366), (6, iv z404)]) (List.forall_mem_cons.mpr ⟨rfl, List.forall_mem_cons.mpr ⟨rfl, List.forall_mem_cons.mpr ⟨rfl, List.forall_mem_cons.mpr ⟨rfl, List.forall_mem_cons.mpr ⟨rfl, List.forall_mem_cons.mpr ⟨rfl, fun _ h => absurd h List.not_mem_nil⟩⟩⟩⟩⟩⟩) ?_
        exact J409 1 (rW (c := 0) (d := 1) (rR (x := 1)) rfl)
      have h430 : (-1) ≤ z389 ∧ z389 ≤ (-1) := (vc_X10_firstWrongStep_18 h390 h388.2.1 h388.1)
      refine mr_iload (pc := 34) (z := z366) dX10_firstWrongStep_34 rfl ?_
      exact mr_iretP dX10_firstWrongStep_36 rfl (le_t rfl) (le_t rfl) ⟨(rW (c := (-1)) (d := 19) h377 rfl), trivial⟩
  refine mr_lvS (lv' := [(0, .ref 6), (1, .ref 2), (2, iv p2), (3, iv 0), (4, iv 0)]) (List.forall_mem_cons.mpr ⟨rfl, List.forall_mem_cons.mpr ⟨rfl, List.forall_mem_cons.mpr ⟨rfl, List.forall_mem_cons.mpr ⟨rfl, List.forall_mem_cons.mpr ⟨rfl, fun _ h => absurd h List.not_mem_nil⟩⟩⟩⟩⟩) ?_
  exact L368 21 0 0 trivial (rW (c := 0) (d := 1) (rR (x := 0)) rfl) (rW (c := 0) (d := 19) (rR (x := 0)) rfl) vc_X12_letWay_18
theorem vc_X10_verdictOn_10 {z831 z863 : Int} (h0 : z863 < z831) (h1 : 0 ≤ z831 ∧ z831 ≤ 32) (h2 : (-2147483648) ≤ z863 ∧ z863 ≤ 2147483647) : (-2147483648) ≤ z863 ∧ z863 ≤ 31 := by omega
theorem vc_X10_verdictOn_11 {z831 z863 : Int} (h0 : z831 ≤ z863) (h1 : 0 ≤ z831 ∧ z831 ≤ 32) (h2 : (-2147483648) ≤ z863 ∧ z863 ≤ 2147483647) : 0 ≤ z863 ∧ z863 ≤ 2147483647 := by omega
theorem vc_X10_verdictOn_17 {z889 : Int} (h0 : z889 = (-1)) (h1 : (-2147483648) ≤ z889 ∧ z889 ≤ 2147483647) : (-1) ≤ z889 ∧ z889 ≤ (-1) := by omega
theorem vc_X10_verdictOn_18 {p4 z811 z889 : Int} (h0 : p4 < z889) (h1 : z811 ≤ p4) (h2 : ¬ z889 = (-1)) (h3 : (-2147483648) ≤ p4 ∧ p4 ≤ 2147483647) (h4 : (-2147483648) ≤ z811 ∧ z811 ≤ 2147483647) (h5 : (-2147483648) ≤ z889 ∧ z889 ≤ 2147483647) : (-2147483648) ≤ p4 ∧ p4 ≤ 2147483646 := by omega
theorem vc_X10_verdictOn_19 {p4 z811 z889 : Int} (h0 : p4 < z889) (h1 : z811 ≤ p4) (h2 : ¬ z889 = (-1)) (h3 : (-2147483648) ≤ p4 ∧ p4 ≤ 2147483646) (h4 : (-2147483648) ≤ z811 ∧ z811 ≤ 2147483647) (h5 : (-2147483648) ≤ z889 ∧ z889 ≤ 2147483647) : (-2147483647) ≤ z889 ∧ z889 ≤ 2147483647 := by omega
set_option maxRecDepth 4000 in
set_option maxHeartbeats 4000000 in
theorem c_X10_verdictOn {l : Launch} {D : va_G} {c : Nat → ClassId} {H0 : Heap} {sa : Nat × Nat × (Nat → Int32)} {w : mW} {μ : mM} (hw : mWF w) (hT : mT w μ) {p1 : Int} (hp1 : 0 ≤ p1 ∧ p1 ≤ 9) {p2 : Int} (hp2 : (-2147483648) ≤ p2 ∧ p2 ≤ 2147483647) {p3 : Int} (hp3 : (-2147483648) ≤ p3 ∧ p3 ≤ 2147483647) {p4 : Int} (hp4 : (-2147483648) ≤ p4 ∧ p4 ≤ 2147483647) : sC (gG l D c H0 sa) mX10_verdictOn 1 0 0 [.ref 6, iv p1, iv p2, iv p3, iv p4] (mk w μ) (qP w μ (fun z => (0 ≤ z ∧ z ≤ 2) ∧ True)) := by
  refine sC.of rfl (by decide) (le_t rfl) ?_
  refine mr_lvE (lv' := [(0, .ref 6), (1, iv p1), (2, iv p2), (3, iv p3), (4, iv p4)]) rfl ?_
  refine mr_iconst (pc := 0) (z := 2) dX10_verdictOn_0 ?_
  refine mr_istore (pc := 1) (lv' := [(5, iv 2), (0, .ref 6), (1, iv p1), (2, iv p2), (3, iv p3), (4, iv p4)]) dX10_verdictOn_1 (by decide) rfl ?_
  refine mr_iconst (pc := 3) (z := 0) dX10_verdictOn_3 ?_
  refine mr_istore (pc := 4) (lv' := [(6, iv 0), (5, iv 2), (0, .ref 6), (1, iv p1), (2, iv p2), (3, iv p3), (4, iv p4)]) dX10_verdictOn_4 (by decide) rfl ?_
  have L784 : ∀ (nL784 : Nat) (z783 z782 : Int), True → (0 ≤ z783 ∧ z783 ≤ 2) → (0 ≤ z782 ∧ z782 ≤ 30) → (31 - z782) < (nL784 : Int) → sV (gG l D c H0 sa) mX10_verdictOn (sRm 1 0 0) (sZ (gG l D c H0 sa) 0 0 (qP w μ (fun z => (0 ≤ z ∧ z ≤ 2) ∧ True))) 6 [(0, .ref 6), (1, iv p1), (2, iv p2), (3, iv p3), (4, iv p4), (5, iv z783), (6, iv z782)] [] (mk w μ) 0 0 := by
    intro nL784
    induction nL784 with
    | zero => intro z783 z782 _ h785 h786 h790; exact ((vc_X12_judgedAnew_1 h790 h786)).elim
    | succ nL784 ih791 =>
      intro z783 z782 _ h785 h786 h790
      refine mr_iload (pc := 6) (z := z782) dX10_verdictOn_6 rfl ?_
      refine sv_aload_n (pc := 8) dX10_verdictOn_8 rfl rfl ?_
      refine gf_X10_17 (pc := 9) dX10_verdictOn_9 wF_X10_118 (A_6 hw) hT fun z792 q793 h794 => ?_
      refine mr_icmp_ge (pc := 12) (tgt := 198) dX10_verdictOn_12 (by decide) (r32 h786 rfl) (r32 h794 rfl) (fun h795 => ?_) (fun h795 => ?_)
      · refine mr_iload (pc := 198) (z := z783) dX10_verdictOn_198 rfl ?_
        exact mr_iretP dX10_verdictOn_200 rfl (le_t rfl) (le_t rfl) ⟨h785, trivial⟩
      have h796 : 0 ≤ z782 ∧ z782 ≤ 29 := (vc_X12_judgedAnew_2 h795 h786 h794)
      have h797 : 1 ≤ z792 ∧ z792 ≤ 30 := (vc_X12_judgedAnew_3 h795 h796 h794)
      refine sv_aload_n (pc := 15) dX10_verdictOn_15 rfl rfl ?_
      refine gf_X10_10 (pc := 16) dX10_verdictOn_16 wF_X10_48 (A_6 hw) hT ?_
      refine mr_iload (pc := 19) (z := z782) dX10_verdictOn_19 rfl ?_
      refine la_17 (pc := 21) dX10_verdictOn_21 (A_17 hw) hT (rIx (n := 30) h796 rfl) fun z798 q799 h800 => ?_
      refine mr_iload_n (pc := 22) (z := p3) dX10_verdictOn_22 rfl rfl ?_
      have J810 : ∀ (z808 : Int), ((0 ≤ z808 ∧ z808 ≤ 1)) → sV (gG l D c H0 sa) mX10_verdictOn (sRm 1 0 0) (sZ (gG l D c H0 sa) 0 0 (qP w μ (fun z => (0 ≤ z ∧ z ≤ 2) ∧ True))) 42 [(0, .ref 6), (1, iv p1), (2, iv p2), (3, iv p3), (4, iv p4), (5, iv z783), (6, iv z782)] [iv z808] (mk w μ) 0 0 := by
        intro z808 h809
        refine mr_istore (pc := 42) (lv' := [(7, iv z808), (0, .ref 6), (1, iv p1), (2, iv p2), (3, iv p3), (4, iv p4), (5, iv z783), (6, iv z782)]) dX10_verdictOn_42 (by decide) rfl ?_
        refine sv_aload_n (pc := 44) dX10_verdictOn_44 rfl rfl ?_
        refine gf_X10_12 (pc := 45) dX10_verdictOn_45 wF_X10_54 (A_6 hw) hT ?_
        refine mr_iload (pc := 48) (z := z782) dX10_verdictOn_48 rfl ?_
        refine la_19 (pc := 50) dX10_verdictOn_50 (A_19 hw) hT (rIx (n := 30) h796 rfl) fun z811 q812 h813 => ?_
        refine mr_iload (pc := 51) (z := p4) dX10_verdictOn_51 rfl ?_
        have J824 : ∀ (z822 : Int), ((0 ≤ z822 ∧ z822 ≤ 1)) → sV (gG l D c H0 sa) mX10_verdictOn (sRm 1 0 0) (sZ (gG l D c H0 sa) 0 0 (qP w μ (fun z => (0 ≤ z ∧ z ≤ 2) ∧ True))) 84 [(0, .ref 6), (1, iv p1), (2, iv p2), (3, iv p3), (4, iv p4), (5, iv z783), (6, iv z782), (7, iv z808)] [iv z822] (mk w μ) 0 0 := by
          intro z822 h823
          refine mr_istore (pc := 84) (lv' := [(8, iv z822), (0, .ref 6), (1, iv p1), (2, iv p2), (3, iv p3), (4, iv p4), (5, iv z783), (6, iv z782), (7, iv z808)]) dX10_verdictOn_84 (by decide) rfl ?_
          refine sv_aload_n (pc := 86) dX10_verdictOn_86 rfl rfl ?_
          refine gf_X10_7 (pc := 87) dX10_verdictOn_87 wF_X10_39 (A_6 hw) hT ?_
          refine mr_iload (pc := 90) (z := z782) dX10_verdictOn_90 rfl ?_
          refine la_14 (pc := 92) dX10_verdictOn_92 (A_14 hw) hT (rIx (n := 30) h796 rfl) fun z825 q826 h827 => ?_
          refine mr_istore (pc := 93) (lv' := [(9, iv z825), (8, iv z822), (0, .ref 6), (1, iv p1), (2, iv p2), (3, iv p3), (4, iv p4), (5, iv z783), (6, iv z782), (7, iv z808)]) dX10_verdictOn_93 (by decide) rfl ?_
          refine sv_aload_n (pc := 95) dX10_verdictOn_95 rfl rfl ?_
          refine gf_X10_1 (pc := 96) dX10_verdictOn_96 wF_X10_15 (A_6 hw) hT ?_
          refine mr_iload (pc := 99) (z := z825) dX10_verdictOn_99 rfl ?_
          refine la_8 (pc := 101) dX10_verdictOn_101 (A_8 hw) hT (rIx (n := 10) h827 rfl) fun z828 q829 h830 => ?_
          refine sv_aload_n (pc := 102) dX10_verdictOn_102 rfl rfl ?_
          refine gf_X10_1 (pc := 103) dX10_verdictOn_103 wF_X10_15 (A_6 hw) hT ?_
          refine mr_iload_n (pc := 106) (z := p1) dX10_verdictOn_106 rfl rfl ?_
          refine la_8 (pc := 107) dX10_verdictOn_107 (A_8 hw) hT (rIx (n := 10) hp1 rfl) fun z831 q832 h833 => ?_
          have J850 : ∀ (z848 : Int), ((0 ≤ z848 ∧ z848 ≤ 1)) → sV (gG l D c H0 sa) mX10_verdictOn (sRm 1 0 0) (sZ (gG l D c H0 sa) 0 0 (qP w μ (fun z => (0 ≤ z ∧ z ≤ 2) ∧ True))) 140 [(0, .ref 6), (1, iv p1), (2, iv p2), (3, iv p3), (4, iv p4), (5, iv z783), (6, iv z782), (7, iv z808), (8, iv z822)] [iv z848] (mk w μ) 0 0 := by
            intro z848 h849
            refine mr_istore (pc := 140) (lv' := [(10, iv z848), (0, .ref 6), (1, iv p1), (2, iv p2), (3, iv p3), (4, iv p4), (5, iv z783), (6, iv z782), (7, iv z808), (8, iv z822)]) dX10_verdictOn_140 (by decide) rfl ?_
            refine mr_iload (pc := 142) (z := z808) dX10_verdictOn_142 rfl ?_
            refine mr_if_eq (pc := 144) (tgt := 192) dX10_verdictOn_144 (by decide) (r32 h809 rfl) (fun h851 => ?_) (fun h851 => ?_)
            · have h852 : 0 ≤ z808 ∧ z808 ≤ 0 := (vc_X12_ring_22 h851 h809)
              refine mr_iinc (pc := 192) (lv' := [(6, iv (z782 + 1)), (10, iv z848), (0, .ref 6), (1, iv p1), (2, iv p2), (3, iv p3), (4, iv p4), (5, iv z783), (7, iv z808), (8, iv z822)]) dX10_verdictOn_192 rfl (by decide) rfl ?_
              refine sv_goto (pc := 195) (tgt := 6) dX10_verdictOn_195 (by decide) ?_
              refine mr_lvS (lv' := [(0, .ref 6), (1, iv p1), (2, iv p2), (3, iv p3), (4, iv p4), (5, iv z783), (6, iv (z782 + 1))]) (List.forall_mem_cons.mpr ⟨rfl, List.forall_mem_cons.mpr ⟨rfl, List.forall_mem_cons.mpr ⟨rfl, List.forall_mem_cons.mpr ⟨rfl, List.forall_mem_cons.mpr ⟨rfl, List.forall_mem_cons.mpr ⟨rfl, List.forall_mem_cons.mpr ⟨rfl, fun _ h => absurd h List.not_mem_nil⟩⟩⟩⟩⟩⟩⟩) ?_
              exact ih791 z783 (z782 + 1) trivial h785 (rW (c := 0) (d := 30) (rAdd (e := 1) (f := 30) h796 (rR (x := 1)) rfl) rfl) (vc_X12_judgedAnew_5 (nS h790) h795 h796 h797)
            have h853 : 1 ≤ z808 ∧ z808 ≤ 1 := (vc_X12_ring_24 h851 h809)
            refine mr_iload (pc := 147) (z := z822) dX10_verdictOn_147 rfl ?_
            refine mr_if_eq (pc := 149) (tgt := 192) dX10_verdictOn_149 (by decide) (r32 h823 rfl) (fun h854 => ?_) (fun h854 => ?_)
            · have h855 : 0 ≤ z822 ∧ z822 ≤ 0 := (vc_X12_ring_22 h854 h823)
              refine mr_iinc (pc := 192) (lv' := [(6, iv (z782 + 1)), (10, iv z848), (0, .ref 6), (1, iv p1), (2, iv p2), (3, iv p3), (4, iv p4), (5, iv z783), (7, iv z808), (8, iv z822)]) dX10_verdictOn_192 rfl (by decide) rfl ?_
              refine sv_goto (pc := 195) (tgt := 6) dX10_verdictOn_195 (by decide) ?_
              refine mr_lvS (lv' := [(0, .ref 6), (1, iv p1), (2, iv p2), (3, iv p3), (4, iv p4), (5, iv z783), (6, iv (z782 + 1))]) (List.forall_mem_cons.mpr ⟨rfl, List.forall_mem_cons.mpr ⟨rfl, List.forall_mem_cons.mpr ⟨rfl, List.forall_mem_cons.mpr ⟨rfl, List.forall_mem_cons.mpr ⟨rfl, List.forall_mem_cons.mpr ⟨rfl, List.forall_mem_cons.mpr ⟨rfl, fun _ h => absurd h List.not_mem_nil⟩⟩⟩⟩⟩⟩⟩) ?_
              exact ih791 z783 (z782 + 1) trivial h785 (rW (c := 0) (d := 30) (rAdd (e := 1) (f := 30) h796 (rR (x := 1)) rfl) rfl) (vc_X12_judgedAnew_5 (nS h790) h795 h796 h797)
            have h856 : 1 ≤ z822 ∧ z822 ≤ 1 := (vc_X12_ring_24 h854 h823)
            refine mr_iload (pc := 152) (z := z848) dX10_verdictOn_152 rfl ?_
            refine mr_if_ne (pc := 154) (tgt := 160) dX10_verdictOn_154 (by decide) (r32 h849 rfl) (fun h857 => ?_) (fun h857 => ?_)
            · have h858 : 1 ≤ z848 ∧ z848 ≤ 1 := (vc_X12_ring_24 h857 h849)
              refine sv_aload_n (pc := 160) dX10_verdictOn_160 rfl rfl ?_
              refine gf_X10_9 (pc := 161) dX10_verdictOn_161 wF_X10_45 (A_6 hw) hT ?_
              refine mr_iload (pc := 164) (z := z782) dX10_verdictOn_164 rfl ?_
              refine la_16 (pc := 166) dX10_verdictOn_166 (A_16 hw) hT (rIx (n := 30) h796 rfl) fun z859 q860 h861 => ?_
              refine mr_iload_n (pc := 167) (z := p2) dX10_verdictOn_167 rfl rfl ?_
              refine mr_icmp_ne (pc := 168) (tgt := 189) dX10_verdictOn_168 (by decide) h861 hp2 (fun h862 => ?_) (fun h862 => ?_)
              · refine mr_iconst (pc := 189) (z := 0) dX10_verdictOn_189 ?_
                refine mr_istore (pc := 190) (lv' := [(5, iv 0), (10, iv z848), (0, .ref 6), (1, iv p1), (2, iv p2), (3, iv p3), (4, iv p4), (6, iv z782), (7, iv z808), (8, iv z822)]) dX10_verdictOn_190 (by decide) rfl ?_
                refine mr_iinc (pc := 192) (lv' := [(6, iv (z782 + 1)), (5, iv 0), (10, iv z848), (0, .ref 6), (1, iv p1), (2, iv p2), (3, iv p3), (4, iv p4), (7, iv z808), (8, iv z822)]) dX10_verdictOn_192 rfl (by decide) rfl ?_
                refine sv_goto (pc := 195) (tgt := 6) dX10_verdictOn_195 (by decide) ?_
                refine mr_lvS (lv' := [(0, .ref 6), (1, iv p1), (2, iv p2), (3, iv p3), (4, iv p4), (5, iv 0), (6, iv (z782 + 1))]) (List.forall_mem_cons.mpr ⟨rfl, List.forall_mem_cons.mpr ⟨rfl, List.forall_mem_cons.mpr ⟨rfl, List.forall_mem_cons.mpr ⟨rfl, List.forall_mem_cons.mpr ⟨rfl, List.forall_mem_cons.mpr ⟨rfl, List.forall_mem_cons.mpr ⟨rfl, fun _ h => absurd h List.not_mem_nil⟩⟩⟩⟩⟩⟩⟩) ?_
                exact ih791 0 (z782 + 1) trivial (rW (c := 0) (d := 2) (rR (x := 0)) rfl) (rW (c := 0) (d := 30) (rAdd (e := 1) (f := 30) h796 (rR (x := 1)) rfl) rfl) (vc_X12_judgedAnew_5 (nS h790) h795 h796 h797)
              refine sv_aload_n (pc := 171) dX10_verdictOn_171 rfl rfl ?_
              refine gf_X10_8 (pc := 172) dX10_verdictOn_172 wF_X10_42 (A_6 hw) hT ?_
              refine mr_iload (pc := 175) (z := z782) dX10_verdictOn_175 rfl ?_
              refine la_15 (pc := 177) dX10_verdictOn_177 (A_15 hw) hT (rIx (n := 30) h796 rfl) fun z863 q864 h865 => ?_
              refine sv_aload_n (pc := 178) dX10_verdictOn_178 rfl rfl ?_
              refine gf_X10_1 (pc := 179) dX10_verdictOn_179 wF_X10_15 (A_6 hw) hT ?_
              refine mr_iload_n (pc := 182) (z := p1) dX10_verdictOn_182 rfl rfl ?_
              refine lk_8 (pc := 183) dX10_verdictOn_183 (A_8 hw) (rIx (n := 10) hp1 rfl) q832 ?_
              refine mr_icmp_lt (pc := 184) (tgt := 189) dX10_verdictOn_184 (by decide) h865 (r32 h833 rfl) (fun h866 => ?_) (fun h866 => ?_)
              · have h867 : (-2147483648) ≤ z863 ∧ z863 ≤ 31 := (vc_X10_verdictOn_10 h866 h833 h865)
                refine mr_iconst (pc := 189) (z := 0) dX10_verdictOn_189 ?_
                refine mr_istore (pc := 190) (lv' := [(5, iv 0), (10, iv z848), (0, .ref 6), (1, iv p1), (2, iv p2), (3, iv p3), (4, iv p4), (6, iv z782), (7, iv z808), (8, iv z822)]) dX10_verdictOn_190 (by decide) rfl ?_
                refine mr_iinc (pc := 192) (lv' := [(6, iv (z782 + 1)), (5, iv 0), (10, iv z848), (0, .ref 6), (1, iv p1), (2, iv p2), (3, iv p3), (4, iv p4), (7, iv z808), (8, iv z822)]) dX10_verdictOn_192 rfl (by decide) rfl ?_
                refine sv_goto (pc := 195) (tgt := 6) dX10_verdictOn_195 (by decide) ?_
                refine mr_lvS (lv' := [(0, .ref 6), (1, iv p1), (2, iv p2), (3, iv p3), (4, iv p4), (5, iv 0), (6, iv (z782 + 1))]) (List.forall_mem_cons.mpr ⟨rfl, List.forall_mem_cons.mpr ⟨rfl, List.forall_mem_cons.mpr ⟨rfl, List.forall_mem_cons.mpr ⟨rfl, List.forall_mem_cons.mpr ⟨rfl, List.forall_mem_cons.mpr ⟨rfl, List.forall_mem_cons.mpr ⟨rfl, fun _ h => absurd h List.not_mem_nil⟩⟩⟩⟩⟩⟩⟩) ?_
                exact ih791 0 (z782 + 1) trivial (rW (c := 0) (d := 2) (rR (x := 0)) rfl) (rW (c := 0) (d := 30) (rAdd (e := 1) (f := 30) h796 (rR (x := 1)) rfl) rfl) (vc_X12_judgedAnew_5 (nS h790) h795 h796 h797)
              have h868 : 0 ≤ z863 ∧ z863 ≤ 2147483647 := (vc_X10_verdictOn_11 h866 h833 h865)
              refine mr_iconst (pc := 187) (z := 1) dX10_verdictOn_187 ?_
              exact mr_iretP dX10_verdictOn_188 rfl (le_t rfl) (le_t rfl) ⟨(rW (c := 0) (d := 2) (rR (x := 1)) rfl), trivial⟩
            have h869 : 0 ≤ z848 ∧ z848 ≤ 0 := (vc_X12_ring_22 h857 h849)
            refine sv_goto (pc := 157) (tgt := 192) dX10_verdictOn_157 (by decide) ?_
            refine mr_iinc (pc := 192) (lv' := [(6, iv (z782 + 1)), (10, iv z848), (0, .ref 6), (1, iv p1), (2, iv p2), (3, iv p3), (4, iv p4), (5, iv z783), (7, iv z808), (8, iv z822)]) dX10_verdictOn_192 rfl (by decide) rfl ?_
            refine sv_goto (pc := 195) (tgt := 6) dX10_verdictOn_195 (by decide) ?_
            refine mr_lvS (lv' := [(0, .ref 6), (1, iv p1), (2, iv p2), (3, iv p3), (4, iv p4), (5, iv z783), (6, iv (z782 + 1))]) (List.forall_mem_cons.mpr ⟨rfl, List.forall_mem_cons.mpr ⟨rfl, List.forall_mem_cons.mpr ⟨rfl, List.forall_mem_cons.mpr ⟨rfl, List.forall_mem_cons.mpr ⟨rfl, List.forall_mem_cons.mpr ⟨rfl, List.forall_mem_cons.mpr ⟨rfl, fun _ h => absurd h List.not_mem_nil⟩⟩⟩⟩⟩⟩⟩) ?_
            exact ih791 z783 (z782 + 1) trivial h785 (rW (c := 0) (d := 30) (rAdd (e := 1) (f := 30) h796 (rR (x := 1)) rfl) rfl) (vc_X12_judgedAnew_5 (nS h790) h795 h796 h797)
          refine mr_icmp_gt (pc := 108) (tgt := 139) dX10_verdictOn_108 (by decide) (r32 h830 rfl) (r32 h833 rfl) (fun h870 => ?_) (fun h870 => ?_)
          · have h871 : 1 ≤ z828 ∧ z828 ≤ 32 := (vc_X12_judgedAnew_7 h870 h830 h833)
            have h872 : 0 ≤ z831 ∧ z831 ≤ 31 := (vc_X12_judgedAnew_8 h870 h871 h833)
            refine mr_iconst (pc := 139) (z := 0) dX10_verdictOn_139 ?_
            refine mr_lvS (lv' := [(0, .ref 6), (1, iv p1), (2, iv p2), (3, iv p3), (4, iv p4), (5, iv z783), (6, iv z782), (7, iv z808), (8, iv z822)]) (List.forall_mem_cons.mpr ⟨rfl, List.forall_mem_cons.mpr ⟨rfl, List.forall_mem_cons.mpr ⟨rfl, List.forall_mem_cons.mpr ⟨rfl, List.forall_mem_cons.mpr ⟨rfl, List.forall_mem_cons.mpr ⟨rfl, List.forall_mem_cons.mpr ⟨rfl, List.forall_mem_cons.mpr ⟨rfl, List.forall_mem_cons.mpr ⟨rfl, fun _ h => absurd h List.not_mem_nil⟩⟩⟩⟩⟩⟩⟩⟩⟩) ?_
            exact J850 0 (rW (c := 0) (d := 1) (rR (x := 0)) rfl)
          refine sv_aload_n (pc := 111) dX10_verdictOn_111 rfl rfl ?_
          refine gf_X10_0 (pc := 112) dX10_verdictOn_112 wF_X10_9 (A_6 hw) hT ?_
          refine mr_iload_n (pc := 115) (z := p1) dX10_verdictOn_115 rfl rfl ?_
          refine la_7 (pc := 116) dX10_verdictOn_116 (A_7 hw) hT (rIx (n := 10) hp1 rfl) fun z873 q874 h875 => ?_
          refine sv_aload_n (pc := 117) dX10_verdictOn_117 rfl rfl ?_
          refine gf_X10_2 (pc := 118) dX10_verdictOn_118 wF_X10_18 (A_6 hw) hT ?_
          refine mr_iload (pc := 121) (z := z825) dX10_verdictOn_121 rfl ?_
          refine la_9 (pc := 123) dX10_verdictOn_123 (A_9 hw) hT (rIx (n := 10) h827 rfl) fun z876 q877 h878 => ?_
          refine mr_iand (pc := 124) (x := z873) (y := z876) dX10_verdictOn_124 ?_
          refine mr_gen (P := fun z => (-2147483648) ≤ z ∧ z ≤ 2147483647) (r32i _) fun z879 q880 h881 => ?_
          refine sv_aload_n (pc := 125) dX10_verdictOn_125 rfl rfl ?_
          refine gf_X10_0 (pc := 126) dX10_verdictOn_126 wF_X10_9 (A_6 hw) hT ?_
          refine mr_iload (pc := 129) (z := z825) dX10_verdictOn_129 rfl ?_
          refine la_7 (pc := 131) dX10_verdictOn_131 (A_7 hw) hT (rIx (n := 10) h827 rfl) fun z882 q883 h884 => ?_
          refine mr_icmp_ne (pc := 132) (tgt := 139) dX10_verdictOn_132 (by decide) h881 h884 (fun h885 => ?_) (fun h885 => ?_)
          · refine mr_iconst (pc := 139) (z := 0) dX10_verdictOn_139 ?_
            refine mr_lvS (lv' := [(0, .ref 6), (1, iv p1), (2, iv p2), (3, iv p3), (4, iv p4), (5, iv z783), (6, iv z782), (7, iv z808), (8, iv z822)]) (List.forall_mem_cons.mpr ⟨rfl, List.forall_mem_cons.mpr ⟨rfl, List.forall_mem_cons.mpr ⟨rfl, List.forall_mem_cons.mpr ⟨rfl, List.forall_mem_cons.mpr ⟨rfl, List.forall_mem_cons.mpr ⟨rfl, List.forall_mem_cons.mpr ⟨rfl, List.forall_mem_cons.mpr ⟨rfl, List.forall_mem_cons.mpr ⟨rfl, fun _ h => absurd h List.not_mem_nil⟩⟩⟩⟩⟩⟩⟩⟩⟩) ?_
            exact J850 0 (rW (c := 0) (d := 1) (rR (x := 0)) rfl)
          refine mr_iconst (pc := 135) (z := 1) dX10_verdictOn_135 ?_
          refine sv_goto (pc := 136) (tgt := 140) dX10_verdictOn_136 (by decide) ?_
          refine mr_lvS (lv' := [(0, .ref 6), (1, iv p1), (2, iv p2), (3, iv p3), (4, iv p4), (5, iv z783), (6, iv z782), (7, iv z808), (8, iv z822)]) (List.forall_mem_cons.mpr ⟨rfl, List.forall_mem_cons.mpr ⟨rfl, List.forall_mem_cons.mpr ⟨rfl, List.forall_mem_cons.mpr ⟨rfl, List.forall_mem_cons.mpr ⟨rfl, List.forall_mem_cons.mpr ⟨rfl, List.forall_mem_cons.mpr ⟨rfl, List.forall_mem_cons.mpr ⟨rfl, List.forall_mem_cons.mpr ⟨rfl, fun _ h => absurd h List.not_mem_nil⟩⟩⟩⟩⟩⟩⟩⟩⟩) ?_
          exact J850 1 (rW (c := 0) (d := 1) (rR (x := 1)) rfl)
        refine mr_icmp_gt (pc := 53) (tgt := 83) dX10_verdictOn_53 (by decide) h813 hp4 (fun h886 => ?_) (fun h886 => ?_)
        · have h887 : (-2147483647) ≤ z811 ∧ z811 ≤ 2147483647 := (vc_X12_judgedAnew_15 h886 hp4 h813)
          have h888 : (-2147483648) ≤ p4 ∧ p4 ≤ 2147483646 := (vc_X12_judgedAnew_16 h886 hp4 h887)
          refine mr_iconst (pc := 83) (z := 0) dX10_verdictOn_83 ?_
          refine mr_lvS (lv' := [(0, .ref 6), (1, iv p1), (2, iv p2), (3, iv p3), (4, iv p4), (5, iv z783), (6, iv z782), (7, iv z808)]) (List.forall_mem_cons.mpr ⟨rfl, List.forall_mem_cons.mpr ⟨rfl, List.forall_mem_cons.mpr ⟨rfl, List.forall_mem_cons.mpr ⟨rfl, List.forall_mem_cons.mpr ⟨rfl, List.forall_mem_cons.mpr ⟨rfl, List.forall_mem_cons.mpr ⟨rfl, List.forall_mem_cons.mpr ⟨rfl, fun _ h => absurd h List.not_mem_nil⟩⟩⟩⟩⟩⟩⟩⟩) ?_
          exact J824 0 (rW (c := 0) (d := 1) (rR (x := 0)) rfl)
        refine sv_aload_n (pc := 56) dX10_verdictOn_56 rfl rfl ?_
        refine gf_X10_13 (pc := 57) dX10_verdictOn_57 wF_X10_57 (A_6 hw) hT ?_
        refine mr_iload (pc := 60) (z := z782) dX10_verdictOn_60 rfl ?_
        refine la_20 (pc := 62) dX10_verdictOn_62 (A_20 hw) hT (rIx (n := 30) h796 rfl) fun z889 q890 h891 => ?_
        refine mr_iconst (pc := 63) (z := (-1)) dX10_verdictOn_63 ?_
        refine mr_icmp_eq (pc := 64) (tgt := 79) dX10_verdictOn_64 (by decide) h891 (r32 (rR (x := (-1))) rfl) (fun h892 => ?_) (fun h892 => ?_)
        · have h893 : (-1) ≤ z889 ∧ z889 ≤ (-1) := (vc_X10_verdictOn_17 h892 h891)
          refine mr_iconst (pc := 79) (z := 1) dX10_verdictOn_79 ?_
          refine sv_goto (pc := 80) (tgt := 84) dX10_verdictOn_80 (by decide) ?_
          refine mr_lvS (lv' := [(0, .ref 6), (1, iv p1), (2, iv p2), (3, iv p3), (4, iv p4), (5, iv z783), (6, iv z782), (7, iv z808)]) (List.forall_mem_cons.mpr ⟨rfl, List.forall_mem_cons.mpr ⟨rfl, List.forall_mem_cons.mpr ⟨rfl, List.forall_mem_cons.mpr ⟨rfl, List.forall_mem_cons.mpr ⟨rfl, List.forall_mem_cons.mpr ⟨rfl, List.forall_mem_cons.mpr ⟨rfl, List.forall_mem_cons.mpr ⟨rfl, fun _ h => absurd h List.not_mem_nil⟩⟩⟩⟩⟩⟩⟩⟩) ?_
          exact J824 1 (rW (c := 0) (d := 1) (rR (x := 1)) rfl)
        refine mr_iload (pc := 67) (z := p4) dX10_verdictOn_67 rfl ?_
        refine sv_aload_n (pc := 69) dX10_verdictOn_69 rfl rfl ?_
        refine gf_X10_13 (pc := 70) dX10_verdictOn_70 wF_X10_57 (A_6 hw) hT ?_
        refine mr_iload (pc := 73) (z := z782) dX10_verdictOn_73 rfl ?_
        refine lk_20 (pc := 75) dX10_verdictOn_75 (A_20 hw) (rIx (n := 30) h796 rfl) q890 ?_
        refine mr_icmp_ge (pc := 76) (tgt := 83) dX10_verdictOn_76 (by decide) hp4 h891 (fun h894 => ?_) (fun h894 => ?_)
        · refine mr_iconst (pc := 83) (z := 0) dX10_verdictOn_83 ?_
          refine mr_lvS (lv' := [(0, .ref 6), (1, iv p1), (2, iv p2), (3, iv p3), (4, iv p4), (5, iv z783), (6, iv z782), (7, iv z808)]) (List.forall_mem_cons.mpr ⟨rfl, List.forall_mem_cons.mpr ⟨rfl, List.forall_mem_cons.mpr ⟨rfl, List.forall_mem_cons.mpr ⟨rfl, List.forall_mem_cons.mpr ⟨rfl, List.forall_mem_cons.mpr ⟨rfl, List.forall_mem_cons.mpr ⟨rfl, List.forall_mem_cons.mpr ⟨rfl, fun _ h => absurd h List.not_mem_nil⟩⟩⟩⟩⟩⟩⟩⟩) ?_
          exact J824 0 (rW (c := 0) (d := 1) (rR (x := 0)) rfl)
        have h895 : (-2147483648) ≤ p4 ∧ p4 ≤ 2147483646 := (vc_X10_verdictOn_18 h894 h886 h892 hp4 h813 h891)
        have h896 : (-2147483647) ≤ z889 ∧ z889 ≤ 2147483647 := (vc_X10_verdictOn_19 h894 h886 h892 h895 h813 h891)
        refine mr_iconst (pc := 79) (z := 1) dX10_verdictOn_79 ?_
        refine sv_goto (pc := 80) (tgt := 84) dX10_verdictOn_80 (by decide) ?_
        refine mr_lvS (lv' := [(0, .ref 6), (1, iv p1), (2, iv p2), (3, iv p3), (4, iv p4), (5, iv z783), (6, iv z782), (7, iv z808)]) (List.forall_mem_cons.mpr ⟨rfl, List.forall_mem_cons.mpr ⟨rfl, List.forall_mem_cons.mpr ⟨rfl, List.forall_mem_cons.mpr ⟨rfl, List.forall_mem_cons.mpr ⟨rfl, List.forall_mem_cons.mpr ⟨rfl, List.forall_mem_cons.mpr ⟨rfl, List.forall_mem_cons.mpr ⟨rfl, fun _ h => absurd h List.not_mem_nil⟩⟩⟩⟩⟩⟩⟩⟩) ?_
        exact J824 1 (rW (c := 0) (d := 1) (rR (x := 1)) rfl)
      refine mr_icmp_gt (pc := 23) (tgt := 41) dX10_verdictOn_23 (by decide) h800 hp3 (fun h897 => ?_) (fun h897 => ?_)
      · have h898 : (-2147483647) ≤ z798 ∧ z798 ≤ 2147483647 := (vc_X12_judgedAnew_15 h897 hp3 h800)
        have h899 : (-2147483648) ≤ p3 ∧ p3 ≤ 2147483646 := (vc_X12_judgedAnew_16 h897 hp3 h898)
        refine mr_iconst (pc := 41) (z := 0) dX10_verdictOn_41 ?_
        exact J810 0 (rW (c := 0) (d := 1) (rR (x := 0)) rfl)
      refine mr_iload_n (pc := 26) (z := p3) dX10_verdictOn_26 rfl rfl ?_
      refine sv_aload_n (pc := 27) dX10_verdictOn_27 rfl rfl ?_
      refine gf_X10_11 (pc := 28) dX10_verdictOn_28 wF_X10_51 (A_6 hw) hT ?_
      refine mr_iload (pc := 31) (z := z782) dX10_verdictOn_31 rfl ?_
      refine la_18 (pc := 33) dX10_verdictOn_33 (A_18 hw) hT (rIx (n := 30) h796 rfl) fun z900 q901 h902 => ?_
      refine mr_icmp_ge (pc := 34) (tgt := 41) dX10_verdictOn_34 (by decide) hp3 h902 (fun h903 => ?_) (fun h903 => ?_)
      · refine mr_iconst (pc := 41) (z := 0) dX10_verdictOn_41 ?_
        exact J810 0 (rW (c := 0) (d := 1) (rR (x := 0)) rfl)
      have h904 : (-2147483648) ≤ p3 ∧ p3 ≤ 2147483646 := (vc_X12_judgedAnew_17 h903 h897 hp3 h800 h902)
      have h905 : (-2147483647) ≤ z900 ∧ z900 ≤ 2147483647 := (vc_X12_judgedAnew_18 h903 h897 h904 h800 h902)
      refine mr_iconst (pc := 37) (z := 1) dX10_verdictOn_37 ?_
      refine sv_goto (pc := 38) (tgt := 42) dX10_verdictOn_38 (by decide) ?_
      exact J810 1 (rW (c := 0) (d := 1) (rR (x := 1)) rfl)
  refine mr_lvS (lv' := [(0, .ref 6), (1, iv p1), (2, iv p2), (3, iv p3), (4, iv p4), (5, iv 2), (6, iv 0)]) (List.forall_mem_cons.mpr ⟨rfl, List.forall_mem_cons.mpr ⟨rfl, List.forall_mem_cons.mpr ⟨rfl, List.forall_mem_cons.mpr ⟨rfl, List.forall_mem_cons.mpr ⟨rfl, List.forall_mem_cons.mpr ⟨rfl, List.forall_mem_cons.mpr ⟨rfl, fun _ h => absurd h List.not_mem_nil⟩⟩⟩⟩⟩⟩⟩) ?_
  exact L784 32 2 0 trivial (rW (c := 0) (d := 2) (rR (x := 2)) rfl) (rW (c := 0) (d := 30) (rR (x := 0)) rfl) vc_X12_judgedAnew_24
theorem vc_X10_addPrefix_1 {f_p : Int} (h0 : f_p ≤ 9) (h1 : 0 ≤ f_p ∧ f_p ≤ 10) : 0 ≤ f_p ∧ f_p ≤ 9 := by omega
set_option maxRecDepth 4000 in
set_option maxHeartbeats 4000000 in
theorem c_X10_addPrefix {l : Launch} {D : va_G} {c : Nat → ClassId} {H0 : Heap} {sa : Nat × Nat × (Nat → Int32)} {w : mW} {μ : mM} (hw : mWF w) (hT : mT w μ) {p1 : Int} (hp1 : (-2147483648) ≤ p1 ∧ p1 ≤ 2147483647) {p2 : Int} (hp2 : 0 ≤ p2 ∧ p2 ≤ 32) {f_p : Int} (q_f_p : μ 6 14 = f_p) (hq0 : f_p ≤ 9) : sC (gG l D c H0 sa) mX10_addPrefix 2 0 0 [.ref 6, iv p1, iv p2] (mk w μ) (qI w [6014, 7999, 8999, 9999] μ (fun z μ1 => ((-2147483648) ≤ z ∧ z ≤ 2147483647) ∧ True)) := by
  refine sC.of rfl (by decide) (le_t rfl) ?_
  have ht_f_p : (0 ≤ f_p ∧ f_p ≤ 10) := by rw [← q_f_p]; exact hT 6 6 (A_6 hw) 14
  have h1 : 0 ≤ f_p ∧ f_p ≤ 9 := (vc_X10_addPrefix_1 hq0 ht_f_p)
  refine mr_lvE (lv' := [(0, .ref 6), (1, iv p1), (2, iv p2)]) rfl ?_
  refine sv_aload_n (pc := 0) dX10_addPrefix_0 rfl rfl ?_
  refine gf_X10_0 (pc := 1) dX10_addPrefix_1 wF_X10_9 (A_6 hw) hT ?_
  refine sv_aload_n (pc := 4) dX10_addPrefix_4 rfl rfl ?_
  refine gk_X10_14 (pc := 5) dX10_addPrefix_5 wF_X10_60 (A_6 hw) q_f_p ?_
  refine mr_iload_n (pc := 8) (z := p1) dX10_addPrefix_8 rfl rfl ?_
  refine ss_7 (pc := 9) dX10_addPrefix_9 (A_7 hw) hT (rIx (n := 10) h1 rfl) hp1 fun μ53 u54 T55 => ?_
  refine sv_aload_n (pc := 10) dX10_addPrefix_10 rfl rfl ?_
  refine gf_X10_1 (pc := 11) dX10_addPrefix_11 wF_X10_15 (A_6 hw) T55 ?_
  refine sv_aload_n (pc := 14) dX10_addPrefix_14 rfl rfl ?_
  refine gk_X10_14 (pc := 15) dX10_addPrefix_15 wF_X10_60 (A_6 hw) (u54.f (Or.inl (mAt.ne (A_7 hw) (A_6 hw) rfl)) q_f_p) ?_
  refine mr_iload_n (pc := 18) (z := p2) dX10_addPrefix_18 rfl rfl ?_
  refine ss_8 (pc := 19) dX10_addPrefix_19 (A_8 hw) T55 (rIx (n := 10) h1 rfl) hp2 fun μ56 u57 T58 => ?_
  refine sv_aload_n (pc := 20) dX10_addPrefix_20 rfl rfl ?_
  refine gf_X10_2 (pc := 21) dX10_addPrefix_21 wF_X10_18 (A_6 hw) T58 ?_
  refine sv_aload_n (pc := 24) dX10_addPrefix_24 rfl rfl ?_
  refine gk_X10_14 (pc := 25) dX10_addPrefix_25 wF_X10_60 (A_6 hw) (u57.f (Or.inl (mAt.ne (A_8 hw) (A_6 hw) rfl)) (u54.f (Or.inl (mAt.ne (A_7 hw) (A_6 hw) rfl)) q_f_p)) ?_
  refine mr_iload_n (pc := 28) (z := p2) dX10_addPrefix_28 rfl rfl ?_
  refine mr_cSP (pc := 29) (c_X10_maskOf hw T58 (rW (c := (-2147483648)) (d := 2147483647) hp2 rfl)) (gOk _ _ _ _ _) dX10_addPrefix_29 (tX10_maskOf _ _ _ _ _) wS_X10_maskOf wM_X10_64 ⟨le_t rfl, le_t rfl⟩ ⟨le_t rfl, le_t rfl⟩ rfl (le_t rfl) fun z63 h62 => ?_
  refine ss_9 (pc := 32) dX10_addPrefix_32 (A_9 hw) T58 (rIx (n := 10) h1 rfl) h62.1 fun μ64 u65 T66 => ?_
  refine sv_aload_n (pc := 33) dX10_addPrefix_33 rfl rfl ?_
  refine sv_dup (pc := 34) dX10_addPrefix_34 rfl ?_
  refine gk_X10_14 (pc := 35) dX10_addPrefix_35 wF_X10_60 (A_6 hw) (u65.f (Or.inl (mAt.ne (A_9 hw) (A_6 hw) rfl)) (u57.f (Or.inl (mAt.ne (A_8 hw) (A_6 hw) rfl)) (u54.f (Or.inl (mAt.ne (A_7 hw) (A_6 hw) rfl)) q_f_p))) ?_
  refine mr_iconst (pc := 38) (z := 1) dX10_addPrefix_38 ?_
  refine mr_iadd (pc := 39) (x := f_p) (y := 1) dX10_addPrefix_39 ?_
  refine pf_X10_14 (pc := 40) dX10_addPrefix_40 wF_X10_60 (A_6 hw) T66 (rW (c := 0) (d := 10) (rAdd (e := 1) (f := 10) h1 (rR (x := 1)) rfl) rfl) fun μ67 u68 T69 => ?_
  refine sv_aload_n (pc := 43) dX10_addPrefix_43 rfl rfl ?_
  refine gk_X10_14 (pc := 44) dX10_addPrefix_44 wF_X10_60 (A_6 hw) u68.1 ?_
  refine mr_iconst (pc := 47) (z := 1) dX10_addPrefix_47 ?_
  refine mr_isub (pc := 48) (x := (f_p + 1)) (y := 1) dX10_addPrefix_48 ?_
  exact mr_iret dX10_addPrefix_49 rfl (le_t rfl) (le_t rfl) T69 (mF.up (mF.up (mF.up (mF.up mF.refl (A_7 hw) u54 rfl) (A_8 hw) u57 rfl) (A_9 hw) u65 rfl) (A_6 hw) u68 rfl) ⟨(rW (c := (-2147483648)) (d := 2147483647) (rSub (e := 0) (f := 9) (rAdd (e := 1) (f := 10) h1 (rR (x := 1)) rfl) (rR (x := 1)) rfl) rfl), trivial⟩
theorem vc_X10_addRight_1 {f_r : Int} (h0 : f_r ≤ 29) (h1 : 0 ≤ f_r ∧ f_r ≤ 30) : 0 ≤ f_r ∧ f_r ≤ 29 := by omega
set_option maxRecDepth 4000 in
set_option maxHeartbeats 4000000 in
theorem c_X10_addRight {l : Launch} {D : va_G} {c : Nat → ClassId} {H0 : Heap} {sa : Nat × Nat × (Nat → Int32)} {w : mW} {μ : mM} (hw : mWF w) (hT : mT w μ) {p1 : Int} (hp1 : 0 ≤ p1 ∧ p1 ≤ 9) {p2 : Int} (hp2 : (-2147483648) ≤ p2 ∧ p2 ≤ 2147483647) {p3 : Int} (hp3 : (-2147483648) ≤ p3 ∧ p3 ≤ 2147483647) {p4 : Int} (hp4 : (-2147483648) ≤ p4 ∧ p4 ≤ 2147483647) {p5 : Int} (hp5 : (-2147483648) ≤ p5 ∧ p5 ≤ 2147483647) {p6 : Int} (hp6 : (-2147483648) ≤ p6 ∧ p6 ≤ 2147483647) {f_r : Int} (q_f_r : μ 6 17 = f_r) (hq0 : f_r ≤ 29) : sC (gG l D c H0 sa) mX10_addRight 1 0 0 [.ref 6, iv p1, iv p2, iv p3, iv p4, iv p5, iv p6] (mk w μ) (qI w [6017, 14999, 15999, 16999, 17999, 18999, 19999, 20999] μ (fun z μ1 => ((-2147483648) ≤ z ∧ z ≤ 2147483647) ∧ True)) := by
  refine sC.of rfl (by decide) (le_t rfl) ?_
  have ht_f_r : (0 ≤ f_r ∧ f_r ≤ 30) := by rw [← q_f_r]; exact hT 6 6 (A_6 hw) 17
  have h1 : 0 ≤ f_r ∧ f_r ≤ 29 := (vc_X10_addRight_1 hq0 ht_f_r)
  refine mr_lvE (lv' := [(0, .ref 6), (1, iv p1), (2, iv p2), (3, iv p3), (4, iv p4), (5, iv p5), (6, iv p6)]) rfl ?_
  refine sv_aload_n (pc := 0) dX10_addRight_0 rfl rfl ?_
  refine gf_X10_7 (pc := 1) dX10_addRight_1 wF_X10_39 (A_6 hw) hT ?_
  refine sv_aload_n (pc := 4) dX10_addRight_4 rfl rfl ?_
  refine gk_X10_17 (pc := 5) dX10_addRight_5 wF_X10_118 (A_6 hw) q_f_r ?_
  refine mr_iload_n (pc := 8) (z := p1) dX10_addRight_8 rfl rfl ?_
  refine ss_14 (pc := 9) dX10_addRight_9 (A_14 hw) hT (rIx (n := 30) h1 rfl) hp1 fun μ74 u75 T76 => ?_
  refine sv_aload_n (pc := 10) dX10_addRight_10 rfl rfl ?_
  refine gf_X10_8 (pc := 11) dX10_addRight_11 wF_X10_42 (A_6 hw) T76 ?_
  refine sv_aload_n (pc := 14) dX10_addRight_14 rfl rfl ?_
  refine gk_X10_17 (pc := 15) dX10_addRight_15 wF_X10_118 (A_6 hw) (u75.f (Or.inl (mAt.ne (A_14 hw) (A_6 hw) rfl)) q_f_r) ?_
  refine mr_iload_n (pc := 18) (z := p2) dX10_addRight_18 rfl rfl ?_
  refine ss_15 (pc := 19) dX10_addRight_19 (A_15 hw) T76 (rIx (n := 30) h1 rfl) hp2 fun μ77 u78 T79 => ?_
  refine sv_aload_n (pc := 20) dX10_addRight_20 rfl rfl ?_
  refine gf_X10_9 (pc := 21) dX10_addRight_21 wF_X10_45 (A_6 hw) T79 ?_
  refine sv_aload_n (pc := 24) dX10_addRight_24 rfl rfl ?_
  refine gk_X10_17 (pc := 25) dX10_addRight_25 wF_X10_118 (A_6 hw) (u78.f (Or.inl (mAt.ne (A_15 hw) (A_6 hw) rfl)) (u75.f (Or.inl (mAt.ne (A_14 hw) (A_6 hw) rfl)) q_f_r)) ?_
  refine mr_iload_n (pc := 28) (z := p3) dX10_addRight_28 rfl rfl ?_
  refine ss_16 (pc := 29) dX10_addRight_29 (A_16 hw) T79 (rIx (n := 30) h1 rfl) hp3 fun μ80 u81 T82 => ?_
  refine sv_aload_n (pc := 30) dX10_addRight_30 rfl rfl ?_
  refine gf_X10_10 (pc := 31) dX10_addRight_31 wF_X10_48 (A_6 hw) T82 ?_
  refine sv_aload_n (pc := 34) dX10_addRight_34 rfl rfl ?_
  refine gk_X10_17 (pc := 35) dX10_addRight_35 wF_X10_118 (A_6 hw) (u81.f (Or.inl (mAt.ne (A_16 hw) (A_6 hw) rfl)) (u78.f (Or.inl (mAt.ne (A_15 hw) (A_6 hw) rfl)) (u75.f (Or.inl (mAt.ne (A_14 hw) (A_6 hw) rfl)) q_f_r))) ?_
  refine mr_iload (pc := 38) (z := p4) dX10_addRight_38 rfl ?_
  refine ss_17 (pc := 40) dX10_addRight_40 (A_17 hw) T82 (rIx (n := 30) h1 rfl) hp4 fun μ83 u84 T85 => ?_
  refine sv_aload_n (pc := 41) dX10_addRight_41 rfl rfl ?_
  refine gf_X10_11 (pc := 42) dX10_addRight_42 wF_X10_51 (A_6 hw) T85 ?_
  refine sv_aload_n (pc := 45) dX10_addRight_45 rfl rfl ?_
  refine gk_X10_17 (pc := 46) dX10_addRight_46 wF_X10_118 (A_6 hw) (u84.f (Or.inl (mAt.ne (A_17 hw) (A_6 hw) rfl)) (u81.f (Or.inl (mAt.ne (A_16 hw) (A_6 hw) rfl)) (u78.f (Or.inl (mAt.ne (A_15 hw) (A_6 hw) rfl)) (u75.f (Or.inl (mAt.ne (A_14 hw) (A_6 hw) rfl)) q_f_r)))) ?_
  refine mr_iload (pc := 49) (z := p5) dX10_addRight_49 rfl ?_
  refine ss_18 (pc := 51) dX10_addRight_51 (A_18 hw) T85 (rIx (n := 30) h1 rfl) hp5 fun μ86 u87 T88 => ?_
  refine sv_aload_n (pc := 52) dX10_addRight_52 rfl rfl ?_
  refine gf_X10_12 (pc := 53) dX10_addRight_53 wF_X10_54 (A_6 hw) T88 ?_
  refine sv_aload_n (pc := 56) dX10_addRight_56 rfl rfl ?_
  refine gk_X10_17 (pc := 57) dX10_addRight_57 wF_X10_118 (A_6 hw) (u87.f (Or.inl (mAt.ne (A_18 hw) (A_6 hw) rfl)) (u84.f (Or.inl (mAt.ne (A_17 hw) (A_6 hw) rfl)) (u81.f (Or.inl (mAt.ne (A_16 hw) (A_6 hw) rfl)) (u78.f (Or.inl (mAt.ne (A_15 hw) (A_6 hw) rfl)) (u75.f (Or.inl (mAt.ne (A_14 hw) (A_6 hw) rfl)) q_f_r))))) ?_
  refine mr_iload (pc := 60) (z := p6) dX10_addRight_60 rfl ?_
  refine ss_19 (pc := 62) dX10_addRight_62 (A_19 hw) T88 (rIx (n := 30) h1 rfl) hp6 fun μ89 u90 T91 => ?_
  refine sv_aload_n (pc := 63) dX10_addRight_63 rfl rfl ?_
  refine gf_X10_13 (pc := 64) dX10_addRight_64 wF_X10_57 (A_6 hw) T91 ?_
  refine sv_aload_n (pc := 67) dX10_addRight_67 rfl rfl ?_
  refine gk_X10_17 (pc := 68) dX10_addRight_68 wF_X10_118 (A_6 hw) (u90.f (Or.inl (mAt.ne (A_19 hw) (A_6 hw) rfl)) (u87.f (Or.inl (mAt.ne (A_18 hw) (A_6 hw) rfl)) (u84.f (Or.inl (mAt.ne (A_17 hw) (A_6 hw) rfl)) (u81.f (Or.inl (mAt.ne (A_16 hw) (A_6 hw) rfl)) (u78.f (Or.inl (mAt.ne (A_15 hw) (A_6 hw) rfl)) (u75.f (Or.inl (mAt.ne (A_14 hw) (A_6 hw) rfl)) q_f_r)))))) ?_
  refine mr_iconst (pc := 71) (z := (-1)) dX10_addRight_71 ?_
  refine ss_20 (pc := 72) dX10_addRight_72 (A_20 hw) T91 (rIx (n := 30) h1 rfl) (rW (c := (-2147483648)) (d := 2147483647) (rR (x := (-1))) rfl) fun μ92 u93 T94 => ?_
  refine sv_aload_n (pc := 73) dX10_addRight_73 rfl rfl ?_
  refine sv_dup (pc := 74) dX10_addRight_74 rfl ?_
  refine gk_X10_17 (pc := 75) dX10_addRight_75 wF_X10_118 (A_6 hw) (u93.f (Or.inl (mAt.ne (A_20 hw) (A_6 hw) rfl)) (u90.f (Or.inl (mAt.ne (A_19 hw) (A_6 hw) rfl)) (u87.f (Or.inl (mAt.ne (A_18 hw) (A_6 hw) rfl)) (u84.f (Or.inl (mAt.ne (A_17 hw) (A_6 hw) rfl)) (u81.f (Or.inl (mAt.ne (A_16 hw) (A_6 hw) rfl)) (u78.f (Or.inl (mAt.ne (A_15 hw) (A_6 hw) rfl)) (u75.f (Or.inl (mAt.ne (A_14 hw) (A_6 hw) rfl)) q_f_r))))))) ?_
  refine mr_iconst (pc := 78) (z := 1) dX10_addRight_78 ?_
  refine mr_iadd (pc := 79) (x := f_r) (y := 1) dX10_addRight_79 ?_
  refine pf_X10_17 (pc := 80) dX10_addRight_80 wF_X10_118 (A_6 hw) T94 (rW (c := 0) (d := 30) (rAdd (e := 1) (f := 30) h1 (rR (x := 1)) rfl) rfl) fun μ95 u96 T97 => ?_
  refine sv_aload_n (pc := 83) dX10_addRight_83 rfl rfl ?_
  refine gk_X10_17 (pc := 84) dX10_addRight_84 wF_X10_118 (A_6 hw) u96.1 ?_
  refine mr_iconst (pc := 87) (z := 1) dX10_addRight_87 ?_
  refine mr_isub (pc := 88) (x := (f_r + 1)) (y := 1) dX10_addRight_88 ?_
  exact mr_iret dX10_addRight_89 rfl (le_t rfl) (le_t rfl) T97 (mF.up (mF.up (mF.up (mF.up (mF.up (mF.up (mF.up (mF.up mF.refl (A_14 hw) u75 rfl) (A_15 hw) u78 rfl) (A_16 hw) u81 rfl) (A_17 hw) u84 rfl) (A_18 hw) u87 rfl) (A_19 hw) u90 rfl) (A_20 hw) u93 rfl) (A_6 hw) u96 rfl) ⟨(rW (c := (-2147483648)) (d := 2147483647) (rSub (e := 0) (f := 29) (rAdd (e := 1) (f := 30) h1 (rR (x := 1)) rfl) (rR (x := 1)) rfl) rfl), trivial⟩
theorem vc_X11_isDomain_2 {f_n n0 p1 : Int} (h0 : f_n = n0) (h1 : p1 < 0) (h2 : 0 ≤ f_n ∧ f_n ≤ 10) (h3 : (-2147483648) ≤ p1 ∧ p1 ≤ (-1)) : (0 : Int) = 1 → 0 ≤ p1 ∧ p1 < f_n := by omega
theorem vc_X11_isDomain_3 {f_n n0 p1 : Int} (h0 : f_n = n0) (h1 : p1 < 0) (h2 : 0 ≤ f_n ∧ f_n ≤ 10) (h3 : (-2147483648) ≤ p1 ∧ p1 ≤ (-1)) : (0 : Int) = 0 → p1 < 0 ∨ f_n ≤ p1 := by omega
theorem vc_X11_isDomain_5 {f_n n0 p1 : Int} (h0 : f_n = n0) (h1 : 0 ≤ p1) (h2 : f_n ≤ p1) (h3 : 0 ≤ f_n ∧ f_n ≤ 10) (h4 : 0 ≤ p1 ∧ p1 ≤ 2147483647) : (0 : Int) = 1 → 0 ≤ p1 ∧ p1 < f_n := by omega
theorem vc_X11_isDomain_6 {f_n n0 p1 : Int} (h0 : f_n = n0) (h1 : 0 ≤ p1) (h2 : f_n ≤ p1) (h3 : 0 ≤ f_n ∧ f_n ≤ 10) (h4 : 0 ≤ p1 ∧ p1 ≤ 2147483647) : (0 : Int) = 0 → p1 < 0 ∨ f_n ≤ p1 := by omega
theorem vc_X11_isDomain_7 {f_n n0 p1 : Int} (h0 : p1 < f_n) (h1 : f_n = n0) (h2 : 0 ≤ p1) (h3 : 0 ≤ f_n ∧ f_n ≤ 10) (h4 : 0 ≤ p1 ∧ p1 ≤ 2147483647) : 0 ≤ p1 ∧ p1 ≤ 9 := by omega
theorem vc_X11_isDomain_8 {f_n n0 p1 : Int} (h0 : p1 < f_n) (h1 : f_n = n0) (h2 : 0 ≤ p1) (h3 : 0 ≤ f_n ∧ f_n ≤ 10) (h4 : 0 ≤ p1 ∧ p1 ≤ 9) : 1 ≤ f_n ∧ f_n ≤ 10 := by omega
theorem vc_X11_isDomain_9 {f_n n0 p1 : Int} (h0 : f_n = n0) (h1 : 0 ≤ p1) (h2 : p1 < f_n) (h3 : 1 ≤ f_n ∧ f_n ≤ 10) (h4 : 0 ≤ p1 ∧ p1 ≤ 9) : (1 : Int) = 1 → 0 ≤ p1 ∧ p1 < f_n := by omega
theorem vc_X11_isDomain_10 {f_n n0 p1 : Int} (h0 : f_n = n0) (h1 : 0 ≤ p1) (h2 : p1 < f_n) (h3 : 1 ≤ f_n ∧ f_n ≤ 10) (h4 : 0 ≤ p1 ∧ p1 ≤ 9) : (1 : Int) = 0 → p1 < 0 ∨ f_n ≤ p1 := by omega
set_option maxRecDepth 4000 in
set_option maxHeartbeats 4000000 in
theorem c_X11_isDomain {l : Launch} {D : va_G} {c : Nat → ClassId} {H0 : Heap} {sa : Nat × Nat × (Nat → Int32)} {w : mW} {μ : mM} (hw : mWF w) (hT : mT w μ) {p1 : Int} (hp1 : (-2147483648) ≤ p1 ∧ p1 ≤ 2147483647) {f_n : Int} (q_f_n : μ 6 15 = f_n) : sC (gG l D c H0 sa) mX11_isDomain 1 0 0 [.ref 0, iv p1] (mk w μ) (qP w μ (fun z => (0 ≤ z ∧ z ≤ 1) ∧ (z = 1 → 0 ≤ p1 ∧ p1 < f_n) ∧ (z = 0 → p1 < 0 ∨ f_n ≤ p1) ∧ True)) := by
  refine sC.of rfl (by decide) (le_t rfl) ?_
  have ht_f_n : (f_n = w.2.2.2 0 ∧ 0 ≤ f_n ∧ f_n ≤ 10) := by rw [← q_f_n]; exact hT 6 6 (A_6 hw) 15
  refine mr_lvE (lv' := [(0, .ref 0), (1, iv p1)]) rfl ?_
  refine mr_iload_n (pc := 0) (z := p1) dX11_isDomain_0 rfl rfl ?_
  refine mr_if_lt (pc := 1) (tgt := 19) dX11_isDomain_1 (by decide) hp1 (fun h17 => ?_) (fun h17 => ?_)
  · have h18 : (-2147483648) ≤ p1 ∧ p1 ≤ (-1) := (vc_X12_ring_60 h17 hp1)
    refine mr_iconst (pc := 19) (z := 0) dX11_isDomain_19 ?_
    exact mr_zretP dX11_isDomain_20 rfl (rW (c := 0) (d := 1) (rR (x := 0)) rfl) (le_t rfl) (le_t rfl) ⟨(rW (c := 0) (d := 1) (rR (x := 0)) rfl), (vc_X11_isDomain_2 ht_f_n.1 h17 ht_f_n.2 h18), (vc_X11_isDomain_3 ht_f_n.1 h17 ht_f_n.2 h18), trivial⟩
  have h19 : 0 ≤ p1 ∧ p1 ≤ 2147483647 := (vc_X12_ring_1 h17 hp1)
  refine mr_iload_n (pc := 4) (z := p1) dX11_isDomain_4 rfl rfl ?_
  refine sv_aload_n (pc := 5) dX11_isDomain_5 rfl rfl ?_
  refine gf_X11_3 (pc := 6) dX11_isDomain_6 wF_X11_26 (A_0 hw) hT ?_
  refine gk_X10_15 (pc := 9) dX11_isDomain_9 wF_X11_98 (A_6 hw) q_f_n ?_
  refine mr_icmp_ge (pc := 12) (tgt := 19) dX11_isDomain_12 (by decide) (r32 h19 rfl) (r32 ht_f_n.2 rfl) (fun h22 => ?_) (fun h22 => ?_)
  · refine mr_iconst (pc := 19) (z := 0) dX11_isDomain_19 ?_
    exact mr_zretP dX11_isDomain_20 rfl (rW (c := 0) (d := 1) (rR (x := 0)) rfl) (le_t rfl) (le_t rfl) ⟨(rW (c := 0) (d := 1) (rR (x := 0)) rfl), (vc_X11_isDomain_5 ht_f_n.1 h17 h22 ht_f_n.2 h19), (vc_X11_isDomain_6 ht_f_n.1 h17 h22 ht_f_n.2 h19), trivial⟩
  have h23 : 0 ≤ p1 ∧ p1 ≤ 9 := (vc_X11_isDomain_7 h22 ht_f_n.1 h17 ht_f_n.2 h19)
  have h24 : 1 ≤ f_n ∧ f_n ≤ 10 := (vc_X11_isDomain_8 h22 ht_f_n.1 h17 ht_f_n.2 h23)
  refine mr_iconst (pc := 15) (z := 1) dX11_isDomain_15 ?_
  refine sv_goto (pc := 16) (tgt := 20) dX11_isDomain_16 (by decide) ?_
  exact mr_zretP dX11_isDomain_20 rfl (rW (c := 0) (d := 1) (rR (x := 1)) rfl) (le_t rfl) (le_t rfl) ⟨(rW (c := 0) (d := 1) (rR (x := 1)) rfl), (vc_X11_isDomain_9 ht_f_n.1 h17 h22 h24 h23), (vc_X11_isDomain_10 ht_f_n.1 h17 h22 h24 h23), trivial⟩
theorem vc_X11_isPrefix_2 {f_n p1 : Int} (h0 : p1 < 0) (h1 : 0 ≤ f_n ∧ f_n ≤ 10) (h2 : (-2147483648) ≤ p1 ∧ p1 ≤ (-1)) : (0 : Int) = 1 → 0 ≤ p1 ∧ p1 < f_n := by omega
theorem vc_X11_isPrefix_3 {f_n p1 : Int} (h0 : p1 < 0) (h1 : 0 ≤ f_n ∧ f_n ≤ 10) (h2 : (-2147483648) ≤ p1 ∧ p1 ≤ (-1)) : (0 : Int) = 0 → p1 < 0 ∨ f_n ≤ p1 := by omega
theorem vc_X11_isPrefix_5 {f_n p1 : Int} (h0 : 0 ≤ p1) (h1 : f_n ≤ p1) (h2 : 0 ≤ f_n ∧ f_n ≤ 10) (h3 : 0 ≤ p1 ∧ p1 ≤ 2147483647) : (0 : Int) = 1 → 0 ≤ p1 ∧ p1 < f_n := by omega
theorem vc_X11_isPrefix_6 {f_n p1 : Int} (h0 : 0 ≤ p1) (h1 : f_n ≤ p1) (h2 : 0 ≤ f_n ∧ f_n ≤ 10) (h3 : 0 ≤ p1 ∧ p1 ≤ 2147483647) : (0 : Int) = 0 → p1 < 0 ∨ f_n ≤ p1 := by omega
theorem vc_X11_isPrefix_7 {f_n p1 : Int} (h0 : p1 < f_n) (h1 : 0 ≤ p1) (h2 : 0 ≤ f_n ∧ f_n ≤ 10) (h3 : 0 ≤ p1 ∧ p1 ≤ 2147483647) : 0 ≤ p1 ∧ p1 ≤ 9 := by omega
theorem vc_X11_isPrefix_8 {f_n p1 : Int} (h0 : p1 < f_n) (h1 : 0 ≤ p1) (h2 : 0 ≤ f_n ∧ f_n ≤ 10) (h3 : 0 ≤ p1 ∧ p1 ≤ 9) : 1 ≤ f_n ∧ f_n ≤ 10 := by omega
theorem vc_X11_isPrefix_9 {f_n p1 : Int} (h0 : 0 ≤ p1) (h1 : p1 < f_n) (h2 : 1 ≤ f_n ∧ f_n ≤ 10) (h3 : 0 ≤ p1 ∧ p1 ≤ 9) : (1 : Int) = 1 → 0 ≤ p1 ∧ p1 < f_n := by omega
theorem vc_X11_isPrefix_10 {f_n p1 : Int} (h0 : 0 ≤ p1) (h1 : p1 < f_n) (h2 : 1 ≤ f_n ∧ f_n ≤ 10) (h3 : 0 ≤ p1 ∧ p1 ≤ 9) : (1 : Int) = 0 → p1 < 0 ∨ f_n ≤ p1 := by omega
set_option maxRecDepth 4000 in
set_option maxHeartbeats 4000000 in
theorem c_X11_isPrefix {l : Launch} {D : va_G} {c : Nat → ClassId} {H0 : Heap} {sa : Nat × Nat × (Nat → Int32)} {w : mW} {μ : mM} (hw : mWF w) (hT : mT w μ) {p1 : Int} (hp1 : (-2147483648) ≤ p1 ∧ p1 ≤ 2147483647) {f_n : Int} (q_f_n : μ 6 14 = f_n) : sC (gG l D c H0 sa) mX11_isPrefix 1 0 0 [.ref 0, iv p1] (mk w μ) (qP w μ (fun z => (0 ≤ z ∧ z ≤ 1) ∧ (z = 1 → 0 ≤ p1 ∧ p1 < f_n) ∧ (z = 0 → p1 < 0 ∨ f_n ≤ p1) ∧ True)) := by
  refine sC.of rfl (by decide) (le_t rfl) ?_
  have ht_f_n : (0 ≤ f_n ∧ f_n ≤ 10) := by rw [← q_f_n]; exact hT 6 6 (A_6 hw) 14
  refine mr_lvE (lv' := [(0, .ref 0), (1, iv p1)]) rfl ?_
  refine mr_iload_n (pc := 0) (z := p1) dX11_isPrefix_0 rfl rfl ?_
  refine mr_if_lt (pc := 1) (tgt := 19) dX11_isPrefix_1 (by decide) hp1 (fun h17 => ?_) (fun h17 => ?_)
  · have h18 : (-2147483648) ≤ p1 ∧ p1 ≤ (-1) := (vc_X12_ring_60 h17 hp1)
    refine mr_iconst (pc := 19) (z := 0) dX11_isPrefix_19 ?_
    exact mr_zretP dX11_isPrefix_20 rfl (rW (c := 0) (d := 1) (rR (x := 0)) rfl) (le_t rfl) (le_t rfl) ⟨(rW (c := 0) (d := 1) (rR (x := 0)) rfl), (vc_X11_isPrefix_2 h17 ht_f_n h18), (vc_X11_isPrefix_3 h17 ht_f_n h18), trivial⟩
  have h19 : 0 ≤ p1 ∧ p1 ≤ 2147483647 := (vc_X12_ring_1 h17 hp1)
  refine mr_iload_n (pc := 4) (z := p1) dX11_isPrefix_4 rfl rfl ?_
  refine sv_aload_n (pc := 5) dX11_isPrefix_5 rfl rfl ?_
  refine gf_X11_3 (pc := 6) dX11_isPrefix_6 wF_X11_26 (A_0 hw) hT ?_
  refine gk_X10_14 (pc := 9) dX11_isPrefix_9 wF_X11_92 (A_6 hw) q_f_n ?_
  refine mr_icmp_ge (pc := 12) (tgt := 19) dX11_isPrefix_12 (by decide) (r32 h19 rfl) (r32 ht_f_n rfl) (fun h22 => ?_) (fun h22 => ?_)
  · refine mr_iconst (pc := 19) (z := 0) dX11_isPrefix_19 ?_
    exact mr_zretP dX11_isPrefix_20 rfl (rW (c := 0) (d := 1) (rR (x := 0)) rfl) (le_t rfl) (le_t rfl) ⟨(rW (c := 0) (d := 1) (rR (x := 0)) rfl), (vc_X11_isPrefix_5 h17 h22 ht_f_n h19), (vc_X11_isPrefix_6 h17 h22 ht_f_n h19), trivial⟩
  have h23 : 0 ≤ p1 ∧ p1 ≤ 9 := (vc_X11_isPrefix_7 h22 h17 ht_f_n h19)
  have h24 : 1 ≤ f_n ∧ f_n ≤ 10 := (vc_X11_isPrefix_8 h22 h17 ht_f_n h23)
  refine mr_iconst (pc := 15) (z := 1) dX11_isPrefix_15 ?_
  refine sv_goto (pc := 16) (tgt := 20) dX11_isPrefix_16 (by decide) ?_
  exact mr_zretP dX11_isPrefix_20 rfl (rW (c := 0) (d := 1) (rR (x := 1)) rfl) (le_t rfl) (le_t rfl) ⟨(rW (c := 0) (d := 1) (rR (x := 1)) rfl), (vc_X11_isPrefix_9 h17 h22 h24 h23), (vc_X11_isPrefix_10 h17 h22 h24 h23), trivial⟩
theorem vc_X11_isTie_2 {f_n n1 p1 : Int} (h0 : f_n = n1) (h1 : p1 < 0) (h2 : 0 ≤ f_n ∧ f_n ≤ 20) (h3 : (-2147483648) ≤ p1 ∧ p1 ≤ (-1)) : (0 : Int) = 1 → 0 ≤ p1 ∧ p1 < f_n := by omega
theorem vc_X11_isTie_3 {f_n n1 p1 : Int} (h0 : f_n = n1) (h1 : p1 < 0) (h2 : 0 ≤ f_n ∧ f_n ≤ 20) (h3 : (-2147483648) ≤ p1 ∧ p1 ≤ (-1)) : (0 : Int) = 0 → p1 < 0 ∨ f_n ≤ p1 := by omega
theorem vc_X11_isTie_5 {f_n n1 p1 : Int} (h0 : f_n = n1) (h1 : 0 ≤ p1) (h2 : f_n ≤ p1) (h3 : 0 ≤ f_n ∧ f_n ≤ 20) (h4 : 0 ≤ p1 ∧ p1 ≤ 2147483647) : (0 : Int) = 1 → 0 ≤ p1 ∧ p1 < f_n := by omega
theorem vc_X11_isTie_6 {f_n n1 p1 : Int} (h0 : f_n = n1) (h1 : 0 ≤ p1) (h2 : f_n ≤ p1) (h3 : 0 ≤ f_n ∧ f_n ≤ 20) (h4 : 0 ≤ p1 ∧ p1 ≤ 2147483647) : (0 : Int) = 0 → p1 < 0 ∨ f_n ≤ p1 := by omega
theorem vc_X11_isTie_7 {f_n n1 p1 : Int} (h0 : p1 < f_n) (h1 : f_n = n1) (h2 : 0 ≤ p1) (h3 : 0 ≤ f_n ∧ f_n ≤ 20) (h4 : 0 ≤ p1 ∧ p1 ≤ 2147483647) : 0 ≤ p1 ∧ p1 ≤ 19 := by omega
theorem vc_X11_isTie_8 {f_n n1 p1 : Int} (h0 : p1 < f_n) (h1 : f_n = n1) (h2 : 0 ≤ p1) (h3 : 0 ≤ f_n ∧ f_n ≤ 20) (h4 : 0 ≤ p1 ∧ p1 ≤ 19) : 1 ≤ f_n ∧ f_n ≤ 20 := by omega
theorem vc_X11_isTie_9 {f_n n1 p1 : Int} (h0 : f_n = n1) (h1 : 0 ≤ p1) (h2 : p1 < f_n) (h3 : 1 ≤ f_n ∧ f_n ≤ 20) (h4 : 0 ≤ p1 ∧ p1 ≤ 19) : (1 : Int) = 1 → 0 ≤ p1 ∧ p1 < f_n := by omega
theorem vc_X11_isTie_10 {f_n n1 p1 : Int} (h0 : f_n = n1) (h1 : 0 ≤ p1) (h2 : p1 < f_n) (h3 : 1 ≤ f_n ∧ f_n ≤ 20) (h4 : 0 ≤ p1 ∧ p1 ≤ 19) : (1 : Int) = 0 → p1 < 0 ∨ f_n ≤ p1 := by omega
set_option maxRecDepth 4000 in
set_option maxHeartbeats 4000000 in
theorem c_X11_isTie {l : Launch} {D : va_G} {c : Nat → ClassId} {H0 : Heap} {sa : Nat × Nat × (Nat → Int32)} {w : mW} {μ : mM} (hw : mWF w) (hT : mT w μ) {p1 : Int} (hp1 : (-2147483648) ≤ p1 ∧ p1 ≤ 2147483647) {f_n : Int} (q_f_n : μ 6 16 = f_n) : sC (gG l D c H0 sa) mX11_isTie 1 0 0 [.ref 0, iv p1] (mk w μ) (qP w μ (fun z => (0 ≤ z ∧ z ≤ 1) ∧ (z = 1 → 0 ≤ p1 ∧ p1 < f_n) ∧ (z = 0 → p1 < 0 ∨ f_n ≤ p1) ∧ True)) := by
  refine sC.of rfl (by decide) (le_t rfl) ?_
  have ht_f_n : (f_n = w.2.2.2 1 ∧ 0 ≤ f_n ∧ f_n ≤ 20) := by rw [← q_f_n]; exact hT 6 6 (A_6 hw) 16
  refine mr_lvE (lv' := [(0, .ref 0), (1, iv p1)]) rfl ?_
  refine mr_iload_n (pc := 0) (z := p1) dX11_isTie_0 rfl rfl ?_
  refine mr_if_lt (pc := 1) (tgt := 19) dX11_isTie_1 (by decide) hp1 (fun h17 => ?_) (fun h17 => ?_)
  · have h18 : (-2147483648) ≤ p1 ∧ p1 ≤ (-1) := (vc_X12_ring_60 h17 hp1)
    refine mr_iconst (pc := 19) (z := 0) dX11_isTie_19 ?_
    exact mr_zretP dX11_isTie_20 rfl (rW (c := 0) (d := 1) (rR (x := 0)) rfl) (le_t rfl) (le_t rfl) ⟨(rW (c := 0) (d := 1) (rR (x := 0)) rfl), (vc_X11_isTie_2 ht_f_n.1 h17 ht_f_n.2 h18), (vc_X11_isTie_3 ht_f_n.1 h17 ht_f_n.2 h18), trivial⟩
  have h19 : 0 ≤ p1 ∧ p1 ≤ 2147483647 := (vc_X12_ring_1 h17 hp1)
  refine mr_iload_n (pc := 4) (z := p1) dX11_isTie_4 rfl rfl ?_
  refine sv_aload_n (pc := 5) dX11_isTie_5 rfl rfl ?_
  refine gf_X11_3 (pc := 6) dX11_isTie_6 wF_X11_26 (A_0 hw) hT ?_
  refine gk_X10_16 (pc := 9) dX11_isTie_9 wF_X11_112 (A_6 hw) q_f_n ?_
  refine mr_icmp_ge (pc := 12) (tgt := 19) dX11_isTie_12 (by decide) (r32 h19 rfl) (r32 ht_f_n.2 rfl) (fun h22 => ?_) (fun h22 => ?_)
  · refine mr_iconst (pc := 19) (z := 0) dX11_isTie_19 ?_
    exact mr_zretP dX11_isTie_20 rfl (rW (c := 0) (d := 1) (rR (x := 0)) rfl) (le_t rfl) (le_t rfl) ⟨(rW (c := 0) (d := 1) (rR (x := 0)) rfl), (vc_X11_isTie_5 ht_f_n.1 h17 h22 ht_f_n.2 h19), (vc_X11_isTie_6 ht_f_n.1 h17 h22 ht_f_n.2 h19), trivial⟩
  have h23 : 0 ≤ p1 ∧ p1 ≤ 19 := (vc_X11_isTie_7 h22 ht_f_n.1 h17 ht_f_n.2 h19)
  have h24 : 1 ≤ f_n ∧ f_n ≤ 20 := (vc_X11_isTie_8 h22 ht_f_n.1 h17 ht_f_n.2 h23)
  refine mr_iconst (pc := 15) (z := 1) dX11_isTie_15 ?_
  refine sv_goto (pc := 16) (tgt := 20) dX11_isTie_16 (by decide) ?_
  exact mr_zretP dX11_isTie_20 rfl (rW (c := 0) (d := 1) (rR (x := 1)) rfl) (le_t rfl) (le_t rfl) ⟨(rW (c := 0) (d := 1) (rR (x := 1)) rfl), (vc_X11_isTie_9 ht_f_n.1 h17 h22 h24 h23), (vc_X11_isTie_10 ht_f_n.1 h17 h22 h24 h23), trivial⟩
theorem vc_X11_isEither_2 {p1 : Int} (h0 : p1 = 0) (h1 : 0 ≤ p1 ∧ p1 ≤ 0) : (1 : Int) = 1 → 0 ≤ p1 ∧ p1 ≤ 1 := by omega
theorem vc_X11_isEither_3 {p1 : Int} (h0 : p1 = 0) (h1 : 0 ≤ p1 ∧ p1 ≤ 0) : (1 : Int) = 0 → p1 < 0 ∨ 1 < p1 := by omega
theorem vc_X11_isEither_4 {p1 : Int} (h0 : ¬ p1 = 0) (h1 : ¬ p1 = 1) (h2 : (-2147483648) ≤ p1 ∧ p1 ≤ 2147483647) : (0 : Int) = 1 → 0 ≤ p1 ∧ p1 ≤ 1 := by omega
theorem vc_X11_isEither_5 {p1 : Int} (h0 : ¬ p1 = 0) (h1 : ¬ p1 = 1) (h2 : (-2147483648) ≤ p1 ∧ p1 ≤ 2147483647) : (0 : Int) = 0 → p1 < 0 ∨ 1 < p1 := by omega
theorem vc_X11_isEither_7 {p1 : Int} (h0 : ¬ p1 = 0) (h1 : p1 = 1) (h2 : 1 ≤ p1 ∧ p1 ≤ 1) : (1 : Int) = 1 → 0 ≤ p1 ∧ p1 ≤ 1 := by omega
theorem vc_X11_isEither_8 {p1 : Int} (h0 : ¬ p1 = 0) (h1 : p1 = 1) (h2 : 1 ≤ p1 ∧ p1 ≤ 1) : (1 : Int) = 0 → p1 < 0 ∨ 1 < p1 := by omega
set_option maxRecDepth 4000 in
set_option maxHeartbeats 4000000 in
theorem c_X11_isEither {l : Launch} {D : va_G} {c : Nat → ClassId} {H0 : Heap} {sa : Nat × Nat × (Nat → Int32)} {w : mW} {μ : mM} (hw : mWF w) (hT : mT w μ) {p1 : Int} (hp1 : (-2147483648) ≤ p1 ∧ p1 ≤ 2147483647) : sC (gG l D c H0 sa) mX11_isEither 1 0 0 [iv p1] (mk w μ) (qP w μ (fun z => (0 ≤ z ∧ z ≤ 1) ∧ (z = 1 → 0 ≤ p1 ∧ p1 ≤ 1) ∧ (z = 0 → p1 < 0 ∨ 1 < p1) ∧ True)) := by
  refine sC.of rfl (by decide) (le_t rfl) ?_
  refine mr_lvE (lv' := [(0, iv p1)]) rfl ?_
  refine mr_iload_n (pc := 0) (z := p1) dX11_isEither_0 rfl rfl ?_
  refine mr_if_eq (pc := 1) (tgt := 9) dX11_isEither_1 (by decide) hp1 (fun h3 => ?_) (fun h3 => ?_)
  · have h4 : 0 ≤ p1 ∧ p1 ≤ 0 := (vc_X12_mask_1 h3 hp1)
    refine mr_iconst (pc := 9) (z := 1) dX11_isEither_9 ?_
    refine sv_goto (pc := 10) (tgt := 14) dX11_isEither_10 (by decide) ?_
    exact mr_zretP dX11_isEither_14 rfl (rW (c := 0) (d := 1) (rR (x := 1)) rfl) (le_t rfl) (le_t rfl) ⟨(rW (c := 0) (d := 1) (rR (x := 1)) rfl), (vc_X11_isEither_2 h3 h4), (vc_X11_isEither_3 h3 h4), trivial⟩
  refine mr_iload_n (pc := 4) (z := p1) dX11_isEither_4 rfl rfl ?_
  refine mr_iconst (pc := 5) (z := 1) dX11_isEither_5 ?_
  refine mr_icmp_ne (pc := 6) (tgt := 13) dX11_isEither_6 (by decide) hp1 (r32 (rR (x := 1)) rfl) (fun h6 => ?_) (fun h6 => ?_)
  · refine mr_iconst (pc := 13) (z := 0) dX11_isEither_13 ?_
    exact mr_zretP dX11_isEither_14 rfl (rW (c := 0) (d := 1) (rR (x := 0)) rfl) (le_t rfl) (le_t rfl) ⟨(rW (c := 0) (d := 1) (rR (x := 0)) rfl), (vc_X11_isEither_4 h3 h6 hp1), (vc_X11_isEither_5 h3 h6 hp1), trivial⟩
  have h7 : 1 ≤ p1 ∧ p1 ≤ 1 := (vc_X12_count_4 h6 h3 hp1)
  refine mr_iconst (pc := 9) (z := 1) dX11_isEither_9 ?_
  refine sv_goto (pc := 10) (tgt := 14) dX11_isEither_10 (by decide) ?_
  exact mr_zretP dX11_isEither_14 rfl (rW (c := 0) (d := 1) (rR (x := 1)) rfl) (le_t rfl) (le_t rfl) ⟨(rW (c := 0) (d := 1) (rR (x := 1)) rfl), (vc_X11_isEither_7 h3 h6 h7), (vc_X11_isEither_8 h3 h6 h7), trivial⟩
theorem vc_X11_prefix_3 {p2 : Int} (h0 : 32 < p2) (h1 : 0 ≤ p2) (h2 : 0 ≤ p2 ∧ p2 ≤ 2147483647) : 33 ≤ p2 ∧ p2 ≤ 2147483647 := by omega
theorem vc_X11_prefix_4 {p2 : Int} (h0 : p2 ≤ 32) (h1 : 0 ≤ p2) (h2 : 0 ≤ p2 ∧ p2 ≤ 2147483647) : 0 ≤ p2 ∧ p2 ≤ 32 := by omega
theorem vc_X11_prefix_8 {z27 : Int} (h0 : z27 < 10) (h1 : 0 ≤ z27 ∧ z27 ≤ 9) : z27 ≤ 9 := by omega
set_option maxRecDepth 4000 in
set_option maxHeartbeats 4000000 in
theorem c_X11_prefix {l : Launch} {D : va_G} {c : Nat → ClassId} {H0 : Heap} {sa : Nat × Nat × (Nat → Int32)} {w : mW} {μ : mM} (hw : mWF w) (hT : mT w μ) {p1 : Int} (hp1 : (-2147483648) ≤ p1 ∧ p1 ≤ 2147483647) {p2 : Int} (hp2 : (-2147483648) ≤ p2 ∧ p2 ≤ 2147483647) : sC (gG l D c H0 sa) mX11_prefix 3 0 0 [.ref 0, iv p1, iv p2] (mk w μ) (qI w [6014, 7999, 8999, 9999] μ (fun z μ1 => ((-2147483648) ≤ z ∧ z ≤ 2147483647) ∧ True)) := by
  refine sC.of rfl (by decide) (le_t rfl) ?_
  refine mr_lvE (lv' := [(0, .ref 0), (1, iv p1), (2, iv p2)]) rfl ?_
  refine mr_iload_n (pc := 0) (z := p2) dX11_prefix_0 rfl rfl ?_
  refine mr_if_lt (pc := 1) (tgt := 21) dX11_prefix_1 (by decide) hp2 (fun h1 => ?_) (fun h1 => ?_)
  · have h2 : (-2147483648) ≤ p2 ∧ p2 ≤ (-1) := (vc_X12_ring_60 h1 hp2)
    refine mr_iconst (pc := 21) (z := (-1)) dX11_prefix_21 ?_
    exact mr_iret dX11_prefix_22 rfl (le_t rfl) (le_t rfl) hT mF.refl ⟨(rW (c := (-2147483648)) (d := 2147483647) (rR (x := (-1))) rfl), trivial⟩
  have h3 : 0 ≤ p2 ∧ p2 ≤ 2147483647 := (vc_X12_ring_1 h1 hp2)
  refine mr_iload_n (pc := 4) (z := p2) dX11_prefix_4 rfl rfl ?_
  refine mr_bipush (pc := 5) (z := 32) dX11_prefix_5 (by decide) ?_
  refine mr_icmp_gt (pc := 7) (tgt := 21) dX11_prefix_7 (by decide) (r32 h3 rfl) (r32 (rR (x := 32)) rfl) (fun h4 => ?_) (fun h4 => ?_)
  · have h5 : 33 ≤ p2 ∧ p2 ≤ 2147483647 := (vc_X11_prefix_3 h4 h1 h3)
    refine mr_iconst (pc := 21) (z := (-1)) dX11_prefix_21 ?_
    exact mr_iret dX11_prefix_22 rfl (le_t rfl) (le_t rfl) hT mF.refl ⟨(rW (c := (-2147483648)) (d := 2147483647) (rR (x := (-1))) rfl), trivial⟩
  have h6 : 0 ≤ p2 ∧ p2 ≤ 32 := (vc_X11_prefix_4 h4 h1 h3)
  refine mr_iload_n (pc := 10) (z := p1) dX11_prefix_10 rfl rfl ?_
  refine mr_iload_n (pc := 11) (z := p2) dX11_prefix_11 rfl rfl ?_
  refine mr_cSP (pc := 12) (c_X10_maskOf hw hT (rW (c := (-2147483648)) (d := 2147483647) h6 rfl)) (gOk _ _ _ _ _) dX11_prefix_12 (tX10_maskOf _ _ _ _ _) wS_X10_maskOf wM_X11_84 ⟨le_t rfl, le_t rfl⟩ ⟨le_t rfl, le_t rfl⟩ rfl (le_t rfl) fun z11 h10 => ?_
  refine mr_iconst (pc := 15) (z := (-1)) dX11_prefix_15 ?_
  refine mr_ixor (pc := 16) (x := z11) (y := (-1)) dX11_prefix_16 ?_
  refine mr_gen (P := fun z => (-2147483648) ≤ z ∧ z ≤ 2147483647) (r32i _) fun z12 q13 h14 => ?_
  refine mr_iand (pc := 17) (x := p1) (y := z12) dX11_prefix_17 ?_
  refine mr_gen (P := fun z => (-2147483648) ≤ z ∧ z ≤ 2147483647) (r32i _) fun z15 q16 h17 => ?_
  refine mr_if_eq (pc := 18) (tgt := 23) dX11_prefix_18 (by decide) h17 (fun h18 => ?_) (fun h18 => ?_)
  · have h19 : 0 ≤ z15 ∧ z15 ≤ 0 := (vc_X12_mask_1 h18 h17)
    refine sv_aload_n (pc := 23) dX11_prefix_23 rfl rfl ?_
    refine gf_X11_3 (pc := 24) dX11_prefix_24 wF_X11_26 (A_0 hw) hT ?_
    refine mr_iload_n (pc := 27) (z := p1) dX11_prefix_27 rfl rfl ?_
    refine mr_iload_n (pc := 28) (z := p2) dX11_prefix_28 rfl rfl ?_
    refine mr_cVP (pc := 29) (c_X10_findPrefix hw hT hp1 (rW (c := (-2147483648)) (d := 2147483647) h6 rfl)) (gOk _ _ _ _ _) dX11_prefix_29 (tX10_findPrefix _ _ _ _ _) ⟨wV_X10_findPrefix, wL_X10_findPrefix⟩ wM_X11_88 (gCX10 _ _ _ _ _) rfl (A_6 hw) rfl ⟨le_t rfl, le_t rfl⟩ ⟨le_t rfl, le_t rfl⟩ rfl (le_t rfl) fun z24 h23 => ?_
    refine mr_if_lt (pc := 32) (tgt := 38) dX11_prefix_32 (by decide) (r32 h23.1 rfl) (fun h25 => ?_) (fun h25 => ?_)
    · have h26 : (-1) ≤ z24 ∧ z24 ≤ (-1) := (vc_X12_isThere_3 h25 h23.1)
      refine sv_aload_n (pc := 38) dX11_prefix_38 rfl rfl ?_
      refine gf_X11_3 (pc := 39) dX11_prefix_39 wF_X11_26 (A_0 hw) hT ?_
      refine gf_X10_14 (pc := 42) dX11_prefix_42 wF_X11_92 (A_6 hw) hT fun z27 q28 h29 => ?_
      refine mr_bipush (pc := 45) (z := 10) dX11_prefix_45 (by decide) ?_
      refine mr_icmp_lt (pc := 47) (tgt := 53) dX11_prefix_47 (by decide) (r32 h29 rfl) (r32 (rR (x := 10)) rfl) (fun h30 => ?_) (fun h30 => ?_)
      · have h31 : 0 ≤ z27 ∧ z27 ≤ 9 := (vc_X12_ring_57 h30 h29)
        refine sv_aload_n (pc := 53) dX11_prefix_53 rfl rfl ?_
        refine gf_X11_3 (pc := 54) dX11_prefix_54 wF_X11_26 (A_0 hw) hT ?_
        refine mr_iload_n (pc := 57) (z := p1) dX11_prefix_57 rfl rfl ?_
        refine mr_iload_n (pc := 58) (z := p2) dX11_prefix_58 rfl rfl ?_
        refine mr_cVI (pc := 59) (c_X10_addPrefix hw hT hp1 h6 q28 (vc_X11_prefix_8 h30 h31)) (gOk _ _ _ _ _) dX11_prefix_59 (tX10_addPrefix _ _ _ _ _) ⟨wV_X10_addPrefix, wL_X10_addPrefix⟩ wM_X11_95 (gCX10 _ _ _ _ _) rfl (A_6 hw) rfl ⟨le_t rfl, le_t rfl⟩ ⟨le_t rfl, le_t rfl⟩ rfl (le_t rfl) fun z36 μ32 T33 F34 h35 => ?_
        exact mr_iret dX11_prefix_62 rfl (le_t rfl) (le_t rfl) T33 (mF.call mF.refl F34 rfl) ⟨h35.1, trivial⟩
      have h37 : 10 ≤ z27 ∧ z27 ≤ 10 := (vc_X12_ring_6 h30 h29)
      refine mr_bipush (pc := 50) (z := (-3)) dX11_prefix_50 (by decide) ?_
      exact mr_iret dX11_prefix_52 rfl (le_t rfl) (le_t rfl) hT mF.refl ⟨(rW (c := (-2147483648)) (d := 2147483647) (rR (x := (-3))) rfl), trivial⟩
    have h38 : 0 ≤ z24 ∧ z24 ≤ 9 := (vc_X12_isThere_6 h25 h23.1)
    refine mr_bipush (pc := 35) (z := (-2)) dX11_prefix_35 (by decide) ?_
    exact mr_iret dX11_prefix_37 rfl (le_t rfl) (le_t rfl) hT mF.refl ⟨(rW (c := (-2147483648)) (d := 2147483647) (rR (x := (-2))) rfl), trivial⟩
  refine mr_iconst (pc := 21) (z := (-1)) dX11_prefix_21 ?_
  exact mr_iret dX11_prefix_22 rfl (le_t rfl) (le_t rfl) hT mF.refl ⟨(rW (c := (-2147483648)) (d := 2147483647) (rR (x := (-1))) rfl), trivial⟩
theorem vc_X11_pace_2 {n1 p1 z1 z8 : Int} (h0 : (z8 = 1 → 0 ≤ p1 ∧ p1 < z1)) (h1 : (z8 = 0 → p1 < 0 ∨ z1 ≤ p1)) (h2 : z8 = 0) (h3 : z1 = n1) (h4 : (-2147483648) ≤ p1 ∧ p1 ≤ 2147483647) (h5 : 0 ≤ z1 ∧ z1 ≤ 20) (h6 : 0 ≤ z8 ∧ z8 ≤ 0) : z8 = 0 := by omega
theorem vc_X11_pace_4 {n1 p1 z1 z8 : Int} (h0 : (z8 = 1 → 0 ≤ p1 ∧ p1 < z1)) (h1 : (z8 = 0 → p1 < 0 ∨ z1 ≤ p1)) (h2 : ¬ z8 = 0) (h3 : z1 = n1) (h4 : (-2147483648) ≤ p1 ∧ p1 ≤ 2147483647) (h5 : 0 ≤ z1 ∧ z1 ≤ 20) (h6 : 1 ≤ z8 ∧ z8 ≤ 1) : z8 = 1 := by omega
theorem vc_X11_pace_5 {n1 p1 z1 z8 : Int} (h0 : 0 ≤ p1 ∧ p1 < z1) (h1 : z1 = n1) (h2 : (z8 = 1 → 0 ≤ p1 ∧ p1 < z1)) (h3 : (z8 = 0 → p1 < 0 ∨ z1 ≤ p1)) (h4 : (-2147483648) ≤ p1 ∧ p1 ≤ 2147483647) (h5 : 0 ≤ z1 ∧ z1 ≤ 20) (h6 : 1 ≤ z8 ∧ z8 ≤ 1) : 0 ≤ p1 ∧ p1 ≤ 19 := by omega
theorem vc_X11_pace_6 {n1 p1 z1 z8 : Int} (h0 : 0 ≤ p1 ∧ p1 < z1) (h1 : z1 = n1) (h2 : (z8 = 1 → 0 ≤ p1 ∧ p1 < z1)) (h3 : (z8 = 0 → p1 < 0 ∨ z1 ≤ p1)) (h4 : 0 ≤ p1 ∧ p1 ≤ 19) (h5 : 0 ≤ z1 ∧ z1 ≤ 20) (h6 : 1 ≤ z8 ∧ z8 ≤ 1) : 1 ≤ z1 ∧ z1 ≤ 20 := by omega
theorem vc_X11_pace_7 {p2 : Int} (h0 : p2 < 1) (h1 : (-2147483648) ≤ p2 ∧ p2 ≤ 2147483647) : (-2147483648) ≤ p2 ∧ p2 ≤ 0 := by omega
theorem vc_X11_pace_8 {p2 : Int} (h0 : 1 ≤ p2) (h1 : (-2147483648) ≤ p2 ∧ p2 ≤ 2147483647) : 1 ≤ p2 ∧ p2 ≤ 2147483647 := by omega
theorem vc_X11_pace_9 {p2 : Int} (h0 : 1000 < p2) (h1 : 1 ≤ p2) (h2 : 1 ≤ p2 ∧ p2 ≤ 2147483647) : 1001 ≤ p2 ∧ p2 ≤ 2147483647 := by omega
theorem vc_X11_pace_10 {p2 : Int} (h0 : p2 ≤ 1000) (h1 : 1 ≤ p2) (h2 : 1 ≤ p2 ∧ p2 ≤ 2147483647) : 1 ≤ p2 ∧ p2 ≤ 1000 := by omega
theorem vc_X11_pace_13 {p3 : Int} (h0 : p3 ≤ 1000) (h1 : 0 ≤ p3) (h2 : 0 ≤ p3 ∧ p3 ≤ 2147483647) : 0 ≤ p3 ∧ p3 ≤ 1000 := by omega
theorem vc_X11_pace_14 {n1 p1 z1 z8 : Int} (h0 : z1 = n1) (h1 : (z8 = 1 → 0 ≤ p1 ∧ p1 < z1)) (h2 : (z8 = 0 → p1 < 0 ∨ z1 ≤ p1)) (h3 : 0 ≤ p1 ∧ p1 < z1) (h4 : ¬ z8 = 0) (h5 : 0 ≤ p1 ∧ p1 ≤ 19) (h6 : 1 ≤ z1 ∧ z1 ≤ 20) (h7 : 1 ≤ z8 ∧ z8 ≤ 1) : p1 < n1 := by omega
theorem vc_X11_pace_15 {p3 : Int} (h0 : 1000 < p3) (h1 : 0 ≤ p3) (h2 : 0 ≤ p3 ∧ p3 ≤ 2147483647) : 1001 ≤ p3 ∧ p3 ≤ 2147483647 := by omega
set_option maxRecDepth 4000 in
set_option maxHeartbeats 4000000 in
theorem c_X11_pace {l : Launch} {D : va_G} {c : Nat → ClassId} {H0 : Heap} {sa : Nat × Nat × (Nat → Int32)} {w : mW} {μ : mM} (hw : mWF w) (hT : mT w μ) {p1 : Int} (hp1 : (-2147483648) ≤ p1 ∧ p1 ≤ 2147483647) {p2 : Int} (hp2 : (-2147483648) ≤ p2 ∧ p2 ≤ 2147483647) {p3 : Int} (hp3 : (-2147483648) ≤ p3 ∧ p3 ≤ 2147483647) : sC (gG l D c H0 sa) mX11_pace 2 0 0 [.ref 0, iv p1, iv p2, iv p3] (mk w μ) (qI w [220007, 220008] μ (fun z μ1 => ((-2147483648) ≤ z ∧ z ≤ 2147483647) ∧ True)) := by
  refine sC.of rfl (by decide) (le_t rfl) ?_
  refine mr_lvE (lv' := [(0, .ref 0), (1, iv p1), (2, iv p2), (3, iv p3)]) rfl ?_
  refine sv_aload_n (pc := 0) dX11_pace_0 rfl rfl ?_
  refine mr_iload_n (pc := 1) (z := p1) dX11_pace_1 rfl rfl ?_
  obtain ⟨z1, q2⟩ : ∃ z, μ 6 16 = z := ⟨_, rfl⟩
  have h3 : (z1 = w.2.2.2 1 ∧ 0 ≤ z1 ∧ z1 ≤ 20) := by rw [← q2]; exact hT 6 6 (A_6 hw) 16
  refine mr_cVP (pc := 2) (c_X11_isTie hw hT hp1 q2) (gOk _ _ _ _ _) dX11_pace_2 (tX11_isTie _ _ _ _ _) ⟨wV_X11_isTie, wL_X11_isTie⟩ wM_X11_119 (gCX11 _ _ _ _ _) rfl (A_0 hw) rfl ⟨le_t rfl, le_t rfl⟩ ⟨le_t rfl, le_t rfl⟩ rfl (le_t rfl) fun z8 h7 => ?_
  refine mr_if_eq (pc := 5) (tgt := 31) dX11_pace_5 (by decide) (r32 h7.1 rfl) (fun h9 => ?_) (fun h9 => ?_)
  · have h10 : 0 ≤ z8 ∧ z8 ≤ 0 := (vc_X12_pace_1 h9 h7.2.1 h7.2.2.1 hp1 h3.2 h7.1)
    have h11 : p1 < 0 ∨ z1 ≤ p1 := (h7.2.2.1 (vc_X11_pace_2 h7.2.1 h7.2.2.1 h9 h3.1 hp1 h3.2 h10))
    refine mr_iconst (pc := 31) (z := (-1)) dX11_pace_31 ?_
    exact mr_iret dX11_pace_32 rfl (le_t rfl) (le_t rfl) hT mF.refl ⟨(rW (c := (-2147483648)) (d := 2147483647) (rR (x := (-1))) rfl), trivial⟩
  have h12 : 1 ≤ z8 ∧ z8 ≤ 1 := (vc_X12_pace_3 h9 h7.2.1 h7.2.2.1 hp1 h3.2 h7.1)
  have h13 : 0 ≤ p1 ∧ p1 < z1 := (h7.2.1 (vc_X11_pace_4 h7.2.1 h7.2.2.1 h9 h3.1 hp1 h3.2 h12))
  have h14 : 0 ≤ p1 ∧ p1 ≤ 19 := (vc_X11_pace_5 h13 h3.1 h7.2.1 h7.2.2.1 hp1 h3.2 h12)
  have h15 : 1 ≤ z1 ∧ z1 ≤ 20 := (vc_X11_pace_6 h13 h3.1 h7.2.1 h7.2.2.1 h14 h3.2 h12)
  refine mr_iload_n (pc := 8) (z := p2) dX11_pace_8 rfl rfl ?_
  refine mr_iconst (pc := 9) (z := 1) dX11_pace_9 ?_
  refine mr_icmp_lt (pc := 10) (tgt := 31) dX11_pace_10 (by decide) hp2 (r32 (rR (x := 1)) rfl) (fun h16 => ?_) (fun h16 => ?_)
  · have h17 : (-2147483648) ≤ p2 ∧ p2 ≤ 0 := (vc_X11_pace_7 h16 hp2)
    refine mr_iconst (pc := 31) (z := (-1)) dX11_pace_31 ?_
    exact mr_iret dX11_pace_32 rfl (le_t rfl) (le_t rfl) hT mF.refl ⟨(rW (c := (-2147483648)) (d := 2147483647) (rR (x := (-1))) rfl), trivial⟩
  have h18 : 1 ≤ p2 ∧ p2 ≤ 2147483647 := (vc_X11_pace_8 h16 hp2)
  refine mr_iload_n (pc := 13) (z := p2) dX11_pace_13 rfl rfl ?_
  refine mr_sipush (pc := 14) (z := 1000) dX11_pace_14 (by decide) ?_
  refine mr_icmp_gt (pc := 17) (tgt := 31) dX11_pace_17 (by decide) (r32 h18 rfl) (r32 (rR (x := 1000)) rfl) (fun h19 => ?_) (fun h19 => ?_)
  · have h20 : 1001 ≤ p2 ∧ p2 ≤ 2147483647 := (vc_X11_pace_9 h19 h16 h18)
    refine mr_iconst (pc := 31) (z := (-1)) dX11_pace_31 ?_
    exact mr_iret dX11_pace_32 rfl (le_t rfl) (le_t rfl) hT mF.refl ⟨(rW (c := (-2147483648)) (d := 2147483647) (rR (x := (-1))) rfl), trivial⟩
  have h21 : 1 ≤ p2 ∧ p2 ≤ 1000 := (vc_X11_pace_10 h19 h16 h18)
  refine mr_iload_n (pc := 20) (z := p3) dX11_pace_20 rfl rfl ?_
  refine mr_if_lt (pc := 21) (tgt := 31) dX11_pace_21 (by decide) hp3 (fun h22 => ?_) (fun h22 => ?_)
  · have h23 : (-2147483648) ≤ p3 ∧ p3 ≤ (-1) := (vc_X12_ring_60 h22 hp3)
    refine mr_iconst (pc := 31) (z := (-1)) dX11_pace_31 ?_
    exact mr_iret dX11_pace_32 rfl (le_t rfl) (le_t rfl) hT mF.refl ⟨(rW (c := (-2147483648)) (d := 2147483647) (rR (x := (-1))) rfl), trivial⟩
  have h24 : 0 ≤ p3 ∧ p3 ≤ 2147483647 := (vc_X12_ring_1 h22 hp3)
  refine mr_iload_n (pc := 24) (z := p3) dX11_pace_24 rfl rfl ?_
  refine mr_sipush (pc := 25) (z := 1000) dX11_pace_25 (by decide) ?_
  refine mr_icmp_le (pc := 28) (tgt := 33) dX11_pace_28 (by decide) (r32 h24 rfl) (r32 (rR (x := 1000)) rfl) (fun h25 => ?_) (fun h25 => ?_)
  · have h26 : 0 ≤ p3 ∧ p3 ≤ 1000 := (vc_X11_pace_13 h25 h22 h24)
    refine sv_aload_n (pc := 33) dX11_pace_33 rfl rfl ?_
    refine gf_X11_3 (pc := 34) dX11_pace_34 wF_X11_26 (A_0 hw) hT ?_
    refine gf_X10_4 (pc := 37) dX11_pace_37 wF_X11_122 (A_6 hw) hT ?_
    refine mr_iload_n (pc := 40) (z := p1) dX11_pace_40 rfl rfl ?_
    refine la_11 (pc := 41) dX11_pace_41 (A_11 hw) hT (rIx (n := 20) h14 rfl) (vc_X11_pace_14 h3.1 h7.2.1 h7.2.2.1 h13 h9 h14 h15 h12) fun b27 q28 A29 => ?_
    refine mr_iload_n (pc := 42) (z := p2) dX11_pace_42 rfl rfl ?_
    refine pf_X9_7 (pc := 43) dX11_pace_43 wF_X11_126 A29 hT (rW (c := 0) (d := 1000) h21 rfl) fun μ30 u31 T32 => ?_
    refine sv_aload_n (pc := 46) dX11_pace_46 rfl rfl ?_
    refine gf_X11_3 (pc := 47) dX11_pace_47 wF_X11_26 (A_0 hw) T32 ?_
    refine gf_X10_4 (pc := 50) dX11_pace_50 wF_X11_122 (A_6 hw) T32 ?_
    refine mr_iload_n (pc := 53) (z := p1) dX11_pace_53 rfl rfl ?_
    refine lk_11 (pc := 54) dX11_pace_54 (A_11 hw) (rIx (n := 20) h14 rfl) (u31.f (Or.inl (mAt.ne A29 (A_11 hw) rfl)) q28) ?_
    refine mr_iload_n (pc := 55) (z := p3) dX11_pace_55 rfl rfl ?_
    refine pf_X9_8 (pc := 56) dX11_pace_56 wF_X11_131 A29 T32 h26 fun μ33 u34 T35 => ?_
    refine mr_iconst (pc := 59) (z := 0) dX11_pace_59 ?_
    exact mr_iret dX11_pace_60 rfl (le_t rfl) (le_t rfl) T35 (mF.up (mF.up mF.refl A29 u31 rfl) A29 u34 rfl) ⟨(rW (c := (-2147483648)) (d := 2147483647) (rR (x := 0)) rfl), trivial⟩
  have h36 : 1001 ≤ p3 ∧ p3 ≤ 2147483647 := (vc_X11_pace_15 h25 h22 h24)
  refine mr_iconst (pc := 31) (z := (-1)) dX11_pace_31 ?_
  exact mr_iret dX11_pace_32 rfl (le_t rfl) (le_t rfl) hT mF.refl ⟨(rW (c := (-2147483648)) (d := 2147483647) (rR (x := (-1))) rfl), trivial⟩
theorem vc_X11_ring_3 {p1 z5 : Int} (h0 : p1 < z5) (h1 : 0 ≤ p1) (h2 : 0 ≤ p1 ∧ p1 ≤ 2147483647) (h3 : 0 ≤ z5 ∧ z5 ≤ 10) : 0 ≤ p1 ∧ p1 ≤ 9 := by omega
theorem vc_X11_ring_4 {p1 z5 : Int} (h0 : p1 < z5) (h1 : 0 ≤ p1) (h2 : 0 ≤ p1 ∧ p1 ≤ 9) (h3 : 0 ≤ z5 ∧ z5 ≤ 10) : 1 ≤ z5 ∧ z5 ≤ 10 := by omega
set_option maxRecDepth 4000 in
set_option maxHeartbeats 4000000 in
theorem c_X11_ring {l : Launch} {D : va_G} {c : Nat → ClassId} {H0 : Heap} {sa : Nat × Nat × (Nat → Int32)} {w : mW} {μ : mM} (hw : mWF w) (hT : mT w μ) {p1 : Int} (hp1 : (-2147483648) ≤ p1 ∧ p1 ≤ 2147483647) : sC (gG l D c H0 sa) mX11_ring 5 0 0 [.ref 0, iv p1] (mk w μ) (qI w [12999, 13999] μ (fun z μ1 => ((-2147483648) ≤ z ∧ z ≤ 2147483647) ∧ True)) := by
  refine sC.of rfl (by decide) (le_t rfl) ?_
  refine mr_lvE (lv' := [(0, .ref 0), (1, iv p1)]) rfl ?_
  refine sv_aload_n (pc := 0) dX11_ring_0 rfl rfl ?_
  refine gf_X11_3 (pc := 1) dX11_ring_1 wF_X11_26 (A_0 hw) hT ?_
  refine mr_cVI (pc := 4) (c_X10_findRing hw hT) (gOk _ _ _ _ _) dX11_ring_4 (tX10_findRing _ _ _ _ _) ⟨wV_X10_findRing, wL_X10_findRing⟩ wM_X11_162 (gCX10 _ _ _ _ _) rfl (A_6 hw) rfl ⟨le_t rfl, le_t rfl⟩ ⟨le_t rfl, le_t rfl⟩ rfl (le_t rfl) fun z5 μ1 T2 F3 h4 => ?_
  refine mr_istore_n (pc := 7) (lv' := [(2, iv z5), (0, .ref 0), (1, iv p1)]) dX11_ring_7 rfl (by decide) rfl ?_
  refine mr_iload_n (pc := 8) (z := p1) dX11_ring_8 rfl rfl ?_
  refine mr_if_lt (pc := 9) (tgt := 17) dX11_ring_9 (by decide) hp1 (fun h13 => ?_) (fun h13 => ?_)
  · have h14 : (-2147483648) ≤ p1 ∧ p1 ≤ (-1) := (vc_X12_ring_60 h13 hp1)
    refine mr_ldc (pc := 17) (z := (-99999999)) dX11_ring_17 wG_X11_165 (by decide) ?_
    refine sv_goto (pc := 19) (tgt := 31) dX11_ring_19 (by decide) ?_
    exact mr_iret dX11_ring_31 rfl (le_t rfl) (le_t rfl) T2 (mF.call mF.refl F3 rfl) ⟨(rW (c := (-2147483648)) (d := 2147483647) (rR (x := (-99999999))) rfl), trivial⟩
  have h15 : 0 ≤ p1 ∧ p1 ≤ 2147483647 := (vc_X12_ring_1 h13 hp1)
  refine mr_iload_n (pc := 12) (z := p1) dX11_ring_12 rfl rfl ?_
  refine mr_iload_n (pc := 13) (z := z5) dX11_ring_13 rfl rfl ?_
  refine mr_icmp_lt (pc := 14) (tgt := 22) dX11_ring_14 (by decide) (r32 h15 rfl) (r32 h4.1 rfl) (fun h21 => ?_) (fun h21 => ?_)
  · have h22 : 0 ≤ p1 ∧ p1 ≤ 9 := (vc_X11_ring_3 h21 h13 h15 h4.1)
    have h23 : 1 ≤ z5 ∧ z5 ≤ 10 := (vc_X11_ring_4 h21 h13 h22 h4.1)
    refine sv_aload_n (pc := 22) dX11_ring_22 rfl rfl ?_
    refine gf_X11_3 (pc := 23) dX11_ring_23 wF_X11_26 (A_0 hw) T2 ?_
    refine gf_X10_5 (pc := 26) dX11_ring_26 wF_X11_166 (A_6 hw) T2 ?_
    refine mr_iload_n (pc := 29) (z := p1) dX11_ring_29 rfl rfl ?_
    refine la_12 (pc := 30) dX11_ring_30 (A_12 hw) T2 (rIx (n := 10) h22 rfl) fun z24 q25 h26 => ?_
    exact mr_iret dX11_ring_31 rfl (le_t rfl) (le_t rfl) T2 (mF.call mF.refl F3 rfl) ⟨(rW (c := (-2147483648)) (d := 2147483647) h26 rfl), trivial⟩
  refine mr_ldc (pc := 17) (z := (-99999999)) dX11_ring_17 wG_X11_165 (by decide) ?_
  refine sv_goto (pc := 19) (tgt := 31) dX11_ring_19 (by decide) ?_
  exact mr_iret dX11_ring_31 rfl (le_t rfl) (le_t rfl) T2 (mF.call mF.refl F3 rfl) ⟨(rW (c := (-2147483648)) (d := 2147483647) (rR (x := (-99999999))) rfl), trivial⟩
theorem vc_X11_walk_1 {p1 : Int} (h0 : p1 < (-1)) (h1 : (-2147483648) ≤ p1 ∧ p1 ≤ 2147483647) : (-2147483648) ≤ p1 ∧ p1 ≤ (-2) := by omega
theorem vc_X11_walk_2 {p1 : Int} (h0 : (-1) ≤ p1) (h1 : (-2147483648) ≤ p1 ∧ p1 ≤ 2147483647) : (-1) ≤ p1 ∧ p1 ≤ 2147483647 := by omega
theorem vc_X11_walk_3 {p1 : Int} (h0 : p1 < 10) (h1 : (-1) ≤ p1) (h2 : (-1) ≤ p1 ∧ p1 ≤ 2147483647) : (-1) ≤ p1 ∧ p1 ≤ 9 := by omega
theorem vc_X11_walk_4 {p1 : Int} (h0 : ¬ p1 = (-1)) (h1 : (-1) ≤ p1) (h2 : p1 < 10) (h3 : (-1) ≤ p1 ∧ p1 ≤ 9) : 0 ≤ p1 ∧ p1 ≤ 9 := by omega
theorem vc_X11_walk_7 {p1 : Int} (h0 : p1 = (-1)) (h1 : (-1) ≤ p1) (h2 : p1 < 10) (h3 : (-1) ≤ p1 ∧ p1 ≤ 9) : (-1) ≤ p1 ∧ p1 ≤ (-1) := by omega
theorem vc_X11_walk_8 {p1 : Int} (h0 : 10 ≤ p1) (h1 : (-1) ≤ p1) (h2 : (-1) ≤ p1 ∧ p1 ≤ 2147483647) : 10 ≤ p1 ∧ p1 ≤ 2147483647 := by omega
set_option maxRecDepth 4000 in
set_option maxHeartbeats 4000000 in
theorem c_X11_walk {l : Launch} {D : va_G} {c : Nat → ClassId} {H0 : Heap} {sa : Nat × Nat × (Nat → Int32)} {w : mW} {μ : mM} (hw : mWF w) (hT : mT w μ) {p1 : Int} (hp1 : (-2147483648) ≤ p1 ∧ p1 ≤ 2147483647) : sC (gG l D c H0 sa) mX11_walk 1 0 0 [.ref 0, iv p1] (mk w μ) (qI w [11, 2999] μ (fun z μ1 => ((-2147483648) ≤ z ∧ z ≤ 2147483647) ∧ True)) := by
  refine sC.of rfl (by decide) (le_t rfl) ?_
  refine mr_lvE (lv' := [(0, .ref 0), (1, iv p1)]) rfl ?_
  refine mr_iload_n (pc := 0) (z := p1) dX11_walk_0 rfl rfl ?_
  refine mr_iconst (pc := 1) (z := (-1)) dX11_walk_1 ?_
  refine mr_icmp_lt (pc := 2) (tgt := 11) dX11_walk_2 (by decide) hp1 (r32 (rR (x := (-1))) rfl) (fun h1 => ?_) (fun h1 => ?_)
  · have h2 : (-2147483648) ≤ p1 ∧ p1 ≤ (-2) := (vc_X11_walk_1 h1 hp1)
    refine mr_iconst (pc := 11) (z := (-1)) dX11_walk_11 ?_
    exact mr_iret dX11_walk_12 rfl (le_t rfl) (le_t rfl) hT mF.refl ⟨(rW (c := (-2147483648)) (d := 2147483647) (rR (x := (-1))) rfl), trivial⟩
  have h3 : (-1) ≤ p1 ∧ p1 ≤ 2147483647 := (vc_X11_walk_2 h1 hp1)
  refine mr_iload_n (pc := 5) (z := p1) dX11_walk_5 rfl rfl ?_
  refine mr_bipush (pc := 6) (z := 10) dX11_walk_6 (by decide) ?_
  refine mr_icmp_lt (pc := 8) (tgt := 13) dX11_walk_8 (by decide) (r32 h3 rfl) (r32 (rR (x := 10)) rfl) (fun h4 => ?_) (fun h4 => ?_)
  · have h5 : (-1) ≤ p1 ∧ p1 ≤ 9 := (vc_X11_walk_3 h4 h1 h3)
    refine mr_iload_n (pc := 13) (z := p1) dX11_walk_13 rfl rfl ?_
    refine mr_iconst (pc := 14) (z := (-1)) dX11_walk_14 ?_
    refine mr_icmp_ne (pc := 15) (tgt := 25) dX11_walk_15 (by decide) (r32 h5 rfl) (r32 (rR (x := (-1))) rfl) (fun h6 => ?_) (fun h6 => ?_)
    · have h7 : 0 ≤ p1 ∧ p1 ≤ 9 := (vc_X11_walk_4 h6 h1 h4 h5)
      refine sv_aload_n (pc := 25) dX11_walk_25 rfl rfl ?_
      refine gf_X11_11 (pc := 26) dX11_walk_26 wF_X11_169 (A_0 hw) hT fun z8 q9 h10 => ?_
      refine mr_bipush (pc := 29) (z := 20) dX11_walk_29 (by decide) ?_
      refine mr_icmp_lt (pc := 31) (tgt := 37) dX11_walk_31 (by decide) (r32 h10 rfl) (r32 (rR (x := 20)) rfl) (fun h11 => ?_) (fun h11 => ?_)
      · have h12 : 0 ≤ z8 ∧ z8 ≤ 19 := (vc_X12_same_30 h11 h10)
        refine sv_aload_n (pc := 37) dX11_walk_37 rfl rfl ?_
        refine gf_X11_1 (pc := 38) dX11_walk_38 wF_X11_13 (A_0 hw) hT ?_
        refine sv_aload_n (pc := 41) dX11_walk_41 rfl rfl ?_
        refine gk_X11_11 (pc := 42) dX11_walk_42 wF_X11_169 (A_0 hw) q9 ?_
        refine mr_iload_n (pc := 45) (z := p1) dX11_walk_45 rfl rfl ?_
        refine ss_2 (pc := 46) dX11_walk_46 (A_2 hw) hT (rIx (n := 20) h12 rfl) h7 fun μ13 u14 T15 => ?_
        refine sv_aload_n (pc := 47) dX11_walk_47 rfl rfl ?_
        refine sv_dup (pc := 48) dX11_walk_48 rfl ?_
        refine gk_X11_11 (pc := 49) dX11_walk_49 wF_X11_169 (A_0 hw) (u14.f (Or.inl (mAt.ne (A_2 hw) (A_0 hw) rfl)) q9) ?_
        refine mr_iconst (pc := 52) (z := 1) dX11_walk_52 ?_
        refine mr_iadd (pc := 53) (x := z8) (y := 1) dX11_walk_53 ?_
        refine pf_X11_11 (pc := 54) dX11_walk_54 wF_X11_169 (A_0 hw) T15 (rW (c := 0) (d := 20) (rAdd (e := 1) (f := 20) h12 (rR (x := 1)) rfl) rfl) fun μ16 u17 T18 => ?_
        refine sv_aload_n (pc := 57) dX11_walk_57 rfl rfl ?_
        refine gk_X11_11 (pc := 58) dX11_walk_58 wF_X11_169 (A_0 hw) u17.1 ?_
        exact mr_iret dX11_walk_61 rfl (le_t rfl) (le_t rfl) T18 (mF.up (mF.up mF.refl (A_2 hw) u14 rfl) (A_0 hw) u17 rfl) ⟨(rW (c := (-2147483648)) (d := 2147483647) (rAdd (e := 1) (f := 20) h12 (rR (x := 1)) rfl) rfl), trivial⟩
      have h19 : 20 ≤ z8 ∧ z8 ≤ 20 := (vc_X12_same_29 h11 h10)
      refine mr_bipush (pc := 34) (z := (-3)) dX11_walk_34 (by decide) ?_
      exact mr_iret dX11_walk_36 rfl (le_t rfl) (le_t rfl) hT mF.refl ⟨(rW (c := (-2147483648)) (d := 2147483647) (rR (x := (-3))) rfl), trivial⟩
    have h20 : (-1) ≤ p1 ∧ p1 ≤ (-1) := (vc_X11_walk_7 h6 h1 h4 h5)
    refine sv_aload_n (pc := 18) dX11_walk_18 rfl rfl ?_
    refine mr_iconst (pc := 19) (z := 0) dX11_walk_19 ?_
    refine pf_X11_11 (pc := 20) dX11_walk_20 wF_X11_169 (A_0 hw) hT (rW (c := 0) (d := 20) (rR (x := 0)) rfl) fun μ21 u22 T23 => ?_
    refine mr_iconst (pc := 23) (z := 0) dX11_walk_23 ?_
    exact mr_iret dX11_walk_24 rfl (le_t rfl) (le_t rfl) T23 (mF.up mF.refl (A_0 hw) u22 rfl) ⟨(rW (c := (-2147483648)) (d := 2147483647) (rR (x := 0)) rfl), trivial⟩
  have h24 : 10 ≤ p1 ∧ p1 ≤ 2147483647 := (vc_X11_walk_8 h4 h1 h3)
  refine mr_iconst (pc := 11) (z := (-1)) dX11_walk_11 ?_
  exact mr_iret dX11_walk_12 rfl (le_t rfl) (le_t rfl) hT mF.refl ⟨(rW (c := (-2147483648)) (d := 2147483647) (rR (x := (-1))) rfl), trivial⟩
set_option maxRecDepth 4000 in
set_option maxHeartbeats 4000000 in
theorem c_X11_letWay {l : Launch} {D : va_G} {c : Nat → ClassId} {H0 : Heap} {sa : Nat × Nat × (Nat → Int32)} {w : mW} {μ : mM} (hw : mWF w) (hT : mT w μ) : sC (gG l D c H0 sa) mX11_letWay 3 0 0 [.ref 0] (mk w μ) (qP w μ (fun z => ((-2147483648) ≤ z ∧ z ≤ 2147483647) ∧ True)) := by
  refine sC.of rfl (by decide) (le_t rfl) ?_
  refine mr_lvE (lv' := [(0, .ref 0)]) rfl ?_
  refine sv_aload_n (pc := 0) dX11_letWay_0 rfl rfl ?_
  refine gf_X11_3 (pc := 1) dX11_letWay_1 wF_X11_26 (A_0 hw) hT ?_
  refine sv_aload_n (pc := 4) dX11_letWay_4 rfl rfl ?_
  refine gf_X11_1 (pc := 5) dX11_letWay_5 wF_X11_13 (A_0 hw) hT ?_
  refine sv_aload_n (pc := 8) dX11_letWay_8 rfl rfl ?_
  refine gf_X11_11 (pc := 9) dX11_letWay_9 wF_X11_169 (A_0 hw) hT fun z1 q2 h3 => ?_
  refine mr_cVP (pc := 12) (c_X10_firstWrongStep hw hT (A_2 hw) h3) (gOk _ _ _ _ _) dX11_letWay_12 (tX10_firstWrongStep _ _ _ _ _) ⟨wV_X10_firstWrongStep, wL_X10_firstWrongStep⟩ wM_X11_172 (gCX10 _ _ _ _ _) rfl (A_6 hw) rfl ⟨le_t rfl, le_t rfl⟩ ⟨le_t rfl, le_t rfl⟩ rfl (le_t rfl) fun z8 h7 => ?_
  refine mr_iconst (pc := 15) (z := 1) dX11_letWay_15 ?_
  refine mr_iadd (pc := 16) (x := z8) (y := 1) dX11_letWay_16 ?_
  exact mr_iretP dX11_letWay_17 rfl (le_t rfl) (le_t rfl) ⟨(rW (c := (-2147483648)) (d := 2147483647) (rAdd (e := 0) (f := 20) h7.1 (rR (x := 1)) rfl) rfl), trivial⟩
set_option maxRecDepth 4000 in
set_option maxHeartbeats 4000000 in
theorem c_X11_verdict {l : Launch} {D : va_G} {c : Nat → ClassId} {H0 : Heap} {sa : Nat × Nat × (Nat → Int32)} {w : mW} {μ : mM} (hw : mWF w) (hT : mT w μ) {p1 : Int} (hp1 : (-2147483648) ≤ p1 ∧ p1 ≤ 2147483647) {p2 : Int} (hp2 : (-2147483648) ≤ p2 ∧ p2 ≤ 2147483647) {p3 : Int} (hp3 : (-2147483648) ≤ p3 ∧ p3 ≤ 2147483647) {p4 : Int} (hp4 : (-2147483648) ≤ p4 ∧ p4 ≤ 2147483647) : sC (gG l D c H0 sa) mX11_verdict 2 0 0 [.ref 0, iv p1, iv p2, iv p3, iv p4] (mk w μ) (qP w μ (fun z => ((-2147483648) ≤ z ∧ z ≤ 2147483647) ∧ True)) := by
  refine sC.of rfl (by decide) (le_t rfl) ?_
  refine mr_lvE (lv' := [(0, .ref 0), (1, iv p1), (2, iv p2), (3, iv p3), (4, iv p4)]) rfl ?_
  refine sv_aload_n (pc := 0) dX11_verdict_0 rfl rfl ?_
  refine mr_iload_n (pc := 1) (z := p1) dX11_verdict_1 rfl rfl ?_
  obtain ⟨z1, q2⟩ : ∃ z, μ 6 14 = z := ⟨_, rfl⟩
  have h3 : (0 ≤ z1 ∧ z1 ≤ 10) := by rw [← q2]; exact hT 6 6 (A_6 hw) 14
  refine mr_cVP (pc := 2) (c_X11_isPrefix hw hT hp1 q2) (gOk _ _ _ _ _) dX11_verdict_2 (tX11_isPrefix _ _ _ _ _) ⟨wV_X11_isPrefix, wL_X11_isPrefix⟩ wM_X11_182 (gCX11 _ _ _ _ _) rfl (A_0 hw) rfl ⟨le_t rfl, le_t rfl⟩ ⟨le_t rfl, le_t rfl⟩ rfl (le_t rfl) fun z8 h7 => ?_
  refine mr_if_eq (pc := 5) (tgt := 17) dX11_verdict_5 (by decide) (r32 h7.1 rfl) (fun h9 => ?_) (fun h9 => ?_)
  · have h10 : 0 ≤ z8 ∧ z8 ≤ 0 := (vc_X12_write_78 h9 h7.2.1 h7.2.2.1 hp1 h3 h7.1)
    have h11 : p1 < 0 ∨ z1 ≤ p1 := (h7.2.2.1 (vc_X12_write_79 h7.2.1 h7.2.2.1 h9 hp1 h3 h10))
    refine mr_iconst (pc := 17) (z := (-1)) dX11_verdict_17 ?_
    exact mr_iretP dX11_verdict_18 rfl (le_t rfl) (le_t rfl) ⟨(rW (c := (-2147483648)) (d := 2147483647) (rR (x := (-1))) rfl), trivial⟩
  have h12 : 1 ≤ z8 ∧ z8 ≤ 1 := (vc_X12_write_12 h9 h7.2.1 h7.2.2.1 hp1 h3 h7.1)
  have h13 : 0 ≤ p1 ∧ p1 < z1 := (h7.2.1 (vc_X12_write_13 h7.2.1 h7.2.2.1 h9 hp1 h3 h12))
  have h14 : 0 ≤ p1 ∧ p1 ≤ 9 := (vc_X12_write_14 h13 h7.2.1 h7.2.2.1 hp1 h3 h12)
  have h15 : 1 ≤ z1 ∧ z1 ≤ 10 := (vc_X12_write_15 h13 h7.2.1 h7.2.2.1 h14 h3 h12)
  refine mr_iload_n (pc := 8) (z := p3) dX11_verdict_8 rfl rfl ?_
  refine mr_if_lt (pc := 9) (tgt := 17) dX11_verdict_9 (by decide) hp3 (fun h16 => ?_) (fun h16 => ?_)
  · have h17 : (-2147483648) ≤ p3 ∧ p3 ≤ (-1) := (vc_X12_ring_60 h16 hp3)
    refine mr_iconst (pc := 17) (z := (-1)) dX11_verdict_17 ?_
    exact mr_iretP dX11_verdict_18 rfl (le_t rfl) (le_t rfl) ⟨(rW (c := (-2147483648)) (d := 2147483647) (rR (x := (-1))) rfl), trivial⟩
  have h18 : 0 ≤ p3 ∧ p3 ≤ 2147483647 := (vc_X12_ring_1 h16 hp3)
  refine mr_iload (pc := 12) (z := p4) dX11_verdict_12 rfl ?_
  refine mr_if_ge (pc := 14) (tgt := 19) dX11_verdict_14 (by decide) hp4 (fun h19 => ?_) (fun h19 => ?_)
  · have h20 : 0 ≤ p4 ∧ p4 ≤ 2147483647 := (vc_X12_ring_1 h19 hp4)
    refine sv_aload_n (pc := 19) dX11_verdict_19 rfl rfl ?_
    refine gf_X11_3 (pc := 20) dX11_verdict_20 wF_X11_26 (A_0 hw) hT ?_
    refine mr_iload_n (pc := 23) (z := p1) dX11_verdict_23 rfl rfl ?_
    refine mr_iload_n (pc := 24) (z := p2) dX11_verdict_24 rfl rfl ?_
    refine mr_iload_n (pc := 25) (z := p3) dX11_verdict_25 rfl rfl ?_
    refine mr_iload (pc := 26) (z := p4) dX11_verdict_26 rfl ?_
    refine mr_cVP (pc := 28) (c_X10_verdictOn hw hT h14 hp2 (rW (c := (-2147483648)) (d := 2147483647) h18 rfl) (rW (c := (-2147483648)) (d := 2147483647) h20 rfl)) (gOk _ _ _ _ _) dX11_verdict_28 (tX10_verdictOn _ _ _ _ _) ⟨wV_X10_verdictOn, wL_X10_verdictOn⟩ wM_X11_201 (gCX10 _ _ _ _ _) rfl (A_6 hw) rfl ⟨le_t rfl, le_t rfl⟩ ⟨le_t rfl, le_t rfl⟩ rfl (le_t rfl) fun z25 h24 => ?_
    exact mr_iretP dX11_verdict_31 rfl (le_t rfl) (le_t rfl) ⟨(rW (c := (-2147483648)) (d := 2147483647) h24.1 rfl), trivial⟩
  have h26 : (-2147483648) ≤ p4 ∧ p4 ≤ (-1) := (vc_X12_ring_60 h19 hp4)
  refine mr_iconst (pc := 17) (z := (-1)) dX11_verdict_17 ?_
  exact mr_iretP dX11_verdict_18 rfl (le_t rfl) (le_t rfl) ⟨(rW (c := (-2147483648)) (d := 2147483647) (rR (x := (-1))) rfl), trivial⟩
set_option maxRecDepth 4000 in
set_option maxHeartbeats 4000000 in
theorem c_X11_fault {l : Launch} {D : va_G} {c : Nat → ClassId} {H0 : Heap} {sa : Nat × Nat × (Nat → Int32)} {w : mW} {μ : mM} (hw : mWF w) (hT : mT w μ) : sC (gG l D c H0 sa) mX11_fault 1 0 0 [.ref 0] (mk w μ) (qP w μ (fun z => ((-2147483648) ≤ z ∧ z ≤ 2147483647) ∧ True)) := by
  refine sC.of rfl (by decide) (le_t rfl) ?_
  refine mr_lvE (lv' := [(0, .ref 0)]) rfl ?_
  refine sv_aload_n (pc := 0) dX11_fault_0 rfl rfl ?_
  refine gf_X11_5 (pc := 1) dX11_fault_1 wF_X11_42 (A_0 hw) hT ?_
  refine gf_X6_18 (pc := 4) dX11_fault_4 wF_X11_212 (A_23 hw) hT fun z1 q2 h3 => ?_
  exact mr_iretP dX11_fault_7 rfl (le_t rfl) (le_t rfl) ⟨(rW (c := (-2147483648)) (d := 2147483647) h3 rfl), trivial⟩
theorem vc_X11_route_12 {p3 : Int} (h0 : 2 < p3) (h1 : 0 ≤ p3) (h2 : 0 ≤ p3 ∧ p3 ≤ 2147483647) : 3 ≤ p3 ∧ p3 ≤ 2147483647 := by omega
theorem vc_X11_route_13 {p3 : Int} (h0 : p3 ≤ 2) (h1 : 0 ≤ p3) (h2 : 0 ≤ p3 ∧ p3 ≤ 2147483647) : 0 ≤ p3 ∧ p3 ≤ 2 := by omega
theorem vc_X11_route_16 {p4 : Int} (h0 : p4 ≤ 1000000) (h1 : 0 ≤ p4) (h2 : 0 ≤ p4 ∧ p4 ≤ 2147483647) : 0 ≤ p4 ∧ p4 ≤ 1000000 := by omega
theorem vc_X11_route_20 {p4 : Int} (h0 : 1000000 < p4) (h1 : 0 ≤ p4) (h2 : 0 ≤ p4 ∧ p4 ≤ 2147483647) : 1000001 ≤ p4 ∧ p4 ≤ 2147483647 := by omega
set_option maxRecDepth 4000 in
set_option maxHeartbeats 4000000 in
theorem c_X11_route {l : Launch} {D : va_G} {c : Nat → ClassId} {H0 : Heap} {sa : Nat × Nat × (Nat → Int32)} {w : mW} {μ : mM} (hw : mWF w) (hT : mT w μ) {p1 : Int} (hp1 : (-2147483648) ≤ p1 ∧ p1 ≤ 2147483647) {p2 : Int} (hp2 : (-2147483648) ≤ p2 ∧ p2 ≤ 2147483647) {p3 : Int} (hp3 : (-2147483648) ≤ p3 ∧ p3 ≤ 2147483647) {p4 : Int} (hp4 : (-2147483648) ≤ p4 ∧ p4 ≤ 2147483647) : sC (gG l D c H0 sa) mX11_route 3 0 0 [.ref 0, iv p1, iv p2, iv p3, iv p4] (mk w μ) (qI w [200002, 200003, 200004, 200005, 200006, 200007, 200008, 201999] μ (fun z μ1 => ((-2147483648) ≤ z ∧ z ≤ 2147483647) ∧ True)) := by
  refine sC.of rfl (by decide) (le_t rfl) ?_
  refine mr_lvE (lv' := [(0, .ref 0), (1, iv p1), (2, iv p2), (3, iv p3), (4, iv p4)]) rfl ?_
  refine sv_aload_n (pc := 0) dX11_route_0 rfl rfl ?_
  refine mr_iload_n (pc := 1) (z := p1) dX11_route_1 rfl rfl ?_
  obtain ⟨z1, q2⟩ : ∃ z, μ 6 14 = z := ⟨_, rfl⟩
  have h3 : (0 ≤ z1 ∧ z1 ≤ 10) := by rw [← q2]; exact hT 6 6 (A_6 hw) 14
  refine mr_cVP (pc := 2) (c_X11_isPrefix hw hT hp1 q2) (gOk _ _ _ _ _) dX11_route_2 (tX11_isPrefix _ _ _ _ _) ⟨wV_X11_isPrefix, wL_X11_isPrefix⟩ wM_X11_182 (gCX11 _ _ _ _ _) rfl (A_0 hw) rfl ⟨le_t rfl, le_t rfl⟩ ⟨le_t rfl, le_t rfl⟩ rfl (le_t rfl) fun z8 h7 => ?_
  refine mr_if_eq (pc := 5) (tgt := 19) dX11_route_5 (by decide) (r32 h7.1 rfl) (fun h9 => ?_) (fun h9 => ?_)
  · have h10 : 0 ≤ z8 ∧ z8 ≤ 0 := (vc_X12_write_78 h9 h7.2.1 h7.2.2.1 hp1 h3 h7.1)
    have h11 : p1 < 0 ∨ z1 ≤ p1 := (h7.2.2.1 (vc_X12_write_79 h7.2.1 h7.2.2.1 h9 hp1 h3 h10))
    refine mr_iconst (pc := 19) (z := (-1)) dX11_route_19 ?_
    exact mr_iret dX11_route_20 rfl (le_t rfl) (le_t rfl) hT mF.refl ⟨(rW (c := (-2147483648)) (d := 2147483647) (rR (x := (-1))) rfl), trivial⟩
  have h12 : 1 ≤ z8 ∧ z8 ≤ 1 := (vc_X12_write_12 h9 h7.2.1 h7.2.2.1 hp1 h3 h7.1)
  have h13 : 0 ≤ p1 ∧ p1 < z1 := (h7.2.1 (vc_X12_write_13 h7.2.1 h7.2.2.1 h9 hp1 h3 h12))
  have h14 : 0 ≤ p1 ∧ p1 ≤ 9 := (vc_X12_write_14 h13 h7.2.1 h7.2.2.1 hp1 h3 h12)
  have h15 : 1 ≤ z1 ∧ z1 ≤ 10 := (vc_X12_write_15 h13 h7.2.1 h7.2.2.1 h14 h3 h12)
  refine mr_iload_n (pc := 8) (z := p2) dX11_route_8 rfl rfl ?_
  refine mr_if_lt (pc := 9) (tgt := 19) dX11_route_9 (by decide) hp2 (fun h16 => ?_) (fun h16 => ?_)
  · have h17 : (-2147483648) ≤ p2 ∧ p2 ≤ (-1) := (vc_X12_ring_60 h16 hp2)
    refine mr_iconst (pc := 19) (z := (-1)) dX11_route_19 ?_
    exact mr_iret dX11_route_20 rfl (le_t rfl) (le_t rfl) hT mF.refl ⟨(rW (c := (-2147483648)) (d := 2147483647) (rR (x := (-1))) rfl), trivial⟩
  have h18 : 0 ≤ p2 ∧ p2 ≤ 2147483647 := (vc_X12_ring_1 h16 hp2)
  refine mr_iload_n (pc := 12) (z := p2) dX11_route_12 rfl rfl ?_
  refine mr_sipush (pc := 13) (z := 1000) dX11_route_13 (by decide) ?_
  refine mr_icmp_le (pc := 16) (tgt := 21) dX11_route_16 (by decide) (r32 h18 rfl) (r32 (rR (x := 1000)) rfl) (fun h19 => ?_) (fun h19 => ?_)
  · have h20 : 0 ≤ p2 ∧ p2 ≤ 1000 := (vc_X11_pace_13 h19 h16 h18)
    refine mr_iload_n (pc := 21) (z := p3) dX11_route_21 rfl rfl ?_
    refine mr_if_lt (pc := 22) (tgt := 42) dX11_route_22 (by decide) hp3 (fun h21 => ?_) (fun h21 => ?_)
    · have h22 : (-2147483648) ≤ p3 ∧ p3 ≤ (-1) := (vc_X12_ring_60 h21 hp3)
      refine mr_iconst (pc := 42) (z := (-1)) dX11_route_42 ?_
      exact mr_iret dX11_route_43 rfl (le_t rfl) (le_t rfl) hT mF.refl ⟨(rW (c := (-2147483648)) (d := 2147483647) (rR (x := (-1))) rfl), trivial⟩
    have h23 : 0 ≤ p3 ∧ p3 ≤ 2147483647 := (vc_X12_ring_1 h21 hp3)
    refine mr_iload_n (pc := 25) (z := p3) dX11_route_25 rfl rfl ?_
    refine mr_iconst (pc := 26) (z := 2) dX11_route_26 ?_
    refine mr_icmp_gt (pc := 27) (tgt := 42) dX11_route_27 (by decide) (r32 h23 rfl) (r32 (rR (x := 2)) rfl) (fun h24 => ?_) (fun h24 => ?_)
    · have h25 : 3 ≤ p3 ∧ p3 ≤ 2147483647 := (vc_X11_route_12 h24 h21 h23)
      refine mr_iconst (pc := 42) (z := (-1)) dX11_route_42 ?_
      exact mr_iret dX11_route_43 rfl (le_t rfl) (le_t rfl) hT mF.refl ⟨(rW (c := (-2147483648)) (d := 2147483647) (rR (x := (-1))) rfl), trivial⟩
    have h26 : 0 ≤ p3 ∧ p3 ≤ 2 := (vc_X11_route_13 h24 h21 h23)
    refine mr_iload (pc := 30) (z := p4) dX11_route_30 rfl ?_
    refine mr_if_lt (pc := 32) (tgt := 42) dX11_route_32 (by decide) hp4 (fun h27 => ?_) (fun h27 => ?_)
    · have h28 : (-2147483648) ≤ p4 ∧ p4 ≤ (-1) := (vc_X12_ring_60 h27 hp4)
      refine mr_iconst (pc := 42) (z := (-1)) dX11_route_42 ?_
      exact mr_iret dX11_route_43 rfl (le_t rfl) (le_t rfl) hT mF.refl ⟨(rW (c := (-2147483648)) (d := 2147483647) (rR (x := (-1))) rfl), trivial⟩
    have h29 : 0 ≤ p4 ∧ p4 ≤ 2147483647 := (vc_X12_ring_1 h27 hp4)
    refine mr_iload (pc := 35) (z := p4) dX11_route_35 rfl ?_
    refine mr_ldc (pc := 37) (z := 1000000) dX11_route_37 wG_X11_226 (by decide) ?_
    refine mr_icmp_le (pc := 39) (tgt := 44) dX11_route_39 (by decide) (r32 h29 rfl) (r32 (rR (x := 1000000)) rfl) (fun h30 => ?_) (fun h30 => ?_)
    · have h31 : 0 ≤ p4 ∧ p4 ≤ 1000000 := (vc_X11_route_16 h30 h27 h29)
      refine sv_aload_n (pc := 44) dX11_route_44 rfl rfl ?_
      refine gf_X11_2 (pc := 45) dX11_route_45 wF_X11_19 (A_0 hw) hT ?_
      refine mr_iload_n (pc := 48) (z := p1) dX11_route_48 rfl rfl ?_
      refine mr_iload_n (pc := 49) (z := p3) dX11_route_49 rfl rfl ?_
      refine mr_cVV (pc := 50) (c_X7_begin hw hT (A_3 hw) h14 (rW (c := (-2147483648)) (d := 2147483647) h26 rfl)) (gOk _ _ _ _ _) dX11_route_50 (tX7_begin _ _ _ _ _) ⟨wV_X7_begin, wL_X7_begin⟩ wM_X11_227 (gCX7 _ _ _ _ _) rfl (A_3 hw) rfl ⟨le_t rfl, le_t rfl⟩ ⟨le_t rfl, le_t rfl⟩ rfl (le_t rfl) fun μ32 T33 F34 h35 => ?_
      refine sv_aload_n (pc := 53) dX11_route_53 rfl rfl ?_
      refine gf_X11_2 (pc := 54) dX11_route_54 wF_X11_19 (A_0 hw) T33 ?_
      refine mr_iload_n (pc := 57) (z := p2) dX11_route_57 rfl rfl ?_
      refine pf_X7_4 (pc := 58) dX11_route_58 wF_X11_230 (A_3 hw) T33 (rW (c := (-2147483648)) (d := 2147483647) h20 rfl) fun μ36 u37 T38 => ?_
      refine sv_aload_n (pc := 61) dX11_route_61 rfl rfl ?_
      refine gf_X11_2 (pc := 62) dX11_route_62 wF_X11_19 (A_0 hw) T38 ?_
      refine mr_iload (pc := 65) (z := p4) dX11_route_65 rfl ?_
      refine pf_X7_6 (pc := 67) dX11_route_67 wF_X11_233 (A_3 hw) T38 (rW (c := (-2147483648)) (d := 2147483647) h31 rfl) fun μ39 u40 T41 => ?_
      refine sv_aload_n (pc := 70) dX11_route_70 rfl rfl ?_
      refine gf_X11_1 (pc := 71) dX11_route_71 wF_X11_13 (A_0 hw) T41 ?_
      refine mr_iconst (pc := 74) (z := 0) dX11_route_74 ?_
      refine sv_aload_n (pc := 75) dX11_route_75 rfl rfl ?_
      refine gf_X11_2 (pc := 76) dX11_route_76 wF_X11_19 (A_0 hw) T41 ?_
      refine gf_X7_0 (pc := 79) dX11_route_79 wF_X11_236 (A_3 hw) T41 fun A42 => ?_
      refine mr_iconst (pc := 82) (z := 0) dX11_route_82 ?_
      refine sv_aload_n (pc := 83) dX11_route_83 rfl rfl ?_
      refine gf_X11_11 (pc := 84) dX11_route_84 wF_X11_169 (A_0 hw) T41 fun z43 q44 h45 => ?_
      refine mr_ac (pc := 87) (sp := 0) (dp := 0) (n := z43) dX11_route_87 wM_X11_239 wN_J_ac wS_J_ac wI_J_sys rfl (A_2 hw) rfl A42 rfl vc_X7_become_1 vc_X7_become_1 (vc_X7_become_2 h45) (by have h := (A_2 hw).2.2.2 rfl; rw [h]; exact (vc_X7_become_3 h45)) (by have h := A42.2.2.2 rfl; rw [h]; exact (vc_X7_become_3 h45)) (Nat.le_trans (A_2 hw).2.2.1 (le_t rfl)) (Nat.le_trans A42.2.2.1 (le_t rfl)) (le_t rfl) (le_t rfl) (le_t rfl) T41 (fun i j _ _ => rW (T41 _ _ (A_2 hw) i) rfl) fun μ46 q47 T48 => ?_
      have F49 : mF [201999] w μ39 μ46 := mF.cell q47.1 A42 rfl
      refine sv_aload_n (pc := 90) dX11_route_90 rfl rfl ?_
      refine gf_X11_2 (pc := 91) dX11_route_91 wF_X11_19 (A_0 hw) T48 ?_
      refine sv_aload_n (pc := 94) dX11_route_94 rfl rfl ?_
      refine gk_X11_11 (pc := 95) dX11_route_95 wF_X11_169 (A_0 hw) (F49.f (A_0 hw) rfl q44) ?_
      refine pf_X7_7 (pc := 98) dX11_route_98 wF_X11_245 (A_3 hw) T48 h45 fun μ50 u51 T52 => ?_
      refine mr_iconst (pc := 101) (z := 0) dX11_route_101 ?_
      exact mr_iret dX11_route_102 rfl (le_t rfl) (le_t rfl) T52 (mF.up (mF.call (mF.up (mF.up (mF.call mF.refl F34 rfl) (A_3 hw) u37 rfl) (A_3 hw) u40 rfl) F49 rfl) (A_3 hw) u51 rfl) ⟨(rW (c := (-2147483648)) (d := 2147483647) (rR (x := 0)) rfl), trivial⟩
    have h53 : 1000001 ≤ p4 ∧ p4 ≤ 2147483647 := (vc_X11_route_20 h30 h27 h29)
    refine mr_iconst (pc := 42) (z := (-1)) dX11_route_42 ?_
    exact mr_iret dX11_route_43 rfl (le_t rfl) (le_t rfl) hT mF.refl ⟨(rW (c := (-2147483648)) (d := 2147483647) (rR (x := (-1))) rfl), trivial⟩
  have h54 : 1001 ≤ p2 ∧ p2 ≤ 2147483647 := (vc_X11_pace_15 h19 h16 h18)
  refine mr_iconst (pc := 19) (z := (-1)) dX11_route_19 ?_
  exact mr_iret dX11_route_20 rfl (le_t rfl) (le_t rfl) hT mF.refl ⟨(rW (c := (-2147483648)) (d := 2147483647) (rR (x := (-1))) rfl), trivial⟩
theorem vc_X11_rowInHand_1 {p1 : Int} (h0 : p1 < 10) (h1 : (-2147483648) ≤ p1 ∧ p1 ≤ 2147483647) : (-2147483648) ≤ p1 ∧ p1 ≤ 9 := by omega
theorem vc_X11_rowInHand_2 {p1 : Int} (h0 : 100 ≤ p1) (h1 : (-2147483648) ≤ p1 ∧ p1 ≤ 9) : False := by omega
theorem vc_X11_rowInHand_3 {p1 : Int} (h0 : 10 ≤ p1) (h1 : (-2147483648) ≤ p1 ∧ p1 ≤ 2147483647) : 10 ≤ p1 ∧ p1 ≤ 2147483647 := by omega
theorem vc_X11_rowInHand_4 {p1 z4 : Int} (h0 : p1 < 100) (h1 : 10 ≤ p1) (h2 : (10 + z4) ≤ p1) (h3 : 10 ≤ p1 ∧ p1 ≤ 2147483647) (h4 : 0 ≤ z4 ∧ z4 ≤ 20) : 10 ≤ p1 ∧ p1 ≤ 99 := by omega
theorem vc_X11_rowInHand_5 {p1 z4 : Int} (h0 : 100 ≤ p1) (h1 : 10 ≤ p1) (h2 : (10 + z4) ≤ p1) (h3 : 10 ≤ p1 ∧ p1 ≤ 2147483647) (h4 : 0 ≤ z4 ∧ z4 ≤ 20) : 100 ≤ p1 ∧ p1 ≤ 2147483647 := by omega
theorem vc_X11_rowInHand_6 {p1 z11 z4 : Int} (h0 : p1 < (100 + z11)) (h1 : 10 ≤ p1) (h2 : (10 + z4) ≤ p1) (h3 : 100 ≤ p1) (h4 : 100 ≤ p1 ∧ p1 ≤ 2147483647) (h5 : 0 ≤ z11 ∧ z11 ≤ 8) (h6 : 0 ≤ z4 ∧ z4 ≤ 20) : 100 ≤ p1 ∧ p1 ≤ 107 := by omega
theorem vc_X11_rowInHand_7 {p1 z11 z4 : Int} (h0 : p1 < (100 + z11)) (h1 : 10 ≤ p1) (h2 : (10 + z4) ≤ p1) (h3 : 100 ≤ p1) (h4 : 100 ≤ p1 ∧ p1 ≤ 107) (h5 : 0 ≤ z11 ∧ z11 ≤ 8) (h6 : 0 ≤ z4 ∧ z4 ≤ 20) : 1 ≤ z11 ∧ z11 ≤ 8 := by omega
theorem vc_X11_rowInHand_8 {p1 z4 : Int} (h0 : p1 < (10 + z4)) (h1 : 10 ≤ p1) (h2 : 10 ≤ p1 ∧ p1 ≤ 2147483647) (h3 : 0 ≤ z4 ∧ z4 ≤ 20) : 10 ≤ p1 ∧ p1 ≤ 29 := by omega
theorem vc_X11_rowInHand_9 {p1 z4 : Int} (h0 : p1 < (10 + z4)) (h1 : 10 ≤ p1) (h2 : 10 ≤ p1 ∧ p1 ≤ 29) (h3 : 0 ≤ z4 ∧ z4 ≤ 20) : 1 ≤ z4 ∧ z4 ≤ 20 := by omega
set_option maxRecDepth 4000 in
set_option maxHeartbeats 4000000 in
theorem c_X11_rowInHand {l : Launch} {D : va_G} {c : Nat → ClassId} {H0 : Heap} {sa : Nat × Nat × (Nat → Int32)} {w : mW} {μ : mM} (hw : mWF w) (hT : mT w μ) {p1 : Int} (hp1 : (-2147483648) ≤ p1 ∧ p1 ≤ 2147483647) : sC (gG l D c H0 sa) mX11_rowInHand 1 0 0 [.ref 0, iv p1] (mk w μ) (qP w μ (fun z => ((-2147483648) ≤ z ∧ z ≤ 2147483647) ∧ True)) := by
  refine sC.of rfl (by decide) (le_t rfl) ?_
  refine mr_lvE (lv' := [(0, .ref 0), (1, iv p1)]) rfl ?_
  refine mr_iload_n (pc := 0) (z := p1) dX11_rowInHand_0 rfl rfl ?_
  refine mr_bipush (pc := 1) (z := 10) dX11_rowInHand_1 (by decide) ?_
  refine mr_icmp_lt (pc := 3) (tgt := 33) dX11_rowInHand_3 (by decide) hp1 (r32 (rR (x := 10)) rfl) (fun h1 => ?_) (fun h1 => ?_)
  · have h2 : (-2147483648) ≤ p1 ∧ p1 ≤ 9 := (vc_X11_rowInHand_1 h1 hp1)
    refine mr_iload_n (pc := 33) (z := p1) dX11_rowInHand_33 rfl rfl ?_
    refine mr_bipush (pc := 34) (z := 100) dX11_rowInHand_34 (by decide) ?_
    refine mr_icmp_lt (pc := 36) (tgt := 66) dX11_rowInHand_36 (by decide) (r32 h2 rfl) (r32 (rR (x := 100)) rfl) (fun _ => ?_) (fun h => ((vc_X11_rowInHand_2 h h2)).elim)
    refine mr_ldc (pc := 66) (z := (-99999999)) dX11_rowInHand_66 wG_X11_165 (by decide) ?_
    exact mr_iretP dX11_rowInHand_68 rfl (le_t rfl) (le_t rfl) ⟨(rW (c := (-2147483648)) (d := 2147483647) (rR (x := (-99999999))) rfl), trivial⟩
  have h3 : 10 ≤ p1 ∧ p1 ≤ 2147483647 := (vc_X11_rowInHand_3 h1 hp1)
  refine mr_iload_n (pc := 6) (z := p1) dX11_rowInHand_6 rfl rfl ?_
  refine mr_bipush (pc := 7) (z := 10) dX11_rowInHand_7 (by decide) ?_
  refine sv_aload_n (pc := 9) dX11_rowInHand_9 rfl rfl ?_
  refine gf_X11_2 (pc := 10) dX11_rowInHand_10 wF_X11_19 (A_0 hw) hT ?_
  refine gf_X7_7 (pc := 13) dX11_rowInHand_13 wF_X11_245 (A_3 hw) hT fun z4 q5 h6 => ?_
  refine mr_iadd (pc := 16) (x := 10) (y := z4) dX11_rowInHand_16 ?_
  refine mr_icmp_ge (pc := 17) (tgt := 33) dX11_rowInHand_17 (by decide) (r32 h3 rfl) (r32 (rAdd (e := 10) (f := 30) (rR (x := 10)) h6 rfl) rfl) (fun h7 => ?_) (fun h7 => ?_)
  · refine mr_iload_n (pc := 33) (z := p1) dX11_rowInHand_33 rfl rfl ?_
    refine mr_bipush (pc := 34) (z := 100) dX11_rowInHand_34 (by decide) ?_
    refine mr_icmp_lt (pc := 36) (tgt := 66) dX11_rowInHand_36 (by decide) (r32 h3 rfl) (r32 (rR (x := 100)) rfl) (fun h8 => ?_) (fun h8 => ?_)
    · have h9 : 10 ≤ p1 ∧ p1 ≤ 99 := (vc_X11_rowInHand_4 h8 h1 h7 h3 h6)
      refine mr_ldc (pc := 66) (z := (-99999999)) dX11_rowInHand_66 wG_X11_165 (by decide) ?_
      exact mr_iretP dX11_rowInHand_68 rfl (le_t rfl) (le_t rfl) ⟨(rW (c := (-2147483648)) (d := 2147483647) (rR (x := (-99999999))) rfl), trivial⟩
    have h10 : 100 ≤ p1 ∧ p1 ≤ 2147483647 := (vc_X11_rowInHand_5 h8 h1 h7 h3 h6)
    refine mr_iload_n (pc := 39) (z := p1) dX11_rowInHand_39 rfl rfl ?_
    refine mr_bipush (pc := 40) (z := 100) dX11_rowInHand_40 (by decide) ?_
    refine sv_aload_n (pc := 42) dX11_rowInHand_42 rfl rfl ?_
    refine gf_X11_2 (pc := 43) dX11_rowInHand_43 wF_X11_19 (A_0 hw) hT ?_
    refine gf_X7_8 (pc := 46) dX11_rowInHand_46 wF_X11_262 (A_3 hw) hT fun z11 q12 h13 => ?_
    refine mr_iadd (pc := 49) (x := 100) (y := z11) dX11_rowInHand_49 ?_
    refine mr_icmp_ge (pc := 50) (tgt := 66) dX11_rowInHand_50 (by decide) (r32 h10 rfl) (r32 (rAdd (e := 100) (f := 108) (rR (x := 100)) h13 rfl) rfl) (fun h14 => ?_) (fun h14 => ?_)
    · refine mr_ldc (pc := 66) (z := (-99999999)) dX11_rowInHand_66 wG_X11_165 (by decide) ?_
      exact mr_iretP dX11_rowInHand_68 rfl (le_t rfl) (le_t rfl) ⟨(rW (c := (-2147483648)) (d := 2147483647) (rR (x := (-99999999))) rfl), trivial⟩
    have h15 : 100 ≤ p1 ∧ p1 ≤ 107 := (vc_X11_rowInHand_6 h14 h1 h7 h8 h10 h13 h6)
    have h16 : 1 ≤ z11 ∧ z11 ≤ 8 := (vc_X11_rowInHand_7 h14 h1 h7 h8 h15 h13 h6)
    refine sv_aload_n (pc := 53) dX11_rowInHand_53 rfl rfl ?_
    refine gf_X11_2 (pc := 54) dX11_rowInHand_54 wF_X11_19 (A_0 hw) hT ?_
    refine gf_X7_1 (pc := 57) dX11_rowInHand_57 wF_X11_268 (A_3 hw) hT fun A17 => ?_
    refine mr_iload_n (pc := 60) (z := p1) dX11_rowInHand_60 rfl rfl ?_
    refine mr_bipush (pc := 61) (z := 100) dX11_rowInHand_61 (by decide) ?_
    refine mr_isub (pc := 63) (x := p1) (y := 100) dX11_rowInHand_63 ?_
    refine la_202 (pc := 64) dX11_rowInHand_64 A17 hT (rIx (n := 8) (rSub (e := 0) (f := 7) h15 (rR (x := 100)) rfl) rfl) fun z18 q19 h20 => ?_
    exact mr_iretP dX11_rowInHand_65 rfl (le_t rfl) (le_t rfl) ⟨h20, trivial⟩
  have h21 : 10 ≤ p1 ∧ p1 ≤ 29 := (vc_X11_rowInHand_8 h7 h1 h3 h6)
  have h22 : 1 ≤ z4 ∧ z4 ≤ 20 := (vc_X11_rowInHand_9 h7 h1 h21 h6)
  refine sv_aload_n (pc := 20) dX11_rowInHand_20 rfl rfl ?_
  refine gf_X11_2 (pc := 21) dX11_rowInHand_21 wF_X11_19 (A_0 hw) hT ?_
  refine gf_X7_0 (pc := 24) dX11_rowInHand_24 wF_X11_236 (A_3 hw) hT fun A23 => ?_
  refine mr_iload_n (pc := 27) (z := p1) dX11_rowInHand_27 rfl rfl ?_
  refine mr_bipush (pc := 28) (z := 10) dX11_rowInHand_28 (by decide) ?_
  refine mr_isub (pc := 30) (x := p1) (y := 10) dX11_rowInHand_30 ?_
  refine la_201 (pc := 31) dX11_rowInHand_31 A23 hT (rIx (n := 20) (rSub (e := 0) (f := 19) h21 (rR (x := 10)) rfl) rfl) fun z24 q25 h26 => ?_
  exact mr_iretP dX11_rowInHand_32 rfl (le_t rfl) (le_t rfl) ⟨h26, trivial⟩
theorem vc_X11_hand_8 {p1 : Int} (h0 : ¬ p1 = 0) (h1 : ¬ p1 = 1) (h2 : ¬ p1 = 2) (h3 : ¬ p1 = 3) (h4 : ¬ p1 = 4) (h5 : ¬ p1 = 5) (h6 : (-2147483648) ≤ p1 ∧ p1 ≤ 2147483647) : p1 < 0 ∨ 5 < p1 := by omega
set_option maxRecDepth 4000 in
set_option maxHeartbeats 4000000 in
theorem c_X11_hand {l : Launch} {D : va_G} {c : Nat → ClassId} {H0 : Heap} {sa : Nat × Nat × (Nat → Int32)} {w : mW} {μ : mM} (hw : mWF w) (hT : mT w μ) {p1 : Int} (hp1 : (-2147483648) ≤ p1 ∧ p1 ≤ 2147483647) : sC (gG l D c H0 sa) mX11_hand 2 0 0 [.ref 0, iv p1] (mk w μ) (qP w μ (fun z => ((-2147483648) ≤ z ∧ z ≤ 2147483647) ∧ True)) := by
  refine sC.of rfl (by decide) (le_t rfl) ?_
  refine mr_lvE (lv' := [(0, .ref 0), (1, iv p1)]) rfl ?_
  refine sv_aload_n (pc := 0) dX11_hand_0 rfl rfl ?_
  refine gf_X11_2 (pc := 1) dX11_hand_1 wF_X11_19 (A_0 hw) hT ?_
  refine gf_X7_2 (pc := 4) dX11_hand_4 wF_X11_246 (A_3 hw) hT fun z1 q2 h3 => ?_
  refine mr_if_ne (pc := 7) (tgt := 13) dX11_hand_7 (by decide) (r32 h3 rfl) (fun h4 => ?_) (fun h4 => ?_)
  · have h5 : 1 ≤ z1 ∧ z1 ≤ 1 := (vc_X12_ring_24 h4 h3)
    refine mr_iload_n (pc := 13) (z := p1) dX11_hand_13 rfl rfl ?_
    by_cases h6 : p1 = 0
    · refine mr_tableIn (pc := 14) (v := 0) (tgt := 52) dX11_hand_14 h6 rfl rfl (by decide) ?_
      have h7 : 0 ≤ p1 ∧ p1 ≤ 0 := (vc_X12_mask_1 h6 hp1)
      refine sv_aload_n (pc := 52) dX11_hand_52 rfl rfl ?_
      refine gf_X11_2 (pc := 53) dX11_hand_53 wF_X11_19 (A_0 hw) hT ?_
      refine gf_X7_3 (pc := 56) dX11_hand_56 wF_X11_256 (A_3 hw) hT fun z8 q9 h10 => ?_
      exact mr_iretP dX11_hand_59 rfl (le_t rfl) (le_t rfl) ⟨(rW (c := (-2147483648)) (d := 2147483647) h10 rfl), trivial⟩
    by_cases h11 : p1 = 1
    · refine mr_tableIn (pc := 14) (v := 1) (tgt := 60) dX11_hand_14 h11 rfl rfl (by decide) ?_
      have h12 : 1 ≤ p1 ∧ p1 ≤ 1 := (vc_X12_count_4 h11 h6 hp1)
      refine sv_aload_n (pc := 60) dX11_hand_60 rfl rfl ?_
      refine gf_X11_2 (pc := 61) dX11_hand_61 wF_X11_19 (A_0 hw) hT ?_
      refine gf_X7_4 (pc := 64) dX11_hand_64 wF_X11_230 (A_3 hw) hT fun z13 q14 h15 => ?_
      exact mr_iretP dX11_hand_67 rfl (le_t rfl) (le_t rfl) ⟨h15, trivial⟩
    by_cases h16 : p1 = 2
    · refine mr_tableIn (pc := 14) (v := 2) (tgt := 68) dX11_hand_14 h16 rfl rfl (by decide) ?_
      have h17 : 2 ≤ p1 ∧ p1 ≤ 2 := (vc_X12_count_5 h16 h6 h11 hp1)
      refine sv_aload_n (pc := 68) dX11_hand_68 rfl rfl ?_
      refine gf_X11_2 (pc := 69) dX11_hand_69 wF_X11_19 (A_0 hw) hT ?_
      refine gf_X7_5 (pc := 72) dX11_hand_72 wF_X11_259 (A_3 hw) hT fun z18 q19 h20 => ?_
      exact mr_iretP dX11_hand_75 rfl (le_t rfl) (le_t rfl) ⟨h20, trivial⟩
    by_cases h21 : p1 = 3
    · refine mr_tableIn (pc := 14) (v := 3) (tgt := 76) dX11_hand_14 h21 rfl rfl (by decide) ?_
      have h22 : 3 ≤ p1 ∧ p1 ≤ 3 := (vc_X12_count_6 h21 h6 h11 h16 hp1)
      refine sv_aload_n (pc := 76) dX11_hand_76 rfl rfl ?_
      refine gf_X11_2 (pc := 77) dX11_hand_77 wF_X11_19 (A_0 hw) hT ?_
      refine gf_X7_6 (pc := 80) dX11_hand_80 wF_X11_233 (A_3 hw) hT fun z23 q24 h25 => ?_
      exact mr_iretP dX11_hand_83 rfl (le_t rfl) (le_t rfl) ⟨h25, trivial⟩
    by_cases h26 : p1 = 4
    · refine mr_tableIn (pc := 14) (v := 4) (tgt := 84) dX11_hand_14 h26 rfl rfl (by decide) ?_
      have h27 : 4 ≤ p1 ∧ p1 ≤ 4 := (vc_X12_count_7 h26 h6 h11 h16 h21 hp1)
      refine sv_aload_n (pc := 84) dX11_hand_84 rfl rfl ?_
      refine gf_X11_2 (pc := 85) dX11_hand_85 wF_X11_19 (A_0 hw) hT ?_
      refine gf_X7_7 (pc := 88) dX11_hand_88 wF_X11_245 (A_3 hw) hT fun z28 q29 h30 => ?_
      exact mr_iretP dX11_hand_91 rfl (le_t rfl) (le_t rfl) ⟨(rW (c := (-2147483648)) (d := 2147483647) h30 rfl), trivial⟩
    by_cases h31 : p1 = 5
    · refine mr_tableIn (pc := 14) (v := 5) (tgt := 92) dX11_hand_14 h31 rfl rfl (by decide) ?_
      have h32 : 5 ≤ p1 ∧ p1 ≤ 5 := (vc_X12_count_8 h31 h6 h11 h16 h21 h26 hp1)
      refine sv_aload_n (pc := 92) dX11_hand_92 rfl rfl ?_
      refine gf_X11_2 (pc := 93) dX11_hand_93 wF_X11_19 (A_0 hw) hT ?_
      refine gf_X7_8 (pc := 96) dX11_hand_96 wF_X11_262 (A_3 hw) hT fun z33 q34 h35 => ?_
      exact mr_iretP dX11_hand_99 rfl (le_t rfl) (le_t rfl) ⟨(rW (c := (-2147483648)) (d := 2147483647) h35 rfl), trivial⟩
    refine mr_tableOut (pc := 14) (tgt := 100) dX11_hand_14 hp1 (vc_X11_hand_8 h6 h11 h16 h21 h26 h31 hp1) (by decide) ?_
    refine sv_aload_n (pc := 100) dX11_hand_100 rfl rfl ?_
    refine mr_iload_n (pc := 101) (z := p1) dX11_hand_101 rfl rfl ?_
    refine mr_cVP (pc := 102) (c_X11_rowInHand hw hT hp1) (gOk _ _ _ _ _) dX11_hand_102 (tX11_rowInHand _ _ _ _ _) ⟨wV_X11_rowInHand, wL_X11_rowInHand⟩ wM_X11_265 (gCX11 _ _ _ _ _) rfl (A_0 hw) rfl ⟨le_t rfl, le_t rfl⟩ ⟨le_t rfl, le_t rfl⟩ rfl (le_t rfl) fun z40 h39 => ?_
    exact mr_iretP dX11_hand_105 rfl (le_t rfl) (le_t rfl) ⟨h39.1, trivial⟩
  have h41 : 0 ≤ z1 ∧ z1 ≤ 0 := (vc_X12_ring_22 h4 h3)
  refine mr_ldc (pc := 10) (z := (-99999999)) dX11_hand_10 wG_X11_165 (by decide) ?_
  exact mr_iretP dX11_hand_12 rfl (le_t rfl) (le_t rfl) ⟨(rW (c := (-2147483648)) (d := 2147483647) (rR (x := (-99999999))) rfl), trivial⟩
theorem vc_X11_picked_2 {n0 p1 z1 z8 : Int} (h0 : (z8 = 1 → 0 ≤ p1 ∧ p1 < z1)) (h1 : (z8 = 0 → p1 < 0 ∨ z1 ≤ p1)) (h2 : z8 = 0) (h3 : z1 = n0) (h4 : (-2147483648) ≤ p1 ∧ p1 ≤ 2147483647) (h5 : 0 ≤ z1 ∧ z1 ≤ 10) (h6 : 0 ≤ z8 ∧ z8 ≤ 0) : z8 = 0 := by omega
theorem vc_X11_picked_4 {n0 p1 z1 z8 : Int} (h0 : (z8 = 1 → 0 ≤ p1 ∧ p1 < z1)) (h1 : (z8 = 0 → p1 < 0 ∨ z1 ≤ p1)) (h2 : ¬ z8 = 0) (h3 : z1 = n0) (h4 : (-2147483648) ≤ p1 ∧ p1 ≤ 2147483647) (h5 : 0 ≤ z1 ∧ z1 ≤ 10) (h6 : 1 ≤ z8 ∧ z8 ≤ 1) : z8 = 1 := by omega
theorem vc_X11_picked_5 {n0 p1 z1 z8 : Int} (h0 : 0 ≤ p1 ∧ p1 < z1) (h1 : z1 = n0) (h2 : (z8 = 1 → 0 ≤ p1 ∧ p1 < z1)) (h3 : (z8 = 0 → p1 < 0 ∨ z1 ≤ p1)) (h4 : (-2147483648) ≤ p1 ∧ p1 ≤ 2147483647) (h5 : 0 ≤ z1 ∧ z1 ≤ 10) (h6 : 1 ≤ z8 ∧ z8 ≤ 1) : 0 ≤ p1 ∧ p1 ≤ 9 := by omega
theorem vc_X11_picked_6 {n0 p1 z1 z8 : Int} (h0 : 0 ≤ p1 ∧ p1 < z1) (h1 : z1 = n0) (h2 : (z8 = 1 → 0 ≤ p1 ∧ p1 < z1)) (h3 : (z8 = 0 → p1 < 0 ∨ z1 ≤ p1)) (h4 : 0 ≤ p1 ∧ p1 ≤ 9) (h5 : 0 ≤ z1 ∧ z1 ≤ 10) (h6 : 1 ≤ z8 ∧ z8 ≤ 1) : 1 ≤ z1 ∧ z1 ≤ 10 := by omega
theorem vc_X11_picked_10 {n0 p1 z1 z8 : Int} (h0 : z1 = n0) (h1 : (z8 = 1 → 0 ≤ p1 ∧ p1 < z1)) (h2 : (z8 = 0 → p1 < 0 ∨ z1 ≤ p1)) (h3 : 0 ≤ p1 ∧ p1 < z1) (h4 : ¬ z8 = 0) (h5 : 0 ≤ p1 ∧ p1 ≤ 9) (h6 : 1 ≤ z1 ∧ z1 ≤ 10) (h7 : 1 ≤ z8 ∧ z8 ≤ 1) : p1 < n0 := by omega
theorem vc_X11_picked_12 {n1 z32 : Int} (h0 : z32 = (-99999999)) (h1 : (0 ≤ z32 → z32 < n1)) (h2 : (-99999999) ≤ z32 ∧ z32 ≤ 19) (h3 : z32 = -99999999 ∨ z32 = -4 ∨ (0 ≤ z32 ∧ z32 ≤ 19)) : (-99999999) ≤ z32 ∧ z32 ≤ (-99999999) := by omega
theorem vc_X11_picked_13 {n1 z32 : Int} (h0 : ¬ z32 = (-99999999)) (h1 : (0 ≤ z32 → z32 < n1)) (h2 : (-99999999) ≤ z32 ∧ z32 ≤ 19) (h3 : z32 = -99999999 ∨ z32 = -4 ∨ (0 ≤ z32 ∧ z32 ≤ 19)) : (-4) ≤ z32 ∧ z32 ≤ 19 := by omega
set_option maxRecDepth 4000 in
set_option maxHeartbeats 4000000 in
theorem c_X11_picked {l : Launch} {D : va_G} {c : Nat → ClassId} {H0 : Heap} {sa : Nat × Nat × (Nat → Int32)} {w : mW} {μ : mM} (hw : mWF w) (hT : mT w μ) {p1 : Int} (hp1 : (-2147483648) ≤ p1 ∧ p1 ≤ 2147483647) {p2 : Int} (hp2 : (-2147483648) ≤ p2 ∧ p2 ≤ 2147483647) : sC (gG l D c H0 sa) mX11_picked 4 0 0 [.ref 0, iv p1, iv p2] (mk w μ) (qI w [200002, 200003, 200004, 200005, 200006, 200007, 200008, 201999, 202999] μ (fun z μ1 => ((-2147483648) ≤ z ∧ z ≤ 2147483647) ∧ True)) := by
  refine sC.of rfl (by decide) (le_t rfl) ?_
  refine mr_lvE (lv' := [(0, .ref 0), (1, iv p1), (2, iv p2)]) rfl ?_
  refine sv_aload_n (pc := 0) dX11_picked_0 rfl rfl ?_
  refine mr_iload_n (pc := 1) (z := p1) dX11_picked_1 rfl rfl ?_
  obtain ⟨z1, q2⟩ : ∃ z, μ 6 15 = z := ⟨_, rfl⟩
  have h3 : (z1 = w.2.2.2 0 ∧ 0 ≤ z1 ∧ z1 ≤ 10) := by rw [← q2]; exact hT 6 6 (A_6 hw) 15
  refine mr_cVP (pc := 2) (c_X11_isDomain hw hT hp1 q2) (gOk _ _ _ _ _) dX11_picked_2 (tX11_isDomain _ _ _ _ _) ⟨wV_X11_isDomain, wL_X11_isDomain⟩ wM_X11_105 (gCX11 _ _ _ _ _) rfl (A_0 hw) rfl ⟨le_t rfl, le_t rfl⟩ ⟨le_t rfl, le_t rfl⟩ rfl (le_t rfl) fun z8 h7 => ?_
  refine mr_if_eq (pc := 5) (tgt := 16) dX11_picked_5 (by decide) (r32 h7.1 rfl) (fun h9 => ?_) (fun h9 => ?_)
  · have h10 : 0 ≤ z8 ∧ z8 ≤ 0 := (vc_X12_write_78 h9 h7.2.1 h7.2.2.1 hp1 h3.2 h7.1)
    have h11 : p1 < 0 ∨ z1 ≤ p1 := (h7.2.2.1 (vc_X11_picked_2 h7.2.1 h7.2.2.1 h9 h3.1 hp1 h3.2 h10))
    refine mr_iconst (pc := 16) (z := (-1)) dX11_picked_16 ?_
    exact mr_iret dX11_picked_17 rfl (le_t rfl) (le_t rfl) hT mF.refl ⟨(rW (c := (-2147483648)) (d := 2147483647) (rR (x := (-1))) rfl), trivial⟩
  have h12 : 1 ≤ z8 ∧ z8 ≤ 1 := (vc_X12_write_12 h9 h7.2.1 h7.2.2.1 hp1 h3.2 h7.1)
  have h13 : 0 ≤ p1 ∧ p1 < z1 := (h7.2.1 (vc_X11_picked_4 h7.2.1 h7.2.2.1 h9 h3.1 hp1 h3.2 h12))
  have h14 : 0 ≤ p1 ∧ p1 ≤ 9 := (vc_X11_picked_5 h13 h3.1 h7.2.1 h7.2.2.1 hp1 h3.2 h12)
  have h15 : 1 ≤ z1 ∧ z1 ≤ 10 := (vc_X11_picked_6 h13 h3.1 h7.2.1 h7.2.2.1 h14 h3.2 h12)
  refine sv_aload_n (pc := 8) dX11_picked_8 rfl rfl ?_
  refine mr_iload_n (pc := 9) (z := p2) dX11_picked_9 rfl rfl ?_
  obtain ⟨z16, q17⟩ : ∃ z, μ 6 14 = z := ⟨_, rfl⟩
  have h18 : (0 ≤ z16 ∧ z16 ≤ 10) := by rw [← q17]; exact hT 6 6 (A_6 hw) 14
  refine mr_cVP (pc := 10) (c_X11_isPrefix hw hT hp2 q17) (gOk _ _ _ _ _) dX11_picked_10 (tX11_isPrefix _ _ _ _ _) ⟨wV_X11_isPrefix, wL_X11_isPrefix⟩ wM_X11_182 (gCX11 _ _ _ _ _) rfl (A_0 hw) rfl ⟨le_t rfl, le_t rfl⟩ ⟨le_t rfl, le_t rfl⟩ rfl (le_t rfl) fun z23 h22 => ?_
  refine mr_if_ne (pc := 13) (tgt := 18) dX11_picked_13 (by decide) (r32 h22.1 rfl) (fun h24 => ?_) (fun h24 => ?_)
  · have h25 : 1 ≤ z23 ∧ z23 ≤ 1 := (vc_X12_write_12 h24 h22.2.1 h22.2.2.1 hp2 h18 h22.1)
    have h26 : 0 ≤ p2 ∧ p2 < z16 := (h22.2.1 (vc_X12_write_13 h22.2.1 h22.2.2.1 h24 hp2 h18 h25))
    have h27 : 0 ≤ p2 ∧ p2 ≤ 9 := (vc_X12_write_14 h26 h22.2.1 h22.2.2.1 hp2 h18 h25)
    refine sv_aload_n (pc := 18) dX11_picked_18 rfl rfl ?_
    refine gf_X11_3 (pc := 19) dX11_picked_19 wF_X11_26 (A_0 hw) hT ?_
    refine gf_X10_3 (pc := 22) dX11_picked_22 wF_X11_283 (A_6 hw) hT ?_
    refine mr_iload_n (pc := 25) (z := p1) dX11_picked_25 rfl rfl ?_
    refine la_10 (pc := 26) dX11_picked_26 (A_10 hw) hT (rIx (n := 10) h14 rfl) (vc_X11_picked_10 h3.1 h7.2.1 h7.2.2.1 h13 h9 h14 h15 h12) fun b28 q29 A30 => ?_
    refine mr_astore_n (pc := 27) (lv' := [(3, .ref b28), (0, .ref 0), (1, iv p1), (2, iv p2)]) dX11_picked_27 rfl (by decide) rfl ?_
    refine sv_aload_n (pc := 28) dX11_picked_28 rfl rfl ?_
    refine gf_X0_2 (pc := 29) dX11_picked_29 wF_X11_310 A30 hT fun A31 => ?_
    refine mr_iload_n (pc := 32) (z := p2) dX11_picked_32 rfl rfl ?_
    refine la_213 (pc := 33) dX11_picked_33 A31 hT (rIx (n := 10) h27 rfl) fun z32 q33 h34 => ?_
    have h35 : (-99999999) ≤ z32 ∧ z32 ≤ 19 := (vc_X12_sends_3 h34.1)
    refine mr_ldc (pc := 34) (z := (-99999999)) dX11_picked_34 wG_X11_165 (by decide) ?_
    refine mr_icmp_eq (pc := 36) (tgt := 52) dX11_picked_36 (by decide) (r32 h35 rfl) (r32 (rR (x := (-99999999))) rfl) (fun h46 => ?_) (fun h46 => ?_)
    · have h47 : (-99999999) ≤ z32 ∧ z32 ≤ (-99999999) := (vc_X11_picked_12 h46 h34.2 h35 h34.1)
      refine sv_aload_n (pc := 52) dX11_picked_52 rfl rfl ?_
      refine gf_X0_2 (pc := 53) dX11_picked_53 wF_X11_310 A30 hT fun A48 => ?_
      refine mr_iload_n (pc := 56) (z := p2) dX11_picked_56 rfl rfl ?_
      refine lk_213 (pc := 57) dX11_picked_57 A48 (rIx (n := 10) h27 rfl) q33 ?_
      exact mr_iret dX11_picked_58 rfl (le_t rfl) (le_t rfl) hT mF.refl ⟨(rW (c := (-2147483648)) (d := 2147483647) h47 rfl), trivial⟩
    have h49 : (-4) ≤ z32 ∧ z32 ≤ 19 := (vc_X11_picked_13 h46 h34.2 h35 h34.1)
    refine sv_aload_n (pc := 39) dX11_picked_39 rfl rfl ?_
    refine gf_X11_2 (pc := 40) dX11_picked_40 wF_X11_19 (A_0 hw) hT ?_
    refine sv_aload_n (pc := 43) dX11_picked_43 rfl rfl ?_
    refine gf_X0_3 (pc := 44) dX11_picked_44 wF_X11_313 A30 hT fun A50 => ?_
    refine mr_iload_n (pc := 47) (z := p2) dX11_picked_47 rfl rfl ?_
    refine la_214 (pc := 48) dX11_picked_48 A50 hT (rIx (n := 10) h27 rfl) fun b51 q52 A53 => ?_
    refine mr_cVV (pc := 49) (c_X7_become hw hT (A_3 hw) A53) (gOk _ _ _ _ _) dX11_picked_49 (tX7_become _ _ _ _ _) ⟨wV_X7_become, wL_X7_become⟩ wM_X11_317 (gCX7 _ _ _ _ _) rfl (A_3 hw) rfl ⟨le_t rfl, le_t rfl⟩ ⟨le_t rfl, le_t rfl⟩ rfl (le_t rfl) fun μ54 T55 F56 h57 => ?_
    refine sv_aload_n (pc := 52) dX11_picked_52 rfl rfl ?_
    refine gf_X0_2 (pc := 53) dX11_picked_53 wF_X11_310 A30 T55 fun A58 => ?_
    refine mr_iload_n (pc := 56) (z := p2) dX11_picked_56 rfl rfl ?_
    refine lk_213 (pc := 57) dX11_picked_57 A58 (rIx (n := 10) h27 rfl) (F56.f A58 rfl q33) ?_
    exact mr_iret dX11_picked_58 rfl (le_t rfl) (le_t rfl) T55 (mF.call mF.refl F56 rfl) ⟨(rW (c := (-2147483648)) (d := 2147483647) h49 rfl), trivial⟩
  have h59 : 0 ≤ z23 ∧ z23 ≤ 0 := (vc_X12_write_78 h24 h22.2.1 h22.2.2.1 hp2 h18 h22.1)
  have h60 : p2 < 0 ∨ z16 ≤ p2 := (h22.2.2.1 (vc_X12_write_79 h22.2.1 h22.2.2.1 h24 hp2 h18 h59))
  refine mr_iconst (pc := 16) (z := (-1)) dX11_picked_16 ?_
  exact mr_iret dX11_picked_17 rfl (le_t rfl) (le_t rfl) hT mF.refl ⟨(rW (c := (-2147483648)) (d := 2147483647) (rR (x := (-1))) rfl), trivial⟩
theorem vc_X11_heard_7 {p2 z20 : Int} (h0 : z20 = 0) (h1 : (z20 = 1 → 0 ≤ p2 ∧ p2 ≤ 1)) (h2 : (z20 = 0 → p2 < 0 ∨ 1 < p2)) (h3 : (-2147483648) ≤ p2 ∧ p2 ≤ 2147483647) (h4 : 0 ≤ z20 ∧ z20 ≤ 1) : 0 ≤ z20 ∧ z20 ≤ 0 := by omega
theorem vc_X11_heard_8 {p2 z20 : Int} (h0 : (z20 = 1 → 0 ≤ p2 ∧ p2 ≤ 1)) (h1 : (z20 = 0 → p2 < 0 ∨ 1 < p2)) (h2 : z20 = 0) (h3 : (-2147483648) ≤ p2 ∧ p2 ≤ 2147483647) (h4 : 0 ≤ z20 ∧ z20 ≤ 0) : z20 = 0 := by omega
theorem vc_X11_heard_9 {p2 z20 : Int} (h0 : ¬ z20 = 0) (h1 : (z20 = 1 → 0 ≤ p2 ∧ p2 ≤ 1)) (h2 : (z20 = 0 → p2 < 0 ∨ 1 < p2)) (h3 : (-2147483648) ≤ p2 ∧ p2 ≤ 2147483647) (h4 : 0 ≤ z20 ∧ z20 ≤ 1) : 1 ≤ z20 ∧ z20 ≤ 1 := by omega
theorem vc_X11_heard_10 {p2 z20 : Int} (h0 : (z20 = 1 → 0 ≤ p2 ∧ p2 ≤ 1)) (h1 : (z20 = 0 → p2 < 0 ∨ 1 < p2)) (h2 : ¬ z20 = 0) (h3 : (-2147483648) ≤ p2 ∧ p2 ≤ 2147483647) (h4 : 1 ≤ z20 ∧ z20 ≤ 1) : z20 = 1 := by omega
theorem vc_X11_heard_11 {p2 z20 : Int} (h0 : 0 ≤ p2 ∧ p2 ≤ 1) (h1 : (z20 = 1 → 0 ≤ p2 ∧ p2 ≤ 1)) (h2 : (z20 = 0 → p2 < 0 ∨ 1 < p2)) (h3 : (-2147483648) ≤ p2 ∧ p2 ≤ 2147483647) (h4 : 1 ≤ z20 ∧ z20 ≤ 1) : 0 ≤ p2 ∧ p2 ≤ 1 := by omega
theorem vc_X11_heard_23 {p4 z46 : Int} (h0 : ¬ p4 = 0) (h1 : (z46 = 1 → 0 ≤ p4 ∧ p4 ≤ 1)) (h2 : (z46 = 0 → p4 < 0 ∨ 1 < p4)) (h3 : 0 ≤ p4 ∧ p4 ≤ 1) (h4 : 1 ≤ z46 ∧ z46 ≤ 1) : 1 ≤ p4 ∧ p4 ≤ 1 := by omega
theorem vc_X11_heard_25 {p4 z46 : Int} (h0 : p4 = 0) (h1 : (z46 = 1 → 0 ≤ p4 ∧ p4 ≤ 1)) (h2 : (z46 = 0 → p4 < 0 ∨ 1 < p4)) (h3 : 0 ≤ p4 ∧ p4 ≤ 1) (h4 : 1 ≤ z46 ∧ z46 ≤ 1) : 0 ≤ p4 ∧ p4 ≤ 0 := by omega
set_option maxRecDepth 4000 in
set_option maxHeartbeats 4000000 in
theorem c_X11_heard {l : Launch} {D : va_G} {c : Nat → ClassId} {H0 : Heap} {sa : Nat × Nat × (Nat → Int32)} {w : mW} {μ : mM} (hw : mWF w) (hT : mT w μ) {p1 : Int} (hp1 : (-2147483648) ≤ p1 ∧ p1 ≤ 2147483647) {p2 : Int} (hp2 : (-2147483648) ≤ p2 ∧ p2 ≤ 2147483647) {p3 : Int} (hp3 : (-2147483648) ≤ p3 ∧ p3 ≤ 2147483647) {p4 : Int} (hp4 : (-2147483648) ≤ p4 ∧ p4 ≤ 2147483647) : sC (gG l D c H0 sa) mX11_heard 4 0 0 [.ref 0, iv p1, iv p2, iv p3, iv p4] (mk w μ) (qI w [200002, 200003, 200004, 200005, 200006, 200007, 200008, 201999, 202999] μ (fun z μ1 => ((-2147483648) ≤ z ∧ z ≤ 2147483647) ∧ True)) := by
  refine sC.of rfl (by decide) (le_t rfl) ?_
  refine mr_lvE (lv' := [(0, .ref 0), (1, iv p1), (2, iv p2), (3, iv p3), (4, iv p4)]) rfl ?_
  refine sv_aload_n (pc := 0) dX11_heard_0 rfl rfl ?_
  refine mr_iload_n (pc := 1) (z := p1) dX11_heard_1 rfl rfl ?_
  obtain ⟨z1, q2⟩ : ∃ z, μ 6 16 = z := ⟨_, rfl⟩
  have h3 : (z1 = w.2.2.2 1 ∧ 0 ≤ z1 ∧ z1 ≤ 20) := by rw [← q2]; exact hT 6 6 (A_6 hw) 16
  refine mr_cVP (pc := 2) (c_X11_isTie hw hT hp1 q2) (gOk _ _ _ _ _) dX11_heard_2 (tX11_isTie _ _ _ _ _) ⟨wV_X11_isTie, wL_X11_isTie⟩ wM_X11_119 (gCX11 _ _ _ _ _) rfl (A_0 hw) rfl ⟨le_t rfl, le_t rfl⟩ ⟨le_t rfl, le_t rfl⟩ rfl (le_t rfl) fun z8 h7 => ?_
  refine mr_if_eq (pc := 5) (tgt := 31) dX11_heard_5 (by decide) (r32 h7.1 rfl) (fun h9 => ?_) (fun h9 => ?_)
  · have h10 : 0 ≤ z8 ∧ z8 ≤ 0 := (vc_X12_pace_1 h9 h7.2.1 h7.2.2.1 hp1 h3.2 h7.1)
    have h11 : p1 < 0 ∨ z1 ≤ p1 := (h7.2.2.1 (vc_X11_pace_2 h7.2.1 h7.2.2.1 h9 h3.1 hp1 h3.2 h10))
    refine mr_iconst (pc := 31) (z := (-1)) dX11_heard_31 ?_
    exact mr_iret dX11_heard_32 rfl (le_t rfl) (le_t rfl) hT mF.refl ⟨(rW (c := (-2147483648)) (d := 2147483647) (rR (x := (-1))) rfl), trivial⟩
  have h12 : 1 ≤ z8 ∧ z8 ≤ 1 := (vc_X12_pace_3 h9 h7.2.1 h7.2.2.1 hp1 h3.2 h7.1)
  have h13 : 0 ≤ p1 ∧ p1 < z1 := (h7.2.1 (vc_X11_pace_4 h7.2.1 h7.2.2.1 h9 h3.1 hp1 h3.2 h12))
  have h14 : 0 ≤ p1 ∧ p1 ≤ 19 := (vc_X11_pace_5 h13 h3.1 h7.2.1 h7.2.2.1 hp1 h3.2 h12)
  have h15 : 1 ≤ z1 ∧ z1 ≤ 20 := (vc_X11_pace_6 h13 h3.1 h7.2.1 h7.2.2.1 h14 h3.2 h12)
  refine mr_iload_n (pc := 8) (z := p2) dX11_heard_8 rfl rfl ?_
  refine mr_cSP (pc := 9) (c_X11_isEither hw hT hp2) (gOk _ _ _ _ _) dX11_heard_9 (tX11_isEither _ _ _ _ _) wS_X11_isEither wM_X11_271 ⟨le_t rfl, le_t rfl⟩ ⟨le_t rfl, le_t rfl⟩ rfl (le_t rfl) fun z20 h19 => ?_
  refine mr_if_eq (pc := 12) (tgt := 31) dX11_heard_12 (by decide) (r32 h19.1 rfl) (fun h21 => ?_) (fun h21 => ?_)
  · have h22 : 0 ≤ z20 ∧ z20 ≤ 0 := (vc_X11_heard_7 h21 h19.2.1 h19.2.2.1 hp2 h19.1)
    have h23 : p2 < 0 ∨ 1 < p2 := (h19.2.2.1 (vc_X11_heard_8 h19.2.1 h19.2.2.1 h21 hp2 h22))
    refine mr_iconst (pc := 31) (z := (-1)) dX11_heard_31 ?_
    exact mr_iret dX11_heard_32 rfl (le_t rfl) (le_t rfl) hT mF.refl ⟨(rW (c := (-2147483648)) (d := 2147483647) (rR (x := (-1))) rfl), trivial⟩
  have h24 : 1 ≤ z20 ∧ z20 ≤ 1 := (vc_X11_heard_9 h21 h19.2.1 h19.2.2.1 hp2 h19.1)
  have h25 : 0 ≤ p2 ∧ p2 ≤ 1 := (h19.2.1 (vc_X11_heard_10 h19.2.1 h19.2.2.1 h21 hp2 h24))
  have h26 : 0 ≤ p2 ∧ p2 ≤ 1 := (vc_X11_heard_11 h25 h19.2.1 h19.2.2.1 hp2 h24)
  refine sv_aload_n (pc := 15) dX11_heard_15 rfl rfl ?_
  refine mr_iload_n (pc := 16) (z := p3) dX11_heard_16 rfl rfl ?_
  obtain ⟨z27, q28⟩ : ∃ z, μ 6 14 = z := ⟨_, rfl⟩
  have h29 : (0 ≤ z27 ∧ z27 ≤ 10) := by rw [← q28]; exact hT 6 6 (A_6 hw) 14
  refine mr_cVP (pc := 17) (c_X11_isPrefix hw hT hp3 q28) (gOk _ _ _ _ _) dX11_heard_17 (tX11_isPrefix _ _ _ _ _) ⟨wV_X11_isPrefix, wL_X11_isPrefix⟩ wM_X11_182 (gCX11 _ _ _ _ _) rfl (A_0 hw) rfl ⟨le_t rfl, le_t rfl⟩ ⟨le_t rfl, le_t rfl⟩ rfl (le_t rfl) fun z34 h33 => ?_
  refine mr_if_eq (pc := 20) (tgt := 31) dX11_heard_20 (by decide) (r32 h33.1 rfl) (fun h35 => ?_) (fun h35 => ?_)
  · have h36 : 0 ≤ z34 ∧ z34 ≤ 0 := (vc_X12_write_78 h35 h33.2.1 h33.2.2.1 hp3 h29 h33.1)
    have h37 : p3 < 0 ∨ z27 ≤ p3 := (h33.2.2.1 (vc_X12_write_79 h33.2.1 h33.2.2.1 h35 hp3 h29 h36))
    refine mr_iconst (pc := 31) (z := (-1)) dX11_heard_31 ?_
    exact mr_iret dX11_heard_32 rfl (le_t rfl) (le_t rfl) hT mF.refl ⟨(rW (c := (-2147483648)) (d := 2147483647) (rR (x := (-1))) rfl), trivial⟩
  have h38 : 1 ≤ z34 ∧ z34 ≤ 1 := (vc_X12_write_12 h35 h33.2.1 h33.2.2.1 hp3 h29 h33.1)
  have h39 : 0 ≤ p3 ∧ p3 < z27 := (h33.2.1 (vc_X12_write_13 h33.2.1 h33.2.2.1 h35 hp3 h29 h38))
  have h40 : 0 ≤ p3 ∧ p3 ≤ 9 := (vc_X12_write_14 h39 h33.2.1 h33.2.2.1 hp3 h29 h38)
  have h41 : 1 ≤ z27 ∧ z27 ≤ 10 := (vc_X12_write_15 h39 h33.2.1 h33.2.2.1 h40 h29 h38)
  refine mr_iload (pc := 23) (z := p4) dX11_heard_23 rfl ?_
  refine mr_cSP (pc := 25) (c_X11_isEither hw hT hp4) (gOk _ _ _ _ _) dX11_heard_25 (tX11_isEither _ _ _ _ _) wS_X11_isEither wM_X11_271 ⟨le_t rfl, le_t rfl⟩ ⟨le_t rfl, le_t rfl⟩ rfl (le_t rfl) fun z46 h45 => ?_
  refine mr_if_ne (pc := 28) (tgt := 33) dX11_heard_28 (by decide) (r32 h45.1 rfl) (fun h47 => ?_) (fun h47 => ?_)
  · have h48 : 1 ≤ z46 ∧ z46 ≤ 1 := (vc_X11_heard_9 h47 h45.2.1 h45.2.2.1 hp4 h45.1)
    have h49 : 0 ≤ p4 ∧ p4 ≤ 1 := (h45.2.1 (vc_X11_heard_10 h45.2.1 h45.2.2.1 h47 hp4 h48))
    have h50 : 0 ≤ p4 ∧ p4 ≤ 1 := (vc_X11_heard_11 h49 h45.2.1 h45.2.2.1 hp4 h48)
    refine mr_iload_n (pc := 33) (z := p2) dX11_heard_33 rfl rfl ?_
    refine mr_iload_n (pc := 34) (z := p3) dX11_heard_34 rfl rfl ?_
    refine mr_cSP (pc := 35) (c_X9_placeOf hw hT h26 h40) (gOk _ _ _ _ _) dX11_heard_35 (tX9_placeOf _ _ _ _ _) wS_X9_placeOf wM_X11_321 ⟨le_t rfl, le_t rfl⟩ ⟨le_t rfl, le_t rfl⟩ rfl (le_t rfl) fun z55 h54 => ?_
    refine mr_istore (pc := 38) (lv' := [(5, iv z55), (0, .ref 0), (1, iv p1), (2, iv p2), (3, iv p3), (4, iv p4)]) dX11_heard_38 (by decide) rfl ?_
    refine mr_iload (pc := 40) (z := p4) dX11_heard_40 rfl ?_
    have J74 : ∀ (b72 : Nat), (mAt w b72 200) → sV (gG l D c H0 sa) mX11_heard (sRm 4 0 0) (sZ (gG l D c H0 sa) 0 0 (qI w [200002, 200003, 200004, 200005, 200006, 200007, 200008, 201999, 202999] μ (fun z μ1 => ((-2147483648) ≤ z ∧ z ≤ 2147483647) ∧ True))) 78 [(0, .ref 0)] [.ref b72] (mk w μ) 0 0 := by
      intro b72 A73
      refine mr_astore (pc := 78) (lv' := [(6, .ref b72), (0, .ref 0)]) dX11_heard_78 (by decide) rfl ?_
      refine sv_aload (pc := 80) dX11_heard_80 rfl ?_
      refine gf_X7_2 (pc := 82) dX11_heard_82 wF_X11_246 A73 hT fun z75 q76 h77 => ?_
      refine mr_if_ne (pc := 85) (tgt := 91) dX11_heard_85 (by decide) (r32 h77 rfl) (fun h78 => ?_) (fun h78 => ?_)
      · have h79 : 1 ≤ z75 ∧ z75 ≤ 1 := (vc_X12_ring_24 h78 h77)
        refine sv_aload_n (pc := 91) dX11_heard_91 rfl rfl ?_
        refine gf_X11_2 (pc := 92) dX11_heard_92 wF_X11_19 (A_0 hw) hT ?_
        refine sv_aload (pc := 95) dX11_heard_95 rfl ?_
        refine mr_cVV (pc := 97) (c_X7_become hw hT (A_3 hw) A73) (gOk _ _ _ _ _) dX11_heard_97 (tX7_become _ _ _ _ _) ⟨wV_X7_become, wL_X7_become⟩ wM_X11_317 (gCX7 _ _ _ _ _) rfl (A_3 hw) rfl ⟨le_t rfl, le_t rfl⟩ ⟨le_t rfl, le_t rfl⟩ rfl (le_t rfl) fun μ80 T81 F82 h83 => ?_
        refine sv_aload (pc := 100) dX11_heard_100 rfl ?_
        refine gf_X7_9 (pc := 102) dX11_heard_102 wF_X11_330 A73 T81 fun z84 q85 h86 => ?_
        exact mr_iret dX11_heard_105 rfl (le_t rfl) (le_t rfl) T81 (mF.call mF.refl F82 rfl) ⟨(rW (c := (-2147483648)) (d := 2147483647) h86 rfl), trivial⟩
      have h87 : 0 ≤ z75 ∧ z75 ≤ 0 := (vc_X12_ring_22 h78 h77)
      refine mr_ldc (pc := 88) (z := (-99999999)) dX11_heard_88 wG_X11_165 (by decide) ?_
      exact mr_iret dX11_heard_90 rfl (le_t rfl) (le_t rfl) hT mF.refl ⟨(rW (c := (-2147483648)) (d := 2147483647) (rR (x := (-99999999))) rfl), trivial⟩
    refine mr_if_ne (pc := 42) (tgt := 63) dX11_heard_42 (by decide) (r32 h50 rfl) (fun h88 => ?_) (fun h88 => ?_)
    · have h89 : 1 ≤ p4 ∧ p4 ≤ 1 := (vc_X11_heard_23 h88 h45.2.1 h45.2.2.1 h49 h48)
      refine sv_aload_n (pc := 63) dX11_heard_63 rfl rfl ?_
      refine gf_X11_3 (pc := 64) dX11_heard_64 wF_X11_26 (A_0 hw) hT ?_
      refine gf_X10_4 (pc := 67) dX11_heard_67 wF_X11_122 (A_6 hw) hT ?_
      refine mr_iload_n (pc := 70) (z := p1) dX11_heard_70 rfl rfl ?_
      refine la_11 (pc := 71) dX11_heard_71 (A_11 hw) hT (rIx (n := 20) h14 rfl) (vc_X11_pace_14 h3.1 h7.2.1 h7.2.2.1 h13 h9 h14 h15 h12) fun b90 q91 A92 => ?_
      refine gf_X9_5 (pc := 72) dX11_heard_72 wF_X11_327 A92 hT fun A93 => ?_
      refine mr_iload (pc := 75) (z := z55) dX11_heard_75 rfl ?_
      refine la_223 (pc := 77) dX11_heard_77 A93 hT (rIx (n := 20) h54.1 rfl) fun b94 q95 A96 => ?_
      refine mr_lvS (lv' := [(0, .ref 0)]) (List.forall_mem_cons.mpr ⟨rfl, fun _ h => absurd h List.not_mem_nil⟩) ?_
      exact J74 b94 A96
    have h97 : 0 ≤ p4 ∧ p4 ≤ 0 := (vc_X11_heard_25 h88 h45.2.1 h45.2.2.1 h49 h48)
    refine sv_aload_n (pc := 45) dX11_heard_45 rfl rfl ?_
    refine gf_X11_3 (pc := 46) dX11_heard_46 wF_X11_26 (A_0 hw) hT ?_
    refine gf_X10_4 (pc := 49) dX11_heard_49 wF_X11_122 (A_6 hw) hT ?_
    refine mr_iload_n (pc := 52) (z := p1) dX11_heard_52 rfl rfl ?_
    refine la_11 (pc := 53) dX11_heard_53 (A_11 hw) hT (rIx (n := 20) h14 rfl) (vc_X11_pace_14 h3.1 h7.2.1 h7.2.2.1 h13 h9 h14 h15 h12) fun b98 q99 A100 => ?_
    refine gf_X9_4 (pc := 54) dX11_heard_54 wF_X11_324 A100 hT fun A101 => ?_
    refine mr_iload (pc := 57) (z := z55) dX11_heard_57 rfl ?_
    refine la_222 (pc := 59) dX11_heard_59 A101 hT (rIx (n := 20) h54.1 rfl) fun b102 q103 A104 => ?_
    refine sv_goto (pc := 60) (tgt := 78) dX11_heard_60 (by decide) ?_
    refine mr_lvS (lv' := [(0, .ref 0)]) (List.forall_mem_cons.mpr ⟨rfl, fun _ h => absurd h List.not_mem_nil⟩) ?_
    exact J74 b102 A104
  have h105 : 0 ≤ z46 ∧ z46 ≤ 0 := (vc_X11_heard_7 h47 h45.2.1 h45.2.2.1 hp4 h45.1)
  have h106 : p4 < 0 ∨ 1 < p4 := (h45.2.2.1 (vc_X11_heard_8 h45.2.1 h45.2.2.1 h47 hp4 h105))
  refine mr_iconst (pc := 31) (z := (-1)) dX11_heard_31 ?_
  exact mr_iret dX11_heard_32 rfl (le_t rfl) (le_t rfl) hT mF.refl ⟨(rW (c := (-2147483648)) (d := 2147483647) (rR (x := (-1))) rfl), trivial⟩
theorem vc_X2_tieFor_3 {n1 z248 : Int} (h0 : 0 ≤ z248 → z248 < n1) (h1 : (-99999999) ≤ z248 ∧ z248 ≤ 19) (h2 : z248 = (-99999999) ∨ z248 = (-4) ∨ (0 ≤ z248 ∧ z248 ≤ 19)) : z248 = -99999999 ∨ z248 = -4 ∨ (0 ≤ z248 ∧ z248 ≤ 19) := by omega
theorem vc_X2_tieFor_4 {n1 z248 : Int} (h0 : 0 ≤ z248 → z248 < n1) (h1 : (-99999999) ≤ z248 ∧ z248 ≤ 19) (h2 : z248 = (-99999999) ∨ z248 = (-4) ∨ (0 ≤ z248 ∧ z248 ≤ 19)) : 0 ≤ z248 → z248 < n1 := by omega
theorem vc_X2_tieFor_9 {n1 z248 : Int} (h0 : 0 ≤ z248 → z248 < n1) (h1 : (-99999999) ≤ z248 ∧ z248 ≤ 19) (h2 : z248 = (-99999999) ∨ z248 = (-4) ∨ (0 ≤ z248 ∧ z248 ≤ 19)) : z248 = (-99999999) ∨ z248 = (-4) ∨ (0 ≤ z248 ∧ z248 ≤ 19) := by omega
theorem vc_X2_tieFor_13 {n1 z248 z326 : Int} (h0 : 0 ≤ z248 → z248 < n1) (h1 : (0 ≤ z326 → z326 < n1)) (h2 : z326 = (-99999999)) (h3 : (-99999999) ≤ z248 ∧ z248 ≤ 19) (h4 : z248 = (-99999999) ∨ z248 = (-4) ∨ (0 ≤ z248 ∧ z248 ≤ 19)) (h5 : (-99999999) ≤ z326 ∧ z326 ≤ (-99999999)) (h6 : z326 = -99999999 ∨ z326 = -4 ∨ (0 ≤ z326 ∧ z326 ≤ 19)) : 0 ≤ z248 → z248 < n1 := by omega
theorem vc_X2_tieFor_14 {n1 z248 z326 : Int} (h0 : 0 ≤ z248 → z248 < n1) (h1 : (0 ≤ z326 → z326 < n1)) (h2 : (-99999999) ≤ z248 ∧ z248 ≤ 19) (h3 : z248 = (-99999999) ∨ z248 = (-4) ∨ (0 ≤ z248 ∧ z248 ≤ 19)) (h4 : (-99999999) ≤ z326 ∧ z326 ≤ (-99999999)) (h5 : z326 = -99999999 ∨ z326 = -4 ∨ (0 ≤ z326 ∧ z326 ≤ 19)) : z248 = (-99999999) ∨ z248 = (-4) ∨ (0 ≤ z248 ∧ z248 ≤ 19) := by omega
theorem vc_X2_tieFor_16 {z249 z341 : Int} (h0 : z341 ≤ z249) (h1 : (-1) ≤ z249 ∧ z249 ≤ 32) (h2 : 0 ≤ z341 ∧ z341 ≤ 32) : 0 ≤ z249 ∧ z249 ≤ 32 := by omega
theorem vc_X2_tieFor_17 {n1 z248 z326 : Int} (h0 : 0 ≤ z248 → z248 < n1) (h1 : (0 ≤ z326 → z326 < n1)) (h2 : ¬ z326 = (-99999999)) (h3 : (-99999999) ≤ z248 ∧ z248 ≤ 19) (h4 : z248 = (-99999999) ∨ z248 = (-4) ∨ (0 ≤ z248 ∧ z248 ≤ 19)) (h5 : (-4) ≤ z326 ∧ z326 ≤ 19) (h6 : z326 = -99999999 ∨ z326 = -4 ∨ (0 ≤ z326 ∧ z326 ≤ 19)) : 0 ≤ z248 → z248 < n1 := by omega
theorem vc_X2_tieFor_18 {n1 z248 z326 : Int} (h0 : 0 ≤ z248 → z248 < n1) (h1 : (0 ≤ z326 → z326 < n1)) (h2 : (-99999999) ≤ z248 ∧ z248 ≤ 19) (h3 : z248 = (-99999999) ∨ z248 = (-4) ∨ (0 ≤ z248 ∧ z248 ≤ 19)) (h4 : (-4) ≤ z326 ∧ z326 ≤ 19) (h5 : z326 = -99999999 ∨ z326 = -4 ∨ (0 ≤ z326 ∧ z326 ≤ 19)) : z248 = (-99999999) ∨ z248 = (-4) ∨ (0 ≤ z248 ∧ z248 ≤ 19) := by omega
theorem vc_X2_tieFor_19 {z249 z341 : Int} (h0 : z249 < z341) (h1 : (-1) ≤ z249 ∧ z249 ≤ 32) (h2 : 0 ≤ z341 ∧ z341 ≤ 32) : (-1) ≤ z249 ∧ z249 ≤ 31 := by omega
theorem vc_X2_tieFor_20 {n1 z248 z326 : Int} (h0 : 0 ≤ z248 → z248 < n1) (h1 : (0 ≤ z326 → z326 < n1)) (h2 : ¬ z326 = (-99999999)) (h3 : (-99999999) ≤ z248 ∧ z248 ≤ 19) (h4 : z248 = (-99999999) ∨ z248 = (-4) ∨ (0 ≤ z248 ∧ z248 ≤ 19)) (h5 : (-4) ≤ z326 ∧ z326 ≤ 19) (h6 : z326 = -99999999 ∨ z326 = -4 ∨ (0 ≤ z326 ∧ z326 ≤ 19)) : 0 ≤ z326 → z326 < n1 := by omega
theorem vc_X2_tieFor_21 {n1 z248 z326 : Int} (h0 : (0 ≤ z326 → z326 < n1)) (h1 : ¬ z326 = (-99999999)) (h2 : 0 ≤ z248 → z248 < n1) (h3 : (-99999999) ≤ z248 ∧ z248 ≤ 19) (h4 : z248 = (-99999999) ∨ z248 = (-4) ∨ (0 ≤ z248 ∧ z248 ≤ 19)) (h5 : (-4) ≤ z326 ∧ z326 ≤ 19) (h6 : z326 = -99999999 ∨ z326 = -4 ∨ (0 ≤ z326 ∧ z326 ≤ 19)) : z326 = (-99999999) ∨ z326 = (-4) ∨ (0 ≤ z326 ∧ z326 ≤ 19) := by omega
theorem vc_X2_tieFor_22 {n1 : Int}  : 0 ≤ ((-99999999) : Int) → ((-99999999) : Int) < n1 := by omega
theorem vc_X2_tieFor_24  : (((-99999999) : Int) : Int) = ((-99999999) : Int) ∨ (((-99999999) : Int) : Int) = ((-4) : Int) ∨ ((0 : Int) ≤ (((-99999999) : Int) : Int) ∧ (((-99999999) : Int) : Int) ≤ (19 : Int)) := by omega
set_option maxRecDepth 4000 in
set_option maxHeartbeats 4000000 in
theorem c_X2_tieFor {l : Launch} {D : va_G} {c : Nat → ClassId} {H0 : Heap} {sa : Nat × Nat × (Nat → Int32)} {w : mW} {μ : mM} (hw : mWF w) (hT : mT w μ) {p1 : Int} (hp1 : 0 ≤ p1 ∧ p1 ≤ 9) {p2 : Int} (hp2 : (-2147483648) ≤ p2 ∧ p2 ≤ 2147483647) (hq0 : p1 < w.2.2.2 0) : sC (gG l D c H0 sa) mX2_tieFor 1 0 0 [.ref 87, iv p1, iv p2] (mk w μ) (qP w μ (fun z => ((-99999999) ≤ z ∧ z ≤ 19) ∧ (z = -99999999 ∨ z = -4 ∨ (0 ≤ z ∧ z ≤ 19)) ∧ (0 ≤ z → z < w.2.2.2 1) ∧ True)) := by
  refine sC.of rfl (by decide) (le_t rfl) ?_
  refine mr_lvE (lv' := [(0, .ref 87), (1, iv p1), (2, iv p2)]) rfl ?_
  refine sv_aload_n (pc := 0) dX2_tieFor_0 rfl rfl ?_
  refine gf_X2_0 (pc := 1) dX2_tieFor_1 wF_X2_9 (A_87 hw) hT ?_
  refine gf_X10_3 (pc := 4) dX2_tieFor_4 wF_X2_35 (A_6 hw) hT ?_
  refine mr_iload_n (pc := 7) (z := p1) dX2_tieFor_7 rfl rfl ?_
  refine la_10 (pc := 8) dX2_tieFor_8 (A_10 hw) hT (rIx (n := 10) hp1 rfl) (vc_X9_end_1 hq0 hp1) fun b1 q2 A3 => ?_
  refine mr_astore_n (pc := 9) (lv' := [(3, .ref b1), (0, .ref 87), (1, iv p1), (2, iv p2)]) dX2_tieFor_9 rfl (by decide) rfl ?_
  refine mr_iconst (pc := 10) (z := (-1)) dX2_tieFor_10 ?_
  refine mr_istore (pc := 11) (lv' := [(4, iv (-1)), (3, .ref b1), (0, .ref 87), (1, iv p1), (2, iv p2)]) dX2_tieFor_11 (by decide) rfl ?_
  refine mr_ldc (pc := 13) (z := (-99999999)) dX2_tieFor_13 wG_X2_41 (by decide) ?_
  refine mr_istore (pc := 15) (lv' := [(5, iv (-99999999)), (4, iv (-1)), (3, .ref b1), (0, .ref 87), (1, iv p1), (2, iv p2)]) dX2_tieFor_15 (by decide) rfl ?_
  refine mr_iconst (pc := 17) (z := 0) dX2_tieFor_17 ?_
  refine mr_istore (pc := 18) (lv' := [(6, iv 0), (5, iv (-99999999)), (4, iv (-1)), (3, .ref b1), (0, .ref 87), (1, iv p1), (2, iv p2)]) dX2_tieFor_18 (by decide) rfl ?_
  have L250 : ∀ (nL250 : Nat) (z249 z248 z247 : Int), True → ((-1) ≤ z249 ∧ z249 ≤ 32) → ((-99999999) ≤ z248 ∧ z248 ≤ 19) → (0 ≤ z247 ∧ z247 ≤ 10) → (0 ≤ z248 → z248 < w.2.2.2 1) → (z248 = (-99999999) ∨ z248 = (-4) ∨ (0 ≤ z248 ∧ z248 ≤ 19)) → (11 - z247) < (nL250 : Int) → sV (gG l D c H0 sa) mX2_tieFor (sRm 1 0 0) (sZ (gG l D c H0 sa) 0 0 (qP w μ (fun z => ((-99999999) ≤ z ∧ z ≤ 19) ∧ (z = -99999999 ∨ z = -4 ∨ (0 ≤ z ∧ z ≤ 19)) ∧ (0 ≤ z → z < w.2.2.2 1) ∧ True))) 20 [(0, .ref 87), (2, iv p2), (3, .ref b1), (4, iv z249), (5, iv z248), (6, iv z247)] [] (mk w μ) 0 0 := by
    intro nL250
    induction nL250 with
    | zero => intro z249 z248 z247 _ h251 h252 h253 h257 h258 h259; exact ((vc_X12_ring_2 h259 h253)).elim
    | succ nL250 ih260 =>
      intro z249 z248 z247 _ h251 h252 h253 h257 h258 h259
      refine mr_iload (pc := 20) (z := z247) dX2_tieFor_20 rfl ?_
      refine sv_aload_n (pc := 22) dX2_tieFor_22 rfl rfl ?_
      refine gf_X2_0 (pc := 23) dX2_tieFor_23 wF_X2_9 (A_87 hw) hT ?_
      refine gf_X10_14 (pc := 26) dX2_tieFor_26 wF_X2_42 (A_6 hw) hT fun z261 q262 h263 => ?_
      refine mr_icmp_ge (pc := 29) (tgt := 123) dX2_tieFor_29 (by decide) (r32 h253 rfl) (r32 h263 rfl) (fun h292 => ?_) (fun h292 => ?_)
      · refine mr_iload (pc := 123) (z := z248) dX2_tieFor_123 rfl ?_
        exact mr_iretP dX2_tieFor_125 rfl (le_t rfl) (le_t rfl) ⟨h252, (vc_X2_tieFor_3 h257 h252 h258), (vc_X2_tieFor_4 h257 h252 h258), trivial⟩
      have h293 : 0 ≤ z247 ∧ z247 ≤ 9 := (vc_X12_ring_3 h292 h253 h263)
      have h294 : 1 ≤ z261 ∧ z261 ≤ 10 := (vc_X12_ring_4 h292 h293 h263)
      refine mr_iload_n (pc := 32) (z := p2) dX2_tieFor_32 rfl rfl ?_
      refine sv_aload_n (pc := 33) dX2_tieFor_33 rfl rfl ?_
      refine gf_X2_0 (pc := 34) dX2_tieFor_34 wF_X2_9 (A_87 hw) hT ?_
      refine gf_X10_2 (pc := 37) dX2_tieFor_37 wF_X2_46 (A_6 hw) hT ?_
      refine mr_iload (pc := 40) (z := z247) dX2_tieFor_40 rfl ?_
      refine la_9 (pc := 42) dX2_tieFor_42 (A_9 hw) hT (rIx (n := 10) h293 rfl) fun z295 q296 h297 => ?_
      refine mr_iand (pc := 43) (x := p2) (y := z295) dX2_tieFor_43 ?_
      refine mr_gen (P := fun z => (-2147483648) ≤ z ∧ z ≤ 2147483647) (r32i _) fun z298 q299 h300 => ?_
      refine sv_aload_n (pc := 44) dX2_tieFor_44 rfl rfl ?_
      refine gf_X2_0 (pc := 45) dX2_tieFor_45 wF_X2_9 (A_87 hw) hT ?_
      refine gf_X10_0 (pc := 48) dX2_tieFor_48 wF_X2_49 (A_6 hw) hT ?_
      refine mr_iload (pc := 51) (z := z247) dX2_tieFor_51 rfl ?_
      refine la_7 (pc := 53) dX2_tieFor_53 (A_7 hw) hT (rIx (n := 10) h293 rfl) fun z301 q302 h303 => ?_
      have J306 : ∀ (z304 : Int), ((0 ≤ z304 ∧ z304 ≤ 1)) → sV (gG l D c H0 sa) mX2_tieFor (sRm 1 0 0) (sZ (gG l D c H0 sa) 0 0 (qP w μ (fun z => ((-99999999) ≤ z ∧ z ≤ 19) ∧ (z = -99999999 ∨ z = -4 ∨ (0 ≤ z ∧ z ≤ 19)) ∧ (0 ≤ z → z < w.2.2.2 1) ∧ True))) 62 [(0, .ref 87), (2, iv p2), (3, .ref b1), (4, iv z249), (5, iv z248), (6, iv z247)] [iv z304] (mk w μ) 0 0 := by
        intro z304 h305
        refine mr_istore (pc := 62) (lv' := [(7, iv z304), (0, .ref 87), (2, iv p2), (3, .ref b1), (4, iv z249), (5, iv z248), (6, iv z247)]) dX2_tieFor_62 (by decide) rfl ?_
        refine mr_iload (pc := 64) (z := z304) dX2_tieFor_64 rfl ?_
        refine mr_if_eq (pc := 66) (tgt := 117) dX2_tieFor_66 (by decide) (r32 h305 rfl) (fun h322 => ?_) (fun h322 => ?_)
        · have h323 : 0 ≤ z304 ∧ z304 ≤ 0 := (vc_X12_ring_22 h322 h305)
          refine mr_iinc (pc := 117) (lv' := [(6, iv (z247 + 1)), (7, iv z304), (0, .ref 87), (2, iv p2), (3, .ref b1), (4, iv z249), (5, iv z248)]) dX2_tieFor_117 rfl (by decide) rfl ?_
          refine sv_goto (pc := 120) (tgt := 20) dX2_tieFor_120 (by decide) ?_
          refine mr_lvS (lv' := [(0, .ref 87), (2, iv p2), (3, .ref b1), (4, iv z249), (5, iv z248), (6, iv (z247 + 1))]) (List.forall_mem_cons.mpr ⟨rfl, List.forall_mem_cons.mpr ⟨rfl, List.forall_mem_cons.mpr ⟨rfl, List.forall_mem_cons.mpr ⟨rfl, List.forall_mem_cons.mpr ⟨rfl, List.forall_mem_cons.mpr ⟨rfl, fun _ h => absurd h List.not_mem_nil⟩⟩⟩⟩⟩⟩) ?_
          exact ih260 z249 z248 (z247 + 1) trivial h251 h252 (rW (c := 0) (d := 10) (rAdd (e := 1) (f := 10) h293 (rR (x := 1)) rfl) rfl) (vc_X2_tieFor_4 h257 h252 h258) (vc_X2_tieFor_9 h257 h252 h258) (vc_X12_sends_11 (nS h259) h292 h293 h294)
        have h324 : 1 ≤ z304 ∧ z304 ≤ 1 := (vc_X12_ring_24 h322 h305)
        refine sv_aload_n (pc := 69) dX2_tieFor_69 rfl rfl ?_
        refine gf_X0_2 (pc := 70) dX2_tieFor_70 wF_X2_52 A3 hT fun A325 => ?_
        refine mr_iload (pc := 73) (z := z247) dX2_tieFor_73 rfl ?_
        refine la_213 (pc := 75) dX2_tieFor_75 A325 hT (rIx (n := 10) h293 rfl) fun z326 q327 h328 => ?_
        have h329 : (-99999999) ≤ z326 ∧ z326 ≤ 19 := (vc_X12_sends_3 h328.1)
        refine mr_ldc (pc := 76) (z := (-99999999)) dX2_tieFor_76 wG_X2_41 (by decide) ?_
        refine mr_icmp_eq (pc := 78) (tgt := 117) dX2_tieFor_78 (by decide) (r32 h329 rfl) (r32 (rR (x := (-99999999))) rfl) (fun h338 => ?_) (fun h338 => ?_)
        · have h339 : (-99999999) ≤ z326 ∧ z326 ≤ (-99999999) := (vc_X11_picked_12 h338 h328.2 h329 h328.1)
          refine mr_iinc (pc := 117) (lv' := [(6, iv (z247 + 1)), (7, iv z304), (0, .ref 87), (2, iv p2), (3, .ref b1), (4, iv z249), (5, iv z248)]) dX2_tieFor_117 rfl (by decide) rfl ?_
          refine sv_goto (pc := 120) (tgt := 20) dX2_tieFor_120 (by decide) ?_
          refine mr_lvS (lv' := [(0, .ref 87), (2, iv p2), (3, .ref b1), (4, iv z249), (5, iv z248), (6, iv (z247 + 1))]) (List.forall_mem_cons.mpr ⟨rfl, List.forall_mem_cons.mpr ⟨rfl, List.forall_mem_cons.mpr ⟨rfl, List.forall_mem_cons.mpr ⟨rfl, List.forall_mem_cons.mpr ⟨rfl, List.forall_mem_cons.mpr ⟨rfl, fun _ h => absurd h List.not_mem_nil⟩⟩⟩⟩⟩⟩) ?_
          exact ih260 z249 z248 (z247 + 1) trivial h251 h252 (rW (c := 0) (d := 10) (rAdd (e := 1) (f := 10) h293 (rR (x := 1)) rfl) rfl) (vc_X2_tieFor_13 h257 h328.2 h338 h252 h258 h339 h328.1) (vc_X2_tieFor_14 h257 h328.2 h252 h258 h339 h328.1) (vc_X12_sends_11 (nS h259) h292 h293 h294)
        have h340 : (-4) ≤ z326 ∧ z326 ≤ 19 := (vc_X11_picked_13 h338 h328.2 h329 h328.1)
        refine sv_aload_n (pc := 81) dX2_tieFor_81 rfl rfl ?_
        refine gf_X2_0 (pc := 82) dX2_tieFor_82 wF_X2_9 (A_87 hw) hT ?_
        refine gf_X10_1 (pc := 85) dX2_tieFor_85 wF_X2_57 (A_6 hw) hT ?_
        refine mr_iload (pc := 88) (z := z247) dX2_tieFor_88 rfl ?_
        refine la_8 (pc := 90) dX2_tieFor_90 (A_8 hw) hT (rIx (n := 10) h293 rfl) fun z341 q342 h343 => ?_
        refine mr_iload (pc := 91) (z := z249) dX2_tieFor_91 rfl ?_
        refine mr_icmp_le (pc := 93) (tgt := 117) dX2_tieFor_93 (by decide) (r32 h343 rfl) (r32 h251 rfl) (fun h347 => ?_) (fun h347 => ?_)
        · have h348 : 0 ≤ z249 ∧ z249 ≤ 32 := (vc_X2_tieFor_16 h347 h251 h343)
          refine mr_iinc (pc := 117) (lv' := [(6, iv (z247 + 1)), (7, iv z304), (0, .ref 87), (2, iv p2), (3, .ref b1), (4, iv z249), (5, iv z248)]) dX2_tieFor_117 rfl (by decide) rfl ?_
          refine sv_goto (pc := 120) (tgt := 20) dX2_tieFor_120 (by decide) ?_
          refine mr_lvS (lv' := [(0, .ref 87), (2, iv p2), (3, .ref b1), (4, iv z249), (5, iv z248), (6, iv (z247 + 1))]) (List.forall_mem_cons.mpr ⟨rfl, List.forall_mem_cons.mpr ⟨rfl, List.forall_mem_cons.mpr ⟨rfl, List.forall_mem_cons.mpr ⟨rfl, List.forall_mem_cons.mpr ⟨rfl, List.forall_mem_cons.mpr ⟨rfl, fun _ h => absurd h List.not_mem_nil⟩⟩⟩⟩⟩⟩) ?_
          exact ih260 z249 z248 (z247 + 1) trivial (rW (c := (-1)) (d := 32) h348 rfl) h252 (rW (c := 0) (d := 10) (rAdd (e := 1) (f := 10) h293 (rR (x := 1)) rfl) rfl) (vc_X2_tieFor_17 h257 h328.2 h338 h252 h258 h340 h328.1) (vc_X2_tieFor_18 h257 h328.2 h252 h258 h340 h328.1) (vc_X12_sends_11 (nS h259) h292 h293 h294)
        have h349 : (-1) ≤ z249 ∧ z249 ≤ 31 := (vc_X2_tieFor_19 h347 h251 h343)
        refine sv_aload_n (pc := 96) dX2_tieFor_96 rfl rfl ?_
        refine gf_X2_0 (pc := 97) dX2_tieFor_97 wF_X2_9 (A_87 hw) hT ?_
        refine gf_X10_1 (pc := 100) dX2_tieFor_100 wF_X2_57 (A_6 hw) hT ?_
        refine mr_iload (pc := 103) (z := z247) dX2_tieFor_103 rfl ?_
        refine lk_8 (pc := 105) dX2_tieFor_105 (A_8 hw) (rIx (n := 10) h293 rfl) q342 ?_
        refine mr_istore (pc := 106) (lv' := [(4, iv z341), (7, iv z304), (0, .ref 87), (2, iv p2), (3, .ref b1), (5, iv z248), (6, iv z247)]) dX2_tieFor_106 (by decide) rfl ?_
        refine sv_aload_n (pc := 108) dX2_tieFor_108 rfl rfl ?_
        refine gf_X0_2 (pc := 109) dX2_tieFor_109 wF_X2_52 A3 hT fun A350 => ?_
        refine mr_iload (pc := 112) (z := z247) dX2_tieFor_112 rfl ?_
        refine lk_213 (pc := 114) dX2_tieFor_114 A350 (rIx (n := 10) h293 rfl) q327 ?_
        refine mr_istore (pc := 115) (lv' := [(5, iv z326), (4, iv z341), (7, iv z304), (0, .ref 87), (2, iv p2), (3, .ref b1), (6, iv z247)]) dX2_tieFor_115 (by decide) rfl ?_
        refine mr_iinc (pc := 117) (lv' := [(6, iv (z247 + 1)), (5, iv z326), (4, iv z341), (7, iv z304), (0, .ref 87), (2, iv p2), (3, .ref b1)]) dX2_tieFor_117 rfl (by decide) rfl ?_
        refine sv_goto (pc := 120) (tgt := 20) dX2_tieFor_120 (by decide) ?_
        refine mr_lvS (lv' := [(0, .ref 87), (2, iv p2), (3, .ref b1), (4, iv z341), (5, iv z326), (6, iv (z247 + 1))]) (List.forall_mem_cons.mpr ⟨rfl, List.forall_mem_cons.mpr ⟨rfl, List.forall_mem_cons.mpr ⟨rfl, List.forall_mem_cons.mpr ⟨rfl, List.forall_mem_cons.mpr ⟨rfl, List.forall_mem_cons.mpr ⟨rfl, fun _ h => absurd h List.not_mem_nil⟩⟩⟩⟩⟩⟩) ?_
        exact ih260 z341 z326 (z247 + 1) trivial (rW (c := (-1)) (d := 32) h343 rfl) (rW (c := (-99999999)) (d := 19) h340 rfl) (rW (c := 0) (d := 10) (rAdd (e := 1) (f := 10) h293 (rR (x := 1)) rfl) rfl) (vc_X2_tieFor_20 h257 h328.2 h338 h252 h258 h340 h328.1) (vc_X2_tieFor_21 h328.2 h338 h257 h252 h258 h340 h328.1) (vc_X12_sends_11 (nS h259) h292 h293 h294)
      refine mr_icmp_ne (pc := 54) (tgt := 61) dX2_tieFor_54 (by decide) h300 h303 (fun h351 => ?_) (fun h351 => ?_)
      · refine mr_iconst (pc := 61) (z := 0) dX2_tieFor_61 ?_
        exact J306 0 (rW (c := 0) (d := 1) (rR (x := 0)) rfl)
      refine mr_iconst (pc := 57) (z := 1) dX2_tieFor_57 ?_
      refine sv_goto (pc := 58) (tgt := 62) dX2_tieFor_58 (by decide) ?_
      exact J306 1 (rW (c := 0) (d := 1) (rR (x := 1)) rfl)
  refine mr_lvS (lv' := [(0, .ref 87), (2, iv p2), (3, .ref b1), (4, iv (-1)), (5, iv (-99999999)), (6, iv 0)]) (List.forall_mem_cons.mpr ⟨rfl, List.forall_mem_cons.mpr ⟨rfl, List.forall_mem_cons.mpr ⟨rfl, List.forall_mem_cons.mpr ⟨rfl, List.forall_mem_cons.mpr ⟨rfl, List.forall_mem_cons.mpr ⟨rfl, fun _ h => absurd h List.not_mem_nil⟩⟩⟩⟩⟩⟩) ?_
  exact L250 12 (-1) (-99999999) 0 trivial (rW (c := (-1)) (d := 32) (rR (x := (-1))) rfl) (rW (c := (-99999999)) (d := 19) (rR (x := (-99999999))) rfl) (rW (c := 0) (d := 10) (rR (x := 0)) rfl) vc_X2_tieFor_22 vc_X2_tieFor_24 vc_X12_ring_27
end
