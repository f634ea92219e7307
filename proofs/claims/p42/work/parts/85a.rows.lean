section
theorem vc_X4_find_w_8 {p2 p3 z377 : Int} (h0 : z377 < p3) (h1 : p2 + p3 ≤ 245) (h2 : 0 ≤ p2 ∧ p2 ≤ 244) (h3 : (-1) ≤ p3 ∧ p3 ≤ 7) (h4 : 0 ≤ z377 ∧ z377 ≤ 7) : 0 ≤ z377 ∧ z377 ≤ 6 := by omega
theorem vc_X4_find_w_9 {p2 p3 z377 : Int} (h0 : z377 < p3) (h1 : p2 + p3 ≤ 245) (h2 : 0 ≤ p2 ∧ p2 ≤ 244) (h3 : (-1) ≤ p3 ∧ p3 ≤ 7) (h4 : 0 ≤ z377 ∧ z377 ≤ 6) : 1 ≤ p3 ∧ p3 ≤ 7 := by omega
theorem vc_X4_find_w_11 {p2 p3 z377 : Int} (h0 : p2 + p3 ≤ 245) (h1 : z377 < p3) (h2 : 0 ≤ p2 ∧ p2 ≤ 244) (h3 : 1 ≤ p3 ∧ p3 ≤ 7) (h4 : 0 ≤ z377 ∧ z377 ≤ 6) : 0 ≤ (p2 + z377) ∧ (p2 + z377) < 245 := by omega
theorem vc_X4_find_w_12 {N p2 p3 z377 : Int} (h0 : (8 - z377) < N + 1) (h1 : z377 < p3) (h2 : p2 + p3 ≤ 245) (h3 : 0 ≤ p2 ∧ p2 ≤ 244) (h4 : 1 ≤ p3 ∧ p3 ≤ 7) (h5 : 0 ≤ z377 ∧ z377 ≤ 6) : (8 - (z377 + 1)) < N := by omega
theorem vc_X4_find_w_14 {p2 p3 z258 : Int} (h0 : z258 = p3) (h1 : p2 + p3 ≤ 245) (h2 : 0 ≤ p2 ∧ p2 ≤ 244) (h3 : (-1) ≤ p3 ∧ p3 ≤ 7) (h4 : 0 ≤ z258 ∧ z258 ≤ 7) : 0 ≤ p3 ∧ p3 ≤ 7 := by omega
set_option maxRecDepth 4000 in
set_option maxHeartbeats 4000000 in
theorem c_X4_find_w {l : Launch} {D : va_G} {c : Nat → ClassId} {H0 : Heap} {sa : Nat × Nat × (Nat → Int32)} {w : mW} {μ : mM} (hw : mWF w) (hT : mT w μ) (hA1 : mAt w 96 96) {p2 : Int} (hp2 : 0 ≤ p2 ∧ p2 ≤ 244) {p3 : Int} (hp3 : (-1) ≤ p3 ∧ p3 ≤ 7) (hq0 : p2 + p3 ≤ 245) : sC (gG l D c H0 sa) mX4_find 1 0 0 [.ref 94, .ref 96, iv p2, iv p3] (mk w μ) (qP w μ (fun z => ((-1) ≤ z ∧ z ≤ 4) ∧ True)) := by
  refine sC.of rfl (by decide) (le_t rfl) ?_
  refine mr_lvE (lv' := [(0, .ref 94), (1, .ref 96), (2, iv p2), (3, iv p3)]) rfl ?_
  refine sv_aload_n (pc := 0) dX4_find_0 rfl rfl ?_
  refine mr_iload_n (pc := 1) (z := p2) dX4_find_1 rfl rfl ?_
  refine la_96 (pc := 2) dX4_find_2 (A_96 hw) hT (rIx (n := 245) hp2 rfl) fun z1 q2 h3 => ?_
  refine mr_istore (pc := 3) (lv' := [(4, iv z1), (0, .ref 94), (1, .ref 96), (2, iv p2), (3, iv p3)]) dX4_find_3 (by decide) rfl ?_
  refine mr_iconst (pc := 5) (z := 0) dX4_find_5 ?_
  refine mr_istore (pc := 6) (lv' := [(5, iv 0), (4, iv z1), (0, .ref 94), (1, .ref 96), (2, iv p2), (3, iv p3)]) dX4_find_6 (by decide) rfl ?_
  have L245 : ∀ (nL245 : Nat) (z244 : Int), True → (0 ≤ z244 ∧ z244 ≤ 5) → (6 - z244) < (nL245 : Int) → sV (gG l D c H0 sa) mX4_find (sRm 1 0 0) (sZ (gG l D c H0 sa) 0 0 (qP w μ (fun z => ((-1) ≤ z ∧ z ≤ 4) ∧ True))) 8 [(0, .ref 94), (1, .ref 96), (2, iv p2), (3, iv p3), (4, iv z1), (5, iv z244)] [] (mk w μ) 0 0 := by
    intro nL245
    induction nL245 with
    | zero => intro z244 _ h246 h250; exact ((vc_X12_acted_1 h250 h246)).elim
    | succ nL245 ih251 =>
      intro z244 _ h246 h250
      refine mr_iload (pc := 8) (z := z244) dX4_find_8 rfl ?_
      refine sv_aload_n (pc := 10) dX4_find_10 rfl rfl ?_
      refine gf_X4_12 (pc := 11) dX4_find_11 wF_X4_11 (A_94 hw) hT ?_
      refine mr_iload (pc := 14) (z := z1) dX4_find_14 rfl ?_
      refine la_95 (pc := 16) dX4_find_16 (A_95 hw) hT (rIx (n := 7) h3 rfl) fun z252 q253 h254 => ?_
      refine mr_icmp_ge (pc := 17) (tgt := 110) dX4_find_17 (by decide) (r32 h246 rfl) (r32 h254 rfl) (fun h255 => ?_) (fun h255 => ?_)
      · refine mr_iconst (pc := 110) (z := (-1)) dX4_find_110 ?_
        exact mr_iretP dX4_find_111 rfl (le_t rfl) (le_t rfl) ⟨(rW (c := (-1)) (d := 4) (rR (x := (-1))) rfl), trivial⟩
      have h256 : 0 ≤ z244 ∧ z244 ≤ 4 := (vc_X12_acted_2 h255 h246 h254)
      have h257 : 1 ≤ z252 ∧ z252 ≤ 5 := (vc_X12_acted_3 h255 h256 h254)
      refine mr_iload (pc := 20) (z := z1) dX4_find_20 rfl ?_
      refine mr_iconst (pc := 22) (z := 5) dX4_find_22 ?_
      refine mr_imul (pc := 23) (x := z1) (y := 5) dX4_find_23 ?_
      refine mr_iload (pc := 24) (z := z244) dX4_find_24 rfl ?_
      refine mr_iadd (pc := 26) (x := (z1 * 5)) (y := z244) dX4_find_26 ?_
      refine mr_istore (pc := 27) (lv' := [(6, iv ((z1 * 5) + z244)), (0, .ref 94), (1, .ref 96), (2, iv p2), (3, iv p3), (4, iv z1), (5, iv z244)]) dX4_find_27 (by decide) rfl ?_
      refine sv_aload_n (pc := 29) dX4_find_29 rfl rfl ?_
      refine gf_X4_1 (pc := 30) dX4_find_30 wF_X4_18 (A_94 hw) hT ?_
      refine mr_iload (pc := 33) (z := ((z1 * 5) + z244)) dX4_find_33 rfl ?_
      refine la_97 (pc := 35) dX4_find_35 (A_97 hw) hT (rIx (n := 35) (rAdd (e := 0) (f := 34) (rMulR (n := 5) (e := 0) (f := 30) h3 rfl) h256 rfl) rfl) fun z258 q259 h260 => ?_
      refine mr_iload_n (pc := 36) (z := p3) dX4_find_36 rfl rfl ?_
      have J264 : ∀ (z262 : Int), ((0 ≤ z262 ∧ z262 ≤ 1)) → sV (gG l D c H0 sa) mX4_find (sRm 1 0 0) (sZ (gG l D c H0 sa) 0 0 (qP w μ (fun z => ((-1) ≤ z ∧ z ≤ 4) ∧ True))) 45 [(0, .ref 94), (1, .ref 96), (2, iv p2), (3, iv p3), (4, iv z1), (5, iv z244), (6, iv ((z1 * 5) + z244))] [iv z262] (mk w μ) 0 0 := by
        intro z262 h263
        refine mr_istore (pc := 45) (lv' := [(7, iv z262), (0, .ref 94), (1, .ref 96), (2, iv p2), (3, iv p3), (4, iv z1), (5, iv z244), (6, iv ((z1 * 5) + z244))]) dX4_find_45 (by decide) rfl ?_
        refine mr_iconst (pc := 47) (z := 0) dX4_find_47 ?_
        refine mr_istore (pc := 48) (lv' := [(8, iv 0), (7, iv z262), (0, .ref 94), (1, .ref 96), (2, iv p2), (3, iv p3), (4, iv z1), (5, iv z244), (6, iv ((z1 * 5) + z244))]) dX4_find_48 (by decide) rfl ?_
        have L379 : ∀ (nL379 : Nat) (z378 z377 : Int), True → (0 ≤ z378 ∧ z378 ≤ 1) → (0 ≤ z377 ∧ z377 ≤ 7) → (8 - z377) < (nL379 : Int) → sV (gG l D c H0 sa) mX4_find (sRm 1 0 0) (sZ (gG l D c H0 sa) 0 0 (qP w μ (fun z => ((-1) ≤ z ∧ z ≤ 4) ∧ True))) 50 [(0, .ref 94), (1, .ref 96), (2, iv p2), (3, iv p3), (4, iv z1), (5, iv z244), (6, iv ((z1 * 5) + z244)), (7, iv z378), (8, iv z377)] [] (mk w μ) 0 0 := by
          intro nL379
          induction nL379 with
          | zero => intro z378 z377 _ h380 h381 h385; exact ((vc_X12_isWished_2 h385 h381)).elim
          | succ nL379 ih386 =>
            intro z378 z377 _ h380 h381 h385
            refine mr_iload (pc := 50) (z := z377) dX4_find_50 rfl ?_
            refine mr_iload_n (pc := 52) (z := p3) dX4_find_52 rfl rfl ?_
            refine mr_icmp_ge (pc := 53) (tgt := 96) dX4_find_53 (by decide) (r32 h381 rfl) (r32 hp3 rfl) (fun h397 => ?_) (fun h397 => ?_)
            · refine mr_iload (pc := 96) (z := z378) dX4_find_96 rfl ?_
              refine mr_if_eq (pc := 98) (tgt := 104) dX4_find_98 (by decide) (r32 h380 rfl) (fun h398 => ?_) (fun h398 => ?_)
              · have h399 : 0 ≤ z378 ∧ z378 ≤ 0 := (vc_X12_ring_22 h398 h380)
                refine mr_iinc (pc := 104) (lv' := [(5, iv (z244 + 1)), (0, .ref 94), (1, .ref 96), (2, iv p2), (3, iv p3), (4, iv z1), (6, iv ((z1 * 5) + z244)), (7, iv z378), (8, iv z377)]) dX4_find_104 rfl (by decide) rfl ?_
                refine sv_goto (pc := 107) (tgt := 8) dX4_find_107 (by decide) ?_
                refine mr_lvS (lv' := [(0, .ref 94), (1, .ref 96), (2, iv p2), (3, iv p3), (4, iv z1), (5, iv (z244 + 1))]) (List.forall_mem_cons.mpr ⟨rfl, List.forall_mem_cons.mpr ⟨rfl, List.forall_mem_cons.mpr ⟨rfl, List.forall_mem_cons.mpr ⟨rfl, List.forall_mem_cons.mpr ⟨rfl, List.forall_mem_cons.mpr ⟨rfl, fun _ h => absurd h List.not_mem_nil⟩⟩⟩⟩⟩⟩) ?_
                exact ih251 (z244 + 1) trivial (rW (c := 0) (d := 5) (rAdd (e := 1) (f := 5) h256 (rR (x := 1)) rfl) rfl) (vc_X12_acted_11 (nS h250) h255 h256 h257)
              have h400 : 1 ≤ z378 ∧ z378 ≤ 1 := (vc_X12_ring_24 h398 h380)
              refine mr_iload (pc := 101) (z := z244) dX4_find_101 rfl ?_
              exact mr_iretP dX4_find_103 rfl (le_t rfl) (le_t rfl) ⟨(rW (c := (-1)) (d := 4) h256 rfl), trivial⟩
            have h401 : 0 ≤ z377 ∧ z377 ≤ 6 := (vc_X4_find_w_8 h397 hq0 hp2 hp3 h381)
            have h402 : 1 ≤ p3 ∧ p3 ≤ 7 := (vc_X4_find_w_9 h397 hq0 hp2 hp3 h401)
            refine mr_iload (pc := 56) (z := z378) dX4_find_56 rfl ?_
            refine mr_if_eq (pc := 58) (tgt := 96) dX4_find_58 (by decide) (r32 h380 rfl) (fun h411 => ?_) (fun h411 => ?_)
            · have h412 : 0 ≤ z378 ∧ z378 ≤ 0 := (vc_X12_ring_22 h411 h380)
              refine mr_iload (pc := 96) (z := z378) dX4_find_96 rfl ?_
              refine mr_if_eq (pc := 98) (tgt := 104) dX4_find_98 (by decide) (r32 h412 rfl) (fun _ => ?_) (fun h => ((vc_X10_firstWrongStep_7 h h412)).elim)
              refine mr_iinc (pc := 104) (lv' := [(5, iv (z244 + 1)), (0, .ref 94), (1, .ref 96), (2, iv p2), (3, iv p3), (4, iv z1), (6, iv ((z1 * 5) + z244)), (7, iv z378), (8, iv z377)]) dX4_find_104 rfl (by decide) rfl ?_
              refine sv_goto (pc := 107) (tgt := 8) dX4_find_107 (by decide) ?_
              refine mr_lvS (lv' := [(0, .ref 94), (1, .ref 96), (2, iv p2), (3, iv p3), (4, iv z1), (5, iv (z244 + 1))]) (List.forall_mem_cons.mpr ⟨rfl, List.forall_mem_cons.mpr ⟨rfl, List.forall_mem_cons.mpr ⟨rfl, List.forall_mem_cons.mpr ⟨rfl, List.forall_mem_cons.mpr ⟨rfl, List.forall_mem_cons.mpr ⟨rfl, fun _ h => absurd h List.not_mem_nil⟩⟩⟩⟩⟩⟩) ?_
              exact ih251 (z244 + 1) trivial (rW (c := 0) (d := 5) (rAdd (e := 1) (f := 5) h256 (rR (x := 1)) rfl) rfl) (vc_X12_acted_11 (nS h250) h255 h256 h257)
            have h413 : 1 ≤ z378 ∧ z378 ≤ 1 := (vc_X12_ring_24 h411 h380)
            refine sv_aload_n (pc := 61) dX4_find_61 rfl rfl ?_
            refine gf_X4_0 (pc := 62) dX4_find_62 wF_X4_15 (A_94 hw) hT ?_
            refine mr_iload (pc := 65) (z := ((z1 * 5) + z244)) dX4_find_65 rfl ?_
            refine mr_bipush (pc := 67) (z := 7) dX4_find_67 (by decide) ?_
            refine mr_imul (pc := 69) (x := ((z1 * 5) + z244)) (y := 7) dX4_find_69 ?_
            refine mr_iload (pc := 70) (z := z377) dX4_find_70 rfl ?_
            refine mr_iadd (pc := 72) (x := (((z1 * 5) + z244) * 7)) (y := z377) dX4_find_72 ?_
            refine la_96 (pc := 73) dX4_find_73 (A_96 hw) hT (rIx (n := 245) (rAdd (e := 0) (f := 244) (rMulR (n := 7) (e := 0) (f := 238) (rAdd (e := 0) (f := 34) (rMulR (n := 5) (e := 0) (f := 30) h3 rfl) h256 rfl) rfl) h401 rfl) rfl) fun z414 q415 h416 => ?_
            refine sv_aload_n (pc := 74) dX4_find_74 rfl rfl ?_
            refine mr_iload_n (pc := 75) (z := p2) dX4_find_75 rfl rfl ?_
            refine mr_iload (pc := 76) (z := z377) dX4_find_76 rfl ?_
            refine mr_iadd (pc := 78) (x := p2) (y := z377) dX4_find_78 ?_
            refine la_96 (pc := 79) dX4_find_79 (A_96 hw) hT (vc_X4_find_w_11 hq0 h397 hp2 h402 h401) fun z417 q418 h419 => ?_
            refine mr_icmp_ne (pc := 80) (tgt := 87) dX4_find_80 (by decide) (r32 h416 rfl) (r32 h419 rfl) (fun h420 => ?_) (fun h420 => ?_)
            · refine mr_iconst (pc := 87) (z := 0) dX4_find_87 ?_
              refine mr_istore (pc := 88) (lv' := [(7, iv 0), (0, .ref 94), (1, .ref 96), (2, iv p2), (3, iv p3), (4, iv z1), (5, iv z244), (6, iv ((z1 * 5) + z244)), (8, iv z377)]) dX4_find_88 (by decide) rfl ?_
              refine mr_iinc (pc := 90) (lv' := [(8, iv (z377 + 1)), (7, iv 0), (0, .ref 94), (1, .ref 96), (2, iv p2), (3, iv p3), (4, iv z1), (5, iv z244), (6, iv ((z1 * 5) + z244))]) dX4_find_90 rfl (by decide) rfl ?_
              refine sv_goto (pc := 93) (tgt := 50) dX4_find_93 (by decide) ?_
              refine mr_lvS (lv' := [(0, .ref 94), (1, .ref 96), (2, iv p2), (3, iv p3), (4, iv z1), (5, iv z244), (6, iv ((z1 * 5) + z244)), (7, iv 0), (8, iv (z377 + 1))]) (List.forall_mem_cons.mpr ⟨rfl, List.forall_mem_cons.mpr ⟨rfl, List.forall_mem_cons.mpr ⟨rfl, List.forall_mem_cons.mpr ⟨rfl, List.forall_mem_cons.mpr ⟨rfl, List.forall_mem_cons.mpr ⟨rfl, List.forall_mem_cons.mpr ⟨rfl, List.forall_mem_cons.mpr ⟨rfl, List.forall_mem_cons.mpr ⟨rfl, fun _ h => absurd h List.not_mem_nil⟩⟩⟩⟩⟩⟩⟩⟩⟩) ?_
              exact ih386 0 (z377 + 1) trivial (rW (c := 0) (d := 1) (rR (x := 0)) rfl) (rW (c := 0) (d := 7) (rAdd (e := 1) (f := 7) h401 (rR (x := 1)) rfl) rfl) (vc_X4_find_w_12 (nS h385) h397 hq0 hp2 h402 h401)
            refine mr_iconst (pc := 83) (z := 1) dX4_find_83 ?_
            refine sv_goto (pc := 84) (tgt := 88) dX4_find_84 (by decide) ?_
            refine mr_istore (pc := 88) (lv' := [(7, iv 1), (0, .ref 94), (1, .ref 96), (2, iv p2), (3, iv p3), (4, iv z1), (5, iv z244), (6, iv ((z1 * 5) + z244)), (8, iv z377)]) dX4_find_88 (by decide) rfl ?_
            refine mr_iinc (pc := 90) (lv' := [(8, iv (z377 + 1)), (7, iv 1), (0, .ref 94), (1, .ref 96), (2, iv p2), (3, iv p3), (4, iv z1), (5, iv z244), (6, iv ((z1 * 5) + z244))]) dX4_find_90 rfl (by decide) rfl ?_
            refine sv_goto (pc := 93) (tgt := 50) dX4_find_93 (by decide) ?_
            refine mr_lvS (lv' := [(0, .ref 94), (1, .ref 96), (2, iv p2), (3, iv p3), (4, iv z1), (5, iv z244), (6, iv ((z1 * 5) + z244)), (7, iv 1), (8, iv (z377 + 1))]) (List.forall_mem_cons.mpr ⟨rfl, List.forall_mem_cons.mpr ⟨rfl, List.forall_mem_cons.mpr ⟨rfl, List.forall_mem_cons.mpr ⟨rfl, List.forall_mem_cons.mpr ⟨rfl, List.forall_mem_cons.mpr ⟨rfl, List.forall_mem_cons.mpr ⟨rfl, List.forall_mem_cons.mpr ⟨rfl, List.forall_mem_cons.mpr ⟨rfl, fun _ h => absurd h List.not_mem_nil⟩⟩⟩⟩⟩⟩⟩⟩⟩) ?_
            exact ih386 1 (z377 + 1) trivial (rW (c := 0) (d := 1) (rR (x := 1)) rfl) (rW (c := 0) (d := 7) (rAdd (e := 1) (f := 7) h401 (rR (x := 1)) rfl) rfl) (vc_X4_find_w_12 (nS h385) h397 hq0 hp2 h402 h401)
        refine mr_lvS (lv' := [(0, .ref 94), (1, .ref 96), (2, iv p2), (3, iv p3), (4, iv z1), (5, iv z244), (6, iv ((z1 * 5) + z244)), (7, iv z262), (8, iv 0)]) (List.forall_mem_cons.mpr ⟨rfl, List.forall_mem_cons.mpr ⟨rfl, List.forall_mem_cons.mpr ⟨rfl, List.forall_mem_cons.mpr ⟨rfl, List.forall_mem_cons.mpr ⟨rfl, List.forall_mem_cons.mpr ⟨rfl, List.forall_mem_cons.mpr ⟨rfl, List.forall_mem_cons.mpr ⟨rfl, List.forall_mem_cons.mpr ⟨rfl, fun _ h => absurd h List.not_mem_nil⟩⟩⟩⟩⟩⟩⟩⟩⟩) ?_
        exact L379 9 z262 0 trivial h263 (rW (c := 0) (d := 7) (rR (x := 0)) rfl) vc_X12_isWished_9
      refine mr_icmp_ne (pc := 37) (tgt := 44) dX4_find_37 (by decide) (r32 h260 rfl) (r32 hp3 rfl) (fun h421 => ?_) (fun h421 => ?_)
      · refine mr_iconst (pc := 44) (z := 0) dX4_find_44 ?_
        refine mr_lvS (lv' := [(0, .ref 94), (1, .ref 96), (2, iv p2), (3, iv p3), (4, iv z1), (5, iv z244), (6, iv ((z1 * 5) + z244))]) (List.forall_mem_cons.mpr ⟨rfl, List.forall_mem_cons.mpr ⟨rfl, List.forall_mem_cons.mpr ⟨rfl, List.forall_mem_cons.mpr ⟨rfl, List.forall_mem_cons.mpr ⟨rfl, List.forall_mem_cons.mpr ⟨rfl, List.forall_mem_cons.mpr ⟨rfl, fun _ h => absurd h List.not_mem_nil⟩⟩⟩⟩⟩⟩⟩) ?_
        exact J264 0 (rW (c := 0) (d := 1) (rR (x := 0)) rfl)
      have h422 : 0 ≤ p3 ∧ p3 ≤ 7 := (vc_X4_find_w_14 h421 hq0 hp2 hp3 h260)
      refine mr_iconst (pc := 40) (z := 1) dX4_find_40 ?_
      refine sv_goto (pc := 41) (tgt := 45) dX4_find_41 (by decide) ?_
      refine mr_lvS (lv' := [(0, .ref 94), (1, .ref 96), (2, iv p2), (3, iv p3), (4, iv z1), (5, iv z244), (6, iv ((z1 * 5) + z244))]) (List.forall_mem_cons.mpr ⟨rfl, List.forall_mem_cons.mpr ⟨rfl, List.forall_mem_cons.mpr ⟨rfl, List.forall_mem_cons.mpr ⟨rfl, List.forall_mem_cons.mpr ⟨rfl, List.forall_mem_cons.mpr ⟨rfl, List.forall_mem_cons.mpr ⟨rfl, fun _ h => absurd h List.not_mem_nil⟩⟩⟩⟩⟩⟩⟩) ?_
      exact J264 1 (rW (c := 0) (d := 1) (rR (x := 1)) rfl)
  refine mr_lvS (lv' := [(0, .ref 94), (1, .ref 96), (2, iv p2), (3, iv p3), (4, iv z1), (5, iv 0)]) (List.forall_mem_cons.mpr ⟨rfl, List.forall_mem_cons.mpr ⟨rfl, List.forall_mem_cons.mpr ⟨rfl, List.forall_mem_cons.mpr ⟨rfl, List.forall_mem_cons.mpr ⟨rfl, List.forall_mem_cons.mpr ⟨rfl, fun _ h => absurd h List.not_mem_nil⟩⟩⟩⟩⟩⟩) ?_
  exact L245 7 0 trivial (rW (c := 0) (d := 5) (rR (x := 0)) rfl) vc_X12_acted_13
set_option maxRecDepth 4000 in
set_option maxHeartbeats 4000000 in
theorem c_X4_find_h {l : Launch} {D : va_G} {c : Nat → ClassId} {H0 : Heap} {sa : Nat × Nat × (Nat → Int32)} {w : mW} {μ : mM} (hw : mWF w) (hT : mT w μ) (hA1 : mAt w 2 2) {p2 : Int} (hp2 : 0 ≤ p2 ∧ p2 ≤ 0) {p3 : Int} (hp3 : 0 ≤ p3 ∧ p3 ≤ 7) {f_p : Int} (q_f_p : μ 2 (p2.toNat) = f_p) (hq0 : f_p ≤ 6) : sC (gG l D c H0 sa) mX4_find 1 0 0 [.ref 94, .ref 2, iv p2, iv p3] (mk w μ) (qP w μ (fun z => ((-1) ≤ z ∧ z ≤ 4) ∧ True)) := by
  refine sC.of rfl (by decide) (le_t rfl) ?_
  have ht_f_p : (0 ≤ f_p ∧ f_p ≤ 9) := by rw [← q_f_p]; exact hT 2 2 (A_2 hw) (p2.toNat)
  have h1 : 0 ≤ f_p ∧ f_p ≤ 6 := (vc_X12_wish_34 hq0 ht_f_p)
  refine mr_lvE (lv' := [(0, .ref 94), (1, .ref 2), (2, iv p2), (3, iv p3)]) rfl ?_
  refine sv_aload_n (pc := 0) dX4_find_0 rfl rfl ?_
  refine mr_iload_n (pc := 1) (z := p2) dX4_find_1 rfl rfl ?_
  refine lk_2 (pc := 2) dX4_find_2 (A_2 hw) (rIx (n := 20) hp2 rfl) q_f_p ?_
  refine mr_istore (pc := 3) (lv' := [(4, iv f_p), (0, .ref 94), (1, .ref 2), (2, iv p2), (3, iv p3)]) dX4_find_3 (by decide) rfl ?_
  refine mr_iconst (pc := 5) (z := 0) dX4_find_5 ?_
  refine mr_istore (pc := 6) (lv' := [(5, iv 0), (4, iv f_p), (0, .ref 94), (1, .ref 2), (2, iv p2), (3, iv p3)]) dX4_find_6 (by decide) rfl ?_
  have L749 : ∀ (nL749 : Nat) (z748 : Int), True → (0 ≤ z748 ∧ z748 ≤ 5) → (6 - z748) < (nL749 : Int) → sV (gG l D c H0 sa) mX4_find (sRm 1 0 0) (sZ (gG l D c H0 sa) 0 0 (qP w μ (fun z => ((-1) ≤ z ∧ z ≤ 4) ∧ True))) 8 [(0, .ref 94), (1, .ref 2), (2, iv p2), (3, iv p3), (4, iv f_p), (5, iv z748)] [] (mk w μ) 0 0 := by
    intro nL749
    induction nL749 with
    | zero => intro z748 _ h750 h754; exact ((vc_X12_acted_1 h754 h750)).elim
    | succ nL749 ih755 =>
      intro z748 _ h750 h754
      refine mr_iload (pc := 8) (z := z748) dX4_find_8 rfl ?_
      refine sv_aload_n (pc := 10) dX4_find_10 rfl rfl ?_
      refine gf_X4_12 (pc := 11) dX4_find_11 wF_X4_11 (A_94 hw) hT ?_
      refine mr_iload (pc := 14) (z := f_p) dX4_find_14 rfl ?_
      refine la_95 (pc := 16) dX4_find_16 (A_95 hw) hT (rIx (n := 7) h1 rfl) fun z756 q757 h758 => ?_
      refine mr_icmp_ge (pc := 17) (tgt := 110) dX4_find_17 (by decide) (r32 h750 rfl) (r32 h758 rfl) (fun h759 => ?_) (fun h759 => ?_)
      · refine mr_iconst (pc := 110) (z := (-1)) dX4_find_110 ?_
        exact mr_iretP dX4_find_111 rfl (le_t rfl) (le_t rfl) ⟨(rW (c := (-1)) (d := 4) (rR (x := (-1))) rfl), trivial⟩
      have h760 : 0 ≤ z748 ∧ z748 ≤ 4 := (vc_X12_acted_2 h759 h750 h758)
      have h761 : 1 ≤ z756 ∧ z756 ≤ 5 := (vc_X12_acted_3 h759 h760 h758)
      refine mr_iload (pc := 20) (z := f_p) dX4_find_20 rfl ?_
      refine mr_iconst (pc := 22) (z := 5) dX4_find_22 ?_
      refine mr_imul (pc := 23) (x := f_p) (y := 5) dX4_find_23 ?_
      refine mr_iload (pc := 24) (z := z748) dX4_find_24 rfl ?_
      refine mr_iadd (pc := 26) (x := (f_p * 5)) (y := z748) dX4_find_26 ?_
      refine mr_istore (pc := 27) (lv' := [(6, iv ((f_p * 5) + z748)), (0, .ref 94), (1, .ref 2), (2, iv p2), (3, iv p3), (4, iv f_p), (5, iv z748)]) dX4_find_27 (by decide) rfl ?_
      refine sv_aload_n (pc := 29) dX4_find_29 rfl rfl ?_
      refine gf_X4_1 (pc := 30) dX4_find_30 wF_X4_18 (A_94 hw) hT ?_
      refine mr_iload (pc := 33) (z := ((f_p * 5) + z748)) dX4_find_33 rfl ?_
      refine la_97 (pc := 35) dX4_find_35 (A_97 hw) hT (rIx (n := 35) (rAdd (e := 0) (f := 34) (rMulR (n := 5) (e := 0) (f := 30) h1 rfl) h760 rfl) rfl) fun z762 q763 h764 => ?_
      refine mr_iload_n (pc := 36) (z := p3) dX4_find_36 rfl rfl ?_
      have J767 : ∀ (z765 : Int), ((0 ≤ z765 ∧ z765 ≤ 1)) → sV (gG l D c H0 sa) mX4_find (sRm 1 0 0) (sZ (gG l D c H0 sa) 0 0 (qP w μ (fun z => ((-1) ≤ z ∧ z ≤ 4) ∧ True))) 45 [(0, .ref 94), (1, .ref 2), (2, iv p2), (3, iv p3), (4, iv f_p), (5, iv z748), (6, iv ((f_p * 5) + z748))] [iv z765] (mk w μ) 0 0 := by
        intro z765 h766
        refine mr_istore (pc := 45) (lv' := [(7, iv z765), (0, .ref 94), (1, .ref 2), (2, iv p2), (3, iv p3), (4, iv f_p), (5, iv z748), (6, iv ((f_p * 5) + z748))]) dX4_find_45 (by decide) rfl ?_
        refine mr_iconst (pc := 47) (z := 0) dX4_find_47 ?_
        refine mr_istore (pc := 48) (lv' := [(8, iv 0), (7, iv z765), (0, .ref 94), (1, .ref 2), (2, iv p2), (3, iv p3), (4, iv f_p), (5, iv z748), (6, iv ((f_p * 5) + z748))]) dX4_find_48 (by decide) rfl ?_
        have L890 : ∀ (nL890 : Nat) (z889 z888 : Int), True → (0 ≤ z889 ∧ z889 ≤ 1) → (0 ≤ z888 ∧ z888 ≤ 7) → (8 - z888) < (nL890 : Int) → sV (gG l D c H0 sa) mX4_find (sRm 1 0 0) (sZ (gG l D c H0 sa) 0 0 (qP w μ (fun z => ((-1) ≤ z ∧ z ≤ 4) ∧ True))) 50 [(0, .ref 94), (1, .ref 2), (2, iv p2), (3, iv p3), (4, iv f_p), (5, iv z748), (6, iv ((f_p * 5) + z748)), (7, iv z889), (8, iv z888)] [] (mk w μ) 0 0 := by
          intro nL890
          induction nL890 with
          | zero => intro z889 z888 _ h891 h892 h896; exact ((vc_X12_isWished_2 h896 h892)).elim
          | succ nL890 ih897 =>
            intro z889 z888 _ h891 h892 h896
            refine mr_iload (pc := 50) (z := z888) dX4_find_50 rfl ?_
            refine mr_iload_n (pc := 52) (z := p3) dX4_find_52 rfl rfl ?_
            refine mr_icmp_ge (pc := 53) (tgt := 96) dX4_find_53 (by decide) (r32 h892 rfl) (r32 hp3 rfl) (fun h909 => ?_) (fun h909 => ?_)
            · refine mr_iload (pc := 96) (z := z889) dX4_find_96 rfl ?_
              refine mr_if_eq (pc := 98) (tgt := 104) dX4_find_98 (by decide) (r32 h891 rfl) (fun h910 => ?_) (fun h910 => ?_)
              · have h911 : 0 ≤ z889 ∧ z889 ≤ 0 := (vc_X12_ring_22 h910 h891)
                refine mr_iinc (pc := 104) (lv' := [(5, iv (z748 + 1)), (0, .ref 94), (1, .ref 2), (2, iv p2), (3, iv p3), (4, iv f_p), (6, iv ((f_p * 5) + z748)), (7, iv z889), (8, iv z888)]) dX4_find_104 rfl (by decide) rfl ?_
                refine sv_goto (pc := 107) (tgt := 8) dX4_find_107 (by decide) ?_
                refine mr_lvS (lv' := [(0, .ref 94), (1, .ref 2), (2, iv p2), (3, iv p3), (4, iv f_p), (5, iv (z748 + 1))]) (List.forall_mem_cons.mpr ⟨rfl, List.forall_mem_cons.mpr ⟨rfl, List.forall_mem_cons.mpr ⟨rfl, List.forall_mem_cons.mpr ⟨rfl, List.forall_mem_cons.mpr ⟨rfl, List.forall_mem_cons.mpr ⟨rfl, fun _ h => absurd h List.not_mem_nil⟩⟩⟩⟩⟩⟩) ?_
                exact ih755 (z748 + 1) trivial (rW (c := 0) (d := 5) (rAdd (e := 1) (f := 5) h760 (rR (x := 1)) rfl) rfl) (vc_X12_acted_11 (nS h754) h759 h760 h761)
              have h912 : 1 ≤ z889 ∧ z889 ≤ 1 := (vc_X12_ring_24 h910 h891)
              refine mr_iload (pc := 101) (z := z748) dX4_find_101 rfl ?_
              exact mr_iretP dX4_find_103 rfl (le_t rfl) (le_t rfl) ⟨(rW (c := (-1)) (d := 4) h760 rfl), trivial⟩
            have h913 : 0 ≤ z888 ∧ z888 ≤ 6 := (vc_X12_isOffered_4 h909 hp3 h892)
            have h914 : 1 ≤ p3 ∧ p3 ≤ 7 := (vc_X12_isOffered_5 h909 hp3 h913)
            refine mr_iload (pc := 56) (z := z889) dX4_find_56 rfl ?_
            refine mr_if_eq (pc := 58) (tgt := 96) dX4_find_58 (by decide) (r32 h891 rfl) (fun h924 => ?_) (fun h924 => ?_)
            · have h925 : 0 ≤ z889 ∧ z889 ≤ 0 := (vc_X12_ring_22 h924 h891)
              refine mr_iload (pc := 96) (z := z889) dX4_find_96 rfl ?_
              refine mr_if_eq (pc := 98) (tgt := 104) dX4_find_98 (by decide) (r32 h925 rfl) (fun _ => ?_) (fun h => ((vc_X10_firstWrongStep_7 h h925)).elim)
              refine mr_iinc (pc := 104) (lv' := [(5, iv (z748 + 1)), (0, .ref 94), (1, .ref 2), (2, iv p2), (3, iv p3), (4, iv f_p), (6, iv ((f_p * 5) + z748)), (7, iv z889), (8, iv z888)]) dX4_find_104 rfl (by decide) rfl ?_
              refine sv_goto (pc := 107) (tgt := 8) dX4_find_107 (by decide) ?_
              refine mr_lvS (lv' := [(0, .ref 94), (1, .ref 2), (2, iv p2), (3, iv p3), (4, iv f_p), (5, iv (z748 + 1))]) (List.forall_mem_cons.mpr ⟨rfl, List.forall_mem_cons.mpr ⟨rfl, List.forall_mem_cons.mpr ⟨rfl, List.forall_mem_cons.mpr ⟨rfl, List.forall_mem_cons.mpr ⟨rfl, List.forall_mem_cons.mpr ⟨rfl, fun _ h => absurd h List.not_mem_nil⟩⟩⟩⟩⟩⟩) ?_
              exact ih755 (z748 + 1) trivial (rW (c := 0) (d := 5) (rAdd (e := 1) (f := 5) h760 (rR (x := 1)) rfl) rfl) (vc_X12_acted_11 (nS h754) h759 h760 h761)
            have h926 : 1 ≤ z889 ∧ z889 ≤ 1 := (vc_X12_ring_24 h924 h891)
            refine sv_aload_n (pc := 61) dX4_find_61 rfl rfl ?_
            refine gf_X4_0 (pc := 62) dX4_find_62 wF_X4_15 (A_94 hw) hT ?_
            refine mr_iload (pc := 65) (z := ((f_p * 5) + z748)) dX4_find_65 rfl ?_
            refine mr_bipush (pc := 67) (z := 7) dX4_find_67 (by decide) ?_
            refine mr_imul (pc := 69) (x := ((f_p * 5) + z748)) (y := 7) dX4_find_69 ?_
            refine mr_iload (pc := 70) (z := z888) dX4_find_70 rfl ?_
            refine mr_iadd (pc := 72) (x := (((f_p * 5) + z748) * 7)) (y := z888) dX4_find_72 ?_
            refine la_96 (pc := 73) dX4_find_73 (A_96 hw) hT (rIx (n := 245) (rAdd (e := 0) (f := 244) (rMulR (n := 7) (e := 0) (f := 238) (rAdd (e := 0) (f := 34) (rMulR (n := 5) (e := 0) (f := 30) h1 rfl) h760 rfl) rfl) h913 rfl) rfl) fun z927 q928 h929 => ?_
            refine sv_aload_n (pc := 74) dX4_find_74 rfl rfl ?_
            refine mr_iload_n (pc := 75) (z := p2) dX4_find_75 rfl rfl ?_
            refine mr_iload (pc := 76) (z := z888) dX4_find_76 rfl ?_
            refine mr_iadd (pc := 78) (x := p2) (y := z888) dX4_find_78 ?_
            refine la_2 (pc := 79) dX4_find_79 (A_2 hw) hT (rIx (n := 20) (rAdd (e := 0) (f := 6) hp2 h913 rfl) rfl) fun z930 q931 h932 => ?_
            refine mr_icmp_ne (pc := 80) (tgt := 87) dX4_find_80 (by decide) (r32 h929 rfl) (r32 h932 rfl) (fun h934 => ?_) (fun h934 => ?_)
            · refine mr_iconst (pc := 87) (z := 0) dX4_find_87 ?_
              refine mr_istore (pc := 88) (lv' := [(7, iv 0), (0, .ref 94), (1, .ref 2), (2, iv p2), (3, iv p3), (4, iv f_p), (5, iv z748), (6, iv ((f_p * 5) + z748)), (8, iv z888)]) dX4_find_88 (by decide) rfl ?_
              refine mr_iinc (pc := 90) (lv' := [(8, iv (z888 + 1)), (7, iv 0), (0, .ref 94), (1, .ref 2), (2, iv p2), (3, iv p3), (4, iv f_p), (5, iv z748), (6, iv ((f_p * 5) + z748))]) dX4_find_90 rfl (by decide) rfl ?_
              refine sv_goto (pc := 93) (tgt := 50) dX4_find_93 (by decide) ?_
              refine mr_lvS (lv' := [(0, .ref 94), (1, .ref 2), (2, iv p2), (3, iv p3), (4, iv f_p), (5, iv z748), (6, iv ((f_p * 5) + z748)), (7, iv 0), (8, iv (z888 + 1))]) (List.forall_mem_cons.mpr ⟨rfl, List.forall_mem_cons.mpr ⟨rfl, List.forall_mem_cons.mpr ⟨rfl, List.forall_mem_cons.mpr ⟨rfl, List.forall_mem_cons.mpr ⟨rfl, List.forall_mem_cons.mpr ⟨rfl, List.forall_mem_cons.mpr ⟨rfl, List.forall_mem_cons.mpr ⟨rfl, List.forall_mem_cons.mpr ⟨rfl, fun _ h => absurd h List.not_mem_nil⟩⟩⟩⟩⟩⟩⟩⟩⟩) ?_
              exact ih897 0 (z888 + 1) trivial (rW (c := 0) (d := 1) (rR (x := 0)) rfl) (rW (c := 0) (d := 7) (rAdd (e := 1) (f := 7) h913 (rR (x := 1)) rfl) rfl) (vc_X12_isOffered_9 (nS h896) h909 h914 h913)
            have h935 : 0 ≤ z930 ∧ z930 ≤ 6 := (vc_X12_isWished_8 h934 h929 h932)
            refine mr_iconst (pc := 83) (z := 1) dX4_find_83 ?_
            refine sv_goto (pc := 84) (tgt := 88) dX4_find_84 (by decide) ?_
            refine mr_istore (pc := 88) (lv' := [(7, iv 1), (0, .ref 94), (1, .ref 2), (2, iv p2), (3, iv p3), (4, iv f_p), (5, iv z748), (6, iv ((f_p * 5) + z748)), (8, iv z888)]) dX4_find_88 (by decide) rfl ?_
            refine mr_iinc (pc := 90) (lv' := [(8, iv (z888 + 1)), (7, iv 1), (0, .ref 94), (1, .ref 2), (2, iv p2), (3, iv p3), (4, iv f_p), (5, iv z748), (6, iv ((f_p * 5) + z748))]) dX4_find_90 rfl (by decide) rfl ?_
            refine sv_goto (pc := 93) (tgt := 50) dX4_find_93 (by decide) ?_
            refine mr_lvS (lv' := [(0, .ref 94), (1, .ref 2), (2, iv p2), (3, iv p3), (4, iv f_p), (5, iv z748), (6, iv ((f_p * 5) + z748)), (7, iv 1), (8, iv (z888 + 1))]) (List.forall_mem_cons.mpr ⟨rfl, List.forall_mem_cons.mpr ⟨rfl, List.forall_mem_cons.mpr ⟨rfl, List.forall_mem_cons.mpr ⟨rfl, List.forall_mem_cons.mpr ⟨rfl, List.forall_mem_cons.mpr ⟨rfl, List.forall_mem_cons.mpr ⟨rfl, List.forall_mem_cons.mpr ⟨rfl, List.forall_mem_cons.mpr ⟨rfl, fun _ h => absurd h List.not_mem_nil⟩⟩⟩⟩⟩⟩⟩⟩⟩) ?_
            exact ih897 1 (z888 + 1) trivial (rW (c := 0) (d := 1) (rR (x := 1)) rfl) (rW (c := 0) (d := 7) (rAdd (e := 1) (f := 7) h913 (rR (x := 1)) rfl) rfl) (vc_X12_isOffered_9 (nS h896) h909 h914 h913)
        refine mr_lvS (lv' := [(0, .ref 94), (1, .ref 2), (2, iv p2), (3, iv p3), (4, iv f_p), (5, iv z748), (6, iv ((f_p * 5) + z748)), (7, iv z765), (8, iv 0)]) (List.forall_mem_cons.mpr ⟨rfl, List.forall_mem_cons.mpr ⟨rfl, List.forall_mem_cons.mpr ⟨rfl, List.forall_mem_cons.mpr ⟨rfl, List.forall_mem_cons.mpr ⟨rfl, List.forall_mem_cons.mpr ⟨rfl, List.forall_mem_cons.mpr ⟨rfl, List.forall_mem_cons.mpr ⟨rfl, List.forall_mem_cons.mpr ⟨rfl, fun _ h => absurd h List.not_mem_nil⟩⟩⟩⟩⟩⟩⟩⟩⟩) ?_
        exact L890 9 z765 0 trivial h766 (rW (c := 0) (d := 7) (rR (x := 0)) rfl) vc_X12_isWished_9
      refine mr_icmp_ne (pc := 37) (tgt := 44) dX4_find_37 (by decide) (r32 h764 rfl) (r32 hp3 rfl) (fun h936 => ?_) (fun h936 => ?_)
      · refine mr_iconst (pc := 44) (z := 0) dX4_find_44 ?_
        refine mr_lvS (lv' := [(0, .ref 94), (1, .ref 2), (2, iv p2), (3, iv p3), (4, iv f_p), (5, iv z748), (6, iv ((f_p * 5) + z748))]) (List.forall_mem_cons.mpr ⟨rfl, List.forall_mem_cons.mpr ⟨rfl, List.forall_mem_cons.mpr ⟨rfl, List.forall_mem_cons.mpr ⟨rfl, List.forall_mem_cons.mpr ⟨rfl, List.forall_mem_cons.mpr ⟨rfl, List.forall_mem_cons.mpr ⟨rfl, fun _ h => absurd h List.not_mem_nil⟩⟩⟩⟩⟩⟩⟩) ?_
        exact J767 0 (rW (c := 0) (d := 1) (rR (x := 0)) rfl)
      refine mr_iconst (pc := 40) (z := 1) dX4_find_40 ?_
      refine sv_goto (pc := 41) (tgt := 45) dX4_find_41 (by decide) ?_
      refine mr_lvS (lv' := [(0, .ref 94), (1, .ref 2), (2, iv p2), (3, iv p3), (4, iv f_p), (5, iv z748), (6, iv ((f_p * 5) + z748))]) (List.forall_mem_cons.mpr ⟨rfl, List.forall_mem_cons.mpr ⟨rfl, List.forall_mem_cons.mpr ⟨rfl, List.forall_mem_cons.mpr ⟨rfl, List.forall_mem_cons.mpr ⟨rfl, List.forall_mem_cons.mpr ⟨rfl, List.forall_mem_cons.mpr ⟨rfl, fun _ h => absurd h List.not_mem_nil⟩⟩⟩⟩⟩⟩⟩) ?_
      exact J767 1 (rW (c := 0) (d := 1) (rR (x := 1)) rfl)
  refine mr_lvS (lv' := [(0, .ref 94), (1, .ref 2), (2, iv p2), (3, iv p3), (4, iv f_p), (5, iv 0)]) (List.forall_mem_cons.mpr ⟨rfl, List.forall_mem_cons.mpr ⟨rfl, List.forall_mem_cons.mpr ⟨rfl, List.forall_mem_cons.mpr ⟨rfl, List.forall_mem_cons.mpr ⟨rfl, List.forall_mem_cons.mpr ⟨rfl, fun _ h => absurd h List.not_mem_nil⟩⟩⟩⟩⟩⟩) ?_
  exact L749 7 0 trivial (rW (c := 0) (d := 5) (rR (x := 0)) rfl) vc_X12_acted_13
theorem vc_X4_need_2 {p1 z19 : Int} (h0 : 5 ≤ p1 ∧ p1 ≤ 34) (h1 : 0 ≤ z19 ∧ z19 ≤ 7) : ((p1 * 7) + 1) + (z19 - 1) ≤ 245 := by omega
set_option maxRecDepth 4000 in
set_option maxHeartbeats 4000000 in
theorem c_X4_need {l : Launch} {D : va_G} {c : Nat → ClassId} {H0 : Heap} {sa : Nat × Nat × (Nat → Int32)} {w : mW} {μ : mM} (hw : mWF w) (hT : mT w μ) {p1 : Int} (hp1 : 5 ≤ p1 ∧ p1 ≤ 34) : sC (gG l D c H0 sa) mX4_need 2 0 0 [.ref 94, iv p1] (mk w μ) (qV w [98999, 99999] μ (fun μ1 => True)) := by
  refine sC.of rfl (by decide) (le_t rfl) ?_
  refine mr_lvE (lv' := [(0, .ref 94), (1, iv p1)]) rfl ?_
  refine sv_aload_n (pc := 0) dX4_need_0 rfl rfl ?_
  refine gf_X4_0 (pc := 1) dX4_need_1 wF_X4_15 (A_94 hw) hT ?_
  refine mr_iload_n (pc := 4) (z := p1) dX4_need_4 rfl rfl ?_
  refine mr_bipush (pc := 5) (z := 7) dX4_need_5 (by decide) ?_
  refine mr_imul (pc := 7) (x := p1) (y := 7) dX4_need_7 ?_
  refine mr_iconst (pc := 8) (z := 1) dX4_need_8 ?_
  refine mr_iadd (pc := 9) (x := (p1 * 7)) (y := 1) dX4_need_9 ?_
  refine la_96 (pc := 10) dX4_need_10 (A_96 hw) hT (rIx (n := 245) (rAdd (e := 36) (f := 239) (rMulR (n := 7) (e := 35) (f := 238) hp1 rfl) (rR (x := 1)) rfl) rfl) fun z1 q2 h3 => ?_
  refine mr_istore_n (pc := 11) (lv' := [(2, iv z1), (0, .ref 94), (1, iv p1)]) dX4_need_11 rfl (by decide) rfl ?_
  refine sv_aload_n (pc := 12) dX4_need_12 rfl rfl ?_
  refine gf_X4_2 (pc := 13) dX4_need_13 wF_X4_21 (A_94 hw) hT ?_
  refine mr_iload_n (pc := 16) (z := p1) dX4_need_16 rfl rfl ?_
  refine mr_iload_n (pc := 17) (z := z1) dX4_need_17 rfl rfl ?_
  refine ss_98 (pc := 18) dX4_need_18 (A_98 hw) hT (rIx (n := 35) hp1 rfl) h3 fun μ4 u5 T6 => ?_
  refine sv_aload_n (pc := 19) dX4_need_19 rfl rfl ?_
  refine gf_X4_3 (pc := 20) dX4_need_20 wF_X4_24 (A_94 hw) T6 ?_
  refine mr_iload_n (pc := 23) (z := p1) dX4_need_23 rfl rfl ?_
  refine mr_iload_n (pc := 24) (z := z1) dX4_need_24 rfl rfl ?_
  refine mr_if_ne (pc := 25) (tgt := 32) dX4_need_25 (by decide) (r32 h3 rfl) (fun h17 => ?_) (fun h17 => ?_)
  · have h18 : 1 ≤ z1 ∧ z1 ≤ 6 := (vc_X12_isOffered_1 h17 h3)
    refine sv_aload_n (pc := 32) dX4_need_32 rfl rfl ?_
    refine sv_aload_n (pc := 33) dX4_need_33 rfl rfl ?_
    refine gf_X4_0 (pc := 34) dX4_need_34 wF_X4_15 (A_94 hw) T6 ?_
    refine mr_iload_n (pc := 37) (z := p1) dX4_need_37 rfl rfl ?_
    refine mr_bipush (pc := 38) (z := 7) dX4_need_38 (by decide) ?_
    refine mr_imul (pc := 40) (x := p1) (y := 7) dX4_need_40 ?_
    refine mr_iconst (pc := 41) (z := 1) dX4_need_41 ?_
    refine mr_iadd (pc := 42) (x := (p1 * 7)) (y := 1) dX4_need_42 ?_
    refine sv_aload_n (pc := 43) dX4_need_43 rfl rfl ?_
    refine gf_X4_1 (pc := 44) dX4_need_44 wF_X4_18 (A_94 hw) T6 ?_
    refine mr_iload_n (pc := 47) (z := p1) dX4_need_47 rfl rfl ?_
    refine la_97 (pc := 48) dX4_need_48 (A_97 hw) T6 (rIx (n := 35) hp1 rfl) fun z19 q20 h21 => ?_
    refine mr_iconst (pc := 49) (z := 1) dX4_need_49 ?_
    refine mr_isub (pc := 50) (x := z19) (y := 1) dX4_need_50 ?_
    refine mr_cVP (pc := 51) (c_X4_find_w hw T6 (A_96 hw) (rW (c := 0) (d := 244) (rAdd (e := 36) (f := 239) (rMulR (n := 7) (e := 35) (f := 238) hp1 rfl) (rR (x := 1)) rfl) rfl) (rW (c := (-1)) (d := 7) (rSub (e := (-1)) (f := 6) h21 (rR (x := 1)) rfl) rfl) (vc_X4_need_2 hp1 h21)) (gOk _ _ _ _ _) dX4_need_51 (tX4_find _ _ _ _ _) ⟨wV_X4_find, wL_X4_find⟩ wM_X4_67 (gCX4 _ _ _ _ _) rfl (A_94 hw) rfl ⟨le_t rfl, le_t rfl⟩ ⟨le_t rfl, le_t rfl⟩ rfl (le_t rfl) fun z26 h25 => ?_
    refine ss_99 (pc := 54) dX4_need_54 (A_99 hw) T6 (rIx (n := 35) hp1 rfl) (rW (c := (-1)) (d := 5) h25.1 rfl) fun μ27 u28 T29 => ?_
    exact mr_vret dX4_need_55 rfl (le_t rfl) (le_t rfl) T29 (mF.up (mF.up mF.refl (A_98 hw) u5 rfl) (A_99 hw) u28 rfl) trivial
  have h30 : 0 ≤ z1 ∧ z1 ≤ 0 := (vc_X12_isOffered_13 h17 h3)
  refine mr_iconst (pc := 28) (z := 0) dX4_need_28 ?_
  refine sv_goto (pc := 29) (tgt := 54) dX4_need_29 (by decide) ?_
  refine ss_99 (pc := 54) dX4_need_54 (A_99 hw) T6 (rIx (n := 35) hp1 rfl) (rW (c := (-1)) (d := 5) (rR (x := 0)) rfl) fun μ31 u32 T33 => ?_
  exact mr_vret dX4_need_55 rfl (le_t rfl) (le_t rfl) T33 (mF.up (mF.up mF.refl (A_98 hw) u5 rfl) (A_99 hw) u32 rfl) trivial
theorem vc_X4_prepare_14 {z9963 : Int} (h0 : 1 ≤ z9963 ∧ z9963 ≤ 46656) : 1 ≤ z9963 := by omega
theorem vc_X4_prepare_34 {z5269 z7 : Int} (h0 : z7 ≤ z5269) (h1 : 0 ≤ z5269 ∧ z5269 ≤ 5) (h2 : 0 ≤ z7 ∧ z7 ≤ 5) : 0 < (1 * (z7 + 1)) := by omega
set_option maxRecDepth 4000 in
set_option maxHeartbeats 4000000 in
theorem c_X4_prepare {l : Launch} {D : va_G} {c : Nat → ClassId} {H0 : Heap} {sa : Nat × Nat × (Nat → Int32)} {w : mW} {μ : mM} (hw : mWF w) (hT : mT w μ) : sC (gG l D c H0 sa) mX4_prepare 3 0 0 [.ref 94] (mk w μ) (qV w [94009, 98999, 99999, 100999] μ (fun μ1 => ∃ o_st : Int, μ1 94 9 = o_st ∧ (1 ≤ o_st) ∧ (radix μ1 100 95 (μ1 94 9)) ∧ True)) := by
  refine sC.of rfl (by decide) (le_t rfl) ?_
  refine mr_lvE (lv' := [(0, .ref 94)]) rfl ?_
  refine sv_aload_n (pc := 0) dX4_prepare_0 rfl rfl ?_
  refine mr_iconst (pc := 1) (z := 1) dX4_prepare_1 ?_
  refine pf_X4_9 (pc := 2) dX4_prepare_2 wF_X4_59 (A_94 hw) hT (rW (c := 0) (d := 46656) (rR (x := 1)) rfl) fun μ1 u2 T3 => ?_
  refine mr_bipush (pc := 5) (z := 6) dX4_prepare_5 (by decide) ?_
  refine mr_istore_n (pc := 7) (lv' := [(1, iv 6), (0, .ref 94)]) dX4_prepare_7 rfl (by decide) rfl ?_
  refine mr_iload_n (pc := 8) (z := 6) dX4_prepare_8 rfl rfl ?_
  refine mr_iconst (pc := 9) (z := 1) dX4_prepare_9 ?_
  refine mr_icmp_lt (pc := 10) (tgt := 73) dX4_prepare_10 (by decide) (r32 (rR (x := 6)) rfl) (r32 (rR (x := 1)) rfl) (fun h => ((vc_X12_states_1 h)).elim) (fun _ => ?_)
  refine sv_aload_n (pc := 13) dX4_prepare_13 rfl rfl ?_
  refine gf_X4_4 (pc := 14) dX4_prepare_14 wF_X4_27 (A_94 hw) T3 ?_
  refine mr_iload_n (pc := 17) (z := 6) dX4_prepare_17 rfl rfl ?_
  refine sv_aload_n (pc := 18) dX4_prepare_18 rfl rfl ?_
  refine gk_X4_9 (pc := 19) dX4_prepare_19 wF_X4_59 (A_94 hw) u2.1 ?_
  refine ss_100 (pc := 22) dX4_prepare_22 (A_100 hw) T3 (rIx (n := 7) (rR (x := 6)) rfl) (rW (c := 0) (d := 46656) (rR (x := 1)) rfl) fun μ4 u5 T6 => ?_
  refine sv_aload_n (pc := 23) dX4_prepare_23 rfl rfl ?_
  refine sv_dup (pc := 24) dX4_prepare_24 rfl ?_
  refine gk_X4_9 (pc := 25) dX4_prepare_25 wF_X4_59 (A_94 hw) (u5.f (Or.inl (mAt.ne (A_100 hw) (A_94 hw) rfl)) u2.1) ?_
  refine sv_aload_n (pc := 28) dX4_prepare_28 rfl rfl ?_
  refine gf_X4_12 (pc := 29) dX4_prepare_29 wF_X4_11 (A_94 hw) T6 ?_
  refine mr_iload_n (pc := 32) (z := 6) dX4_prepare_32 rfl rfl ?_
  refine la_95 (pc := 33) dX4_prepare_33 (A_95 hw) T6 (rIx (n := 7) (rR (x := 6)) rfl) fun z7 q8 h9 => ?_
  refine mr_iconst (pc := 34) (z := 1) dX4_prepare_34 ?_
  refine mr_iadd (pc := 35) (x := z7) (y := 1) dX4_prepare_35 ?_
  refine mr_imul (pc := 36) (x := 1) (y := (z7 + 1)) dX4_prepare_36 ?_
  refine pf_X4_9 (pc := 37) dX4_prepare_37 wF_X4_59 (A_94 hw) T6 (rW (c := 0) (d := 46656) (rMulL (n := 1) (e := 1) (f := 6) (rAdd (e := 1) (f := 6) h9 (rR (x := 1)) rfl) rfl) rfl) fun μ10 u11 T12 => ?_
  refine mr_iconst (pc := 40) (z := 0) dX4_prepare_40 ?_
  refine mr_istore_n (pc := 41) (lv' := [(2, iv 0), (1, iv 6), (0, .ref 94)]) dX4_prepare_41 rfl (by decide) rfl ?_
  have L5271 : ∀ (nL5271 : Nat) (z5269 : Int) (μ5270 : mM), mT w μ5270 → mF [98999, 99999] w μ10 μ5270 → (0 ≤ z5269 ∧ z5269 ≤ 5) → (6 - z5269) < (nL5271 : Int) → sV (gG l D c H0 sa) mX4_prepare (sRm 3 0 0) (sZ (gG l D c H0 sa) 0 0 (qV w [94009, 98999, 99999, 100999] μ (fun μ1 => ∃ o_st : Int, μ1 94 9 = o_st ∧ (1 ≤ o_st) ∧ (radix μ1 100 95 (μ1 94 9)) ∧ True))) 42 [(0, .ref 94), (1, iv 6), (2, iv z5269)] [] (mk w μ5270) 0 0 := by
    intro nL5271
    induction nL5271 with
    | zero => intro z5269 μ5270 T5273 F5274 h5272 h5276; exact ((vc_X12_acted_1 h5276 h5272)).elim
    | succ nL5271 ih5277 =>
      intro z5269 μ5270 T5273 F5274 h5272 h5276
      refine mr_iload_n (pc := 42) (z := z5269) dX4_prepare_42 rfl rfl ?_
      refine sv_aload_n (pc := 43) dX4_prepare_43 rfl rfl ?_
      refine gf_X4_12 (pc := 44) dX4_prepare_44 wF_X4_11 (A_94 hw) T5273 ?_
      refine mr_iload_n (pc := 47) (z := 6) dX4_prepare_47 rfl rfl ?_
      refine lk_95 (pc := 48) dX4_prepare_48 (A_95 hw) (rIx (n := 7) (rR (x := 6)) rfl) (F5274.f (A_95 hw) rfl (u11.f (Or.inl (mAt.ne (A_94 hw) (A_95 hw) rfl)) q8)) ?_
      refine mr_icmp_ge (pc := 49) (tgt := 67) dX4_prepare_49 (by decide) (r32 h5272 rfl) (r32 h9 rfl) (fun h5284 => ?_) (fun h5284 => ?_)
      · refine mr_iinc (pc := 67) (lv' := [(1, iv 5), (0, .ref 94), (2, iv z5269)]) dX4_prepare_67 rfl (by decide) rfl ?_
        refine sv_goto (pc := 70) (tgt := 8) dX4_prepare_70 (by decide) ?_
        refine mr_iload_n (pc := 8) (z := 5) dX4_prepare_8 rfl rfl ?_
        refine mr_iconst (pc := 9) (z := 1) dX4_prepare_9 ?_
        refine mr_icmp_lt (pc := 10) (tgt := 73) dX4_prepare_10 (by decide) (r32 (rR (x := 5)) rfl) (r32 (rR (x := 1)) rfl) (fun h => ((vc_X12_states_2 h)).elim) (fun _ => ?_)
        refine sv_aload_n (pc := 13) dX4_prepare_13 rfl rfl ?_
        refine gf_X4_4 (pc := 14) dX4_prepare_14 wF_X4_27 (A_94 hw) T5273 ?_
        refine mr_iload_n (pc := 17) (z := 5) dX4_prepare_17 rfl rfl ?_
        refine sv_aload_n (pc := 18) dX4_prepare_18 rfl rfl ?_
        refine gk_X4_9 (pc := 19) dX4_prepare_19 wF_X4_59 (A_94 hw) (F5274.f (A_94 hw) rfl u11.1) ?_
        refine ss_100 (pc := 22) dX4_prepare_22 (A_100 hw) T5273 (rIx (n := 7) (rR (x := 5)) rfl) (rW (c := 0) (d := 46656) (rMulL (n := 1) (e := 1) (f := 6) (rAdd (e := 1) (f := 6) h9 (rR (x := 1)) rfl) rfl) rfl) fun μ5285 u5286 T5287 => ?_
        refine sv_aload_n (pc := 23) dX4_prepare_23 rfl rfl ?_
        refine sv_dup (pc := 24) dX4_prepare_24 rfl ?_
        refine gk_X4_9 (pc := 25) dX4_prepare_25 wF_X4_59 (A_94 hw) (u5286.f (Or.inl (mAt.ne (A_100 hw) (A_94 hw) rfl)) (F5274.f (A_94 hw) rfl u11.1)) ?_
        refine sv_aload_n (pc := 28) dX4_prepare_28 rfl rfl ?_
        refine gf_X4_12 (pc := 29) dX4_prepare_29 wF_X4_11 (A_94 hw) T5287 ?_
        refine mr_iload_n (pc := 32) (z := 5) dX4_prepare_32 rfl rfl ?_
        refine la_95 (pc := 33) dX4_prepare_33 (A_95 hw) T5287 (rIx (n := 7) (rR (x := 5)) rfl) fun z5288 q5289 h5290 => ?_
        refine mr_iconst (pc := 34) (z := 1) dX4_prepare_34 ?_
        refine mr_iadd (pc := 35) (x := z5288) (y := 1) dX4_prepare_35 ?_
        refine mr_imul (pc := 36) (x := (1 * (z7 + 1))) (y := (z5288 + 1)) dX4_prepare_36 ?_
        refine mr_gen (P := fun z => 1 ≤ z ∧ z ≤ 36) (rMulP (rMulL (n := 1) (e := 1) (f := 6) (rAdd (e := 1) (f := 6) h9 (rR (x := 1)) rfl) rfl) (rAdd (e := 1) (f := 6) h5290 (rR (x := 1)) rfl) rfl) fun z5291 q5292 h5293 => ?_
        refine pf_X4_9 (pc := 37) dX4_prepare_37 wF_X4_59 (A_94 hw) T5287 (rW (c := 0) (d := 46656) h5293 rfl) fun μ5294 u5295 T5296 => ?_
        refine mr_iconst (pc := 40) (z := 0) dX4_prepare_40 ?_
        refine mr_istore_n (pc := 41) (lv' := [(2, iv 0), (1, iv 5), (0, .ref 94)]) dX4_prepare_41 rfl (by decide) rfl ?_
        have L7867 : ∀ (nL7867 : Nat) (z7865 : Int) (μ7866 : mM), mT w μ7866 → mF [98999, 99999] w μ5294 μ7866 → (0 ≤ z7865 ∧ z7865 ≤ 5) → (6 - z7865) < (nL7867 : Int) → sV (gG l D c H0 sa) mX4_prepare (sRm 3 0 0) (sZ (gG l D c H0 sa) 0 0 (qV w [94009, 98999, 99999, 100999] μ (fun μ1 => ∃ o_st : Int, μ1 94 9 = o_st ∧ (1 ≤ o_st) ∧ (radix μ1 100 95 (μ1 94 9)) ∧ True))) 42 [(0, .ref 94), (1, iv 5), (2, iv z7865)] [] (mk w μ7866) 0 0 := by
          intro nL7867
          induction nL7867 with
          | zero => intro z7865 μ7866 T7869 F7870 h7868 h7872; exact ((vc_X12_acted_1 h7872 h7868)).elim
          | succ nL7867 ih7873 =>
            intro z7865 μ7866 T7869 F7870 h7868 h7872
            refine mr_iload_n (pc := 42) (z := z7865) dX4_prepare_42 rfl rfl ?_
            refine sv_aload_n (pc := 43) dX4_prepare_43 rfl rfl ?_
            refine gf_X4_12 (pc := 44) dX4_prepare_44 wF_X4_11 (A_94 hw) T7869 ?_
            refine mr_iload_n (pc := 47) (z := 5) dX4_prepare_47 rfl rfl ?_
            refine lk_95 (pc := 48) dX4_prepare_48 (A_95 hw) (rIx (n := 7) (rR (x := 5)) rfl) (F7870.f (A_95 hw) rfl (u5295.f (Or.inl (mAt.ne (A_94 hw) (A_95 hw) rfl)) q5289)) ?_
            refine mr_icmp_ge (pc := 49) (tgt := 67) dX4_prepare_49 (by decide) (r32 h7868 rfl) (r32 h5290 rfl) (fun h7880 => ?_) (fun h7880 => ?_)
            · refine mr_iinc (pc := 67) (lv' := [(1, iv 4), (0, .ref 94), (2, iv z7865)]) dX4_prepare_67 rfl (by decide) rfl ?_
              refine sv_goto (pc := 70) (tgt := 8) dX4_prepare_70 (by decide) ?_
              refine mr_iload_n (pc := 8) (z := 4) dX4_prepare_8 rfl rfl ?_
              refine mr_iconst (pc := 9) (z := 1) dX4_prepare_9 ?_
              refine mr_icmp_lt (pc := 10) (tgt := 73) dX4_prepare_10 (by decide) (r32 (rR (x := 4)) rfl) (r32 (rR (x := 1)) rfl) (fun h => ((vc_X12_states_3 h)).elim) (fun _ => ?_)
              refine sv_aload_n (pc := 13) dX4_prepare_13 rfl rfl ?_
              refine gf_X4_4 (pc := 14) dX4_prepare_14 wF_X4_27 (A_94 hw) T7869 ?_
              refine mr_iload_n (pc := 17) (z := 4) dX4_prepare_17 rfl rfl ?_
              refine sv_aload_n (pc := 18) dX4_prepare_18 rfl rfl ?_
              refine gk_X4_9 (pc := 19) dX4_prepare_19 wF_X4_59 (A_94 hw) (F7870.f (A_94 hw) rfl u5295.1) ?_
              refine ss_100 (pc := 22) dX4_prepare_22 (A_100 hw) T7869 (rIx (n := 7) (rR (x := 4)) rfl) (rW (c := 0) (d := 46656) h5293 rfl) fun μ7881 u7882 T7883 => ?_
              refine sv_aload_n (pc := 23) dX4_prepare_23 rfl rfl ?_
              refine sv_dup (pc := 24) dX4_prepare_24 rfl ?_
              refine gk_X4_9 (pc := 25) dX4_prepare_25 wF_X4_59 (A_94 hw) (u7882.f (Or.inl (mAt.ne (A_100 hw) (A_94 hw) rfl)) (F7870.f (A_94 hw) rfl u5295.1)) ?_
              refine sv_aload_n (pc := 28) dX4_prepare_28 rfl rfl ?_
              refine gf_X4_12 (pc := 29) dX4_prepare_29 wF_X4_11 (A_94 hw) T7883 ?_
              refine mr_iload_n (pc := 32) (z := 4) dX4_prepare_32 rfl rfl ?_
              refine la_95 (pc := 33) dX4_prepare_33 (A_95 hw) T7883 (rIx (n := 7) (rR (x := 4)) rfl) fun z7884 q7885 h7886 => ?_
              refine mr_iconst (pc := 34) (z := 1) dX4_prepare_34 ?_
              refine mr_iadd (pc := 35) (x := z7884) (y := 1) dX4_prepare_35 ?_
              refine mr_imul (pc := 36) (x := z5291) (y := (z7884 + 1)) dX4_prepare_36 ?_
              refine mr_gen (P := fun z => 1 ≤ z ∧ z ≤ 216) (rMulP h5293 (rAdd (e := 1) (f := 6) h7886 (rR (x := 1)) rfl) rfl) fun z7887 q7888 h7889 => ?_
              refine pf_X4_9 (pc := 37) dX4_prepare_37 wF_X4_59 (A_94 hw) T7883 (rW (c := 0) (d := 46656) h7889 rfl) fun μ7890 u7891 T7892 => ?_
              refine mr_iconst (pc := 40) (z := 0) dX4_prepare_40 ?_
              refine mr_istore_n (pc := 41) (lv' := [(2, iv 0), (1, iv 4), (0, .ref 94)]) dX4_prepare_41 rfl (by decide) rfl ?_
              have L9119 : ∀ (nL9119 : Nat) (z9117 : Int) (μ9118 : mM), mT w μ9118 → mF [98999, 99999] w μ7890 μ9118 → (0 ≤ z9117 ∧ z9117 ≤ 5) → (6 - z9117) < (nL9119 : Int) → sV (gG l D c H0 sa) mX4_prepare (sRm 3 0 0) (sZ (gG l D c H0 sa) 0 0 (qV w [94009, 98999, 99999, 100999] μ (fun μ1 => ∃ o_st : Int, μ1 94 9 = o_st ∧ (1 ≤ o_st) ∧ (radix μ1 100 95 (μ1 94 9)) ∧ True))) 42 [(0, .ref 94), (1, iv 4), (2, iv z9117)] [] (mk w μ9118) 0 0 := by
                intro nL9119
                induction nL9119 with
                | zero => intro z9117 μ9118 T9121 F9122 h9120 h9124; exact ((vc_X12_acted_1 h9124 h9120)).elim
                | succ nL9119 ih9125 =>
                  intro z9117 μ9118 T9121 F9122 h9120 h9124
                  refine mr_iload_n (pc := 42) (z := z9117) dX4_prepare_42 rfl rfl ?_
                  refine sv_aload_n (pc := 43) dX4_prepare_43 rfl rfl ?_
                  refine gf_X4_12 (pc := 44) dX4_prepare_44 wF_X4_11 (A_94 hw) T9121 ?_
                  refine mr_iload_n (pc := 47) (z := 4) dX4_prepare_47 rfl rfl ?_
                  refine lk_95 (pc := 48) dX4_prepare_48 (A_95 hw) (rIx (n := 7) (rR (x := 4)) rfl) (F9122.f (A_95 hw) rfl (u7891.f (Or.inl (mAt.ne (A_94 hw) (A_95 hw) rfl)) q7885)) ?_
                  refine mr_icmp_ge (pc := 49) (tgt := 67) dX4_prepare_49 (by decide) (r32 h9120 rfl) (r32 h7886 rfl) (fun h9132 => ?_) (fun h9132 => ?_)
                  · refine mr_iinc (pc := 67) (lv' := [(1, iv 3), (0, .ref 94), (2, iv z9117)]) dX4_prepare_67 rfl (by decide) rfl ?_
                    refine sv_goto (pc := 70) (tgt := 8) dX4_prepare_70 (by decide) ?_
                    refine mr_iload_n (pc := 8) (z := 3) dX4_prepare_8 rfl rfl ?_
                    refine mr_iconst (pc := 9) (z := 1) dX4_prepare_9 ?_
                    refine mr_icmp_lt (pc := 10) (tgt := 73) dX4_prepare_10 (by decide) (r32 (rR (x := 3)) rfl) (r32 (rR (x := 1)) rfl) (fun h => ((vc_X12_states_4 h)).elim) (fun _ => ?_)
                    refine sv_aload_n (pc := 13) dX4_prepare_13 rfl rfl ?_
                    refine gf_X4_4 (pc := 14) dX4_prepare_14 wF_X4_27 (A_94 hw) T9121 ?_
                    refine mr_iload_n (pc := 17) (z := 3) dX4_prepare_17 rfl rfl ?_
                    refine sv_aload_n (pc := 18) dX4_prepare_18 rfl rfl ?_
                    refine gk_X4_9 (pc := 19) dX4_prepare_19 wF_X4_59 (A_94 hw) (F9122.f (A_94 hw) rfl u7891.1) ?_
                    refine ss_100 (pc := 22) dX4_prepare_22 (A_100 hw) T9121 (rIx (n := 7) (rR (x := 3)) rfl) (rW (c := 0) (d := 46656) h7889 rfl) fun μ9133 u9134 T9135 => ?_
                    refine sv_aload_n (pc := 23) dX4_prepare_23 rfl rfl ?_
                    refine sv_dup (pc := 24) dX4_prepare_24 rfl ?_
                    refine gk_X4_9 (pc := 25) dX4_prepare_25 wF_X4_59 (A_94 hw) (u9134.f (Or.inl (mAt.ne (A_100 hw) (A_94 hw) rfl)) (F9122.f (A_94 hw) rfl u7891.1)) ?_
                    refine sv_aload_n (pc := 28) dX4_prepare_28 rfl rfl ?_
                    refine gf_X4_12 (pc := 29) dX4_prepare_29 wF_X4_11 (A_94 hw) T9135 ?_
                    refine mr_iload_n (pc := 32) (z := 3) dX4_prepare_32 rfl rfl ?_
                    refine la_95 (pc := 33) dX4_prepare_33 (A_95 hw) T9135 (rIx (n := 7) (rR (x := 3)) rfl) fun z9136 q9137 h9138 => ?_
                    refine mr_iconst (pc := 34) (z := 1) dX4_prepare_34 ?_
                    refine mr_iadd (pc := 35) (x := z9136) (y := 1) dX4_prepare_35 ?_
                    refine mr_imul (pc := 36) (x := z7887) (y := (z9136 + 1)) dX4_prepare_36 ?_
                    refine mr_gen (P := fun z => 1 ≤ z ∧ z ≤ 1296) (rMulP h7889 (rAdd (e := 1) (f := 6) h9138 (rR (x := 1)) rfl) rfl) fun z9139 q9140 h9141 => ?_
                    refine pf_X4_9 (pc := 37) dX4_prepare_37 wF_X4_59 (A_94 hw) T9135 (rW (c := 0) (d := 46656) h9141 rfl) fun μ9142 u9143 T9144 => ?_
                    refine mr_iconst (pc := 40) (z := 0) dX4_prepare_40 ?_
                    refine mr_istore_n (pc := 41) (lv' := [(2, iv 0), (1, iv 3), (0, .ref 94)]) dX4_prepare_41 rfl (by decide) rfl ?_
                    have L9699 : ∀ (nL9699 : Nat) (z9697 : Int) (μ9698 : mM), mT w μ9698 → mF [98999, 99999] w μ9142 μ9698 → (0 ≤ z9697 ∧ z9697 ≤ 5) → (6 - z9697) < (nL9699 : Int) → sV (gG l D c H0 sa) mX4_prepare (sRm 3 0 0) (sZ (gG l D c H0 sa) 0 0 (qV w [94009, 98999, 99999, 100999] μ (fun μ1 => ∃ o_st : Int, μ1 94 9 = o_st ∧ (1 ≤ o_st) ∧ (radix μ1 100 95 (μ1 94 9)) ∧ True))) 42 [(0, .ref 94), (1, iv 3), (2, iv z9697)] [] (mk w μ9698) 0 0 := by
                      intro nL9699
                      induction nL9699 with
                      | zero => intro z9697 μ9698 T9701 F9702 h9700 h9704; exact ((vc_X12_acted_1 h9704 h9700)).elim
                      | succ nL9699 ih9705 =>
                        intro z9697 μ9698 T9701 F9702 h9700 h9704
                        refine mr_iload_n (pc := 42) (z := z9697) dX4_prepare_42 rfl rfl ?_
                        refine sv_aload_n (pc := 43) dX4_prepare_43 rfl rfl ?_
                        refine gf_X4_12 (pc := 44) dX4_prepare_44 wF_X4_11 (A_94 hw) T9701 ?_
                        refine mr_iload_n (pc := 47) (z := 3) dX4_prepare_47 rfl rfl ?_
                        refine lk_95 (pc := 48) dX4_prepare_48 (A_95 hw) (rIx (n := 7) (rR (x := 3)) rfl) (F9702.f (A_95 hw) rfl (u9143.f (Or.inl (mAt.ne (A_94 hw) (A_95 hw) rfl)) q9137)) ?_
                        refine mr_icmp_ge (pc := 49) (tgt := 67) dX4_prepare_49 (by decide) (r32 h9700 rfl) (r32 h9138 rfl) (fun h9712 => ?_) (fun h9712 => ?_)
                        · refine mr_iinc (pc := 67) (lv' := [(1, iv 2), (0, .ref 94), (2, iv z9697)]) dX4_prepare_67 rfl (by decide) rfl ?_
                          refine sv_goto (pc := 70) (tgt := 8) dX4_prepare_70 (by decide) ?_
                          refine mr_iload_n (pc := 8) (z := 2) dX4_prepare_8 rfl rfl ?_
                          refine mr_iconst (pc := 9) (z := 1) dX4_prepare_9 ?_
                          refine mr_icmp_lt (pc := 10) (tgt := 73) dX4_prepare_10 (by decide) (r32 (rR (x := 2)) rfl) (r32 (rR (x := 1)) rfl) (fun h => ((vc_X12_states_5 h)).elim) (fun _ => ?_)
                          refine sv_aload_n (pc := 13) dX4_prepare_13 rfl rfl ?_
                          refine gf_X4_4 (pc := 14) dX4_prepare_14 wF_X4_27 (A_94 hw) T9701 ?_
                          refine mr_iload_n (pc := 17) (z := 2) dX4_prepare_17 rfl rfl ?_
                          refine sv_aload_n (pc := 18) dX4_prepare_18 rfl rfl ?_
                          refine gk_X4_9 (pc := 19) dX4_prepare_19 wF_X4_59 (A_94 hw) (F9702.f (A_94 hw) rfl u9143.1) ?_
                          refine ss_100 (pc := 22) dX4_prepare_22 (A_100 hw) T9701 (rIx (n := 7) (rR (x := 2)) rfl) (rW (c := 0) (d := 46656) h9141 rfl) fun μ9713 u9714 T9715 => ?_
                          refine sv_aload_n (pc := 23) dX4_prepare_23 rfl rfl ?_
                          refine sv_dup (pc := 24) dX4_prepare_24 rfl ?_
                          refine gk_X4_9 (pc := 25) dX4_prepare_25 wF_X4_59 (A_94 hw) (u9714.f (Or.inl (mAt.ne (A_100 hw) (A_94 hw) rfl)) (F9702.f (A_94 hw) rfl u9143.1)) ?_
                          refine sv_aload_n (pc := 28) dX4_prepare_28 rfl rfl ?_
                          refine gf_X4_12 (pc := 29) dX4_prepare_29 wF_X4_11 (A_94 hw) T9715 ?_
                          refine mr_iload_n (pc := 32) (z := 2) dX4_prepare_32 rfl rfl ?_
                          refine la_95 (pc := 33) dX4_prepare_33 (A_95 hw) T9715 (rIx (n := 7) (rR (x := 2)) rfl) fun z9716 q9717 h9718 => ?_
                          refine mr_iconst (pc := 34) (z := 1) dX4_prepare_34 ?_
                          refine mr_iadd (pc := 35) (x := z9716) (y := 1) dX4_prepare_35 ?_
                          refine mr_imul (pc := 36) (x := z9139) (y := (z9716 + 1)) dX4_prepare_36 ?_
                          refine mr_gen (P := fun z => 1 ≤ z ∧ z ≤ 7776) (rMulP h9141 (rAdd (e := 1) (f := 6) h9718 (rR (x := 1)) rfl) rfl) fun z9719 q9720 h9721 => ?_
                          refine pf_X4_9 (pc := 37) dX4_prepare_37 wF_X4_59 (A_94 hw) T9715 (rW (c := 0) (d := 46656) h9721 rfl) fun μ9722 u9723 T9724 => ?_
                          refine mr_iconst (pc := 40) (z := 0) dX4_prepare_40 ?_
                          refine mr_istore_n (pc := 41) (lv' := [(2, iv 0), (1, iv 2), (0, .ref 94)]) dX4_prepare_41 rfl (by decide) rfl ?_
                          have L9943 : ∀ (nL9943 : Nat) (z9941 : Int) (μ9942 : mM), mT w μ9942 → mF [98999, 99999] w μ9722 μ9942 → (0 ≤ z9941 ∧ z9941 ≤ 5) → (6 - z9941) < (nL9943 : Int) → sV (gG l D c H0 sa) mX4_prepare (sRm 3 0 0) (sZ (gG l D c H0 sa) 0 0 (qV w [94009, 98999, 99999, 100999] μ (fun μ1 => ∃ o_st : Int, μ1 94 9 = o_st ∧ (1 ≤ o_st) ∧ (radix μ1 100 95 (μ1 94 9)) ∧ True))) 42 [(0, .ref 94), (1, iv 2), (2, iv z9941)] [] (mk w μ9942) 0 0 := by
                            intro nL9943
                            induction nL9943 with
                            | zero => intro z9941 μ9942 T9945 F9946 h9944 h9948; exact ((vc_X12_acted_1 h9948 h9944)).elim
                            | succ nL9943 ih9949 =>
                              intro z9941 μ9942 T9945 F9946 h9944 h9948
                              refine mr_iload_n (pc := 42) (z := z9941) dX4_prepare_42 rfl rfl ?_
                              refine sv_aload_n (pc := 43) dX4_prepare_43 rfl rfl ?_
                              refine gf_X4_12 (pc := 44) dX4_prepare_44 wF_X4_11 (A_94 hw) T9945 ?_
                              refine mr_iload_n (pc := 47) (z := 2) dX4_prepare_47 rfl rfl ?_
                              refine lk_95 (pc := 48) dX4_prepare_48 (A_95 hw) (rIx (n := 7) (rR (x := 2)) rfl) (F9946.f (A_95 hw) rfl (u9723.f (Or.inl (mAt.ne (A_94 hw) (A_95 hw) rfl)) q9717)) ?_
                              refine mr_icmp_ge (pc := 49) (tgt := 67) dX4_prepare_49 (by decide) (r32 h9944 rfl) (r32 h9718 rfl) (fun h9956 => ?_) (fun h9956 => ?_)
                              · refine mr_iinc (pc := 67) (lv' := [(1, iv 1), (0, .ref 94), (2, iv z9941)]) dX4_prepare_67 rfl (by decide) rfl ?_
                                refine sv_goto (pc := 70) (tgt := 8) dX4_prepare_70 (by decide) ?_
                                refine mr_iload_n (pc := 8) (z := 1) dX4_prepare_8 rfl rfl ?_
                                refine mr_iconst (pc := 9) (z := 1) dX4_prepare_9 ?_
                                refine mr_icmp_lt (pc := 10) (tgt := 73) dX4_prepare_10 (by decide) (r32 (rR (x := 1)) rfl) (r32 (rR (x := 1)) rfl) (fun h => ((vc_X12_states_6 h)).elim) (fun _ => ?_)
                                refine sv_aload_n (pc := 13) dX4_prepare_13 rfl rfl ?_
                                refine gf_X4_4 (pc := 14) dX4_prepare_14 wF_X4_27 (A_94 hw) T9945 ?_
                                refine mr_iload_n (pc := 17) (z := 1) dX4_prepare_17 rfl rfl ?_
                                refine sv_aload_n (pc := 18) dX4_prepare_18 rfl rfl ?_
                                refine gk_X4_9 (pc := 19) dX4_prepare_19 wF_X4_59 (A_94 hw) (F9946.f (A_94 hw) rfl u9723.1) ?_
                                refine ss_100 (pc := 22) dX4_prepare_22 (A_100 hw) T9945 (rIx (n := 7) (rR (x := 1)) rfl) (rW (c := 0) (d := 46656) h9721 rfl) fun μ9957 u9958 T9959 => ?_
                                refine sv_aload_n (pc := 23) dX4_prepare_23 rfl rfl ?_
                                refine sv_dup (pc := 24) dX4_prepare_24 rfl ?_
                                refine gk_X4_9 (pc := 25) dX4_prepare_25 wF_X4_59 (A_94 hw) (u9958.f (Or.inl (mAt.ne (A_100 hw) (A_94 hw) rfl)) (F9946.f (A_94 hw) rfl u9723.1)) ?_
                                refine sv_aload_n (pc := 28) dX4_prepare_28 rfl rfl ?_
                                refine gf_X4_12 (pc := 29) dX4_prepare_29 wF_X4_11 (A_94 hw) T9959 ?_
                                refine mr_iload_n (pc := 32) (z := 1) dX4_prepare_32 rfl rfl ?_
                                refine la_95 (pc := 33) dX4_prepare_33 (A_95 hw) T9959 (rIx (n := 7) (rR (x := 1)) rfl) fun z9960 q9961 h9962 => ?_
                                refine mr_iconst (pc := 34) (z := 1) dX4_prepare_34 ?_
                                refine mr_iadd (pc := 35) (x := z9960) (y := 1) dX4_prepare_35 ?_
                                refine mr_imul (pc := 36) (x := z9719) (y := (z9960 + 1)) dX4_prepare_36 ?_
                                refine mr_gen (P := fun z => 1 ≤ z ∧ z ≤ 46656) (rMulP h9721 (rAdd (e := 1) (f := 6) h9962 (rR (x := 1)) rfl) rfl) fun z9963 q9964 h9965 => ?_
                                refine pf_X4_9 (pc := 37) dX4_prepare_37 wF_X4_59 (A_94 hw) T9959 (rW (c := 0) (d := 46656) h9965 rfl) fun μ9966 u9967 T9968 => ?_
                                refine mr_iconst (pc := 40) (z := 0) dX4_prepare_40 ?_
                                refine mr_istore_n (pc := 41) (lv' := [(2, iv 0), (1, iv 1), (0, .ref 94)]) dX4_prepare_41 rfl (by decide) rfl ?_
                                have L10019 : ∀ (nL10019 : Nat) (z10017 : Int) (μ10018 : mM), mT w μ10018 → mF [98999, 99999] w μ9966 μ10018 → (0 ≤ z10017 ∧ z10017 ≤ 5) → (6 - z10017) < (nL10019 : Int) → sV (gG l D c H0 sa) mX4_prepare (sRm 3 0 0) (sZ (gG l D c H0 sa) 0 0 (qV w [94009, 98999, 99999, 100999] μ (fun μ1 => ∃ o_st : Int, μ1 94 9 = o_st ∧ (1 ≤ o_st) ∧ (radix μ1 100 95 (μ1 94 9)) ∧ True))) 42 [(0, .ref 94), (1, iv 1), (2, iv z10017)] [] (mk w μ10018) 0 0 := by
                                  intro nL10019
                                  induction nL10019 with
                                  | zero => intro z10017 μ10018 T10021 F10022 h10020 h10024; exact ((vc_X12_acted_1 h10024 h10020)).elim
                                  | succ nL10019 ih10025 =>
                                    intro z10017 μ10018 T10021 F10022 h10020 h10024
                                    refine mr_iload_n (pc := 42) (z := z10017) dX4_prepare_42 rfl rfl ?_
                                    refine sv_aload_n (pc := 43) dX4_prepare_43 rfl rfl ?_
                                    refine gf_X4_12 (pc := 44) dX4_prepare_44 wF_X4_11 (A_94 hw) T10021 ?_
                                    refine mr_iload_n (pc := 47) (z := 1) dX4_prepare_47 rfl rfl ?_
                                    refine lk_95 (pc := 48) dX4_prepare_48 (A_95 hw) (rIx (n := 7) (rR (x := 1)) rfl) (F10022.f (A_95 hw) rfl (u9967.f (Or.inl (mAt.ne (A_94 hw) (A_95 hw) rfl)) q9961)) ?_
                                    refine mr_icmp_ge (pc := 49) (tgt := 67) dX4_prepare_49 (by decide) (r32 h10020 rfl) (r32 h9962 rfl) (fun h10032 => ?_) (fun h10032 => ?_)
                                    · refine mr_iinc (pc := 67) (lv' := [(1, iv 0), (0, .ref 94), (2, iv z10017)]) dX4_prepare_67 rfl (by decide) rfl ?_
                                      refine sv_goto (pc := 70) (tgt := 8) dX4_prepare_70 (by decide) ?_
                                      refine mr_iload_n (pc := 8) (z := 0) dX4_prepare_8 rfl rfl ?_
                                      refine mr_iconst (pc := 9) (z := 1) dX4_prepare_9 ?_
                                      refine mr_icmp_lt (pc := 10) (tgt := 73) dX4_prepare_10 (by decide) (r32 (rR (x := 0)) rfl) (r32 (rR (x := 1)) rfl) (fun _ => ?_) (fun h => ((vc_X12_states_7 h)).elim)
                                      exact mr_vret dX4_prepare_73 rfl (le_t rfl) (le_t rfl) T10021 (mF.call (mF.up (mF.up (mF.call (mF.up (mF.up (mF.call (mF.up (mF.up (mF.call (mF.up (mF.up (mF.call (mF.up (mF.up (mF.call (mF.up (mF.up (mF.up mF.refl (A_94 hw) u2 rfl) (A_100 hw) u5 rfl) (A_94 hw) u11 rfl) F5274 rfl) (A_100 hw) u5286 rfl) (A_94 hw) u5295 rfl) F7870 rfl) (A_100 hw) u7882 rfl) (A_94 hw) u7891 rfl) F9122 rfl) (A_100 hw) u9134 rfl) (A_94 hw) u9143 rfl) F9702 rfl) (A_100 hw) u9714 rfl) (A_94 hw) u9723 rfl) F9946 rfl) (A_100 hw) u9958 rfl) (A_94 hw) u9967 rfl) F10022 rfl) ⟨z9963, (F10022.f (A_94 hw) rfl u9967.1), (vc_X4_prepare_14 h9965), (by show radix μ10018 100 95 (μ10018 94 9); rw [(F10022.f (A_94 hw) rfl u9967.1)]; exact radix.mk (F10022.f (A_95 hw) rfl (u9967.f (Or.inl (mAt.ne (A_94 hw) (A_95 hw) rfl)) q9961)) (F10022.f (A_95 hw) rfl (u9967.f (Or.inl (mAt.ne (A_94 hw) (A_95 hw) rfl)) (u9958.f (Or.inl (mAt.ne (A_100 hw) (A_95 hw) rfl)) (F9946.f (A_95 hw) rfl (u9723.f (Or.inl (mAt.ne (A_94 hw) (A_95 hw) rfl)) q9717))))) (F10022.f (A_95 hw) rfl (u9967.f (Or.inl (mAt.ne (A_94 hw) (A_95 hw) rfl)) (u9958.f (Or.inl (mAt.ne (A_100 hw) (A_95 hw) rfl)) (F9946.f (A_95 hw) rfl (u9723.f (Or.inl (mAt.ne (A_94 hw) (A_95 hw) rfl)) (u9714.f (Or.inl (mAt.ne (A_100 hw) (A_95 hw) rfl)) (F9702.f (A_95 hw) rfl (u9143.f (Or.inl (mAt.ne (A_94 hw) (A_95 hw) rfl)) q9137)))))))) (F10022.f (A_95 hw) rfl (u9967.f (Or.inl (mAt.ne (A_94 hw) (A_95 hw) rfl)) (u9958.f (Or.inl (mAt.ne (A_100 hw) (A_95 hw) rfl)) (F9946.f (A_95 hw) rfl (u9723.f (Or.inl (mAt.ne (A_94 hw) (A_95 hw) rfl)) (u9714.f (Or.inl (mAt.ne (A_100 hw) (A_95 hw) rfl)) (F9702.f (A_95 hw) rfl (u9143.f (Or.inl (mAt.ne (A_94 hw) (A_95 hw) rfl)) (u9134.f (Or.inl (mAt.ne (A_100 hw) (A_95 hw) rfl)) (F9122.f (A_95 hw) rfl (u7891.f (Or.inl (mAt.ne (A_94 hw) (A_95 hw) rfl)) q7885))))))))))) (F10022.f (A_95 hw) rfl (u9967.f (Or.inl (mAt.ne (A_94 hw) (A_95 hw) rfl)) (u9958.f (Or.inl (mAt.ne (A_100 hw) (A_95 hw) rfl)) (F9946.f (A_95 hw) rfl (u9723.f (Or.inl (mAt.ne (A_94 hw) (A_95 hw) rfl)) (u9714.f (Or.inl (mAt.ne (A_100 hw) (A_95 hw) rfl)) (F9702.f (A_95 hw) rfl (u9143.f (Or.inl (mAt.ne (A_94 hw) (A_95 hw) rfl)) (u9134.f (Or.inl (mAt.ne (A_100 hw) (A_95 hw) rfl)) (F9122.f (A_95 hw) rfl (u7891.f (Or.inl (mAt.ne (A_94 hw) (A_95 hw) rfl)) (u7882.f (Or.inl (mAt.ne (A_100 hw) (A_95 hw) rfl)) (F7870.f (A_95 hw) rfl (u5295.f (Or.inl (mAt.ne (A_94 hw) (A_95 hw) rfl)) q5289)))))))))))))) (F10022.f (A_95 hw) rfl (u9967.f (Or.inl (mAt.ne (A_94 hw) (A_95 hw) rfl)) (u9958.f (Or.inl (mAt.ne (A_100 hw) (A_95 hw) rfl)) (F9946.f (A_95 hw) rfl (u9723.f (Or.inl (mAt.ne (A_94 hw) (A_95 hw) rfl)) (u9714.f (Or.inl (mAt.ne (A_100 hw) (A_95 hw) rfl)) (F9702.f (A_95 hw) rfl (u9143.f (Or.inl (mAt.ne (A_94 hw) (A_95 hw) rfl)) (u9134.f (Or.inl (mAt.ne (A_100 hw) (A_95 hw) rfl)) (F9122.f (A_95 hw) rfl (u7891.f (Or.inl (mAt.ne (A_94 hw) (A_95 hw) rfl)) (u7882.f (Or.inl (mAt.ne (A_100 hw) (A_95 hw) rfl)) (F7870.f (A_95 hw) rfl (u5295.f (Or.inl (mAt.ne (A_94 hw) (A_95 hw) rfl)) (u5286.f (Or.inl (mAt.ne (A_100 hw) (A_95 hw) rfl)) (F5274.f (A_95 hw) rfl (u11.f (Or.inl (mAt.ne (A_94 hw) (A_95 hw) rfl)) q8))))))))))))))))) (F10022.f (A_100 hw) rfl (u9967.f (Or.inl (mAt.ne (A_94 hw) (A_100 hw) rfl)) u9958.1)) (F10022.f (A_100 hw) rfl (u9967.f (Or.inl (mAt.ne (A_94 hw) (A_100 hw) rfl)) (u9958.f (Or.inr vc_X12_states_8) (F9946.f (A_100 hw) rfl (u9723.f (Or.inl (mAt.ne (A_94 hw) (A_100 hw) rfl)) u9714.1))))) (F10022.f (A_100 hw) rfl (u9967.f (Or.inl (mAt.ne (A_94 hw) (A_100 hw) rfl)) (u9958.f (Or.inr vc_X12_states_10) (F9946.f (A_100 hw) rfl (u9723.f (Or.inl (mAt.ne (A_94 hw) (A_100 hw) rfl)) (u9714.f (Or.inr vc_X12_states_9) (F9702.f (A_100 hw) rfl (u9143.f (Or.inl (mAt.ne (A_94 hw) (A_100 hw) rfl)) u9134.1)))))))) (F10022.f (A_100 hw) rfl (u9967.f (Or.inl (mAt.ne (A_94 hw) (A_100 hw) rfl)) (u9958.f (Or.inr vc_X12_states_13) (F9946.f (A_100 hw) rfl (u9723.f (Or.inl (mAt.ne (A_94 hw) (A_100 hw) rfl)) (u9714.f (Or.inr vc_X12_states_12) (F9702.f (A_100 hw) rfl (u9143.f (Or.inl (mAt.ne (A_94 hw) (A_100 hw) rfl)) (u9134.f (Or.inr vc_X12_states_11) (F9122.f (A_100 hw) rfl (u7891.f (Or.inl (mAt.ne (A_94 hw) (A_100 hw) rfl)) u7882.1))))))))))) (F10022.f (A_100 hw) rfl (u9967.f (Or.inl (mAt.ne (A_94 hw) (A_100 hw) rfl)) (u9958.f (Or.inr vc_X12_states_17) (F9946.f (A_100 hw) rfl (u9723.f (Or.inl (mAt.ne (A_94 hw) (A_100 hw) rfl)) (u9714.f (Or.inr vc_X12_states_16) (F9702.f (A_100 hw) rfl (u9143.f (Or.inl (mAt.ne (A_94 hw) (A_100 hw) rfl)) (u9134.f (Or.inr vc_X12_states_15) (F9122.f (A_100 hw) rfl (u7891.f (Or.inl (mAt.ne (A_94 hw) (A_100 hw) rfl)) (u7882.f (Or.inr vc_X12_states_14) (F7870.f (A_100 hw) rfl (u5295.f (Or.inl (mAt.ne (A_94 hw) (A_100 hw) rfl)) u5286.1)))))))))))))) (F10022.f (A_100 hw) rfl (u9967.f (Or.inl (mAt.ne (A_94 hw) (A_100 hw) rfl)) (u9958.f (Or.inr vc_X12_states_22) (F9946.f (A_100 hw) rfl (u9723.f (Or.inl (mAt.ne (A_94 hw) (A_100 hw) rfl)) (u9714.f (Or.inr vc_X12_states_21) (F9702.f (A_100 hw) rfl (u9143.f (Or.inl (mAt.ne (A_94 hw) (A_100 hw) rfl)) (u9134.f (Or.inr vc_X12_states_20) (F9122.f (A_100 hw) rfl (u7891.f (Or.inl (mAt.ne (A_94 hw) (A_100 hw) rfl)) (u7882.f (Or.inr vc_X12_states_19) (F7870.f (A_100 hw) rfl (u5295.f (Or.inl (mAt.ne (A_94 hw) (A_100 hw) rfl)) (u5286.f (Or.inr vc_X12_states_18) (F5274.f (A_100 hw) rfl (u11.f (Or.inl (mAt.ne (A_94 hw) (A_100 hw) rfl)) u5.1))))))))))))))))) (vc_X12_states_r_29 h9721) (vc_X12_states_r_30 h9141) (vc_X12_states_r_31 h7889) (vc_X12_states_r_32 h5293) (vc_X4_prepare_34 h5284 h5272 h9) vc_X12_states_r_34 rfl q5292.symm q7888.symm q9140.symm q9720.symm q9964.symm), trivial⟩
                                    have h10033 : 0 ≤ z10017 ∧ z10017 ≤ 4 := (vc_X12_acted_2 h10032 h10020 h9962)
                                    have h10034 : 1 ≤ z9960 ∧ z9960 ≤ 5 := (vc_X12_acted_3 h10032 h10033 h9962)
                                    refine sv_aload_n (pc := 52) dX4_prepare_52 rfl rfl ?_
                                    refine mr_iload_n (pc := 53) (z := 1) dX4_prepare_53 rfl rfl ?_
                                    refine mr_iconst (pc := 54) (z := 5) dX4_prepare_54 ?_
                                    refine mr_imul (pc := 55) (x := 1) (y := 5) dX4_prepare_55 ?_
                                    refine mr_iload_n (pc := 56) (z := z10017) dX4_prepare_56 rfl rfl ?_
                                    refine mr_iadd (pc := 57) (x := (1 * 5)) (y := z10017) dX4_prepare_57 ?_
                                    refine mr_cVV (pc := 58) (c_X4_need hw T10021 (rW (c := 5) (d := 34) (rAdd (e := 5) (f := 9) (rMulL (n := 1) (e := 5) (f := 5) (rR (x := 5)) rfl) h10033 rfl) rfl)) (gOk _ _ _ _ _) dX4_prepare_58 (tX4_need _ _ _ _ _) ⟨wV_X4_need, wL_X4_need⟩ wM_X4_63 (gCX4 _ _ _ _ _) rfl (A_94 hw) rfl ⟨le_t rfl, le_t rfl⟩ ⟨le_t rfl, le_t rfl⟩ rfl (le_t rfl) fun μ10035 T10036 F10037 h10038 => ?_
                                    refine mr_iinc (pc := 61) (lv' := [(2, iv (z10017 + 1)), (0, .ref 94), (1, iv 1)]) dX4_prepare_61 rfl (by decide) rfl ?_
                                    refine sv_goto (pc := 64) (tgt := 42) dX4_prepare_64 (by decide) ?_
                                    refine mr_lvS (lv' := [(0, .ref 94), (1, iv 1), (2, iv (z10017 + 1))]) (List.forall_mem_cons.mpr ⟨rfl, List.forall_mem_cons.mpr ⟨rfl, List.forall_mem_cons.mpr ⟨rfl, fun _ h => absurd h List.not_mem_nil⟩⟩⟩) ?_
                                    exact ih10025 (z10017 + 1) μ10035 T10036 (mF.call (mF.call mF.refl F10022 rfl) F10037 rfl) (rW (c := 0) (d := 5) (rAdd (e := 1) (f := 5) h10033 (rR (x := 1)) rfl) rfl) (vc_X12_acted_11 (nS h10024) h10032 h10033 h10034)
                                refine mr_lvS (lv' := [(0, .ref 94), (1, iv 1), (2, iv 0)]) (List.forall_mem_cons.mpr ⟨rfl, List.forall_mem_cons.mpr ⟨rfl, List.forall_mem_cons.mpr ⟨rfl, fun _ h => absurd h List.not_mem_nil⟩⟩⟩) ?_
                                exact L10019 7 0 μ9966 T9968 mF.refl (rW (c := 0) (d := 5) (rR (x := 0)) rfl) vc_X12_acted_13
                              have h10039 : 0 ≤ z9941 ∧ z9941 ≤ 4 := (vc_X4_actOf_2 h9956 h9718 h9944)
                              have h10040 : 1 ≤ z9716 ∧ z9716 ≤ 5 := (vc_X4_actOf_3 h9956 h9718 h10039)
                              refine sv_aload_n (pc := 52) dX4_prepare_52 rfl rfl ?_
                              refine mr_iload_n (pc := 53) (z := 2) dX4_prepare_53 rfl rfl ?_
                              refine mr_iconst (pc := 54) (z := 5) dX4_prepare_54 ?_
                              refine mr_imul (pc := 55) (x := 2) (y := 5) dX4_prepare_55 ?_
                              refine mr_iload_n (pc := 56) (z := z9941) dX4_prepare_56 rfl rfl ?_
                              refine mr_iadd (pc := 57) (x := (2 * 5)) (y := z9941) dX4_prepare_57 ?_
                              refine mr_cVV (pc := 58) (c_X4_need hw T9945 (rW (c := 5) (d := 34) (rAdd (e := 10) (f := 14) (rMulL (n := 2) (e := 10) (f := 10) (rR (x := 5)) rfl) h10039 rfl) rfl)) (gOk _ _ _ _ _) dX4_prepare_58 (tX4_need _ _ _ _ _) ⟨wV_X4_need, wL_X4_need⟩ wM_X4_63 (gCX4 _ _ _ _ _) rfl (A_94 hw) rfl ⟨le_t rfl, le_t rfl⟩ ⟨le_t rfl, le_t rfl⟩ rfl (le_t rfl) fun μ10041 T10042 F10043 h10044 => ?_
                              refine mr_iinc (pc := 61) (lv' := [(2, iv (z9941 + 1)), (0, .ref 94), (1, iv 2)]) dX4_prepare_61 rfl (by decide) rfl ?_
                              refine sv_goto (pc := 64) (tgt := 42) dX4_prepare_64 (by decide) ?_
                              refine mr_lvS (lv' := [(0, .ref 94), (1, iv 2), (2, iv (z9941 + 1))]) (List.forall_mem_cons.mpr ⟨rfl, List.forall_mem_cons.mpr ⟨rfl, List.forall_mem_cons.mpr ⟨rfl, fun _ h => absurd h List.not_mem_nil⟩⟩⟩) ?_
                              exact ih9949 (z9941 + 1) μ10041 T10042 (mF.call (mF.call mF.refl F9946 rfl) F10043 rfl) (rW (c := 0) (d := 5) (rAdd (e := 1) (f := 5) h10039 (rR (x := 1)) rfl) rfl) (vc_X4_actOf_6 (nS h9948) h9956 h10040 h10039)
                          refine mr_lvS (lv' := [(0, .ref 94), (1, iv 2), (2, iv 0)]) (List.forall_mem_cons.mpr ⟨rfl, List.forall_mem_cons.mpr ⟨rfl, List.forall_mem_cons.mpr ⟨rfl, fun _ h => absurd h List.not_mem_nil⟩⟩⟩) ?_
                          exact L9943 7 0 μ9722 T9724 mF.refl (rW (c := 0) (d := 5) (rR (x := 0)) rfl) vc_X12_acted_13
                        have h10045 : 0 ≤ z9697 ∧ z9697 ≤ 4 := (vc_X4_actOf_2 h9712 h9138 h9700)
                        have h10046 : 1 ≤ z9136 ∧ z9136 ≤ 5 := (vc_X4_actOf_3 h9712 h9138 h10045)
                        refine sv_aload_n (pc := 52) dX4_prepare_52 rfl rfl ?_
                        refine mr_iload_n (pc := 53) (z := 3) dX4_prepare_53 rfl rfl ?_
                        refine mr_iconst (pc := 54) (z := 5) dX4_prepare_54 ?_
                        refine mr_imul (pc := 55) (x := 3) (y := 5) dX4_prepare_55 ?_
                        refine mr_iload_n (pc := 56) (z := z9697) dX4_prepare_56 rfl rfl ?_
                        refine mr_iadd (pc := 57) (x := (3 * 5)) (y := z9697) dX4_prepare_57 ?_
                        refine mr_cVV (pc := 58) (c_X4_need hw T9701 (rW (c := 5) (d := 34) (rAdd (e := 15) (f := 19) (rMulL (n := 3) (e := 15) (f := 15) (rR (x := 5)) rfl) h10045 rfl) rfl)) (gOk _ _ _ _ _) dX4_prepare_58 (tX4_need _ _ _ _ _) ⟨wV_X4_need, wL_X4_need⟩ wM_X4_63 (gCX4 _ _ _ _ _) rfl (A_94 hw) rfl ⟨le_t rfl, le_t rfl⟩ ⟨le_t rfl, le_t rfl⟩ rfl (le_t rfl) fun μ10047 T10048 F10049 h10050 => ?_
                        refine mr_iinc (pc := 61) (lv' := [(2, iv (z9697 + 1)), (0, .ref 94), (1, iv 3)]) dX4_prepare_61 rfl (by decide) rfl ?_
                        refine sv_goto (pc := 64) (tgt := 42) dX4_prepare_64 (by decide) ?_
                        refine mr_lvS (lv' := [(0, .ref 94), (1, iv 3), (2, iv (z9697 + 1))]) (List.forall_mem_cons.mpr ⟨rfl, List.forall_mem_cons.mpr ⟨rfl, List.forall_mem_cons.mpr ⟨rfl, fun _ h => absurd h List.not_mem_nil⟩⟩⟩) ?_
                        exact ih9705 (z9697 + 1) μ10047 T10048 (mF.call (mF.call mF.refl F9702 rfl) F10049 rfl) (rW (c := 0) (d := 5) (rAdd (e := 1) (f := 5) h10045 (rR (x := 1)) rfl) rfl) (vc_X4_actOf_6 (nS h9704) h9712 h10046 h10045)
                    refine mr_lvS (lv' := [(0, .ref 94), (1, iv 3), (2, iv 0)]) (List.forall_mem_cons.mpr ⟨rfl, List.forall_mem_cons.mpr ⟨rfl, List.forall_mem_cons.mpr ⟨rfl, fun _ h => absurd h List.not_mem_nil⟩⟩⟩) ?_
                    exact L9699 7 0 μ9142 T9144 mF.refl (rW (c := 0) (d := 5) (rR (x := 0)) rfl) vc_X12_acted_13
                  have h10051 : 0 ≤ z9117 ∧ z9117 ≤ 4 := (vc_X4_actOf_2 h9132 h7886 h9120)
                  have h10052 : 1 ≤ z7884 ∧ z7884 ≤ 5 := (vc_X4_actOf_3 h9132 h7886 h10051)
                  refine sv_aload_n (pc := 52) dX4_prepare_52 rfl rfl ?_
                  refine mr_iload_n (pc := 53) (z := 4) dX4_prepare_53 rfl rfl ?_
                  refine mr_iconst (pc := 54) (z := 5) dX4_prepare_54 ?_
                  refine mr_imul (pc := 55) (x := 4) (y := 5) dX4_prepare_55 ?_
                  refine mr_iload_n (pc := 56) (z := z9117) dX4_prepare_56 rfl rfl ?_
                  refine mr_iadd (pc := 57) (x := (4 * 5)) (y := z9117) dX4_prepare_57 ?_
                  refine mr_cVV (pc := 58) (c_X4_need hw T9121 (rW (c := 5) (d := 34) (rAdd (e := 20) (f := 24) (rMulL (n := 4) (e := 20) (f := 20) (rR (x := 5)) rfl) h10051 rfl) rfl)) (gOk _ _ _ _ _) dX4_prepare_58 (tX4_need _ _ _ _ _) ⟨wV_X4_need, wL_X4_need⟩ wM_X4_63 (gCX4 _ _ _ _ _) rfl (A_94 hw) rfl ⟨le_t rfl, le_t rfl⟩ ⟨le_t rfl, le_t rfl⟩ rfl (le_t rfl) fun μ10053 T10054 F10055 h10056 => ?_
                  refine mr_iinc (pc := 61) (lv' := [(2, iv (z9117 + 1)), (0, .ref 94), (1, iv 4)]) dX4_prepare_61 rfl (by decide) rfl ?_
                  refine sv_goto (pc := 64) (tgt := 42) dX4_prepare_64 (by decide) ?_
                  refine mr_lvS (lv' := [(0, .ref 94), (1, iv 4), (2, iv (z9117 + 1))]) (List.forall_mem_cons.mpr ⟨rfl, List.forall_mem_cons.mpr ⟨rfl, List.forall_mem_cons.mpr ⟨rfl, fun _ h => absurd h List.not_mem_nil⟩⟩⟩) ?_
                  exact ih9125 (z9117 + 1) μ10053 T10054 (mF.call (mF.call mF.refl F9122 rfl) F10055 rfl) (rW (c := 0) (d := 5) (rAdd (e := 1) (f := 5) h10051 (rR (x := 1)) rfl) rfl) (vc_X4_actOf_6 (nS h9124) h9132 h10052 h10051)
              refine mr_lvS (lv' := [(0, .ref 94), (1, iv 4), (2, iv 0)]) (List.forall_mem_cons.mpr ⟨rfl, List.forall_mem_cons.mpr ⟨rfl, List.forall_mem_cons.mpr ⟨rfl, fun _ h => absurd h List.not_mem_nil⟩⟩⟩) ?_
              exact L9119 7 0 μ7890 T7892 mF.refl (rW (c := 0) (d := 5) (rR (x := 0)) rfl) vc_X12_acted_13
            have h10057 : 0 ≤ z7865 ∧ z7865 ≤ 4 := (vc_X4_actOf_2 h7880 h5290 h7868)
            have h10058 : 1 ≤ z5288 ∧ z5288 ≤ 5 := (vc_X4_actOf_3 h7880 h5290 h10057)
            refine sv_aload_n (pc := 52) dX4_prepare_52 rfl rfl ?_
            refine mr_iload_n (pc := 53) (z := 5) dX4_prepare_53 rfl rfl ?_
            refine mr_iconst (pc := 54) (z := 5) dX4_prepare_54 ?_
            refine mr_imul (pc := 55) (x := 5) (y := 5) dX4_prepare_55 ?_
            refine mr_iload_n (pc := 56) (z := z7865) dX4_prepare_56 rfl rfl ?_
            refine mr_iadd (pc := 57) (x := (5 * 5)) (y := z7865) dX4_prepare_57 ?_
            refine mr_cVV (pc := 58) (c_X4_need hw T7869 (rW (c := 5) (d := 34) (rAdd (e := 25) (f := 29) (rMulL (n := 5) (e := 25) (f := 25) (rR (x := 5)) rfl) h10057 rfl) rfl)) (gOk _ _ _ _ _) dX4_prepare_58 (tX4_need _ _ _ _ _) ⟨wV_X4_need, wL_X4_need⟩ wM_X4_63 (gCX4 _ _ _ _ _) rfl (A_94 hw) rfl ⟨le_t rfl, le_t rfl⟩ ⟨le_t rfl, le_t rfl⟩ rfl (le_t rfl) fun μ10059 T10060 F10061 h10062 => ?_
            refine mr_iinc (pc := 61) (lv' := [(2, iv (z7865 + 1)), (0, .ref 94), (1, iv 5)]) dX4_prepare_61 rfl (by decide) rfl ?_
            refine sv_goto (pc := 64) (tgt := 42) dX4_prepare_64 (by decide) ?_
            refine mr_lvS (lv' := [(0, .ref 94), (1, iv 5), (2, iv (z7865 + 1))]) (List.forall_mem_cons.mpr ⟨rfl, List.forall_mem_cons.mpr ⟨rfl, List.forall_mem_cons.mpr ⟨rfl, fun _ h => absurd h List.not_mem_nil⟩⟩⟩) ?_
            exact ih7873 (z7865 + 1) μ10059 T10060 (mF.call (mF.call mF.refl F7870 rfl) F10061 rfl) (rW (c := 0) (d := 5) (rAdd (e := 1) (f := 5) h10057 (rR (x := 1)) rfl) rfl) (vc_X4_actOf_6 (nS h7872) h7880 h10058 h10057)
        refine mr_lvS (lv' := [(0, .ref 94), (1, iv 5), (2, iv 0)]) (List.forall_mem_cons.mpr ⟨rfl, List.forall_mem_cons.mpr ⟨rfl, List.forall_mem_cons.mpr ⟨rfl, fun _ h => absurd h List.not_mem_nil⟩⟩⟩) ?_
        exact L7867 7 0 μ5294 T5296 mF.refl (rW (c := 0) (d := 5) (rR (x := 0)) rfl) vc_X12_acted_13
      have h10063 : 0 ≤ z5269 ∧ z5269 ≤ 4 := (vc_X12_acted_2 h5284 h5272 h9)
      have h10064 : 1 ≤ z7 ∧ z7 ≤ 5 := (vc_X12_acted_3 h5284 h10063 h9)
      refine sv_aload_n (pc := 52) dX4_prepare_52 rfl rfl ?_
      refine mr_iload_n (pc := 53) (z := 6) dX4_prepare_53 rfl rfl ?_
      refine mr_iconst (pc := 54) (z := 5) dX4_prepare_54 ?_
      refine mr_imul (pc := 55) (x := 6) (y := 5) dX4_prepare_55 ?_
      refine mr_iload_n (pc := 56) (z := z5269) dX4_prepare_56 rfl rfl ?_
      refine mr_iadd (pc := 57) (x := (6 * 5)) (y := z5269) dX4_prepare_57 ?_
      refine mr_cVV (pc := 58) (c_X4_need hw T5273 (rW (c := 5) (d := 34) (rAdd (e := 30) (f := 34) (rMulL (n := 6) (e := 30) (f := 30) (rR (x := 5)) rfl) h10063 rfl) rfl)) (gOk _ _ _ _ _) dX4_prepare_58 (tX4_need _ _ _ _ _) ⟨wV_X4_need, wL_X4_need⟩ wM_X4_63 (gCX4 _ _ _ _ _) rfl (A_94 hw) rfl ⟨le_t rfl, le_t rfl⟩ ⟨le_t rfl, le_t rfl⟩ rfl (le_t rfl) fun μ10065 T10066 F10067 h10068 => ?_
      refine mr_iinc (pc := 61) (lv' := [(2, iv (z5269 + 1)), (0, .ref 94), (1, iv 6)]) dX4_prepare_61 rfl (by decide) rfl ?_
      refine sv_goto (pc := 64) (tgt := 42) dX4_prepare_64 (by decide) ?_
      refine mr_lvS (lv' := [(0, .ref 94), (1, iv 6), (2, iv (z5269 + 1))]) (List.forall_mem_cons.mpr ⟨rfl, List.forall_mem_cons.mpr ⟨rfl, List.forall_mem_cons.mpr ⟨rfl, fun _ h => absurd h List.not_mem_nil⟩⟩⟩) ?_
      exact ih5277 (z5269 + 1) μ10065 T10066 (mF.call (mF.call mF.refl F5274 rfl) F10067 rfl) (rW (c := 0) (d := 5) (rAdd (e := 1) (f := 5) h10063 (rR (x := 1)) rfl) rfl) (vc_X12_acted_11 (nS h5276) h5284 h10063 h10064)
  refine mr_lvS (lv' := [(0, .ref 94), (1, iv 6), (2, iv 0)]) (List.forall_mem_cons.mpr ⟨rfl, List.forall_mem_cons.mpr ⟨rfl, List.forall_mem_cons.mpr ⟨rfl, fun _ h => absurd h List.not_mem_nil⟩⟩⟩) ?_
  exact L5271 7 0 μ10 T12 mF.refl (rW (c := 0) (d := 5) (rR (x := 0)) rfl) vc_X12_acted_13
theorem vc_X4_countUp_1 {z99 : Int} (h0 : (z99 - 0) < ((0 : Nat) : Int)) (h1 : 1 ≤ z99 ∧ z99 ≤ 6) : False := by omega
theorem vc_X4_countUp_2 {z99 : Int} (h0 : z99 ≤ 1) (h1 : 1 ≤ z99 ∧ z99 ≤ 6) : 1 ≤ z99 ∧ z99 ≤ 1 := by omega
theorem vc_X4_countUp_3 {z99 : Int} (h0 : z99 ≤ 1) (h1 : 1 ≤ z99 ∧ z99 ≤ 1) : 1 ≤ z99 ∧ z99 ≤ 6 := by omega
theorem vc_X4_countUp_4 {g1 z123 : Int} (h0 : z123 ≤ g1) (h1 : 0 ≤ g1 ∧ g1 ≤ 46655) (h2 : 0 ≤ z123 ∧ z123 ≤ 46656) : 0 ≤ z123 ∧ z123 ≤ 46655 := by omega
theorem vc_X4_countUp_5 {g1 z123 : Int} (h0 : z123 ≤ g1) (h1 : 0 ≤ g1 ∧ g1 ≤ 46655) (h2 : 0 ≤ z123 ∧ z123 ≤ 46655) : (z123 + 1) ≤ g1 + 1 := by omega
theorem vc_X4_countUp_6 {z99 : Int} (h0 : 1 < z99) (h1 : 1 ≤ z99 ∧ z99 ≤ 6) : 2 ≤ z99 ∧ z99 ≤ 6 := by omega
theorem vc_X4_countUp_7 {z99 : Int} (h0 : 1 < z99) (h1 : 2 ≤ z99 ∧ z99 ≤ 6) : 1 ≤ z99 ∧ z99 ≤ 6 := by omega
theorem vc_X4_countUp_8 {g1 z132 z135 : Int} (h0 : z132 ≤ g1) (h1 : ¬ z132 = z135) (h2 : 0 ≤ g1 ∧ g1 ≤ 46655) (h3 : 0 ≤ z132 ∧ z132 ≤ 46656) (h4 : 0 ≤ z135 ∧ z135 ≤ 5) : 0 ≤ z132 ∧ z132 ≤ 46655 := by omega
theorem vc_X4_countUp_9 {g1 z132 z135 : Int} (h0 : ¬ z132 = z135) (h1 : z132 ≤ g1) (h2 : 0 ≤ g1 ∧ g1 ≤ 46655) (h3 : 0 ≤ z132 ∧ z132 ≤ 46655) (h4 : 0 ≤ z135 ∧ z135 ≤ 5) : (z132 + 1) ≤ g1 + 1 := by omega
theorem vc_X4_countUp_11 {N z99 : Int} (h0 : (z99 - 0) < N + 1) (h1 : 1 < z99) (h2 : 2 ≤ z99 ∧ z99 ≤ 6) : ((z99 + (-1)) - 0) < N := by omega
set_option maxRecDepth 4000 in
set_option maxHeartbeats 4000000 in
theorem c_X4_countUp {l : Launch} {D : va_G} {c : Nat → ClassId} {H0 : Heap} {sa : Nat × Nat × (Nat → Int32)} {w : mW} {μ : mM} (hw : mWF w) (hT : mT w μ) {g1 : Int} (hg1 : 0 ≤ g1 ∧ g1 ≤ 46655) (hle : hasLe μ g1) (hn0 : (0 : Int) ≤ g1) : sC (gG l D c H0 sa) mX4_countUp 1 0 0 [.ref 94] (mk w μ) (qV w [101999] μ (fun μ1 => (hasLe μ1 (g1 + 1)) ∧ True)) := by
  refine sC.of rfl (by decide) (le_t rfl) ?_
  refine mr_lvE (lv' := [(0, .ref 94)]) rfl ?_
  refine mr_bipush (pc := 0) (z := 6) dX4_countUp_0 (by decide) ?_
  refine mr_istore_n (pc := 2) (lv' := [(1, iv 6), (0, .ref 94)]) dX4_countUp_2 rfl (by decide) rfl ?_
  have L101 : ∀ (nL101 : Nat) (z99 : Int) (μ100 : mM), mT w μ100 → mF [101999] w μ μ100 → (1 ≤ z99 ∧ z99 ≤ 6) → hasLe μ100 g1 → (z99 - 0) < (nL101 : Int) → sV (gG l D c H0 sa) mX4_countUp (sRm 1 0 0) (sZ (gG l D c H0 sa) 0 0 (qV w [101999] μ (fun μ1 => (hasLe μ1 (g1 + 1)) ∧ True))) 3 [(0, .ref 94), (1, iv z99)] [] (mk w μ100) 0 0 := by
    intro nL101
    induction nL101 with
    | zero => intro z99 μ100 T103 F104 h102 R106 h107; exact ((vc_X4_countUp_1 h107 h102)).elim
    | succ nL101 ih108 =>
      intro z99 μ100 T103 F104 h102 R106 h107
      refine mr_iload_n (pc := 3) (z := z99) dX4_countUp_3 rfl rfl ?_
      refine mr_iconst (pc := 4) (z := 1) dX4_countUp_4 ?_
      refine mr_icmp_le (pc := 5) (tgt := 36) dX4_countUp_5 (by decide) (r32 h102 rfl) (r32 (rR (x := 1)) rfl) (fun h121 => ?_) (fun h121 => ?_)
      · have h122 : 1 ≤ z99 ∧ z99 ≤ 1 := (vc_X4_countUp_2 h121 h102)
        refine sv_aload_n (pc := 36) dX4_countUp_36 rfl rfl ?_
        refine gf_X4_5 (pc := 37) dX4_countUp_37 wF_X4_30 (A_94 hw) T103 ?_
        refine mr_iload_n (pc := 40) (z := z99) dX4_countUp_40 rfl rfl ?_
        refine sv_dup2 (pc := 41) dX4_countUp_41 rfl rfl ?_
        refine la_101 (pc := 42) dX4_countUp_42 (A_101 hw) T103 (rIx (n := 7) h122 rfl) fun z123 q124 h125 => ?_
        have h126 : z123 ≤ g1 := hasLe.at R106 (vc_X4_countUp_3 h121 h122) q124
        have h127 : 0 ≤ z123 ∧ z123 ≤ 46655 := (vc_X4_countUp_4 h126 hg1 h125)
        refine mr_iconst (pc := 43) (z := 1) dX4_countUp_43 ?_
        refine mr_iadd (pc := 44) (x := z123) (y := 1) dX4_countUp_44 ?_
        refine ss_101 (pc := 45) dX4_countUp_45 (A_101 hw) T103 (rIx (n := 7) h122 rfl) (rW (c := 0) (d := 46656) (rAdd (e := 1) (f := 46656) h127 (rR (x := 1)) rfl) rfl) fun μ128 u129 T130 => ?_
        exact mr_vret dX4_countUp_46 rfl (le_t rfl) (le_t rfl) T130 (mF.up (mF.call mF.refl F104 rfl) (A_101 hw) u129 rfl) ⟨(hasLe.up (hasLe.le R106 (show g1 ≤ g1 + 1 by omega)) u129 (vc_X4_countUp_5 h126 hg1 h127)), trivial⟩
      have h131 : 2 ≤ z99 ∧ z99 ≤ 6 := (vc_X4_countUp_6 h121 h102)
      refine sv_aload_n (pc := 8) dX4_countUp_8 rfl rfl ?_
      refine gf_X4_5 (pc := 9) dX4_countUp_9 wF_X4_30 (A_94 hw) T103 ?_
      refine mr_iload_n (pc := 12) (z := z99) dX4_countUp_12 rfl rfl ?_
      refine la_101 (pc := 13) dX4_countUp_13 (A_101 hw) T103 (rIx (n := 7) h131 rfl) fun z132 q133 h134 => ?_
      refine sv_aload_n (pc := 14) dX4_countUp_14 rfl rfl ?_
      refine gf_X4_12 (pc := 15) dX4_countUp_15 wF_X4_11 (A_94 hw) T103 ?_
      refine mr_iload_n (pc := 18) (z := z99) dX4_countUp_18 rfl rfl ?_
      refine la_95 (pc := 19) dX4_countUp_19 (A_95 hw) T103 (rIx (n := 7) h131 rfl) fun z135 q136 h137 => ?_
      refine mr_icmp_ne (pc := 20) (tgt := 36) dX4_countUp_20 (by decide) (r32 h134 rfl) (r32 h137 rfl) (fun h142 => ?_) (fun h142 => ?_)
      · refine sv_aload_n (pc := 36) dX4_countUp_36 rfl rfl ?_
        refine gf_X4_5 (pc := 37) dX4_countUp_37 wF_X4_30 (A_94 hw) T103 ?_
        refine mr_iload_n (pc := 40) (z := z99) dX4_countUp_40 rfl rfl ?_
        refine sv_dup2 (pc := 41) dX4_countUp_41 rfl rfl ?_
        refine lk_101 (pc := 42) dX4_countUp_42 (A_101 hw) (rIx (n := 7) h131 rfl) q133 ?_
        have h143 : z132 ≤ g1 := hasLe.at R106 (vc_X4_countUp_7 h121 h131) q133
        have h144 : 0 ≤ z132 ∧ z132 ≤ 46655 := (vc_X4_countUp_8 h143 h142 hg1 h134 h137)
        refine mr_iconst (pc := 43) (z := 1) dX4_countUp_43 ?_
        refine mr_iadd (pc := 44) (x := z132) (y := 1) dX4_countUp_44 ?_
        refine ss_101 (pc := 45) dX4_countUp_45 (A_101 hw) T103 (rIx (n := 7) h131 rfl) (rW (c := 0) (d := 46656) (rAdd (e := 1) (f := 46656) h144 (rR (x := 1)) rfl) rfl) fun μ145 u146 T147 => ?_
        exact mr_vret dX4_countUp_46 rfl (le_t rfl) (le_t rfl) T147 (mF.up (mF.call mF.refl F104 rfl) (A_101 hw) u146 rfl) ⟨(hasLe.up (hasLe.le R106 (show g1 ≤ g1 + 1 by omega)) u146 (vc_X4_countUp_9 h142 h143 hg1 h144 h137)), trivial⟩
      have h148 : 0 ≤ z132 ∧ z132 ≤ 5 := (vc_X4_isRest_4 h142 h134 h137)
      refine sv_aload_n (pc := 23) dX4_countUp_23 rfl rfl ?_
      refine gf_X4_5 (pc := 24) dX4_countUp_24 wF_X4_30 (A_94 hw) T103 ?_
      refine mr_iload_n (pc := 27) (z := z99) dX4_countUp_27 rfl rfl ?_
      refine mr_iconst (pc := 28) (z := 0) dX4_countUp_28 ?_
      refine ss_101 (pc := 29) dX4_countUp_29 (A_101 hw) T103 (rIx (n := 7) h131 rfl) (rW (c := 0) (d := 46656) (rR (x := 0)) rfl) fun μ149 u150 T151 => ?_
      refine mr_iinc (pc := 30) (lv' := [(1, iv (z99 + (-1))), (0, .ref 94)]) dX4_countUp_30 rfl (by decide) rfl ?_
      refine sv_goto (pc := 33) (tgt := 3) dX4_countUp_33 (by decide) ?_
      refine mr_lvS (lv' := [(0, .ref 94), (1, iv (z99 + (-1)))]) (List.forall_mem_cons.mpr ⟨rfl, List.forall_mem_cons.mpr ⟨rfl, fun _ h => absurd h List.not_mem_nil⟩⟩) ?_
      exact ih108 (z99 + (-1)) μ149 T151 (mF.up (mF.call mF.refl F104 rfl) (A_101 hw) u150 rfl) (rW (c := 1) (d := 6) (rAdd (e := 1) (f := 5) h131 (rR (x := (-1))) rfl) rfl) (hasLe.up R106 u150 hn0) (vc_X4_countUp_11 (nS h107) h121 h131)
  refine mr_lvS (lv' := [(0, .ref 94), (1, iv 6)]) (List.forall_mem_cons.mpr ⟨rfl, List.forall_mem_cons.mpr ⟨rfl, fun _ h => absurd h List.not_mem_nil⟩⟩) ?_
  exact L101 7 6 μ hT mF.refl (rW (c := 1) (d := 6) (rR (x := 6)) rfl) hle vc_X12_acted_13
set_option maxRecDepth 4000 in
set_option maxHeartbeats 4000000 in
theorem c_X4_actOf_v {l : Launch} {D : va_G} {c : Nat → ClassId} {H0 : Heap} {sa : Nat × Nat × (Nat → Int32)} {w : mW} {μ : mM} (hw : mWF w) (hT : mT w μ) {p1 : Int} (hp1 : 1 ≤ p1 ∧ p1 ≤ 6) {f_vp : Int} (q_f_vp : μ 95 (p1.toNat) = f_vp) : sC (gG l D c H0 sa) mX4_actOf 1 0 0 [.ref 94, iv p1] (mk w μ) (qP w μ (fun z => (0 ≤ z ∧ z ≤ 5) ∧ (z ≤ f_vp) ∧ True)) := by
  refine sC.of rfl (by decide) (le_t rfl) ?_
  have ht_f_vp : (0 ≤ f_vp ∧ f_vp ≤ 5) := by rw [← q_f_vp]; exact hT 95 95 (A_95 hw) (p1.toNat)
  refine mr_lvE (lv' := [(0, .ref 94), (1, iv p1)]) rfl ?_
  refine mr_iconst (pc := 0) (z := 0) dX4_actOf_0 ?_
  refine mr_istore_n (pc := 1) (lv' := [(2, iv 0), (0, .ref 94), (1, iv p1)]) dX4_actOf_1 rfl (by decide) rfl ?_
  have L226 : ∀ (nL226 : Nat) (z225 : Int), True → (0 ≤ z225 ∧ z225 ≤ 5) → (6 - z225) < (nL226 : Int) → sV (gG l D c H0 sa) mX4_actOf (sRm 1 0 0) (sZ (gG l D c H0 sa) 0 0 (qP w μ (fun z => (0 ≤ z ∧ z ≤ 5) ∧ (z ≤ f_vp) ∧ True))) 2 [(0, .ref 94), (1, iv p1), (2, iv z225)] [] (mk w μ) 0 0 := by
    intro nL226
    induction nL226 with
    | zero => intro z225 _ h227 h231; exact ((vc_X12_acted_1 h231 h227)).elim
    | succ nL226 ih232 =>
      intro z225 _ h227 h231
      refine mr_iload_n (pc := 2) (z := z225) dX4_actOf_2 rfl rfl ?_
      refine sv_aload_n (pc := 3) dX4_actOf_3 rfl rfl ?_
      refine gf_X4_12 (pc := 4) dX4_actOf_4 wF_X4_11 (A_94 hw) hT ?_
      refine mr_iload_n (pc := 7) (z := p1) dX4_actOf_7 rfl rfl ?_
      refine lk_95 (pc := 8) dX4_actOf_8 (A_95 hw) (rIx (n := 7) hp1 rfl) q_f_vp ?_
      refine mr_icmp_ge (pc := 9) (tgt := 55) dX4_actOf_9 (by decide) (r32 h227 rfl) (r32 ht_f_vp rfl) (fun h233 => ?_) (fun h233 => ?_)
      · refine sv_aload_n (pc := 55) dX4_actOf_55 rfl rfl ?_
        refine gf_X4_12 (pc := 56) dX4_actOf_56 wF_X4_11 (A_94 hw) hT ?_
        refine mr_iload_n (pc := 59) (z := p1) dX4_actOf_59 rfl rfl ?_
        refine lk_95 (pc := 60) dX4_actOf_60 (A_95 hw) (rIx (n := 7) hp1 rfl) q_f_vp ?_
        exact mr_iretP dX4_actOf_61 rfl (le_t rfl) (le_t rfl) ⟨ht_f_vp, (vc_X12_acted_v_2 h233 ht_f_vp h227), trivial⟩
      have h234 : 0 ≤ z225 ∧ z225 ≤ 4 := (vc_X4_actOf_2 h233 ht_f_vp h227)
      have h235 : 1 ≤ f_vp ∧ f_vp ≤ 5 := (vc_X4_actOf_3 h233 ht_f_vp h234)
      refine mr_iload_n (pc := 12) (z := p1) dX4_actOf_12 rfl rfl ?_
      refine mr_iconst (pc := 13) (z := 5) dX4_actOf_13 ?_
      refine mr_imul (pc := 14) (x := p1) (y := 5) dX4_actOf_14 ?_
      refine mr_iload_n (pc := 15) (z := z225) dX4_actOf_15 rfl rfl ?_
      refine mr_iadd (pc := 16) (x := (p1 * 5)) (y := z225) dX4_actOf_16 ?_
      refine mr_istore_n (pc := 17) (lv' := [(3, iv ((p1 * 5) + z225)), (0, .ref 94), (1, iv p1), (2, iv z225)]) dX4_actOf_17 rfl (by decide) rfl ?_
      refine sv_aload_n (pc := 18) dX4_actOf_18 rfl rfl ?_
      refine gf_X4_2 (pc := 19) dX4_actOf_19 wF_X4_21 (A_94 hw) hT ?_
      refine mr_iload_n (pc := 22) (z := ((p1 * 5) + z225)) dX4_actOf_22 rfl rfl ?_
      refine la_98 (pc := 23) dX4_actOf_23 (A_98 hw) hT (rIx (n := 35) (rAdd (e := 5) (f := 34) (rMulR (n := 5) (e := 5) (f := 30) hp1 rfl) h234 rfl) rfl) fun z236 q237 h238 => ?_
      refine mr_istore (pc := 24) (lv' := [(4, iv z236), (3, iv ((p1 * 5) + z225)), (0, .ref 94), (1, iv p1), (2, iv z225)]) dX4_actOf_24 (by decide) rfl ?_
      refine mr_iload (pc := 26) (z := z236) dX4_actOf_26 rfl ?_
      refine mr_if_eq (pc := 28) (tgt := 47) dX4_actOf_28 (by decide) (r32 h238 rfl) (fun h239 => ?_) (fun h239 => ?_)
      · have h240 : 0 ≤ z236 ∧ z236 ≤ 0 := (vc_X12_isOffered_13 h239 h238)
        refine mr_iload_n (pc := 47) (z := z225) dX4_actOf_47 rfl rfl ?_
        exact mr_iretP dX4_actOf_48 rfl (le_t rfl) (le_t rfl) ⟨(rW (c := 0) (d := 5) h234 rfl), (vc_X12_acted_v_14 h233 h235 h234), trivial⟩
      have h241 : 1 ≤ z236 ∧ z236 ≤ 6 := (vc_X12_isOffered_1 h239 h238)
      refine sv_aload_n (pc := 31) dX4_actOf_31 rfl rfl ?_
      refine gf_X4_5 (pc := 32) dX4_actOf_32 wF_X4_30 (A_94 hw) hT ?_
      refine mr_iload (pc := 35) (z := z236) dX4_actOf_35 rfl ?_
      refine la_101 (pc := 37) dX4_actOf_37 (A_101 hw) hT (rIx (n := 7) h241 rfl) fun z242 q243 h244 => ?_
      refine sv_aload_n (pc := 38) dX4_actOf_38 rfl rfl ?_
      refine gf_X4_3 (pc := 39) dX4_actOf_39 wF_X4_24 (A_94 hw) hT ?_
      refine mr_iload_n (pc := 42) (z := ((p1 * 5) + z225)) dX4_actOf_42 rfl rfl ?_
      refine la_99 (pc := 43) dX4_actOf_43 (A_99 hw) hT (rIx (n := 35) (rAdd (e := 5) (f := 34) (rMulR (n := 5) (e := 5) (f := 30) hp1 rfl) h234 rfl) rfl) fun z245 q246 h247 => ?_
      refine mr_icmp_ne (pc := 44) (tgt := 49) dX4_actOf_44 (by decide) (r32 h244 rfl) (r32 h247 rfl) (fun h248 => ?_) (fun h248 => ?_)
      · refine mr_iinc (pc := 49) (lv' := [(2, iv (z225 + 1)), (4, iv z236), (3, iv ((p1 * 5) + z225)), (0, .ref 94), (1, iv p1)]) dX4_actOf_49 rfl (by decide) rfl ?_
        refine sv_goto (pc := 52) (tgt := 2) dX4_actOf_52 (by decide) ?_
        refine mr_lvS (lv' := [(0, .ref 94), (1, iv p1), (2, iv (z225 + 1))]) (List.forall_mem_cons.mpr ⟨rfl, List.forall_mem_cons.mpr ⟨rfl, List.forall_mem_cons.mpr ⟨rfl, fun _ h => absurd h List.not_mem_nil⟩⟩⟩) ?_
        exact ih232 (z225 + 1) trivial (rW (c := 0) (d := 5) (rAdd (e := 1) (f := 5) h234 (rR (x := 1)) rfl) rfl) (vc_X4_actOf_6 (nS h231) h233 h235 h234)
      have h249 : 0 ≤ z242 ∧ z242 ≤ 5 := (vc_X4_actOf_7 h248 h244 h247)
      have h250 : 0 ≤ z245 ∧ z245 ≤ 5 := (vc_X4_actOf_8 h248 h249 h247)
      refine mr_iload_n (pc := 47) (z := z225) dX4_actOf_47 rfl rfl ?_
      exact mr_iretP dX4_actOf_48 rfl (le_t rfl) (le_t rfl) ⟨(rW (c := 0) (d := 5) h234 rfl), (vc_X12_acted_v_14 h233 h235 h234), trivial⟩
  refine mr_lvS (lv' := [(0, .ref 94), (1, iv p1), (2, iv 0)]) (List.forall_mem_cons.mpr ⟨rfl, List.forall_mem_cons.mpr ⟨rfl, List.forall_mem_cons.mpr ⟨rfl, fun _ h => absurd h List.not_mem_nil⟩⟩⟩) ?_
  exact L226 7 0 trivial (rW (c := 0) (d := 5) (rR (x := 0)) rfl) vc_X12_acted_13
theorem vc_X4_figure_r_2 {f_w : Int} (h0 : f_w ≤ 0) (h1 : 1 ≤ f_w ∧ f_w ≤ 46656) : False := by omega
set_option maxRecDepth 4000 in
set_option maxHeartbeats 4000000 in
theorem c_X4_figure_r {l : Launch} {D : va_G} {c : Nat → ClassId} {H0 : Heap} {sa : Nat × Nat × (Nat → Int32)} {w : mW} {μ : mM} (hw : mWF w) (hT : mT w μ) {p1 : Int} (hp1 : 0 ≤ p1 ∧ p1 ≤ 46655) {p2 : Int} (hp2 : 1 ≤ p2 ∧ p2 ≤ 6) {f_w : Int} (q_f_w : μ 100 (p2.toNat) = f_w) {f_v : Int} (q_f_v : μ 95 (p2.toNat) = f_v) (hq0 : 1 ≤ f_w) : sC (gG l D c H0 sa) mX4_figure 1 0 0 [.ref 94, iv p1, iv p2] (mk w μ) (qP w μ (fun z => (0 ≤ z ∧ z ≤ 5) ∧ (z ≤ f_v) ∧ (z = p1 / μ 100 p2.toNat % (μ 95 p2.toNat + 1)) ∧ True)) := by
  refine sC.of rfl (by decide) (le_t rfl) ?_
  have ht_f_w : (0 ≤ f_w ∧ f_w ≤ 46656) := by rw [← q_f_w]; exact hT 100 100 (A_100 hw) (p2.toNat)
  have ht_f_v : (0 ≤ f_v ∧ f_v ≤ 5) := by rw [← q_f_v]; exact hT 95 95 (A_95 hw) (p2.toNat)
  have h1 : 1 ≤ f_w ∧ f_w ≤ 46656 := (vc_X12_open_1 hq0 ht_f_w)
  refine mr_lvE (lv' := [(0, .ref 94), (1, iv p1), (2, iv p2)]) rfl ?_
  refine sv_aload_n (pc := 0) dX4_figure_0 rfl rfl ?_
  refine gf_X4_4 (pc := 1) dX4_figure_1 wF_X4_27 (A_94 hw) hT ?_
  refine mr_iload_n (pc := 4) (z := p2) dX4_figure_4 rfl rfl ?_
  refine lk_100 (pc := 5) dX4_figure_5 (A_100 hw) (rIx (n := 7) hp2 rfl) q_f_w ?_
  refine mr_istore_n (pc := 6) (lv' := [(3, iv f_w), (0, .ref 94), (1, iv p1), (2, iv p2)]) dX4_figure_6 rfl (by decide) rfl ?_
  refine mr_iload_n (pc := 7) (z := f_w) dX4_figure_7 rfl rfl ?_
  refine mr_if_le (pc := 8) (tgt := 26) dX4_figure_8 (by decide) (r32 h1 rfl) (fun h => ((vc_X4_figure_r_2 h h1)).elim) (fun _ => ?_)
  refine mr_iload_n (pc := 11) (z := p1) dX4_figure_11 rfl rfl ?_
  refine mr_iload_n (pc := 12) (z := f_w) dX4_figure_12 rfl rfl ?_
  refine mr_idiv (pc := 13) (x := p1) (y := f_w) dX4_figure_13 (rW (c := 0) (d := 2147483647) hp1 rfl) (vc_X12_open_8 hq0 h1) ?_
  refine mr_gen (P := fun z => 0 ≤ z ∧ z ≤ 46655) (rDivV hp1 (vc_X12_open_8 hq0 h1) rfl) fun z20 q21 h22 => ?_
  refine sv_aload_n (pc := 14) dX4_figure_14 rfl rfl ?_
  refine gf_X4_12 (pc := 15) dX4_figure_15 wF_X4_11 (A_94 hw) hT ?_
  refine mr_iload_n (pc := 18) (z := p2) dX4_figure_18 rfl rfl ?_
  refine lk_95 (pc := 19) dX4_figure_19 (A_95 hw) (rIx (n := 7) hp2 rfl) q_f_v ?_
  refine mr_iconst (pc := 20) (z := 1) dX4_figure_20 ?_
  refine mr_iadd (pc := 21) (x := f_v) (y := 1) dX4_figure_21 ?_
  refine mr_irem (pc := 22) (x := z20) (y := (f_v + 1)) dX4_figure_22 (rW (c := 0) (d := 2147483647) h22 rfl) (vc_X12_open_9 ht_f_v) ?_
  refine mr_gen (P := fun z => 0 ≤ z ∧ z ≤ 5) (rModV (rAdd (e := 1) (f := 6) ht_f_v (rR (x := 1)) rfl) (vc_X12_open_9 ht_f_v) rfl) fun z23 q24 h25 => ?_
  refine sv_goto (pc := 23) (tgt := 27) dX4_figure_23 (by decide) ?_
  exact mr_iretP dX4_figure_27 rfl (le_t rfl) (le_t rfl) ⟨h25, (vc_X12_open_41 (q24 ▸ Int.emod_lt_of_pos z20 (vc_X12_open_9 ht_f_v).1) ht_f_v h25), (figE q_f_w q_f_v q21 q24), trivial⟩
theorem vc_X4_unfold_r_7 (h0 : (7 : Int) ≤ (1 : Int)) : False := by omega
theorem vc_X4_unfold_r_9 (h0 : (7 : Int) ≤ (2 : Int)) : False := by omega
theorem vc_X4_unfold_r_11 (h0 : (7 : Int) ≤ (3 : Int)) : False := by omega
theorem vc_X4_unfold_r_13 (h0 : (7 : Int) ≤ (4 : Int)) : False := by omega
theorem vc_X4_unfold_r_15 (h0 : (7 : Int) ≤ (5 : Int)) : False := by omega
theorem vc_X4_unfold_r_19 (h0 : (7 : Int) < (7 : Int)) : False := by omega
set_option maxRecDepth 4000 in
set_option maxHeartbeats 4000000 in
theorem c_X4_unfold_r {l : Launch} {D : va_G} {c : Nat → ClassId} {H0 : Heap} {sa : Nat × Nat × (Nat → Int32)} {w : mW} {μ : mM} (hw : mWF w) (hT : mT w μ) {p1 : Int} (hp1 : 0 ≤ p1 ∧ p1 ≤ 46655) {f_w1 : Int} (q_f_w1 : μ 100 ((1 : Int).toNat) = f_w1) {f_w2 : Int} (q_f_w2 : μ 100 ((2 : Int).toNat) = f_w2) {f_w3 : Int} (q_f_w3 : μ 100 ((3 : Int).toNat) = f_w3) {f_w4 : Int} (q_f_w4 : μ 100 ((4 : Int).toNat) = f_w4) {f_w5 : Int} (q_f_w5 : μ 100 ((5 : Int).toNat) = f_w5) {f_w6 : Int} (q_f_w6 : μ 100 ((6 : Int).toNat) = f_w6) {f_v1 : Int} (q_f_v1 : μ 95 ((1 : Int).toNat) = f_v1) {f_v2 : Int} (q_f_v2 : μ 95 ((2 : Int).toNat) = f_v2) {f_v3 : Int} (q_f_v3 : μ 95 ((3 : Int).toNat) = f_v3) {f_v4 : Int} (q_f_v4 : μ 95 ((4 : Int).toNat) = f_v4) {f_v5 : Int} (q_f_v5 : μ 95 ((5 : Int).toNat) = f_v5) {f_v6 : Int} (q_f_v6 : μ 95 ((6 : Int).toNat) = f_v6) (hq0 : 1 ≤ f_w1) (hq1 : 1 ≤ f_w2) (hq2 : 1 ≤ f_w3) (hq3 : 1 ≤ f_w4) (hq4 : 1 ≤ f_w5) (hq5 : 1 ≤ f_w6) : sC (gG l D c H0 sa) mX4_unfold 2 0 0 [.ref 94, iv p1] (mk w μ) (qV w [101999] μ (fun μ1 => (digs μ1 101 100 95 p1) ∧ True)) := by
  refine sC.of rfl (by decide) (le_t rfl) ?_
  have ht_f_w1 : (0 ≤ f_w1 ∧ f_w1 ≤ 46656) := by rw [← q_f_w1]; exact hT 100 100 (A_100 hw) ((1 : Int).toNat)
  have ht_f_w2 : (0 ≤ f_w2 ∧ f_w2 ≤ 46656) := by rw [← q_f_w2]; exact hT 100 100 (A_100 hw) ((2 : Int).toNat)
  have ht_f_w3 : (0 ≤ f_w3 ∧ f_w3 ≤ 46656) := by rw [← q_f_w3]; exact hT 100 100 (A_100 hw) ((3 : Int).toNat)
  have ht_f_w4 : (0 ≤ f_w4 ∧ f_w4 ≤ 46656) := by rw [← q_f_w4]; exact hT 100 100 (A_100 hw) ((4 : Int).toNat)
  have ht_f_w5 : (0 ≤ f_w5 ∧ f_w5 ≤ 46656) := by rw [← q_f_w5]; exact hT 100 100 (A_100 hw) ((5 : Int).toNat)
  have ht_f_w6 : (0 ≤ f_w6 ∧ f_w6 ≤ 46656) := by rw [← q_f_w6]; exact hT 100 100 (A_100 hw) ((6 : Int).toNat)
  have ht_f_v1 : (0 ≤ f_v1 ∧ f_v1 ≤ 5) := by rw [← q_f_v1]; exact hT 95 95 (A_95 hw) ((1 : Int).toNat)
  have ht_f_v2 : (0 ≤ f_v2 ∧ f_v2 ≤ 5) := by rw [← q_f_v2]; exact hT 95 95 (A_95 hw) ((2 : Int).toNat)
  have ht_f_v3 : (0 ≤ f_v3 ∧ f_v3 ≤ 5) := by rw [← q_f_v3]; exact hT 95 95 (A_95 hw) ((3 : Int).toNat)
  have ht_f_v4 : (0 ≤ f_v4 ∧ f_v4 ≤ 5) := by rw [← q_f_v4]; exact hT 95 95 (A_95 hw) ((4 : Int).toNat)
  have ht_f_v5 : (0 ≤ f_v5 ∧ f_v5 ≤ 5) := by rw [← q_f_v5]; exact hT 95 95 (A_95 hw) ((5 : Int).toNat)
  have ht_f_v6 : (0 ≤ f_v6 ∧ f_v6 ≤ 5) := by rw [← q_f_v6]; exact hT 95 95 (A_95 hw) ((6 : Int).toNat)
  have h1 : 1 ≤ f_w1 ∧ f_w1 ≤ 46656 := (vc_X12_open_1 hq0 ht_f_w1)
  have h2 : 1 ≤ f_w2 ∧ f_w2 ≤ 46656 := (vc_X12_open_1 hq1 ht_f_w2)
  have h3 : 1 ≤ f_w3 ∧ f_w3 ≤ 46656 := (vc_X12_open_1 hq2 ht_f_w3)
  have h4 : 1 ≤ f_w4 ∧ f_w4 ≤ 46656 := (vc_X12_open_1 hq3 ht_f_w4)
  have h5 : 1 ≤ f_w5 ∧ f_w5 ≤ 46656 := (vc_X12_open_1 hq4 ht_f_w5)
  have h6 : 1 ≤ f_w6 ∧ f_w6 ≤ 46656 := (vc_X12_open_1 hq5 ht_f_w6)
  refine mr_lvE (lv' := [(0, .ref 94), (1, iv p1)]) rfl ?_
  refine mr_iconst (pc := 0) (z := 1) dX4_unfold_0 ?_
  refine mr_istore_n (pc := 1) (lv' := [(2, iv 1), (0, .ref 94), (1, iv p1)]) dX4_unfold_1 rfl (by decide) rfl ?_
  refine mr_iload_n (pc := 2) (z := 1) dX4_unfold_2 rfl rfl ?_
  refine mr_bipush (pc := 3) (z := 7) dX4_unfold_3 (by decide) ?_
  refine mr_icmp_ge (pc := 5) (tgt := 26) dX4_unfold_5 (by decide) (r32 (rR (x := 1)) rfl) (r32 (rR (x := 7)) rfl) (fun h => ((vc_X4_unfold_r_7 h)).elim) (fun _ => ?_)
  refine sv_aload_n (pc := 8) dX4_unfold_8 rfl rfl ?_
  refine gf_X4_5 (pc := 9) dX4_unfold_9 wF_X4_30 (A_94 hw) hT ?_
  refine mr_iload_n (pc := 12) (z := 1) dX4_unfold_12 rfl rfl ?_
  refine sv_aload_n (pc := 13) dX4_unfold_13 rfl rfl ?_
  refine mr_iload_n (pc := 14) (z := p1) dX4_unfold_14 rfl rfl ?_
  refine mr_iload_n (pc := 15) (z := 1) dX4_unfold_15 rfl rfl ?_
  refine mr_cVP (pc := 16) (c_X4_figure_r hw hT hp1 (rW (c := 1) (d := 6) (rR (x := 1)) rfl) q_f_w1 q_f_v1 (vc_X12_isRest_7 hq0 h1)) (gOk _ _ _ _ _) dX4_unfold_16 (tX4_figure _ _ _ _ _) ⟨wV_X4_figure, wL_X4_figure⟩ wM_X4_75 (gCX4 _ _ _ _ _) rfl (A_94 hw) rfl ⟨le_t rfl, le_t rfl⟩ ⟨le_t rfl, le_t rfl⟩ rfl (le_t rfl) fun z155 h154 => ?_
  have h156 : z155 = p1 / f_w1 % (f_v1 + 1) := figV h154.2.2.1 q_f_w1 q_f_v1
  refine ss_101 (pc := 19) dX4_unfold_19 (A_101 hw) hT (rIx (n := 7) (rR (x := 1)) rfl) (rW (c := 0) (d := 46656) h154.1 rfl) fun μ157 u158 T159 => ?_
  refine mr_iinc (pc := 20) (lv' := [(2, iv 2), (0, .ref 94), (1, iv p1)]) dX4_unfold_20 rfl (by decide) rfl ?_
  refine sv_goto (pc := 23) (tgt := 2) dX4_unfold_23 (by decide) ?_
  refine mr_iload_n (pc := 2) (z := 2) dX4_unfold_2 rfl rfl ?_
  refine mr_bipush (pc := 3) (z := 7) dX4_unfold_3 (by decide) ?_
  refine mr_icmp_ge (pc := 5) (tgt := 26) dX4_unfold_5 (by decide) (r32 (rR (x := 2)) rfl) (r32 (rR (x := 7)) rfl) (fun h => ((vc_X4_unfold_r_9 h)).elim) (fun _ => ?_)
  refine sv_aload_n (pc := 8) dX4_unfold_8 rfl rfl ?_
  refine gf_X4_5 (pc := 9) dX4_unfold_9 wF_X4_30 (A_94 hw) T159 ?_
  refine mr_iload_n (pc := 12) (z := 2) dX4_unfold_12 rfl rfl ?_
  refine sv_aload_n (pc := 13) dX4_unfold_13 rfl rfl ?_
  refine mr_iload_n (pc := 14) (z := p1) dX4_unfold_14 rfl rfl ?_
  refine mr_iload_n (pc := 15) (z := 2) dX4_unfold_15 rfl rfl ?_
  refine mr_cVP (pc := 16) (c_X4_figure_r hw T159 hp1 (rW (c := 1) (d := 6) (rR (x := 2)) rfl) (u158.f (Or.inl (mAt.ne (A_101 hw) (A_100 hw) rfl)) q_f_w2) (u158.f (Or.inl (mAt.ne (A_101 hw) (A_95 hw) rfl)) q_f_v2) (vc_X12_isRest_7 hq1 h2)) (gOk _ _ _ _ _) dX4_unfold_16 (tX4_figure _ _ _ _ _) ⟨wV_X4_figure, wL_X4_figure⟩ wM_X4_75 (gCX4 _ _ _ _ _) rfl (A_94 hw) rfl ⟨le_t rfl, le_t rfl⟩ ⟨le_t rfl, le_t rfl⟩ rfl (le_t rfl) fun z164 h163 => ?_
  have h165 : z164 = p1 / f_w2 % (f_v2 + 1) := figV h163.2.2.1 (u158.f (Or.inl (mAt.ne (A_101 hw) (A_100 hw) rfl)) q_f_w2) (u158.f (Or.inl (mAt.ne (A_101 hw) (A_95 hw) rfl)) q_f_v2)
  refine ss_101 (pc := 19) dX4_unfold_19 (A_101 hw) T159 (rIx (n := 7) (rR (x := 2)) rfl) (rW (c := 0) (d := 46656) h163.1 rfl) fun μ166 u167 T168 => ?_
  refine mr_iinc (pc := 20) (lv' := [(2, iv 3), (0, .ref 94), (1, iv p1)]) dX4_unfold_20 rfl (by decide) rfl ?_
  refine sv_goto (pc := 23) (tgt := 2) dX4_unfold_23 (by decide) ?_
  refine mr_iload_n (pc := 2) (z := 3) dX4_unfold_2 rfl rfl ?_
  refine mr_bipush (pc := 3) (z := 7) dX4_unfold_3 (by decide) ?_
  refine mr_icmp_ge (pc := 5) (tgt := 26) dX4_unfold_5 (by decide) (r32 (rR (x := 3)) rfl) (r32 (rR (x := 7)) rfl) (fun h => ((vc_X4_unfold_r_11 h)).elim) (fun _ => ?_)
  refine sv_aload_n (pc := 8) dX4_unfold_8 rfl rfl ?_
  refine gf_X4_5 (pc := 9) dX4_unfold_9 wF_X4_30 (A_94 hw) T168 ?_
  refine mr_iload_n (pc := 12) (z := 3) dX4_unfold_12 rfl rfl ?_
  refine sv_aload_n (pc := 13) dX4_unfold_13 rfl rfl ?_
  refine mr_iload_n (pc := 14) (z := p1) dX4_unfold_14 rfl rfl ?_
  refine mr_iload_n (pc := 15) (z := 3) dX4_unfold_15 rfl rfl ?_
  refine mr_cVP (pc := 16) (c_X4_figure_r hw T168 hp1 (rW (c := 1) (d := 6) (rR (x := 3)) rfl) (u167.f (Or.inl (mAt.ne (A_101 hw) (A_100 hw) rfl)) (u158.f (Or.inl (mAt.ne (A_101 hw) (A_100 hw) rfl)) q_f_w3)) (u167.f (Or.inl (mAt.ne (A_101 hw) (A_95 hw) rfl)) (u158.f (Or.inl (mAt.ne (A_101 hw) (A_95 hw) rfl)) q_f_v3)) (vc_X12_isRest_7 hq2 h3)) (gOk _ _ _ _ _) dX4_unfold_16 (tX4_figure _ _ _ _ _) ⟨wV_X4_figure, wL_X4_figure⟩ wM_X4_75 (gCX4 _ _ _ _ _) rfl (A_94 hw) rfl ⟨le_t rfl, le_t rfl⟩ ⟨le_t rfl, le_t rfl⟩ rfl (le_t rfl) fun z173 h172 => ?_
  have h174 : z173 = p1 / f_w3 % (f_v3 + 1) := figV h172.2.2.1 (u167.f (Or.inl (mAt.ne (A_101 hw) (A_100 hw) rfl)) (u158.f (Or.inl (mAt.ne (A_101 hw) (A_100 hw) rfl)) q_f_w3)) (u167.f (Or.inl (mAt.ne (A_101 hw) (A_95 hw) rfl)) (u158.f (Or.inl (mAt.ne (A_101 hw) (A_95 hw) rfl)) q_f_v3))
  refine ss_101 (pc := 19) dX4_unfold_19 (A_101 hw) T168 (rIx (n := 7) (rR (x := 3)) rfl) (rW (c := 0) (d := 46656) h172.1 rfl) fun μ175 u176 T177 => ?_
  refine mr_iinc (pc := 20) (lv' := [(2, iv 4), (0, .ref 94), (1, iv p1)]) dX4_unfold_20 rfl (by decide) rfl ?_
  refine sv_goto (pc := 23) (tgt := 2) dX4_unfold_23 (by decide) ?_
  refine mr_iload_n (pc := 2) (z := 4) dX4_unfold_2 rfl rfl ?_
  refine mr_bipush (pc := 3) (z := 7) dX4_unfold_3 (by decide) ?_
  refine mr_icmp_ge (pc := 5) (tgt := 26) dX4_unfold_5 (by decide) (r32 (rR (x := 4)) rfl) (r32 (rR (x := 7)) rfl) (fun h => ((vc_X4_unfold_r_13 h)).elim) (fun _ => ?_)
  refine sv_aload_n (pc := 8) dX4_unfold_8 rfl rfl ?_
  refine gf_X4_5 (pc := 9) dX4_unfold_9 wF_X4_30 (A_94 hw) T177 ?_
  refine mr_iload_n (pc := 12) (z := 4) dX4_unfold_12 rfl rfl ?_
  refine sv_aload_n (pc := 13) dX4_unfold_13 rfl rfl ?_
  refine mr_iload_n (pc := 14) (z := p1) dX4_unfold_14 rfl rfl ?_
  refine mr_iload_n (pc := 15) (z := 4) dX4_unfold_15 rfl rfl ?_
  refine mr_cVP (pc := 16) (c_X4_figure_r hw T177 hp1 (rW (c := 1) (d := 6) (rR (x := 4)) rfl) (u176.f (Or.inl (mAt.ne (A_101 hw) (A_100 hw) rfl)) (u167.f (Or.inl (mAt.ne (A_101 hw) (A_100 hw) rfl)) (u158.f (Or.inl (mAt.ne (A_101 hw) (A_100 hw) rfl)) q_f_w4))) (u176.f (Or.inl (mAt.ne (A_101 hw) (A_95 hw) rfl)) (u167.f (Or.inl (mAt.ne (A_101 hw) (A_95 hw) rfl)) (u158.f (Or.inl (mAt.ne (A_101 hw) (A_95 hw) rfl)) q_f_v4))) (vc_X12_isRest_7 hq3 h4)) (gOk _ _ _ _ _) dX4_unfold_16 (tX4_figure _ _ _ _ _) ⟨wV_X4_figure, wL_X4_figure⟩ wM_X4_75 (gCX4 _ _ _ _ _) rfl (A_94 hw) rfl ⟨le_t rfl, le_t rfl⟩ ⟨le_t rfl, le_t rfl⟩ rfl (le_t rfl) fun z182 h181 => ?_
  have h183 : z182 = p1 / f_w4 % (f_v4 + 1) := figV h181.2.2.1 (u176.f (Or.inl (mAt.ne (A_101 hw) (A_100 hw) rfl)) (u167.f (Or.inl (mAt.ne (A_101 hw) (A_100 hw) rfl)) (u158.f (Or.inl (mAt.ne (A_101 hw) (A_100 hw) rfl)) q_f_w4))) (u176.f (Or.inl (mAt.ne (A_101 hw) (A_95 hw) rfl)) (u167.f (Or.inl (mAt.ne (A_101 hw) (A_95 hw) rfl)) (u158.f (Or.inl (mAt.ne (A_101 hw) (A_95 hw) rfl)) q_f_v4)))
  refine ss_101 (pc := 19) dX4_unfold_19 (A_101 hw) T177 (rIx (n := 7) (rR (x := 4)) rfl) (rW (c := 0) (d := 46656) h181.1 rfl) fun μ184 u185 T186 => ?_
  refine mr_iinc (pc := 20) (lv' := [(2, iv 5), (0, .ref 94), (1, iv p1)]) dX4_unfold_20 rfl (by decide) rfl ?_
  refine sv_goto (pc := 23) (tgt := 2) dX4_unfold_23 (by decide) ?_
  refine mr_iload_n (pc := 2) (z := 5) dX4_unfold_2 rfl rfl ?_
  refine mr_bipush (pc := 3) (z := 7) dX4_unfold_3 (by decide) ?_
  refine mr_icmp_ge (pc := 5) (tgt := 26) dX4_unfold_5 (by decide) (r32 (rR (x := 5)) rfl) (r32 (rR (x := 7)) rfl) (fun h => ((vc_X4_unfold_r_15 h)).elim) (fun _ => ?_)
  refine sv_aload_n (pc := 8) dX4_unfold_8 rfl rfl ?_
  refine gf_X4_5 (pc := 9) dX4_unfold_9 wF_X4_30 (A_94 hw) T186 ?_
  refine mr_iload_n (pc := 12) (z := 5) dX4_unfold_12 rfl rfl ?_
  refine sv_aload_n (pc := 13) dX4_unfold_13 rfl rfl ?_
  refine mr_iload_n (pc := 14) (z := p1) dX4_unfold_14 rfl rfl ?_
  refine mr_iload_n (pc := 15) (z := 5) dX4_unfold_15 rfl rfl ?_
  refine mr_cVP (pc := 16) (c_X4_figure_r hw T186 hp1 (rW (c := 1) (d := 6) (rR (x := 5)) rfl) (u185.f (Or.inl (mAt.ne (A_101 hw) (A_100 hw) rfl)) (u176.f (Or.inl (mAt.ne (A_101 hw) (A_100 hw) rfl)) (u167.f (Or.inl (mAt.ne (A_101 hw) (A_100 hw) rfl)) (u158.f (Or.inl (mAt.ne (A_101 hw) (A_100 hw) rfl)) q_f_w5)))) (u185.f (Or.inl (mAt.ne (A_101 hw) (A_95 hw) rfl)) (u176.f (Or.inl (mAt.ne (A_101 hw) (A_95 hw) rfl)) (u167.f (Or.inl (mAt.ne (A_101 hw) (A_95 hw) rfl)) (u158.f (Or.inl (mAt.ne (A_101 hw) (A_95 hw) rfl)) q_f_v5)))) (vc_X12_isRest_7 hq4 h5)) (gOk _ _ _ _ _) dX4_unfold_16 (tX4_figure _ _ _ _ _) ⟨wV_X4_figure, wL_X4_figure⟩ wM_X4_75 (gCX4 _ _ _ _ _) rfl (A_94 hw) rfl ⟨le_t rfl, le_t rfl⟩ ⟨le_t rfl, le_t rfl⟩ rfl (le_t rfl) fun z191 h190 => ?_
  have h192 : z191 = p1 / f_w5 % (f_v5 + 1) := figV h190.2.2.1 (u185.f (Or.inl (mAt.ne (A_101 hw) (A_100 hw) rfl)) (u176.f (Or.inl (mAt.ne (A_101 hw) (A_100 hw) rfl)) (u167.f (Or.inl (mAt.ne (A_101 hw) (A_100 hw) rfl)) (u158.f (Or.inl (mAt.ne (A_101 hw) (A_100 hw) rfl)) q_f_w5)))) (u185.f (Or.inl (mAt.ne (A_101 hw) (A_95 hw) rfl)) (u176.f (Or.inl (mAt.ne (A_101 hw) (A_95 hw) rfl)) (u167.f (Or.inl (mAt.ne (A_101 hw) (A_95 hw) rfl)) (u158.f (Or.inl (mAt.ne (A_101 hw) (A_95 hw) rfl)) q_f_v5))))
  refine ss_101 (pc := 19) dX4_unfold_19 (A_101 hw) T186 (rIx (n := 7) (rR (x := 5)) rfl) (rW (c := 0) (d := 46656) h190.1 rfl) fun μ193 u194 T195 => ?_
  refine mr_iinc (pc := 20) (lv' := [(2, iv 6), (0, .ref 94), (1, iv p1)]) dX4_unfold_20 rfl (by decide) rfl ?_
  refine sv_goto (pc := 23) (tgt := 2) dX4_unfold_23 (by decide) ?_
  refine mr_iload_n (pc := 2) (z := 6) dX4_unfold_2 rfl rfl ?_
  refine mr_bipush (pc := 3) (z := 7) dX4_unfold_3 (by decide) ?_
  refine mr_icmp_ge (pc := 5) (tgt := 26) dX4_unfold_5 (by decide) (r32 (rR (x := 6)) rfl) (r32 (rR (x := 7)) rfl) (fun h => ((vc_X12_open_25 h)).elim) (fun _ => ?_)
  refine sv_aload_n (pc := 8) dX4_unfold_8 rfl rfl ?_
  refine gf_X4_5 (pc := 9) dX4_unfold_9 wF_X4_30 (A_94 hw) T195 ?_
  refine mr_iload_n (pc := 12) (z := 6) dX4_unfold_12 rfl rfl ?_
  refine sv_aload_n (pc := 13) dX4_unfold_13 rfl rfl ?_
  refine mr_iload_n (pc := 14) (z := p1) dX4_unfold_14 rfl rfl ?_
  refine mr_iload_n (pc := 15) (z := 6) dX4_unfold_15 rfl rfl ?_
  refine mr_cVP (pc := 16) (c_X4_figure_r hw T195 hp1 (rW (c := 1) (d := 6) (rR (x := 6)) rfl) (u194.f (Or.inl (mAt.ne (A_101 hw) (A_100 hw) rfl)) (u185.f (Or.inl (mAt.ne (A_101 hw) (A_100 hw) rfl)) (u176.f (Or.inl (mAt.ne (A_101 hw) (A_100 hw) rfl)) (u167.f (Or.inl (mAt.ne (A_101 hw) (A_100 hw) rfl)) (u158.f (Or.inl (mAt.ne (A_101 hw) (A_100 hw) rfl)) q_f_w6))))) (u194.f (Or.inl (mAt.ne (A_101 hw) (A_95 hw) rfl)) (u185.f (Or.inl (mAt.ne (A_101 hw) (A_95 hw) rfl)) (u176.f (Or.inl (mAt.ne (A_101 hw) (A_95 hw) rfl)) (u167.f (Or.inl (mAt.ne (A_101 hw) (A_95 hw) rfl)) (u158.f (Or.inl (mAt.ne (A_101 hw) (A_95 hw) rfl)) q_f_v6))))) (vc_X12_isRest_7 hq5 h6)) (gOk _ _ _ _ _) dX4_unfold_16 (tX4_figure _ _ _ _ _) ⟨wV_X4_figure, wL_X4_figure⟩ wM_X4_75 (gCX4 _ _ _ _ _) rfl (A_94 hw) rfl ⟨le_t rfl, le_t rfl⟩ ⟨le_t rfl, le_t rfl⟩ rfl (le_t rfl) fun z200 h199 => ?_
  have h201 : z200 = p1 / f_w6 % (f_v6 + 1) := figV h199.2.2.1 (u194.f (Or.inl (mAt.ne (A_101 hw) (A_100 hw) rfl)) (u185.f (Or.inl (mAt.ne (A_101 hw) (A_100 hw) rfl)) (u176.f (Or.inl (mAt.ne (A_101 hw) (A_100 hw) rfl)) (u167.f (Or.inl (mAt.ne (A_101 hw) (A_100 hw) rfl)) (u158.f (Or.inl (mAt.ne (A_101 hw) (A_100 hw) rfl)) q_f_w6))))) (u194.f (Or.inl (mAt.ne (A_101 hw) (A_95 hw) rfl)) (u185.f (Or.inl (mAt.ne (A_101 hw) (A_95 hw) rfl)) (u176.f (Or.inl (mAt.ne (A_101 hw) (A_95 hw) rfl)) (u167.f (Or.inl (mAt.ne (A_101 hw) (A_95 hw) rfl)) (u158.f (Or.inl (mAt.ne (A_101 hw) (A_95 hw) rfl)) q_f_v6)))))
  refine ss_101 (pc := 19) dX4_unfold_19 (A_101 hw) T195 (rIx (n := 7) (rR (x := 6)) rfl) (rW (c := 0) (d := 46656) h199.1 rfl) fun μ202 u203 T204 => ?_
  refine mr_iinc (pc := 20) (lv' := [(2, iv 7), (0, .ref 94), (1, iv p1)]) dX4_unfold_20 rfl (by decide) rfl ?_
  refine sv_goto (pc := 23) (tgt := 2) dX4_unfold_23 (by decide) ?_
  refine mr_iload_n (pc := 2) (z := 7) dX4_unfold_2 rfl rfl ?_
  refine mr_bipush (pc := 3) (z := 7) dX4_unfold_3 (by decide) ?_
  refine mr_icmp_ge (pc := 5) (tgt := 26) dX4_unfold_5 (by decide) (r32 (rR (x := 7)) rfl) (r32 (rR (x := 7)) rfl) (fun _ => ?_) (fun h => ((vc_X4_unfold_r_19 h)).elim)
  exact mr_vret dX4_unfold_26 rfl (le_t rfl) (le_t rfl) T204 (mF.up (mF.up (mF.up (mF.up (mF.up (mF.up mF.refl (A_101 hw) u158 rfl) (A_101 hw) u167 rfl) (A_101 hw) u176 rfl) (A_101 hw) u185 rfl) (A_101 hw) u194 rfl) (A_101 hw) u203 rfl) ⟨⟨dig.mk2 (u203.f (Or.inr vc_X12_open_30) (u194.f (Or.inr vc_X12_open_29) (u185.f (Or.inr vc_X12_open_28) (u176.f (Or.inr vc_X12_open_27) (u167.f (Or.inr vc_X12_open_26) u158.1))))) (u203.f (Or.inl (mAt.ne (A_101 hw) (A_100 hw) rfl)) (u194.f (Or.inl (mAt.ne (A_101 hw) (A_100 hw) rfl)) (u185.f (Or.inl (mAt.ne (A_101 hw) (A_100 hw) rfl)) (u176.f (Or.inl (mAt.ne (A_101 hw) (A_100 hw) rfl)) (u167.f (Or.inl (mAt.ne (A_101 hw) (A_100 hw) rfl)) (u158.f (Or.inl (mAt.ne (A_101 hw) (A_100 hw) rfl)) q_f_w1)))))) (u203.f (Or.inl (mAt.ne (A_101 hw) (A_95 hw) rfl)) (u194.f (Or.inl (mAt.ne (A_101 hw) (A_95 hw) rfl)) (u185.f (Or.inl (mAt.ne (A_101 hw) (A_95 hw) rfl)) (u176.f (Or.inl (mAt.ne (A_101 hw) (A_95 hw) rfl)) (u167.f (Or.inl (mAt.ne (A_101 hw) (A_95 hw) rfl)) (u158.f (Or.inl (mAt.ne (A_101 hw) (A_95 hw) rfl)) q_f_v1)))))) h156, dig.mk2 (u203.f (Or.inr vc_X12_open_34) (u194.f (Or.inr vc_X12_open_33) (u185.f (Or.inr vc_X12_open_32) (u176.f (Or.inr vc_X12_open_31) u167.1)))) (u203.f (Or.inl (mAt.ne (A_101 hw) (A_100 hw) rfl)) (u194.f (Or.inl (mAt.ne (A_101 hw) (A_100 hw) rfl)) (u185.f (Or.inl (mAt.ne (A_101 hw) (A_100 hw) rfl)) (u176.f (Or.inl (mAt.ne (A_101 hw) (A_100 hw) rfl)) (u167.f (Or.inl (mAt.ne (A_101 hw) (A_100 hw) rfl)) (u158.f (Or.inl (mAt.ne (A_101 hw) (A_100 hw) rfl)) q_f_w2)))))) (u203.f (Or.inl (mAt.ne (A_101 hw) (A_95 hw) rfl)) (u194.f (Or.inl (mAt.ne (A_101 hw) (A_95 hw) rfl)) (u185.f (Or.inl (mAt.ne (A_101 hw) (A_95 hw) rfl)) (u176.f (Or.inl (mAt.ne (A_101 hw) (A_95 hw) rfl)) (u167.f (Or.inl (mAt.ne (A_101 hw) (A_95 hw) rfl)) (u158.f (Or.inl (mAt.ne (A_101 hw) (A_95 hw) rfl)) q_f_v2)))))) h165, dig.mk2 (u203.f (Or.inr vc_X12_open_37) (u194.f (Or.inr vc_X12_open_36) (u185.f (Or.inr vc_X12_open_35) u176.1))) (u203.f (Or.inl (mAt.ne (A_101 hw) (A_100 hw) rfl)) (u194.f (Or.inl (mAt.ne (A_101 hw) (A_100 hw) rfl)) (u185.f (Or.inl (mAt.ne (A_101 hw) (A_100 hw) rfl)) (u176.f (Or.inl (mAt.ne (A_101 hw) (A_100 hw) rfl)) (u167.f (Or.inl (mAt.ne (A_101 hw) (A_100 hw) rfl)) (u158.f (Or.inl (mAt.ne (A_101 hw) (A_100 hw) rfl)) q_f_w3)))))) (u203.f (Or.inl (mAt.ne (A_101 hw) (A_95 hw) rfl)) (u194.f (Or.inl (mAt.ne (A_101 hw) (A_95 hw) rfl)) (u185.f (Or.inl (mAt.ne (A_101 hw) (A_95 hw) rfl)) (u176.f (Or.inl (mAt.ne (A_101 hw) (A_95 hw) rfl)) (u167.f (Or.inl (mAt.ne (A_101 hw) (A_95 hw) rfl)) (u158.f (Or.inl (mAt.ne (A_101 hw) (A_95 hw) rfl)) q_f_v3)))))) h174, dig.mk2 (u203.f (Or.inr vc_X12_open_39) (u194.f (Or.inr vc_X12_open_38) u185.1)) (u203.f (Or.inl (mAt.ne (A_101 hw) (A_100 hw) rfl)) (u194.f (Or.inl (mAt.ne (A_101 hw) (A_100 hw) rfl)) (u185.f (Or.inl (mAt.ne (A_101 hw) (A_100 hw) rfl)) (u176.f (Or.inl (mAt.ne (A_101 hw) (A_100 hw) rfl)) (u167.f (Or.inl (mAt.ne (A_101 hw) (A_100 hw) rfl)) (u158.f (Or.inl (mAt.ne (A_101 hw) (A_100 hw) rfl)) q_f_w4)))))) (u203.f (Or.inl (mAt.ne (A_101 hw) (A_95 hw) rfl)) (u194.f (Or.inl (mAt.ne (A_101 hw) (A_95 hw) rfl)) (u185.f (Or.inl (mAt.ne (A_101 hw) (A_95 hw) rfl)) (u176.f (Or.inl (mAt.ne (A_101 hw) (A_95 hw) rfl)) (u167.f (Or.inl (mAt.ne (A_101 hw) (A_95 hw) rfl)) (u158.f (Or.inl (mAt.ne (A_101 hw) (A_95 hw) rfl)) q_f_v4)))))) h183, dig.mk2 (u203.f (Or.inr vc_X12_open_40) u194.1) (u203.f (Or.inl (mAt.ne (A_101 hw) (A_100 hw) rfl)) (u194.f (Or.inl (mAt.ne (A_101 hw) (A_100 hw) rfl)) (u185.f (Or.inl (mAt.ne (A_101 hw) (A_100 hw) rfl)) (u176.f (Or.inl (mAt.ne (A_101 hw) (A_100 hw) rfl)) (u167.f (Or.inl (mAt.ne (A_101 hw) (A_100 hw) rfl)) (u158.f (Or.inl (mAt.ne (A_101 hw) (A_100 hw) rfl)) q_f_w5)))))) (u203.f (Or.inl (mAt.ne (A_101 hw) (A_95 hw) rfl)) (u194.f (Or.inl (mAt.ne (A_101 hw) (A_95 hw) rfl)) (u185.f (Or.inl (mAt.ne (A_101 hw) (A_95 hw) rfl)) (u176.f (Or.inl (mAt.ne (A_101 hw) (A_95 hw) rfl)) (u167.f (Or.inl (mAt.ne (A_101 hw) (A_95 hw) rfl)) (u158.f (Or.inl (mAt.ne (A_101 hw) (A_95 hw) rfl)) q_f_v5)))))) h192, dig.mk2 u203.1 (u203.f (Or.inl (mAt.ne (A_101 hw) (A_100 hw) rfl)) (u194.f (Or.inl (mAt.ne (A_101 hw) (A_100 hw) rfl)) (u185.f (Or.inl (mAt.ne (A_101 hw) (A_100 hw) rfl)) (u176.f (Or.inl (mAt.ne (A_101 hw) (A_100 hw) rfl)) (u167.f (Or.inl (mAt.ne (A_101 hw) (A_100 hw) rfl)) (u158.f (Or.inl (mAt.ne (A_101 hw) (A_100 hw) rfl)) q_f_w6)))))) (u203.f (Or.inl (mAt.ne (A_101 hw) (A_95 hw) rfl)) (u194.f (Or.inl (mAt.ne (A_101 hw) (A_95 hw) rfl)) (u185.f (Or.inl (mAt.ne (A_101 hw) (A_95 hw) rfl)) (u176.f (Or.inl (mAt.ne (A_101 hw) (A_95 hw) rfl)) (u167.f (Or.inl (mAt.ne (A_101 hw) (A_95 hw) rfl)) (u158.f (Or.inl (mAt.ne (A_101 hw) (A_95 hw) rfl)) q_f_v6)))))) h201⟩, trivial⟩
theorem vc_X4_addNeighbours_1 {f_st p1 : Int} (h0 : p1 < f_st) (h1 : 0 ≤ f_st ∧ f_st ≤ 46656) (h2 : 0 ≤ p1 ∧ p1 ≤ 46655) : 1 ≤ f_st ∧ f_st ≤ 46656 := by omega
theorem vc_X4_addNeighbours_4 {p2 z480 : Int} (h0 : p2 ≤ z480) (h1 : 1 ≤ p2 ∧ p2 ≤ 46656) (h2 : 1 ≤ z480 ∧ z480 ≤ 46656) : p2 ≤ z480 := by omega
theorem vc_X4_addNeighbours_6 {z479 : Int} (h0 : z479 < 7) (h1 : 1 ≤ z479 ∧ z479 ≤ 6) : 1 ≤ z479 ∧ z479 ≤ 6 := by omega
theorem vc_X4_addNeighbours_8 {z524 z531 z532 : Int} (h0 : z531 ≤ z524) (h1 : 0 ≤ z532 ∧ z532 ≤ z524) (h2 : 0 ≤ z524 ∧ z524 ≤ 5) (h3 : 0 ≤ z531 ∧ z531 ≤ 5) (h4 : 0 ≤ z532 ∧ z532 ≤ 46656) : 0 ≤ z532 ∧ z532 ≤ 5 := by omega
theorem vc_X4_addNeighbours_9 {f_st n_312 n_316 p1 : Int} (h0 : p1 < f_st) (h1 : f_st ≤ n_312) (h2 : f_st ≤ n_316) (h3 : 1 ≤ f_st ∧ f_st ≤ 46656) (h4 : 0 ≤ n_312 ∧ n_312 ≤ 93312) (h5 : 0 ≤ n_316 ∧ n_316 ≤ 93312) (h6 : 0 ≤ p1 ∧ p1 ≤ 46655) : 0 ≤ p1 ∧ p1 < f_st := by omega
theorem vc_X4_addNeighbours_10 {z524 z531 z532 : Int} (h0 : z531 ≤ z524) (h1 : 0 ≤ z532 ∧ z532 ≤ z524) (h2 : 0 ≤ z524 ∧ z524 ≤ 5) (h3 : 0 ≤ z531 ∧ z531 ≤ 5) (h4 : 0 ≤ z532 ∧ z532 ≤ 5) : 0 ≤ z524 := by omega
theorem vc_X4_addNeighbours_11 {z524 z531 z532 : Int} (h0 : z531 ≤ z524) (h1 : 0 ≤ z532 ∧ z532 ≤ z524) (h2 : 0 ≤ z524 ∧ z524 ≤ 5) (h3 : 0 ≤ z531 ∧ z531 ≤ 5) (h4 : 0 ≤ z532 ∧ z532 ≤ 5) : 0 ≤ z531 ∧ z531 ≤ z524 := by omega
theorem vc_X4_addNeighbours_12 {f_st n_312 n_316 p1 z540 : Int} (h0 : p1 < f_st) (h1 : f_st ≤ n_316) (h2 : 0 ≤ (p1 + z540) ∧ (p1 + z540) < f_st) (h3 : f_st ≤ n_312) (h4 : 1 ≤ f_st ∧ f_st ≤ 46656) (h5 : 0 ≤ n_312 ∧ n_312 ≤ 93312) (h6 : 0 ≤ n_316 ∧ n_316 ≤ 93312) (h7 : 0 ≤ p1 ∧ p1 ≤ 46655) (h8 : (-233280) ≤ z540 ∧ z540 ≤ 233280) : 0 ≤ (p1 + z540) ∧ (p1 + z540) < n_316 := by omega
theorem vc_X4_addNeighbours_14 {z544 : Int} (h0 : z544 = 0) (h1 : (-128) ≤ z544 ∧ z544 ≤ 127) : 0 ≤ z544 ∧ z544 ≤ 0 := by omega
theorem vc_X4_addNeighbours_15 {p2 z480 : Int} (h0 : p2 ≤ z480) (h1 : 1 ≤ p2 ∧ p2 ≤ 46656) (h2 : 1 ≤ z480 ∧ z480 ≤ 46656) : 0 ≤ z480 := by omega
theorem vc_X4_addNeighbours_16 {f_st n_312 n_316 p1 z540 : Int} (h0 : p1 < f_st) (h1 : f_st ≤ n_312) (h2 : f_st ≤ n_316) (h3 : 0 ≤ (p1 + z540) ∧ (p1 + z540) < f_st) (h4 : 1 ≤ f_st ∧ f_st ≤ 46656) (h5 : 0 ≤ n_312 ∧ n_312 ≤ 93312) (h6 : 0 ≤ n_316 ∧ n_316 ≤ 93312) (h7 : 0 ≤ p1 ∧ p1 ≤ 46655) (h8 : (-233280) ≤ z540 ∧ z540 ≤ 233280) : 0 ≤ (p1 + z540) ∧ (p1 + z540) < f_st := by omega
theorem vc_X4_addNeighbours_18 {f_st n_312 n_316 p1 z480 z540 : Int} (h0 : p1 < f_st) (h1 : f_st ≤ n_316) (h2 : 0 ≤ (p1 + z540) ∧ (p1 + z540) < f_st) (h3 : f_st ≤ n_312) (h4 : z480 < f_st) (h5 : 1 ≤ f_st ∧ f_st ≤ 46656) (h6 : 0 ≤ n_312 ∧ n_312 ≤ 93312) (h7 : 0 ≤ n_316 ∧ n_316 ≤ 93312) (h8 : 0 ≤ p1 ∧ p1 ≤ 46655) (h9 : 1 ≤ z480 ∧ z480 ≤ 46656) (h10 : (-233280) ≤ z540 ∧ z540 ≤ 233280) : 0 ≤ (p1 + z540) ∧ (p1 + z540) < n_316 := by omega
theorem vc_X4_addNeighbours_19 {f_st n_312 n_316 p1 p2 z480 z540 : Int} (h0 : f_st ≤ n_312) (h1 : p2 ≤ z480) (h2 : z480 < f_st) (h3 : p1 < f_st) (h4 : f_st ≤ n_316) (h5 : 0 ≤ (p1 + z540) ∧ (p1 + z540) < f_st) (h6 : 1 ≤ f_st ∧ f_st ≤ 46656) (h7 : 0 ≤ n_312 ∧ n_312 ≤ 93312) (h8 : 0 ≤ n_316 ∧ n_316 ≤ 93312) (h9 : 0 ≤ p1 ∧ p1 ≤ 46655) (h10 : 1 ≤ p2 ∧ p2 ≤ 46656) (h11 : 1 ≤ z480 ∧ z480 ≤ 46656) (h12 : (-233280) ≤ z540 ∧ z540 ≤ 233280) : 0 ≤ z480 ∧ z480 < n_312 := by omega
theorem vc_X4_addNeighbours_20 {f_st n_312 n_316 p1 z480 z540 : Int} (h0 : p1 < f_st) (h1 : 0 ≤ (p1 + z540) ∧ (p1 + z540) < f_st) (h2 : f_st ≤ n_312) (h3 : f_st ≤ n_316) (h4 : z480 < f_st) (h5 : 1 ≤ f_st ∧ f_st ≤ 46656) (h6 : 0 ≤ n_312 ∧ n_312 ≤ 93312) (h7 : 0 ≤ n_316 ∧ n_316 ≤ 93312) (h8 : 0 ≤ p1 ∧ p1 ≤ 46655) (h9 : 1 ≤ z480 ∧ z480 ≤ 46656) (h10 : (-233280) ≤ z540 ∧ z540 ≤ 233280) : 0 ≤ (p1 + z540) ∧ (p1 + z540) ≤ 46655 := by omega
theorem vc_X4_addNeighbours_21 {f_st n_312 n_316 p1 p2 z480 z540 : Int} (h0 : p2 ≤ z480) (h1 : z480 < f_st) (h2 : p1 < f_st) (h3 : f_st ≤ n_312) (h4 : f_st ≤ n_316) (h5 : 0 ≤ (p1 + z540) ∧ (p1 + z540) < f_st) (h6 : 1 ≤ f_st ∧ f_st ≤ 46656) (h7 : 0 ≤ n_312 ∧ n_312 ≤ 93312) (h8 : 0 ≤ n_316 ∧ n_316 ≤ 93312) (h9 : 0 ≤ p1 ∧ p1 ≤ 46655) (h10 : 1 ≤ p2 ∧ p2 ≤ 46656) (h11 : 1 ≤ z480 ∧ z480 ≤ 46656) (h12 : (-233280) ≤ z540 ∧ z540 ≤ 233280) : 0 ≤ z480 := by omega
theorem vc_X4_addNeighbours_22 {f_st n_312 n_316 p1 p2 z480 z540 : Int} (h0 : p1 < f_st) (h1 : f_st ≤ n_312) (h2 : f_st ≤ n_316) (h3 : 0 ≤ (p1 + z540) ∧ (p1 + z540) < f_st) (h4 : z480 < f_st) (h5 : p2 ≤ z480) (h6 : 1 ≤ f_st ∧ f_st ≤ 46656) (h7 : 0 ≤ n_312 ∧ n_312 ≤ 93312) (h8 : 0 ≤ n_316 ∧ n_316 ≤ 93312) (h9 : 0 ≤ p1 ∧ p1 ≤ 46655) (h10 : 1 ≤ p2 ∧ p2 ≤ 46656) (h11 : 1 ≤ z480 ∧ z480 ≤ 46656) (h12 : (-233280) ≤ z540 ∧ z540 ≤ 233280) : 0 ≤ (p1 + z540) ∧ (p1 + z540) < f_st := by omega
theorem vc_X4_addNeighbours_23 {f_st n_312 n_316 p1 p2 z480 z540 : Int} (h0 : p2 ≤ z480) (h1 : z480 < f_st) (h2 : p1 < f_st) (h3 : f_st ≤ n_312) (h4 : f_st ≤ n_316) (h5 : 0 ≤ (p1 + z540) ∧ (p1 + z540) < f_st) (h6 : 1 ≤ f_st ∧ f_st ≤ 46656) (h7 : 0 ≤ n_312 ∧ n_312 ≤ 93312) (h8 : 0 ≤ n_316 ∧ n_316 ≤ 93312) (h9 : 0 ≤ p1 ∧ p1 ≤ 46655) (h10 : 1 ≤ p2 ∧ p2 ≤ 46656) (h11 : 1 ≤ z480 ∧ z480 ≤ 46656) (h12 : (-233280) ≤ z540 ∧ z540 ≤ 233280) : 1 ≤ (z480 + 1) ∧ (z480 + 1) ≤ 46656 := by omega
theorem vc_X4_addNeighbours_24 {f_st n_312 n_316 p1 p2 z480 z540 : Int} (h0 : p2 ≤ z480) (h1 : z480 < f_st) (h2 : p1 < f_st) (h3 : f_st ≤ n_312) (h4 : f_st ≤ n_316) (h5 : 0 ≤ (p1 + z540) ∧ (p1 + z540) < f_st) (h6 : 1 ≤ f_st ∧ f_st ≤ 46656) (h7 : 0 ≤ n_312 ∧ n_312 ≤ 93312) (h8 : 0 ≤ n_316 ∧ n_316 ≤ 93312) (h9 : 0 ≤ p1 ∧ p1 ≤ 46655) (h10 : 1 ≤ p2 ∧ p2 ≤ 46656) (h11 : 1 ≤ z480 ∧ z480 ≤ 46656) (h12 : (-233280) ≤ z540 ∧ z540 ≤ 233280) : p2 ≤ (z480 + 1) := by omega
theorem vc_X4_addNeighbours_25 {p2 : Int} (h0 : 1 ≤ p2 ∧ p2 ≤ 46656) : p2 ≤ p2 := by omega
set_option maxRecDepth 4000 in
set_option maxHeartbeats 4000000 in
theorem c_X4_addNeighbours {l : Launch} {D : va_G} {c : Nat → ClassId} {H0 : Heap} {sa : Nat × Nat × (Nat → Int32)} {w : mW} {μ : mM} (hw : mWF w) (hT : mT w μ) {p1 : Int} (hp1 : 0 ≤ p1 ∧ p1 ≤ 46655) {p2 : Int} (hp2 : 1 ≤ p2 ∧ p2 ≤ 46656) {f_st : Int} (q_f_st : μ 94 9 = f_st) {bq : Nat} (q_bq : μ 94 6 = (bq : Int)) (hA_bq : mAt w bq 102) {bf : Nat} (q_bf : μ 94 8 = (bf : Int)) (hA_bf : mAt w bf 104) (hq0 : p1 < f_st) (hlq : μ 94 9 ≤ (w.2.2.1 bq : Int)) (hlf : μ 94 9 ≤ (w.2.2.1 bf : Int)) (hrx : radix μ 100 95 f_st) (hdg : digs μ 101 100 95 p1) (hqu : quC μ bq bf p2 f_st 0) : sC (gG l D c H0 sa) mX4_addNeighbours 2 0 0 [.ref 94, iv p1, iv p2] (mk w μ) (qI w [102999, 104999] μ (fun z μ1 => (1 ≤ z ∧ z ≤ 46656) ∧ (p2 ≤ z) ∧ (quC μ1 bq bf z f_st 0) ∧ True)) := by
  refine sC.of rfl (by decide) (le_t rfl) ?_
  have ht_f_st : (0 ≤ f_st ∧ f_st ≤ 46656) := by rw [← q_f_st]; exact hT 94 94 (A_94 hw) 9
  have h1 : 1 ≤ f_st ∧ f_st ≤ 46656 := (vc_X4_addNeighbours_1 hq0 ht_f_st hp1)
  refine mr_lvE (lv' := [(0, .ref 94), (1, iv p1), (2, iv p2)]) rfl ?_
  obtain ⟨n_312, q313⟩ : ∃ n : Int, (w.2.2.1 bq : Int) = n := ⟨_, rfl⟩
  have h314 : 0 ≤ n_312 ∧ n_312 ≤ 93312 := lnR (m := 93312) q313 hA_bq rfl
  have h315 : f_st ≤ n_312 := lenLe hlq q_f_st q313
  obtain ⟨n_316, q317⟩ : ∃ n : Int, (w.2.2.1 bf : Int) = n := ⟨_, rfl⟩
  have h318 : 0 ≤ n_316 ∧ n_316 ≤ 93312 := lnR (m := 93312) q317 hA_bf rfl
  have h319 : f_st ≤ n_316 := lenLe hlf q_f_st q317
  refine mr_iload_n (pc := 0) (z := p2) dX4_addNeighbours_0 rfl rfl ?_
  refine mr_istore_n (pc := 1) (lv' := [(3, iv p2), (0, .ref 94), (1, iv p1), (2, iv p2)]) dX4_addNeighbours_1 rfl (by decide) rfl ?_
  refine mr_iconst (pc := 2) (z := 1) dX4_addNeighbours_2 ?_
  refine mr_istore (pc := 3) (lv' := [(4, iv 1), (3, iv p2), (0, .ref 94), (1, iv p1), (2, iv p2)]) dX4_addNeighbours_3 (by decide) rfl ?_
  have L482 : ∀ (nL482 : Nat) (z480 z479 : Int) (μ481 : mM), mT w μ481 → mF [102999, 104999] w μ μ481 → (1 ≤ z480 ∧ z480 ≤ 46656) → (1 ≤ z479 ∧ z479 ≤ 7) → (p2 ≤ z480) → quC μ481 bq bf z480 f_st 0 → (8 - z479) < (nL482 : Int) → sV (gG l D c H0 sa) mX4_addNeighbours (sRm 2 0 0) (sZ (gG l D c H0 sa) 0 0 (qI w [102999, 104999] μ (fun z μ1 => (1 ≤ z ∧ z ≤ 46656) ∧ (p2 ≤ z) ∧ (quC μ1 bq bf z f_st 0) ∧ True))) 5 [(0, .ref 94), (1, iv p1), (3, iv z480), (4, iv z479)] [] (mk w μ481) 0 0 := by
    intro nL482
    induction nL482 with
    | zero => intro z480 z479 μ481 T485 F486 h483 h484 h488 R489 h490; exact ((vc_X12_clear_1 h490 h484)).elim
    | succ nL482 ih491 =>
      intro z480 z479 μ481 T485 F486 h483 h484 h488 R489 h490
      refine mr_iload (pc := 5) (z := z479) dX4_addNeighbours_5 rfl ?_
      refine mr_bipush (pc := 7) (z := 7) dX4_addNeighbours_7 (by decide) ?_
      refine mr_icmp_ge (pc := 9) (tgt := 73) dX4_addNeighbours_9 (by decide) (r32 h484 rfl) (r32 (rR (x := 7)) rfl) (fun h521 => ?_) (fun h521 => ?_)
      · have h522 : 7 ≤ z479 ∧ z479 ≤ 7 := (vc_X4_forget_2 h521 h484)
        refine mr_iload_n (pc := 73) (z := z480) dX4_addNeighbours_73 rfl rfl ?_
        exact mr_iret dX4_addNeighbours_74 rfl (le_t rfl) (le_t rfl) T485 (mF.call mF.refl F486 rfl) ⟨h483, (vc_X4_addNeighbours_4 h488 hp2 h483), R489, trivial⟩
      have h523 : 1 ≤ z479 ∧ z479 ≤ 6 := (vc_X4_forget_3 h521 h484)
      refine mr_iload_n (pc := 12) (z := p1) dX4_addNeighbours_12 rfl rfl ?_
      refine sv_aload_n (pc := 13) dX4_addNeighbours_13 rfl rfl ?_
      refine mr_iload (pc := 14) (z := z479) dX4_addNeighbours_14 rfl ?_
      obtain ⟨z524, q525⟩ : ∃ z, μ481 95 (z479.toNat) = z := ⟨_, rfl⟩
      have h526 : (0 ≤ z524 ∧ z524 ≤ 5) := by rw [← q525]; exact T485 95 95 (A_95 hw) (z479.toNat)
      refine mr_cVP (pc := 16) (c_X4_actOf_v hw T485 h523 q525) (gOk _ _ _ _ _) dX4_addNeighbours_16 (tX4_actOf _ _ _ _ _) ⟨wV_X4_actOf, wL_X4_actOf⟩ wM_X4_71 (gCX4 _ _ _ _ _) rfl (A_94 hw) rfl ⟨le_t rfl, le_t rfl⟩ ⟨le_t rfl, le_t rfl⟩ rfl (le_t rfl) fun z531 h530 => ?_
      refine sv_aload_n (pc := 19) dX4_addNeighbours_19 rfl rfl ?_
      refine gf_X4_5 (pc := 20) dX4_addNeighbours_20 wF_X4_30 (A_94 hw) T485 ?_
      refine mr_iload (pc := 23) (z := z479) dX4_addNeighbours_23 rfl ?_
      refine la_101 (pc := 25) dX4_addNeighbours_25 (A_101 hw) T485 (rIx (n := 7) h523 rfl) fun z532 q533 h534 => ?_
      have h535 : 0 ≤ z532 ∧ z532 ≤ z524 := digs.le (digs.keep hdg ((mF.call mF.refl F486 rfl) : mF [102999, 104999] w μ μ481) (A_101 hw) (A_100 hw) (A_95 hw) (fun _ => rfl) (fun _ => rfl) (fun _ => rfl)) (vc_X4_addNeighbours_6 h521 h523) q525 q533 (vc_X12_tries_65 h530.2.1 h526 h530.1)
      have h536 : 0 ≤ z532 ∧ z532 ≤ 5 := (vc_X4_addNeighbours_8 h530.2.1 h535 h526 h530.1 h534)
      refine mr_isub (pc := 26) (x := z531) (y := z532) dX4_addNeighbours_26 ?_
      refine sv_aload_n (pc := 27) dX4_addNeighbours_27 rfl rfl ?_
      refine gf_X4_4 (pc := 28) dX4_addNeighbours_28 wF_X4_27 (A_94 hw) T485 ?_
      refine mr_iload (pc := 31) (z := z479) dX4_addNeighbours_31 rfl ?_
      refine la_100 (pc := 33) dX4_addNeighbours_33 (A_100 hw) T485 (rIx (n := 7) h523 rfl) fun z537 q538 h539 => ?_
      refine mr_imul (pc := 34) (x := (z531 - z532)) (y := z537) dX4_addNeighbours_34 ?_
      refine mr_gen (P := fun z => (-233280) ≤ z ∧ z ≤ 233280) (rMulS (m := 5) (k := 46656) (e := 233280) (rSub (e := (-5)) (f := 5) h530.1 h536 rfl) h539 (by decide) rfl) fun z540 q541 h542 => ?_
      refine mr_iadd (pc := 35) (x := p1) (y := z540) dX4_addNeighbours_35 ?_
      have h543 : 0 ≤ (p1 + z540) ∧ (p1 + z540) < f_st := net_t (radix.keep hrx ((mF.call mF.refl F486 rfl) : mF [102999, 104999] w μ μ481) (A_100 hw) (A_95 hw) (fun _ => rfl) (fun _ => rfl)) (digs.keep hdg ((mF.call mF.refl F486 rfl) : mF [102999, 104999] w μ μ481) (A_101 hw) (A_100 hw) (A_95 hw) (fun _ => rfl) (fun _ => rfl) (fun _ => rfl)) (vc_X4_addNeighbours_6 h521 h523) (vc_X4_addNeighbours_9 hq0 h315 h319 h1 h314 h318 hp1) q538 q525 q533 (vc_X4_addNeighbours_10 h530.2.1 h535 h526 h530.1 h536) (vc_X4_addNeighbours_11 h530.2.1 h535 h526 h530.1 h536) q541
      refine mr_istore (pc := 36) (lv' := [(5, iv (p1 + z540)), (0, .ref 94), (1, iv p1), (3, iv z480), (4, iv z479)]) dX4_addNeighbours_36 (by decide) rfl ?_
      refine sv_aload_n (pc := 38) dX4_addNeighbours_38 rfl rfl ?_
      refine gk_X4_8 (pc := 39) dX4_addNeighbours_39 wF_X4_39 (A_94 hw) (F486.f (A_94 hw) rfl q_bf) ?_
      refine mr_iload (pc := 42) (z := (p1 + z540)) dX4_addNeighbours_42 rfl ?_
      refine la_104 (pc := 44) dX4_addNeighbours_44 hA_bf T485 (lnC q317 (vc_X4_addNeighbours_12 hq0 h319 h543 h315 h1 h314 h318 hp1 h542)) fun z544 q545 h546 => ?_
      refine mr_if_ne (pc := 45) (tgt := 67) dX4_addNeighbours_45 (by decide) (r32 h546 rfl) (fun h547 => ?_) (fun h547 => ?_)
      · refine mr_iinc (pc := 67) (lv' := [(4, iv (z479 + 1)), (5, iv (p1 + z540)), (0, .ref 94), (1, iv p1), (3, iv z480)]) dX4_addNeighbours_67 rfl (by decide) rfl ?_
        refine sv_goto (pc := 70) (tgt := 5) dX4_addNeighbours_70 (by decide) ?_
        refine mr_lvS (lv' := [(0, .ref 94), (1, iv p1), (3, iv z480), (4, iv (z479 + 1))]) (List.forall_mem_cons.mpr ⟨rfl, List.forall_mem_cons.mpr ⟨rfl, List.forall_mem_cons.mpr ⟨rfl, List.forall_mem_cons.mpr ⟨rfl, fun _ h => absurd h List.not_mem_nil⟩⟩⟩⟩) ?_
        exact ih491 z480 (z479 + 1) μ481 T485 (mF.call mF.refl F486 rfl) h483 (rW (c := 1) (d := 7) (rAdd (e := 2) (f := 7) h523 (rR (x := 1)) rfl) rfl) (vc_X4_addNeighbours_4 h488 hp2 h483) R489 (vc_X4_forget_4 (nS h490) h521 h523)
      have h548 : 0 ≤ z544 ∧ z544 ≤ 0 := (vc_X4_addNeighbours_14 h547 h546)
      have h549 : z480 < f_st := quC.room R489 (mAt.ne hA_bq hA_bf rfl) (vc_X4_addNeighbours_15 h488 hp2 h483) (vc_X4_addNeighbours_16 hq0 h315 h319 h543 h1 h314 h318 hp1 h542) q545 (vc_X12_goes_7 h547 h548)
      refine sv_aload_n (pc := 48) dX4_addNeighbours_48 rfl rfl ?_
      refine gk_X4_8 (pc := 49) dX4_addNeighbours_49 wF_X4_39 (A_94 hw) (F486.f (A_94 hw) rfl q_bf) ?_
      refine mr_iload (pc := 52) (z := (p1 + z540)) dX4_addNeighbours_52 rfl ?_
      refine mr_iconst (pc := 54) (z := 1) dX4_addNeighbours_54 ?_
      refine ss_104 (pc := 55) dX4_addNeighbours_55 hA_bf T485 (lnC q317 (vc_X4_addNeighbours_18 hq0 h319 h543 h315 h549 h1 h314 h318 hp1 h483 h542)) (rW (c := (-128)) (d := 127) (rR (x := 1)) rfl) fun μ550 u551 T552 => ?_
      refine sv_aload_n (pc := 56) dX4_addNeighbours_56 rfl rfl ?_
      refine gk_X4_6 (pc := 57) dX4_addNeighbours_57 wF_X4_33 (A_94 hw) (u551.f (Or.inl (mAt.ne hA_bf (A_94 hw) rfl)) (F486.f (A_94 hw) rfl q_bq)) ?_
      refine mr_iload_n (pc := 60) (z := z480) dX4_addNeighbours_60 rfl rfl ?_
      refine mr_iload (pc := 61) (z := (p1 + z540)) dX4_addNeighbours_61 rfl ?_
      refine ss_102 (pc := 63) dX4_addNeighbours_63 hA_bq T552 (lnC q313 (vc_X4_addNeighbours_19 h315 h488 h549 hq0 h319 h543 h1 h314 h318 hp1 hp2 h483 h542)) (vc_X4_addNeighbours_20 hq0 h543 h315 h319 h549 h1 h314 h318 hp1 h483 h542) fun μ553 u554 T555 => ?_
      have Q556 : quC μ553 bq bf (z480 + 1) f_st 0 := quC.push R489 (mAt.ne hA_bq hA_bf rfl) (vc_X4_addNeighbours_21 h488 h549 hq0 h315 h319 h543 h1 h314 h318 hp1 hp2 h483 h542) (vc_X4_addNeighbours_22 hq0 h315 h319 h543 h549 h488 h1 h314 h318 hp1 hp2 h483 h542) q545 (vc_X12_goes_7 h547 h548) u551 (by decide) u554
      refine mr_iinc (pc := 64) (lv' := [(3, iv (z480 + 1)), (5, iv (p1 + z540)), (0, .ref 94), (1, iv p1), (4, iv z479)]) dX4_addNeighbours_64 rfl (by decide) rfl ?_
      refine mr_iinc (pc := 67) (lv' := [(4, iv (z479 + 1)), (3, iv (z480 + 1)), (5, iv (p1 + z540)), (0, .ref 94), (1, iv p1)]) dX4_addNeighbours_67 rfl (by decide) rfl ?_
      refine sv_goto (pc := 70) (tgt := 5) dX4_addNeighbours_70 (by decide) ?_
      refine mr_lvS (lv' := [(0, .ref 94), (1, iv p1), (3, iv (z480 + 1)), (4, iv (z479 + 1))]) (List.forall_mem_cons.mpr ⟨rfl, List.forall_mem_cons.mpr ⟨rfl, List.forall_mem_cons.mpr ⟨rfl, List.forall_mem_cons.mpr ⟨rfl, fun _ h => absurd h List.not_mem_nil⟩⟩⟩⟩) ?_
      exact ih491 (z480 + 1) (z479 + 1) μ553 T555 (mF.up (mF.up (mF.call mF.refl F486 rfl) hA_bf u551 rfl) hA_bq u554 rfl) (vc_X4_addNeighbours_23 h488 h549 hq0 h315 h319 h543 h1 h314 h318 hp1 hp2 h483 h542) (rW (c := 1) (d := 7) (rAdd (e := 2) (f := 7) h523 (rR (x := 1)) rfl) rfl) (vc_X4_addNeighbours_24 h488 h549 hq0 h315 h319 h543 h1 h314 h318 hp1 hp2 h483 h542) Q556 (vc_X4_forget_4 (nS h490) h521 h523)
  refine mr_lvS (lv' := [(0, .ref 94), (1, iv p1), (3, iv p2), (4, iv 1)]) (List.forall_mem_cons.mpr ⟨rfl, List.forall_mem_cons.mpr ⟨rfl, List.forall_mem_cons.mpr ⟨rfl, List.forall_mem_cons.mpr ⟨rfl, fun _ h => absurd h List.not_mem_nil⟩⟩⟩⟩) ?_
  exact L482 8 p2 1 μ hT mF.refl hp2 (rW (c := 1) (d := 7) (rR (x := 1)) rfl) (vc_X4_addNeighbours_25 hp2) hqu vc_X12_clear_5
theorem vc_X4_addSources_4 {p2 z1285 : Int} (h0 : p2 ≤ z1285) (h1 : 0 ≤ p2 ∧ p2 ≤ 46656) (h2 : 0 ≤ z1285 ∧ z1285 ≤ 46656) : p2 ≤ z1285 := by omega
theorem vc_X4_addSources_10 {z1369 z1376 z1377 z1549 : Int} (h0 : z1369 < z1549) (h1 : z1376 ≤ z1369) (h2 : 0 ≤ z1377 ∧ z1377 ≤ z1369) (h3 : 0 ≤ z1369 ∧ z1369 ≤ 5) (h4 : 0 ≤ z1376 ∧ z1376 ≤ 5) (h5 : 0 ≤ z1377 ∧ z1377 ≤ 5) (h6 : 0 ≤ z1549 ∧ z1549 ≤ 6) : 1 ≤ z1549 ∧ z1549 ≤ 6 := by omega
theorem vc_X4_addSources_11 {p2 z1285 z1550 : Int} (h0 : p2 ≤ z1285) (h1 : p2 ≤ z1550) (h2 : 0 ≤ p2 ∧ p2 ≤ 46656) (h3 : 0 ≤ z1285 ∧ z1285 ≤ 46656) (h4 : 0 ≤ z1550 ∧ z1550 ≤ 46656) : p2 ≤ z1550 := by omega
theorem vc_X4_addSources_13 {z1369 z1376 z1377 z1549 : Int} (h0 : z1549 ≤ z1369) (h1 : z1376 ≤ z1369) (h2 : 0 ≤ z1377 ∧ z1377 ≤ z1369) (h3 : 0 ≤ z1369 ∧ z1369 ≤ 5) (h4 : 0 ≤ z1376 ∧ z1376 ≤ 5) (h5 : 0 ≤ z1377 ∧ z1377 ≤ 5) (h6 : 0 ≤ z1549 ∧ z1549 ≤ 6) : 0 ≤ z1549 ∧ z1549 ≤ 5 := by omega
theorem vc_X4_addSources_14 {z1369 z1376 z1377 z1549 : Int} (h0 : z1376 ≤ z1369) (h1 : 0 ≤ z1377 ∧ z1377 ≤ z1369) (h2 : z1549 ≤ z1369) (h3 : z1376 = z1377) (h4 : 0 ≤ z1369 ∧ z1369 ≤ 5) (h5 : 0 ≤ z1376 ∧ z1376 ≤ 5) (h6 : 0 ≤ z1377 ∧ z1377 ≤ 5) (h7 : 0 ≤ z1549 ∧ z1549 ≤ 5) : 0 ≤ z1369 := by omega
theorem vc_X4_addSources_15 {z1369 z1376 z1377 z1549 : Int} (h0 : z1376 ≤ z1369) (h1 : 0 ≤ z1377 ∧ z1377 ≤ z1369) (h2 : z1376 = z1377) (h3 : z1549 ≤ z1369) (h4 : 0 ≤ z1369 ∧ z1369 ≤ 5) (h5 : 0 ≤ z1376 ∧ z1376 ≤ 5) (h6 : 0 ≤ z1377 ∧ z1377 ≤ 5) (h7 : 0 ≤ z1549 ∧ z1549 ≤ 5) : 0 ≤ z1377 ∧ z1377 ≤ 5 := by omega
theorem vc_X4_addSources_17 {z1369 z1376 z1377 z1549 : Int} (h0 : z1376 ≤ z1369) (h1 : 0 ≤ z1377 ∧ z1377 ≤ z1369) (h2 : z1549 ≤ z1369) (h3 : z1376 = z1377) (h4 : 0 ≤ z1369 ∧ z1369 ≤ 5) (h5 : 0 ≤ z1376 ∧ z1376 ≤ 5) (h6 : 0 ≤ z1377 ∧ z1377 ≤ 5) (h7 : 0 ≤ z1549 ∧ z1549 ≤ 5) : 0 ≤ z1549 ∧ z1549 ≤ z1369 := by omega
theorem vc_X4_addSources_19 {N z1369 z1376 z1377 z1549 : Int} (h0 : (7 - z1549) < N + 1) (h1 : z1549 ≤ z1369) (h2 : z1376 ≤ z1369) (h3 : 0 ≤ z1377 ∧ z1377 ≤ z1369) (h4 : 0 ≤ z1369 ∧ z1369 ≤ 5) (h5 : 0 ≤ z1376 ∧ z1376 ≤ 5) (h6 : 0 ≤ z1377 ∧ z1377 ≤ 5) (h7 : 0 ≤ z1549 ∧ z1549 ≤ 5) : (7 - (z1549 + 1)) < N := by omega
theorem vc_X4_addSources_20 {z1574 : Int} (h0 : z1574 = 1) (h1 : (-128) ≤ z1574 ∧ z1574 ≤ 127) : 1 ≤ z1574 ∧ z1574 ≤ 1 := by omega
theorem vc_X4_addSources_21 {p2 z1285 z1550 : Int} (h0 : p2 ≤ z1550) (h1 : p2 ≤ z1285) (h2 : 0 ≤ p2 ∧ p2 ≤ 46656) (h3 : 0 ≤ z1285 ∧ z1285 ≤ 46656) (h4 : 0 ≤ z1550 ∧ z1550 ≤ 46656) : 0 ≤ z1550 := by omega
theorem vc_X4_addSources_23 {z1574 : Int} (h0 : z1574 = 1) (h1 : 1 ≤ z1574 ∧ z1574 ≤ 1) : z1574 = 1 := by omega
theorem vc_X4_addSources_24 {f_st n_846 n_850 p1 z1550 z1570 : Int} (h0 : p1 < f_st) (h1 : f_st ≤ n_850) (h2 : 0 ≤ (p1 + z1570) ∧ (p1 + z1570) < f_st) (h3 : f_st ≤ n_846) (h4 : z1550 < f_st) (h5 : 1 ≤ f_st ∧ f_st ≤ 46656) (h6 : 0 ≤ n_846 ∧ n_846 ≤ 93312) (h7 : 0 ≤ n_850 ∧ n_850 ≤ 93312) (h8 : 0 ≤ p1 ∧ p1 ≤ 46655) (h9 : 0 ≤ z1550 ∧ z1550 ≤ 46656) (h10 : (-233280) ≤ z1570 ∧ z1570 ≤ 233280) : 0 ≤ (p1 + z1570) ∧ (p1 + z1570) < n_850 := by omega
theorem vc_X4_addSources_25 {z1574 : Int} (h0 : z1574 = 1) (h1 : 1 ≤ z1574 ∧ z1574 ≤ 1) : -128 ≤ z1574 ∧ z1574 ≤ 127 := by omega
theorem vc_X4_addSources_26 {f_st n_846 n_850 p1 p2 z1285 z1550 z1570 : Int} (h0 : f_st ≤ n_846) (h1 : p2 ≤ z1550) (h2 : z1550 < f_st) (h3 : p1 < f_st) (h4 : f_st ≤ n_850) (h5 : p2 ≤ z1285) (h6 : 0 ≤ (p1 + z1570) ∧ (p1 + z1570) < f_st) (h7 : 1 ≤ f_st ∧ f_st ≤ 46656) (h8 : 0 ≤ n_846 ∧ n_846 ≤ 93312) (h9 : 0 ≤ n_850 ∧ n_850 ≤ 93312) (h10 : 0 ≤ p1 ∧ p1 ≤ 46655) (h11 : 0 ≤ p2 ∧ p2 ≤ 46656) (h12 : 0 ≤ z1285 ∧ z1285 ≤ 46656) (h13 : 0 ≤ z1550 ∧ z1550 ≤ 46656) (h14 : (-233280) ≤ z1570 ∧ z1570 ≤ 233280) : 0 ≤ z1550 ∧ z1550 < n_846 := by omega
theorem vc_X4_addSources_27 {f_st n_846 n_850 p1 z1550 z1570 : Int} (h0 : p1 < f_st) (h1 : 0 ≤ (p1 + z1570) ∧ (p1 + z1570) < f_st) (h2 : f_st ≤ n_846) (h3 : f_st ≤ n_850) (h4 : z1550 < f_st) (h5 : 1 ≤ f_st ∧ f_st ≤ 46656) (h6 : 0 ≤ n_846 ∧ n_846 ≤ 93312) (h7 : 0 ≤ n_850 ∧ n_850 ≤ 93312) (h8 : 0 ≤ p1 ∧ p1 ≤ 46655) (h9 : 0 ≤ z1550 ∧ z1550 ≤ 46656) (h10 : (-233280) ≤ z1570 ∧ z1570 ≤ 233280) : 0 ≤ (p1 + z1570) ∧ (p1 + z1570) ≤ 46655 := by omega
theorem vc_X4_addSources_28 {f_st n_846 n_850 p1 p2 z1285 z1550 z1570 : Int} (h0 : p2 ≤ z1550) (h1 : z1550 < f_st) (h2 : p1 < f_st) (h3 : f_st ≤ n_846) (h4 : f_st ≤ n_850) (h5 : p2 ≤ z1285) (h6 : 0 ≤ (p1 + z1570) ∧ (p1 + z1570) < f_st) (h7 : 1 ≤ f_st ∧ f_st ≤ 46656) (h8 : 0 ≤ n_846 ∧ n_846 ≤ 93312) (h9 : 0 ≤ n_850 ∧ n_850 ≤ 93312) (h10 : 0 ≤ p1 ∧ p1 ≤ 46655) (h11 : 0 ≤ p2 ∧ p2 ≤ 46656) (h12 : 0 ≤ z1285 ∧ z1285 ≤ 46656) (h13 : 0 ≤ z1550 ∧ z1550 ≤ 46656) (h14 : (-233280) ≤ z1570 ∧ z1570 ≤ 233280) : 0 ≤ z1550 := by omega
theorem vc_X4_addSources_29 {f_st n_846 n_850 p1 p2 z1550 z1570 : Int} (h0 : p1 < f_st) (h1 : f_st ≤ n_846) (h2 : f_st ≤ n_850) (h3 : 0 ≤ (p1 + z1570) ∧ (p1 + z1570) < f_st) (h4 : z1550 < f_st) (h5 : p2 ≤ z1550) (h6 : 1 ≤ f_st ∧ f_st ≤ 46656) (h7 : 0 ≤ n_846 ∧ n_846 ≤ 93312) (h8 : 0 ≤ n_850 ∧ n_850 ≤ 93312) (h9 : 0 ≤ p1 ∧ p1 ≤ 46655) (h10 : 0 ≤ p2 ∧ p2 ≤ 46656) (h11 : 0 ≤ z1550 ∧ z1550 ≤ 46656) (h12 : (-233280) ≤ z1570 ∧ z1570 ≤ 233280) : 0 ≤ (p1 + z1570) ∧ (p1 + z1570) < f_st := by omega
theorem vc_X4_addSources_30 {f_st n_846 n_850 p1 p2 z1285 z1550 z1570 : Int} (h0 : p2 ≤ z1550) (h1 : z1550 < f_st) (h2 : p1 < f_st) (h3 : f_st ≤ n_846) (h4 : f_st ≤ n_850) (h5 : p2 ≤ z1285) (h6 : 0 ≤ (p1 + z1570) ∧ (p1 + z1570) < f_st) (h7 : 1 ≤ f_st ∧ f_st ≤ 46656) (h8 : 0 ≤ n_846 ∧ n_846 ≤ 93312) (h9 : 0 ≤ n_850 ∧ n_850 ≤ 93312) (h10 : 0 ≤ p1 ∧ p1 ≤ 46655) (h11 : 0 ≤ p2 ∧ p2 ≤ 46656) (h12 : 0 ≤ z1285 ∧ z1285 ≤ 46656) (h13 : 0 ≤ z1550 ∧ z1550 ≤ 46656) (h14 : (-233280) ≤ z1570 ∧ z1570 ≤ 233280) : 0 ≤ (z1550 + 1) ∧ (z1550 + 1) ≤ 46656 := by omega
theorem vc_X4_addSources_31 {f_st n_846 n_850 p1 p2 z1285 z1550 z1570 : Int} (h0 : p2 ≤ z1285) (h1 : p2 ≤ z1550) (h2 : z1550 < f_st) (h3 : p1 < f_st) (h4 : f_st ≤ n_846) (h5 : f_st ≤ n_850) (h6 : 0 ≤ (p1 + z1570) ∧ (p1 + z1570) < f_st) (h7 : 1 ≤ f_st ∧ f_st ≤ 46656) (h8 : 0 ≤ n_846 ∧ n_846 ≤ 93312) (h9 : 0 ≤ n_850 ∧ n_850 ≤ 93312) (h10 : 0 ≤ p1 ∧ p1 ≤ 46655) (h11 : 0 ≤ p2 ∧ p2 ≤ 46656) (h12 : 0 ≤ z1285 ∧ z1285 ≤ 46656) (h13 : 0 ≤ z1550 ∧ z1550 ≤ 46656) (h14 : (-233280) ≤ z1570 ∧ z1570 ≤ 233280) : p2 ≤ (z1550 + 1) := by omega
set_option maxRecDepth 4000 in
set_option maxHeartbeats 4000000 in
theorem c_X4_addSources {l : Launch} {D : va_G} {c : Nat → ClassId} {H0 : Heap} {sa : Nat × Nat × (Nat → Int32)} {w : mW} {μ : mM} (hw : mWF w) (hT : mT w μ) {p1 : Int} (hp1 : 0 ≤ p1 ∧ p1 ≤ 46655) {p2 : Int} (hp2 : 0 ≤ p2 ∧ p2 ≤ 46656) {f_st : Int} (q_f_st : μ 94 9 = f_st) {bq : Nat} (q_bq : μ 94 6 = (bq : Int)) (hA_bq : mAt w bq 102) {bf : Nat} (q_bf : μ 94 8 = (bf : Int)) (hA_bf : mAt w bf 104) (hq0 : p1 < f_st) (hlq : μ 94 9 ≤ (w.2.2.1 bq : Int)) (hlf : μ 94 9 ≤ (w.2.2.1 bf : Int)) (hrx : radix μ 100 95 f_st) (hdg : digs μ 101 100 95 p1) (hqu : quC μ bq bf p2 f_st 1) : sC (gG l D c H0 sa) mX4_addSources 2 0 0 [.ref 94, iv p1, iv p2] (mk w μ) (qI w [102999, 104999] μ (fun z μ1 => (0 ≤ z ∧ z ≤ 46656) ∧ (p2 ≤ z) ∧ (quC μ1 bq bf z f_st 1) ∧ True)) := by
  refine sC.of rfl (by decide) (le_t rfl) ?_
  have ht_f_st : (0 ≤ f_st ∧ f_st ≤ 46656) := by rw [← q_f_st]; exact hT 94 94 (A_94 hw) 9
  have h1 : 1 ≤ f_st ∧ f_st ≤ 46656 := (vc_X4_addNeighbours_1 hq0 ht_f_st hp1)
  refine mr_lvE (lv' := [(0, .ref 94), (1, iv p1), (2, iv p2)]) rfl ?_
  obtain ⟨n_846, q847⟩ : ∃ n : Int, (w.2.2.1 bq : Int) = n := ⟨_, rfl⟩
  have h848 : 0 ≤ n_846 ∧ n_846 ≤ 93312 := lnR (m := 93312) q847 hA_bq rfl
  have h849 : f_st ≤ n_846 := lenLe hlq q_f_st q847
  obtain ⟨n_850, q851⟩ : ∃ n : Int, (w.2.2.1 bf : Int) = n := ⟨_, rfl⟩
  have h852 : 0 ≤ n_850 ∧ n_850 ≤ 93312 := lnR (m := 93312) q851 hA_bf rfl
  have h853 : f_st ≤ n_850 := lenLe hlf q_f_st q851
  refine mr_iload_n (pc := 0) (z := p2) dX4_addSources_0 rfl rfl ?_
  refine mr_istore_n (pc := 1) (lv' := [(3, iv p2), (0, .ref 94), (1, iv p1), (2, iv p2)]) dX4_addSources_1 rfl (by decide) rfl ?_
  refine mr_iconst (pc := 2) (z := 1) dX4_addSources_2 ?_
  refine mr_istore (pc := 3) (lv' := [(4, iv 1), (3, iv p2), (0, .ref 94), (1, iv p1), (2, iv p2)]) dX4_addSources_3 (by decide) rfl ?_
  have L1287 : ∀ (nL1287 : Nat) (z1285 z1284 : Int) (μ1286 : mM), mT w μ1286 → mF [102999, 104999] w μ μ1286 → (0 ≤ z1285 ∧ z1285 ≤ 46656) → (1 ≤ z1284 ∧ z1284 ≤ 7) → (p2 ≤ z1285) → quC μ1286 bq bf z1285 f_st 1 → (8 - z1284) < (nL1287 : Int) → sV (gG l D c H0 sa) mX4_addSources (sRm 2 0 0) (sZ (gG l D c H0 sa) 0 0 (qI w [102999, 104999] μ (fun z μ1 => (0 ≤ z ∧ z ≤ 46656) ∧ (p2 ≤ z) ∧ (quC μ1 bq bf z f_st 1) ∧ True))) 5 [(0, .ref 94), (1, iv p1), (3, iv z1285), (4, iv z1284)] [] (mk w μ1286) 0 0 := by
    intro nL1287
    induction nL1287 with
    | zero => intro z1285 z1284 μ1286 T1290 F1291 h1288 h1289 h1293 R1294 h1295; exact ((vc_X12_clear_1 h1295 h1289)).elim
    | succ nL1287 ih1296 =>
      intro z1285 z1284 μ1286 T1290 F1291 h1288 h1289 h1293 R1294 h1295
      refine mr_iload (pc := 5) (z := z1284) dX4_addSources_5 rfl ?_
      refine mr_bipush (pc := 7) (z := 7) dX4_addSources_7 (by decide) ?_
      refine mr_icmp_ge (pc := 9) (tgt := 114) dX4_addSources_9 (by decide) (r32 h1289 rfl) (r32 (rR (x := 7)) rfl) (fun h1366 => ?_) (fun h1366 => ?_)
      · have h1367 : 7 ≤ z1284 ∧ z1284 ≤ 7 := (vc_X4_forget_2 h1366 h1289)
        refine mr_iload_n (pc := 114) (z := z1285) dX4_addSources_114 rfl rfl ?_
        exact mr_iret dX4_addSources_115 rfl (le_t rfl) (le_t rfl) T1290 (mF.call mF.refl F1291 rfl) ⟨h1288, (vc_X4_addSources_4 h1293 hp2 h1288), R1294, trivial⟩
      have h1368 : 1 ≤ z1284 ∧ z1284 ≤ 6 := (vc_X4_forget_3 h1366 h1289)
      refine sv_aload_n (pc := 12) dX4_addSources_12 rfl rfl ?_
      refine mr_iload (pc := 13) (z := z1284) dX4_addSources_13 rfl ?_
      obtain ⟨z1369, q1370⟩ : ∃ z, μ1286 95 (z1284.toNat) = z := ⟨_, rfl⟩
      have h1371 : (0 ≤ z1369 ∧ z1369 ≤ 5) := by rw [← q1370]; exact T1290 95 95 (A_95 hw) (z1284.toNat)
      refine mr_cVP (pc := 15) (c_X4_actOf_v hw T1290 h1368 q1370) (gOk _ _ _ _ _) dX4_addSources_15 (tX4_actOf _ _ _ _ _) ⟨wV_X4_actOf, wL_X4_actOf⟩ wM_X4_71 (gCX4 _ _ _ _ _) rfl (A_94 hw) rfl ⟨le_t rfl, le_t rfl⟩ ⟨le_t rfl, le_t rfl⟩ rfl (le_t rfl) fun z1376 h1375 => ?_
      refine sv_aload_n (pc := 18) dX4_addSources_18 rfl rfl ?_
      refine gf_X4_5 (pc := 19) dX4_addSources_19 wF_X4_30 (A_94 hw) T1290 ?_
      refine mr_iload (pc := 22) (z := z1284) dX4_addSources_22 rfl ?_
      refine la_101 (pc := 24) dX4_addSources_24 (A_101 hw) T1290 (rIx (n := 7) h1368 rfl) fun z1377 q1378 h1379 => ?_
      have h1380 : 0 ≤ z1377 ∧ z1377 ≤ z1369 := digs.le (digs.keep hdg ((mF.call mF.refl F1291 rfl) : mF [102999, 104999] w μ μ1286) (A_101 hw) (A_100 hw) (A_95 hw) (fun _ => rfl) (fun _ => rfl) (fun _ => rfl)) (vc_X4_addNeighbours_6 h1366 h1368) q1370 q1378 (vc_X12_tries_65 h1375.2.1 h1371 h1375.1)
      have h1381 : 0 ≤ z1377 ∧ z1377 ≤ 5 := (vc_X4_addNeighbours_8 h1375.2.1 h1380 h1371 h1375.1 h1379)
      refine mr_icmp_eq (pc := 25) (tgt := 31) dX4_addSources_25 (by decide) (r32 h1375.1 rfl) (r32 h1381 rfl) (fun h1382 => ?_) (fun h1382 => ?_)
      · refine mr_iconst (pc := 31) (z := 0) dX4_addSources_31 ?_
        refine mr_istore (pc := 32) (lv' := [(5, iv 0), (0, .ref 94), (1, iv p1), (3, iv z1285), (4, iv z1284)]) dX4_addSources_32 (by decide) rfl ?_
        have L1552 : ∀ (nL1552 : Nat) (z1550 z1549 : Int) (μ1551 : mM), mT w μ1551 → mF [102999, 104999] w μ1286 μ1551 → (0 ≤ z1550 ∧ z1550 ≤ 46656) → (0 ≤ z1549 ∧ z1549 ≤ 6) → (p2 ≤ z1550) → quC μ1551 bq bf z1550 f_st 1 → (7 - z1549) < (nL1552 : Int) → sV (gG l D c H0 sa) mX4_addSources (sRm 2 0 0) (sZ (gG l D c H0 sa) 0 0 (qI w [102999, 104999] μ (fun z μ1 => (0 ≤ z ∧ z ≤ 46656) ∧ (p2 ≤ z) ∧ (quC μ1 bq bf z f_st 1) ∧ True))) 34 [(0, .ref 94), (1, iv p1), (3, iv z1550), (4, iv z1284), (5, iv z1549)] [] (mk w μ1551) 0 0 := by
          intro nL1552
          induction nL1552 with
          | zero => intro z1550 z1549 μ1551 T1555 F1556 h1553 h1554 h1558 R1559 h1560; exact ((vc_X12_wish_49 h1560 h1554)).elim
          | succ nL1552 ih1561 =>
            intro z1550 z1549 μ1551 T1555 F1556 h1553 h1554 h1558 R1559 h1560
            refine mr_iload (pc := 34) (z := z1549) dX4_addSources_34 rfl ?_
            refine sv_aload_n (pc := 36) dX4_addSources_36 rfl rfl ?_
            refine gf_X4_12 (pc := 37) dX4_addSources_37 wF_X4_11 (A_94 hw) T1555 ?_
            refine mr_iload (pc := 40) (z := z1284) dX4_addSources_40 rfl ?_
            refine lk_95 (pc := 42) dX4_addSources_42 (A_95 hw) (rIx (n := 7) h1368 rfl) (F1556.f (A_95 hw) rfl q1370) ?_
            refine mr_icmp_gt (pc := 43) (tgt := 108) dX4_addSources_43 (by decide) (r32 h1554 rfl) (r32 h1371 rfl) (fun h1562 => ?_) (fun h1562 => ?_)
            · have h1563 : 1 ≤ z1549 ∧ z1549 ≤ 6 := (vc_X4_addSources_10 h1562 h1375.2.1 h1380 h1371 h1375.1 h1381 h1554)
              refine mr_iinc (pc := 108) (lv' := [(4, iv (z1284 + 1)), (0, .ref 94), (1, iv p1), (3, iv z1550), (5, iv z1549)]) dX4_addSources_108 rfl (by decide) rfl ?_
              refine sv_goto (pc := 111) (tgt := 5) dX4_addSources_111 (by decide) ?_
              refine mr_lvS (lv' := [(0, .ref 94), (1, iv p1), (3, iv z1550), (4, iv (z1284 + 1))]) (List.forall_mem_cons.mpr ⟨rfl, List.forall_mem_cons.mpr ⟨rfl, List.forall_mem_cons.mpr ⟨rfl, List.forall_mem_cons.mpr ⟨rfl, fun _ h => absurd h List.not_mem_nil⟩⟩⟩⟩) ?_
              exact ih1296 z1550 (z1284 + 1) μ1551 T1555 (mF.call (mF.call mF.refl F1291 rfl) F1556 rfl) h1553 (rW (c := 1) (d := 7) (rAdd (e := 2) (f := 7) h1368 (rR (x := 1)) rfl) rfl) (vc_X4_addSources_11 h1293 h1558 hp2 h1288 h1553) R1559 (vc_X4_forget_4 (nS h1295) h1366 h1368)
            have h1564 : 0 ≤ z1549 ∧ z1549 ≤ 5 := (vc_X4_addSources_13 h1562 h1375.2.1 h1380 h1371 h1375.1 h1381 h1554)
            refine mr_iload_n (pc := 46) (z := p1) dX4_addSources_46 rfl rfl ?_
            refine mr_iload (pc := 47) (z := z1549) dX4_addSources_47 rfl ?_
            refine sv_aload_n (pc := 49) dX4_addSources_49 rfl rfl ?_
            refine gf_X4_5 (pc := 50) dX4_addSources_50 wF_X4_30 (A_94 hw) T1555 ?_
            refine mr_iload (pc := 53) (z := z1284) dX4_addSources_53 rfl ?_
            refine lk_101 (pc := 55) dX4_addSources_55 (A_101 hw) (rIx (n := 7) h1368 rfl) (F1556.f (A_101 hw) rfl q1378) ?_
            have h1565 : 0 ≤ z1377 ∧ z1377 ≤ z1369 := digs.le (digs.keep hdg ((mF.call (mF.call mF.refl F1291 rfl) F1556 rfl) : mF [102999, 104999] w μ μ1551) (A_101 hw) (A_100 hw) (A_95 hw) (fun _ => rfl) (fun _ => rfl) (fun _ => rfl)) (vc_X4_addNeighbours_6 h1366 h1368) (F1556.f (A_95 hw) rfl q1370) (F1556.f (A_101 hw) rfl q1378) (vc_X4_addSources_14 h1375.2.1 h1380 h1562 h1382 h1371 h1375.1 h1381 h1564)
            have h1566 : 0 ≤ z1377 ∧ z1377 ≤ 5 := (vc_X4_addSources_15 h1375.2.1 h1380 h1382 h1562 h1371 h1375.1 h1381 h1564)
            refine mr_isub (pc := 56) (x := z1549) (y := z1377) dX4_addSources_56 ?_
            refine sv_aload_n (pc := 57) dX4_addSources_57 rfl rfl ?_
            refine gf_X4_4 (pc := 58) dX4_addSources_58 wF_X4_27 (A_94 hw) T1555 ?_
            refine mr_iload (pc := 61) (z := z1284) dX4_addSources_61 rfl ?_
            refine la_100 (pc := 63) dX4_addSources_63 (A_100 hw) T1555 (rIx (n := 7) h1368 rfl) fun z1567 q1568 h1569 => ?_
            refine mr_imul (pc := 64) (x := (z1549 - z1377)) (y := z1567) dX4_addSources_64 ?_
            refine mr_gen (P := fun z => (-233280) ≤ z ∧ z ≤ 233280) (rMulS (m := 5) (k := 46656) (e := 233280) (rSub (e := (-5)) (f := 5) h1564 h1566 rfl) h1569 (by decide) rfl) fun z1570 q1571 h1572 => ?_
            refine mr_iadd (pc := 65) (x := p1) (y := z1570) dX4_addSources_65 ?_
            have h1573 : 0 ≤ (p1 + z1570) ∧ (p1 + z1570) < f_st := net_t (radix.keep hrx ((mF.call (mF.call mF.refl F1291 rfl) F1556 rfl) : mF [102999, 104999] w μ μ1551) (A_100 hw) (A_95 hw) (fun _ => rfl) (fun _ => rfl)) (digs.keep hdg ((mF.call (mF.call mF.refl F1291 rfl) F1556 rfl) : mF [102999, 104999] w μ μ1551) (A_101 hw) (A_100 hw) (A_95 hw) (fun _ => rfl) (fun _ => rfl) (fun _ => rfl)) (vc_X4_addNeighbours_6 h1366 h1368) (vc_X4_addNeighbours_9 hq0 h849 h853 h1 h848 h852 hp1) q1568 (F1556.f (A_95 hw) rfl q1370) (F1556.f (A_101 hw) rfl q1378) (vc_X4_addSources_14 h1375.2.1 h1380 h1562 h1382 h1371 h1375.1 h1566 h1564) (vc_X4_addSources_17 h1375.2.1 h1380 h1562 h1382 h1371 h1375.1 h1566 h1564) q1571
            refine mr_istore (pc := 66) (lv' := [(6, iv (p1 + z1570)), (0, .ref 94), (1, iv p1), (3, iv z1550), (4, iv z1284), (5, iv z1549)]) dX4_addSources_66 (by decide) rfl ?_
            refine sv_aload_n (pc := 68) dX4_addSources_68 rfl rfl ?_
            refine gk_X4_8 (pc := 69) dX4_addSources_69 wF_X4_39 (A_94 hw) (F1556.f (A_94 hw) rfl (F1291.f (A_94 hw) rfl q_bf)) ?_
            refine mr_iload (pc := 72) (z := (p1 + z1570)) dX4_addSources_72 rfl ?_
            refine la_104 (pc := 74) dX4_addSources_74 hA_bf T1555 (lnC q851 (vc_X4_addNeighbours_12 hq0 h853 h1573 h849 h1 h848 h852 hp1 h1572)) fun z1574 q1575 h1576 => ?_
            refine mr_iconst (pc := 75) (z := 1) dX4_addSources_75 ?_
            refine mr_icmp_ne (pc := 76) (tgt := 102) dX4_addSources_76 (by decide) (r32 h1576 rfl) (r32 (rR (x := 1)) rfl) (fun h1577 => ?_) (fun h1577 => ?_)
            · refine mr_iinc (pc := 102) (lv' := [(5, iv (z1549 + 1)), (6, iv (p1 + z1570)), (0, .ref 94), (1, iv p1), (3, iv z1550), (4, iv z1284)]) dX4_addSources_102 rfl (by decide) rfl ?_
              refine sv_goto (pc := 105) (tgt := 34) dX4_addSources_105 (by decide) ?_
              refine mr_lvS (lv' := [(0, .ref 94), (1, iv p1), (3, iv z1550), (4, iv z1284), (5, iv (z1549 + 1))]) (List.forall_mem_cons.mpr ⟨rfl, List.forall_mem_cons.mpr ⟨rfl, List.forall_mem_cons.mpr ⟨rfl, List.forall_mem_cons.mpr ⟨rfl, List.forall_mem_cons.mpr ⟨rfl, fun _ h => absurd h List.not_mem_nil⟩⟩⟩⟩⟩) ?_
              exact ih1561 z1550 (z1549 + 1) μ1551 T1555 (mF.call mF.refl F1556 rfl) h1553 (rW (c := 0) (d := 6) (rAdd (e := 1) (f := 6) h1564 (rR (x := 1)) rfl) rfl) (vc_X4_addSources_11 h1293 h1558 hp2 h1288 h1553) R1559 (vc_X4_addSources_19 (nS h1560) h1562 h1375.2.1 h1380 h1371 h1375.1 h1566 h1564)
            have h1578 : 1 ≤ z1574 ∧ z1574 ≤ 1 := (vc_X4_addSources_20 h1577 h1576)
            have h1579 : z1550 < f_st := quC.room R1559 (mAt.ne hA_bq hA_bf rfl) (vc_X4_addSources_21 h1558 h1293 hp2 h1288 h1553) (vc_X4_addNeighbours_16 hq0 h849 h853 h1573 h1 h848 h852 hp1 h1572) q1575 (vc_X4_addSources_23 h1577 h1578)
            refine sv_aload_n (pc := 79) dX4_addSources_79 rfl rfl ?_
            refine gk_X4_8 (pc := 80) dX4_addSources_80 wF_X4_39 (A_94 hw) (F1556.f (A_94 hw) rfl (F1291.f (A_94 hw) rfl q_bf)) ?_
            refine mr_iload (pc := 83) (z := (p1 + z1570)) dX4_addSources_83 rfl ?_
            refine sv_dup2 (pc := 85) dX4_addSources_85 rfl rfl ?_
            refine lk_104 (pc := 86) dX4_addSources_86 hA_bf (lnC q851 (vc_X4_addSources_24 hq0 h853 h1573 h849 h1579 h1 h848 h852 hp1 h1553 h1572)) q1575 ?_
            refine mr_iconst (pc := 87) (z := 2) dX4_addSources_87 ?_
            refine mr_ior (pc := 88) (x := z1574) (y := 2) dX4_addSources_88 ?_
            refine mr_gen (P := fun z => 0 ≤ z ∧ z ≤ 3) (rOr 2 h1578 (rR (x := 2)) rfl) fun z1580 q1581 h1582 => ?_
            refine mr_i2b (pc := 89) dX4_addSources_89 ?_
            refine mr_gen (P := fun z => (-128) ≤ z ∧ z ≤ 127) (rByte _) fun z1583 q1584 h1585 => ?_
            have B1586 := flag2 (vc_X4_addSources_25 h1577 h1578) q1581 q1584
            refine ss_104 (pc := 90) dX4_addSources_90 hA_bf T1555 (lnC q851 (vc_X4_addSources_24 hq0 h853 h1573 h849 h1579 h1 h848 h852 hp1 h1553 h1572)) h1585 fun μ1587 u1588 T1589 => ?_
            refine sv_aload_n (pc := 91) dX4_addSources_91 rfl rfl ?_
            refine gk_X4_6 (pc := 92) dX4_addSources_92 wF_X4_33 (A_94 hw) (u1588.f (Or.inl (mAt.ne hA_bf (A_94 hw) rfl)) (F1556.f (A_94 hw) rfl (F1291.f (A_94 hw) rfl q_bq))) ?_
            refine mr_iload_n (pc := 95) (z := z1550) dX4_addSources_95 rfl rfl ?_
            refine mr_iload (pc := 96) (z := (p1 + z1570)) dX4_addSources_96 rfl ?_
            refine ss_102 (pc := 98) dX4_addSources_98 hA_bq T1589 (lnC q847 (vc_X4_addSources_26 h849 h1558 h1579 hq0 h853 h1293 h1573 h1 h848 h852 hp1 hp2 h1288 h1553 h1572)) (vc_X4_addSources_27 hq0 h1573 h849 h853 h1579 h1 h848 h852 hp1 h1553 h1572) fun μ1590 u1591 T1592 => ?_
            have Q1593 : quC μ1590 bq bf (z1550 + 1) f_st 1 := quC.push R1559 (mAt.ne hA_bq hA_bf rfl) (vc_X4_addSources_28 h1558 h1579 hq0 h849 h853 h1293 h1573 h1 h848 h852 hp1 hp2 h1288 h1553 h1572) (vc_X4_addSources_29 hq0 h849 h853 h1573 h1579 h1558 h1 h848 h852 hp1 hp2 h1553 h1572) q1575 (vc_X4_addSources_23 h1577 h1578) u1588 B1586.2 u1591
            refine mr_iinc (pc := 99) (lv' := [(3, iv (z1550 + 1)), (6, iv (p1 + z1570)), (0, .ref 94), (1, iv p1), (4, iv z1284), (5, iv z1549)]) dX4_addSources_99 rfl (by decide) rfl ?_
            refine mr_iinc (pc := 102) (lv' := [(5, iv (z1549 + 1)), (3, iv (z1550 + 1)), (6, iv (p1 + z1570)), (0, .ref 94), (1, iv p1), (4, iv z1284)]) dX4_addSources_102 rfl (by decide) rfl ?_
            refine sv_goto (pc := 105) (tgt := 34) dX4_addSources_105 (by decide) ?_
            refine mr_lvS (lv' := [(0, .ref 94), (1, iv p1), (3, iv (z1550 + 1)), (4, iv z1284), (5, iv (z1549 + 1))]) (List.forall_mem_cons.mpr ⟨rfl, List.forall_mem_cons.mpr ⟨rfl, List.forall_mem_cons.mpr ⟨rfl, List.forall_mem_cons.mpr ⟨rfl, List.forall_mem_cons.mpr ⟨rfl, fun _ h => absurd h List.not_mem_nil⟩⟩⟩⟩⟩) ?_
            exact ih1561 (z1550 + 1) (z1549 + 1) μ1590 T1592 (mF.up (mF.up (mF.call mF.refl F1556 rfl) hA_bf u1588 rfl) hA_bq u1591 rfl) (vc_X4_addSources_30 h1558 h1579 hq0 h849 h853 h1293 h1573 h1 h848 h852 hp1 hp2 h1288 h1553 h1572) (rW (c := 0) (d := 6) (rAdd (e := 1) (f := 6) h1564 (rR (x := 1)) rfl) rfl) (vc_X4_addSources_31 h1293 h1558 h1579 hq0 h849 h853 h1573 h1 h848 h852 hp1 hp2 h1288 h1553 h1572) Q1593 (vc_X4_addSources_19 (nS h1560) h1562 h1375.2.1 h1380 h1371 h1375.1 h1566 h1564)
        refine mr_lvS (lv' := [(0, .ref 94), (1, iv p1), (3, iv z1285), (4, iv z1284), (5, iv 0)]) (List.forall_mem_cons.mpr ⟨rfl, List.forall_mem_cons.mpr ⟨rfl, List.forall_mem_cons.mpr ⟨rfl, List.forall_mem_cons.mpr ⟨rfl, List.forall_mem_cons.mpr ⟨rfl, fun _ h => absurd h List.not_mem_nil⟩⟩⟩⟩⟩) ?_
        exact L1552 8 z1285 0 μ1286 T1290 mF.refl h1288 (rW (c := 0) (d := 6) (rR (x := 0)) rfl) (vc_X4_addSources_4 h1293 hp2 h1288) R1294 vc_X12_wish_56
      refine sv_goto (pc := 28) (tgt := 108) dX4_addSources_28 (by decide) ?_
      refine mr_iinc (pc := 108) (lv' := [(4, iv (z1284 + 1)), (0, .ref 94), (1, iv p1), (3, iv z1285)]) dX4_addSources_108 rfl (by decide) rfl ?_
      refine sv_goto (pc := 111) (tgt := 5) dX4_addSources_111 (by decide) ?_
      refine mr_lvS (lv' := [(0, .ref 94), (1, iv p1), (3, iv z1285), (4, iv (z1284 + 1))]) (List.forall_mem_cons.mpr ⟨rfl, List.forall_mem_cons.mpr ⟨rfl, List.forall_mem_cons.mpr ⟨rfl, List.forall_mem_cons.mpr ⟨rfl, fun _ h => absurd h List.not_mem_nil⟩⟩⟩⟩) ?_
      exact ih1296 z1285 (z1284 + 1) μ1286 T1290 (mF.call mF.refl F1291 rfl) h1288 (rW (c := 1) (d := 7) (rAdd (e := 2) (f := 7) h1368 (rR (x := 1)) rfl) rfl) (vc_X4_addSources_4 h1293 hp2 h1288) R1294 (vc_X4_forget_4 (nS h1295) h1366 h1368)
  refine mr_lvS (lv' := [(0, .ref 94), (1, iv p1), (3, iv p2), (4, iv 1)]) (List.forall_mem_cons.mpr ⟨rfl, List.forall_mem_cons.mpr ⟨rfl, List.forall_mem_cons.mpr ⟨rfl, List.forall_mem_cons.mpr ⟨rfl, fun _ h => absurd h List.not_mem_nil⟩⟩⟩⟩) ?_
  exact L1287 8 p2 1 μ hT mF.refl hp2 (rW (c := 1) (d := 7) (rR (x := 1)) rfl) (vc_X12_tries_75 hp2) hqu vc_X12_clear_5
theorem vc_X4_spread_8 {f_st n_1488 n_1492 : Int} (h0 : f_st ≤ n_1488) (h1 : 1 ≤ f_st) (h2 : f_st ≤ n_1492) (h3 : 1 ≤ f_st ∧ f_st ≤ 46656) (h4 : 0 ≤ n_1488 ∧ n_1488 ≤ 93312) (h5 : 0 ≤ n_1492 ∧ n_1492 ≤ 93312) : 0 ≤ (0 : Int) ∧ (0 : Int) < n_1488 := by omega
theorem vc_X4_spread_9 {f_st n_1488 n_1492 : Int} (h0 : 1 ≤ f_st) (h1 : f_st ≤ n_1488) (h2 : f_st ≤ n_1492) (h3 : 1 ≤ f_st ∧ f_st ≤ 46656) (h4 : 0 ≤ n_1488 ∧ n_1488 ≤ 93312) (h5 : 0 ≤ n_1492 ∧ n_1492 ≤ 93312) : 0 ≤ (f_st - 1) ∧ (f_st - 1) < n_1492 := by omega
theorem vc_X4_spread_10 {f_st n_1488 n_1492 : Int} (h0 : 1 ≤ f_st) (h1 : f_st ≤ n_1488) (h2 : f_st ≤ n_1492) (h3 : 1 ≤ f_st ∧ f_st ≤ 46656) (h4 : 0 ≤ n_1488 ∧ n_1488 ≤ 93312) (h5 : 0 ≤ n_1492 ∧ n_1492 ≤ 93312) : (f_st - 1) = f_st - 1 := by omega
theorem vc_X4_spread_11 {f_st n_1488 n_1492 : Int} (h0 : 1 ≤ f_st) (h1 : f_st ≤ n_1488) (h2 : f_st ≤ n_1492) (h3 : 1 ≤ f_st ∧ f_st ≤ 46656) (h4 : 0 ≤ n_1488 ∧ n_1488 ≤ 93312) (h5 : 0 ≤ n_1492 ∧ n_1492 ≤ 93312) : 1 ≤ f_st := by omega
theorem vc_X4_spread_12 {z2721 z2723 z2724 : Int} (h0 : (46657 - z2721) < ((0 : Nat) : Int)) (h1 : z2721 ≤ z2724) (h2 : z2723 ≤ z2721) (h3 : 0 ≤ z2721 ∧ z2721 ≤ 46656) (h4 : 0 ≤ z2723 ∧ z2723 ≤ 46656) (h5 : 1 ≤ z2724 ∧ z2724 ≤ 46656) : False := by omega
theorem vc_X4_spread_13 {f_st n_1488 n_1492 : Int} (h0 : 1 ≤ f_st) (h1 : f_st ≤ n_1488) (h2 : f_st ≤ n_1492) (h3 : 1 ≤ f_st ∧ f_st ≤ 46656) (h4 : 0 ≤ n_1488 ∧ n_1488 ≤ 93312) (h5 : 0 ≤ n_1492 ∧ n_1492 ≤ 93312) : 0 ≤ f_st := by omega
theorem vc_X4_spread_14 {f_st z2721 z2723 z2724 : Int} (h0 : z2724 ≤ z2721) (h1 : z2721 ≤ z2724) (h2 : z2723 ≤ z2721) (h3 : z2724 ≤ f_st) (h4 : 1 ≤ f_st ∧ f_st ≤ 46656) (h5 : 0 ≤ z2721 ∧ z2721 ≤ 46656) (h6 : 0 ≤ z2723 ∧ z2723 ≤ 46656) (h7 : 1 ≤ z2724 ∧ z2724 ≤ 46656) : 1 ≤ z2721 ∧ z2721 ≤ 46656 := by omega
theorem vc_X4_spread_15 {f_st z2721 z2723 z2724 : Int} (h0 : z2721 < z2724) (h1 : z2721 ≤ z2724) (h2 : z2723 ≤ z2721) (h3 : z2724 ≤ f_st) (h4 : 1 ≤ f_st ∧ f_st ≤ 46656) (h5 : 0 ≤ z2721 ∧ z2721 ≤ 46656) (h6 : 0 ≤ z2723 ∧ z2723 ≤ 46656) (h7 : 1 ≤ z2724 ∧ z2724 ≤ 46656) : 0 ≤ z2721 ∧ z2721 ≤ 46655 := by omega
theorem vc_X4_spread_16 {f_st n_1488 n_1492 z2721 z2723 z2724 z2823 : Int} (h0 : f_st ≤ n_1488) (h1 : z2721 ≤ z2724) (h2 : z2723 ≤ z2721) (h3 : z2721 < z2724) (h4 : z2823 ≤ z2721 + 1) (h5 : 1 ≤ f_st) (h6 : f_st ≤ n_1492) (h7 : z2724 ≤ f_st) (h8 : 1 ≤ f_st ∧ f_st ≤ 46656) (h9 : 0 ≤ n_1488 ∧ n_1488 ≤ 93312) (h10 : 0 ≤ n_1492 ∧ n_1492 ≤ 93312) (h11 : 0 ≤ z2721 ∧ z2721 ≤ 46655) (h12 : 0 ≤ z2723 ∧ z2723 ≤ 46656) (h13 : 1 ≤ z2724 ∧ z2724 ≤ 46656) (h14 : 0 ≤ z2823 ∧ z2823 ≤ 46657) : 0 ≤ z2721 ∧ z2721 < n_1488 := by omega
theorem vc_X4_spread_17 {f_st z2721 z2723 z2724 z2823 : Int} (h0 : z2721 ≤ z2724) (h1 : z2723 ≤ z2721) (h2 : z2721 < z2724) (h3 : z2823 ≤ z2721 + 1) (h4 : z2724 ≤ f_st) (h5 : 1 ≤ f_st ∧ f_st ≤ 46656) (h6 : 0 ≤ z2721 ∧ z2721 ≤ 46655) (h7 : 0 ≤ z2723 ∧ z2723 ≤ 46656) (h8 : 1 ≤ z2724 ∧ z2724 ≤ 46656) (h9 : 0 ≤ z2823 ∧ z2823 ≤ 46657) : 0 ≤ z2721 := by omega
theorem vc_X4_spread_18 {f_st n_1488 n_1492 z2721 z2723 z2724 z2823 : Int} (h0 : z2721 ≤ z2724) (h1 : z2723 ≤ z2721) (h2 : z2724 ≤ f_st) (h3 : z2721 < z2724) (h4 : z2823 ≤ z2721 + 1) (h5 : 1 ≤ f_st) (h6 : f_st ≤ n_1488) (h7 : f_st ≤ n_1492) (h8 : 1 ≤ f_st ∧ f_st ≤ 46656) (h9 : 0 ≤ n_1488 ∧ n_1488 ≤ 93312) (h10 : 0 ≤ n_1492 ∧ n_1492 ≤ 93312) (h11 : 0 ≤ z2721 ∧ z2721 ≤ 46655) (h12 : 0 ≤ z2723 ∧ z2723 ≤ 46656) (h13 : 1 ≤ z2724 ∧ z2724 ≤ 46656) (h14 : 0 ≤ z2823 ∧ z2823 ≤ 46657) : z2721 < z2724 := by omega
theorem vc_X4_spread_25 {f_st n_1488 n_1492 z2721 z2723 z2724 z2823 z2829 : Int} (h0 : f_st ≤ n_1488) (h1 : z2721 ≤ z2724) (h2 : z2723 ≤ z2721) (h3 : z2721 < z2724) (h4 : z2823 ≤ z2721 + 1) (h5 : 1 ≤ f_st) (h6 : f_st ≤ n_1492) (h7 : z2724 ≤ f_st) (h8 : 0 ≤ z2829 ∧ z2829 < f_st) (h9 : 1 ≤ f_st ∧ f_st ≤ 46656) (h10 : 0 ≤ n_1488 ∧ n_1488 ≤ 93312) (h11 : 0 ≤ n_1492 ∧ n_1492 ≤ 93312) (h12 : 0 ≤ z2721 ∧ z2721 ≤ 46655) (h13 : 0 ≤ z2723 ∧ z2723 ≤ 46656) (h14 : 1 ≤ z2724 ∧ z2724 ≤ 46656) (h15 : 0 ≤ z2823 ∧ z2823 ≤ 46657) (h16 : 0 ≤ z2829 ∧ z2829 ≤ 46655) : 0 ≤ z2721 ∧ z2721 < n_1488 := by omega
theorem vc_X4_spread_26 {f_st n_1488 n_1492 z2721 z2723 z2724 z2823 z2829 : Int} (h0 : z2721 ≤ z2724) (h1 : z2723 ≤ z2721) (h2 : z2724 ≤ f_st) (h3 : z2721 < z2724) (h4 : z2823 ≤ z2721 + 1) (h5 : 1 ≤ f_st) (h6 : f_st ≤ n_1488) (h7 : f_st ≤ n_1492) (h8 : 0 ≤ z2829 ∧ z2829 < f_st) (h9 : 1 ≤ f_st ∧ f_st ≤ 46656) (h10 : 0 ≤ n_1488 ∧ n_1488 ≤ 93312) (h11 : 0 ≤ n_1492 ∧ n_1492 ≤ 93312) (h12 : 0 ≤ z2721 ∧ z2721 ≤ 46655) (h13 : 0 ≤ z2723 ∧ z2723 ≤ 46656) (h14 : 1 ≤ z2724 ∧ z2724 ≤ 46656) (h15 : 0 ≤ z2823 ∧ z2823 ≤ 46657) (h16 : 0 ≤ z2829 ∧ z2829 ≤ 46655) : z2721 < z2724 := by omega
theorem vc_X4_spread_27 {f_st n_1488 n_1492 z2721 z2724 z2829 : Int} (h0 : 1 ≤ f_st) (h1 : f_st ≤ n_1488) (h2 : f_st ≤ n_1492) (h3 : z2724 ≤ f_st) (h4 : 0 ≤ z2829 ∧ z2829 < f_st) (h5 : z2721 ≤ z2724) (h6 : z2721 < z2724) (h7 : 1 ≤ f_st ∧ f_st ≤ 46656) (h8 : 0 ≤ n_1488 ∧ n_1488 ≤ 93312) (h9 : 0 ≤ n_1492 ∧ n_1492 ≤ 93312) (h10 : 0 ≤ z2721 ∧ z2721 ≤ 46655) (h11 : 1 ≤ z2724 ∧ z2724 ≤ 46656) (h12 : 0 ≤ z2829 ∧ z2829 ≤ 46655) : z2829 < f_st := by omega
theorem vc_X4_spread_28 {f_st n_1488 n_1492 z2721 z2724 z2829 : Int} (h0 : 1 ≤ f_st) (h1 : f_st ≤ n_1488) (h2 : f_st ≤ n_1492) (h3 : z2724 ≤ f_st) (h4 : 0 ≤ z2829 ∧ z2829 < f_st) (h5 : z2721 ≤ z2724) (h6 : z2721 < z2724) (h7 : 1 ≤ f_st ∧ f_st ≤ 46656) (h8 : 0 ≤ n_1488 ∧ n_1488 ≤ 93312) (h9 : 0 ≤ n_1492 ∧ n_1492 ≤ 93312) (h10 : 0 ≤ z2721 ∧ z2721 ≤ 46655) (h11 : 1 ≤ z2724 ∧ z2724 ≤ 46656) (h12 : 0 ≤ z2829 ∧ z2829 ≤ 46655) : f_st ≤ n_1488 := by omega
theorem vc_X4_spread_29 {f_st n_1488 n_1492 z2721 z2724 z2829 : Int} (h0 : 1 ≤ f_st) (h1 : f_st ≤ n_1488) (h2 : f_st ≤ n_1492) (h3 : z2724 ≤ f_st) (h4 : 0 ≤ z2829 ∧ z2829 < f_st) (h5 : z2721 ≤ z2724) (h6 : z2721 < z2724) (h7 : 1 ≤ f_st ∧ f_st ≤ 46656) (h8 : 0 ≤ n_1488 ∧ n_1488 ≤ 93312) (h9 : 0 ≤ n_1492 ∧ n_1492 ≤ 93312) (h10 : 0 ≤ z2721 ∧ z2721 ≤ 46655) (h11 : 1 ≤ z2724 ∧ z2724 ≤ 46656) (h12 : 0 ≤ z2829 ∧ z2829 ≤ 46655) : f_st ≤ n_1492 := by omega
theorem vc_X4_spread_31 {z2721 z2723 z2724 z2823 : Int} (h0 : z2823 ≤ z2721 + 1) (h1 : z2721 ≤ z2724) (h2 : z2723 ≤ z2721) (h3 : z2721 < z2724) (h4 : 0 ≤ z2721 ∧ z2721 ≤ 46655) (h5 : 0 ≤ z2723 ∧ z2723 ≤ 46656) (h6 : 1 ≤ z2724 ∧ z2724 ≤ 46656) (h7 : 0 ≤ z2823 ∧ z2823 ≤ 46657) : 0 ≤ z2823 ∧ z2823 ≤ 46656 := by omega
theorem vc_X4_spread_32 {f_st z2721 z2723 z2724 z2823 z2860 : Int} (h0 : z2721 ≤ z2724) (h1 : z2723 ≤ z2721) (h2 : z2721 < z2724) (h3 : z2823 ≤ z2721 + 1) (h4 : z2724 ≤ z2860) (h5 : z2724 ≤ f_st) (h6 : 1 ≤ f_st ∧ f_st ≤ 46656) (h7 : 0 ≤ z2721 ∧ z2721 ≤ 46655) (h8 : 0 ≤ z2723 ∧ z2723 ≤ 46656) (h9 : 1 ≤ z2724 ∧ z2724 ≤ 46656) (h10 : 0 ≤ z2823 ∧ z2823 ≤ 46657) (h11 : 1 ≤ z2860 ∧ z2860 ≤ 46656) : (z2721 + 1) ≤ z2860 := by omega
theorem vc_X4_spread_33 {f_st z2721 z2723 z2724 z2823 z2860 : Int} (h0 : z2721 ≤ z2724) (h1 : z2723 ≤ z2721) (h2 : z2721 < z2724) (h3 : z2823 ≤ z2721 + 1) (h4 : z2724 ≤ f_st) (h5 : z2724 ≤ z2860) (h6 : 1 ≤ f_st ∧ f_st ≤ 46656) (h7 : 0 ≤ z2721 ∧ z2721 ≤ 46655) (h8 : 0 ≤ z2723 ∧ z2723 ≤ 46656) (h9 : 1 ≤ z2724 ∧ z2724 ≤ 46656) (h10 : 0 ≤ z2823 ∧ z2823 ≤ 46657) (h11 : 1 ≤ z2860 ∧ z2860 ≤ 46656) : z2823 ≤ (z2721 + 1) := by omega
theorem vc_X4_spread_34 {N f_st z2721 z2723 z2724 z2823 z2860 : Int} (h0 : (46657 - z2721) < N + 1) (h1 : z2721 ≤ z2724) (h2 : z2723 ≤ z2721) (h3 : z2721 < z2724) (h4 : z2823 ≤ z2721 + 1) (h5 : z2724 ≤ f_st) (h6 : z2724 ≤ z2860) (h7 : 1 ≤ f_st ∧ f_st ≤ 46656) (h8 : 0 ≤ z2721 ∧ z2721 ≤ 46655) (h9 : 0 ≤ z2723 ∧ z2723 ≤ 46656) (h10 : 1 ≤ z2724 ∧ z2724 ≤ 46656) (h11 : 0 ≤ z2823 ∧ z2823 ≤ 46657) (h12 : 1 ≤ z2860 ∧ z2860 ≤ 46656) : (46657 - (z2721 + 1)) < N := by omega
theorem vc_X4_spread_36 {f_st n_1488 n_1492 z2721 z2723 z2724 z2823 z2829 z2860 : Int} (h0 : f_st ≤ n_1488) (h1 : z2721 ≤ z2724) (h2 : z2723 ≤ z2721) (h3 : z2721 < z2724) (h4 : z2823 ≤ z2721 + 1) (h5 : 1 ≤ f_st) (h6 : f_st ≤ n_1492) (h7 : z2724 ≤ f_st) (h8 : 0 ≤ z2829 ∧ z2829 < f_st) (h9 : z2724 ≤ z2860) (h10 : 1 ≤ f_st ∧ f_st ≤ 46656) (h11 : 0 ≤ n_1488 ∧ n_1488 ≤ 93312) (h12 : 0 ≤ n_1492 ∧ n_1492 ≤ 93312) (h13 : 0 ≤ z2721 ∧ z2721 ≤ 46655) (h14 : 0 ≤ z2723 ∧ z2723 ≤ 46656) (h15 : 1 ≤ z2724 ∧ z2724 ≤ 46656) (h16 : 0 ≤ z2823 ∧ z2823 ≤ 46657) (h17 : 0 ≤ z2829 ∧ z2829 ≤ 46655) (h18 : 1 ≤ z2860 ∧ z2860 ≤ 46656) : 0 ≤ z2721 ∧ z2721 < n_1488 := by omega
theorem vc_X4_spread_37 {f_st z2721 z2723 z2724 z2823 z2860 : Int} (h0 : z2721 ≤ z2724) (h1 : z2723 ≤ z2721) (h2 : z2721 < z2724) (h3 : z2823 ≤ z2721 + 1) (h4 : z2724 ≤ f_st) (h5 : z2724 ≤ z2860) (h6 : 1 ≤ f_st ∧ f_st ≤ 46656) (h7 : 0 ≤ z2721 ∧ z2721 ≤ 46655) (h8 : 0 ≤ z2723 ∧ z2723 ≤ 46656) (h9 : 1 ≤ z2724 ∧ z2724 ≤ 46656) (h10 : 0 ≤ z2823 ∧ z2823 ≤ 46657) (h11 : 1 ≤ z2860 ∧ z2860 ≤ 46656) : 0 ≤ z2721 := by omega
theorem vc_X4_spread_38 {f_st z2721 z2723 z2724 z2823 z2860 : Int} (h0 : z2721 ≤ z2724) (h1 : z2723 ≤ z2721) (h2 : z2721 < z2724) (h3 : z2823 ≤ z2721 + 1) (h4 : z2724 ≤ z2860) (h5 : z2724 ≤ f_st) (h6 : 1 ≤ f_st ∧ f_st ≤ 46656) (h7 : 0 ≤ z2721 ∧ z2721 ≤ 46655) (h8 : 0 ≤ z2723 ∧ z2723 ≤ 46656) (h9 : 1 ≤ z2724 ∧ z2724 ≤ 46656) (h10 : 0 ≤ z2823 ∧ z2823 ≤ 46657) (h11 : 1 ≤ z2860 ∧ z2860 ≤ 46656) : z2721 < z2860 := by omega
theorem vc_X4_spread_39 {f_st n_1488 n_1492 z2724 z2829 z2869 : Int} (h0 : f_st ≤ n_1492) (h1 : 0 ≤ z2869 ∧ z2869 < f_st) (h2 : 1 ≤ f_st) (h3 : f_st ≤ n_1488) (h4 : z2724 ≤ f_st) (h5 : 0 ≤ z2829 ∧ z2829 < f_st) (h6 : 1 ≤ f_st ∧ f_st ≤ 46656) (h7 : 0 ≤ n_1488 ∧ n_1488 ≤ 93312) (h8 : 0 ≤ n_1492 ∧ n_1492 ≤ 93312) (h9 : 1 ≤ z2724 ∧ z2724 ≤ 46656) (h10 : 0 ≤ z2829 ∧ z2829 ≤ 46655) (h11 : 0 ≤ z2869 ∧ z2869 ≤ 46655) : 0 ≤ z2869 ∧ z2869 < n_1492 := by omega
theorem vc_X4_spread_40 {z2873 : Int} (h0 : (-128) ≤ z2873 ∧ z2873 ≤ 127) : -128 ≤ z2873 ∧ z2873 ≤ 127 := by omega
theorem vc_X4_spread_43 {f_st z2721 z2722 z2723 z2724 : Int} (h0 : z2721 ≤ z2724) (h1 : z2723 ≤ z2721) (h2 : z2721 < z2724) (h3 : ¬ z2721 = z2722) (h4 : z2724 ≤ f_st) (h5 : 1 ≤ f_st ∧ f_st ≤ 46656) (h6 : 0 ≤ z2721 ∧ z2721 ≤ 46655) (h7 : 1 ≤ z2722 ∧ z2722 ≤ 46656) (h8 : 0 ≤ z2723 ∧ z2723 ≤ 46656) (h9 : 1 ≤ z2724 ∧ z2724 ≤ 46656) : z2723 ≤ z2721 + 1 := by omega
theorem vc_X4_spread_44 {z2721 z2722 z2723 z2724 : Int} (h0 : z2721 = z2722) (h1 : z2721 ≤ z2724) (h2 : z2723 ≤ z2721) (h3 : z2721 < z2724) (h4 : 0 ≤ z2721 ∧ z2721 ≤ 46655) (h5 : 1 ≤ z2722 ∧ z2722 ≤ 46656) (h6 : 0 ≤ z2723 ∧ z2723 ≤ 46656) (h7 : 1 ≤ z2724 ∧ z2724 ≤ 46656) : 1 ≤ z2721 ∧ z2721 ≤ 46655 := by omega
theorem vc_X4_spread_45 {z2721 z2722 z2723 z2724 : Int} (h0 : z2721 = z2722) (h1 : z2721 ≤ z2724) (h2 : z2723 ≤ z2721) (h3 : z2721 < z2724) (h4 : 1 ≤ z2721 ∧ z2721 ≤ 46655) (h5 : 1 ≤ z2722 ∧ z2722 ≤ 46656) (h6 : 0 ≤ z2723 ∧ z2723 ≤ 46656) (h7 : 1 ≤ z2724 ∧ z2724 ≤ 46656) : 1 ≤ z2722 ∧ z2722 ≤ 46655 := by omega
theorem vc_X4_spread_46 {f_st z2721 z2722 z2723 z2724 : Int} (h0 : z2721 ≤ z2724) (h1 : z2723 ≤ z2721) (h2 : z2721 < z2724) (h3 : z2721 = z2722) (h4 : z2724 ≤ f_st) (h5 : 1 ≤ f_st ∧ f_st ≤ 46656) (h6 : 1 ≤ z2721 ∧ z2721 ≤ 46655) (h7 : 1 ≤ z2722 ∧ z2722 ≤ 46655) (h8 : 0 ≤ z2723 ∧ z2723 ≤ 46656) (h9 : 1 ≤ z2724 ∧ z2724 ≤ 46656) : (z2723 + 1) ≤ z2721 + 1 := by omega
set_option maxRecDepth 4000 in
set_option maxHeartbeats 4000000 in
theorem c_X4_spread {l : Launch} {D : va_G} {c : Nat → ClassId} {H0 : Heap} {sa : Nat × Nat × (Nat → Int32)} {w : mW} {μ : mM} (hw : mWF w) (hT : mT w μ) {f_st : Int} (q_f_st : μ 94 9 = f_st) {bq : Nat} (q_bq : μ 94 6 = (bq : Int)) (hA_bq : mAt w bq 102) {bf : Nat} (q_bf : μ 94 8 = (bf : Int)) (hA_bf : mAt w bf 104) (hq0 : 1 ≤ f_st) (hlq : μ 94 9 ≤ (w.2.2.1 bq : Int)) (hlf : μ 94 9 ≤ (w.2.2.1 bf : Int)) (hrx : radix μ 100 95 f_st) : sC (gG l D c H0 sa) mX4_spread 3 0 0 [.ref 94] (mk w μ) (qI w [101999, 102999, 104999, 105999] μ (fun z μ1 => (1 ≤ z ∧ z ≤ 46656) ∧ True)) := by
  refine sC.of rfl (by decide) (le_t rfl) ?_
  have ht_f_st : (0 ≤ f_st ∧ f_st ≤ 46656) := by rw [← q_f_st]; exact hT 94 94 (A_94 hw) 9
  have h1 : 1 ≤ f_st ∧ f_st ≤ 46656 := (vc_X12_open_1 hq0 ht_f_st)
  refine mr_lvE (lv' := [(0, .ref 94)]) rfl ?_
  obtain ⟨n_1488, q1489⟩ : ∃ n : Int, (w.2.2.1 bq : Int) = n := ⟨_, rfl⟩
  have h1490 : 0 ≤ n_1488 ∧ n_1488 ≤ 93312 := lnR (m := 93312) q1489 hA_bq rfl
  have h1491 : f_st ≤ n_1488 := lenLe hlq q_f_st q1489
  obtain ⟨n_1492, q1493⟩ : ∃ n : Int, (w.2.2.1 bf : Int) = n := ⟨_, rfl⟩
  have h1494 : 0 ≤ n_1492 ∧ n_1492 ≤ 93312 := lnR (m := 93312) q1493 hA_bf rfl
  have h1495 : f_st ≤ n_1492 := lenLe hlf q_f_st q1493
  obtain ⟨z1496, q1497⟩ : ∃ z, μ 100 ((1 : Int).toNat) = z := ⟨_, rfl⟩
  have h1498 : (0 ≤ z1496 ∧ z1496 ≤ 46656) := by rw [← q1497]; exact hT 100 100 (A_100 hw) ((1 : Int).toNat)
  have h1499 : 1 ≤ z1496 := by have h : 0 < μ 100 ((1 : Int).toNat) := hrx.1.1; rw [q1497] at h; omega
  have h1500 : 1 ≤ z1496 ∧ z1496 ≤ 46656 := (vc_X12_open_1 h1499 h1498)
  obtain ⟨z1501, q1502⟩ : ∃ z, μ 100 ((2 : Int).toNat) = z := ⟨_, rfl⟩
  have h1503 : (0 ≤ z1501 ∧ z1501 ≤ 46656) := by rw [← q1502]; exact hT 100 100 (A_100 hw) ((2 : Int).toNat)
  have h1504 : 1 ≤ z1501 := by have h : 0 < μ 100 ((2 : Int).toNat) := hrx.2.1.1; rw [q1502] at h; omega
  have h1505 : 1 ≤ z1501 ∧ z1501 ≤ 46656 := (vc_X12_open_1 h1504 h1503)
  obtain ⟨z1506, q1507⟩ : ∃ z, μ 100 ((3 : Int).toNat) = z := ⟨_, rfl⟩
  have h1508 : (0 ≤ z1506 ∧ z1506 ≤ 46656) := by rw [← q1507]; exact hT 100 100 (A_100 hw) ((3 : Int).toNat)
  have h1509 : 1 ≤ z1506 := by have h : 0 < μ 100 ((3 : Int).toNat) := hrx.2.2.1.1; rw [q1507] at h; omega
  have h1510 : 1 ≤ z1506 ∧ z1506 ≤ 46656 := (vc_X12_open_1 h1509 h1508)
  obtain ⟨z1511, q1512⟩ : ∃ z, μ 100 ((4 : Int).toNat) = z := ⟨_, rfl⟩
  have h1513 : (0 ≤ z1511 ∧ z1511 ≤ 46656) := by rw [← q1512]; exact hT 100 100 (A_100 hw) ((4 : Int).toNat)
  have h1514 : 1 ≤ z1511 := by have h : 0 < μ 100 ((4 : Int).toNat) := hrx.2.2.2.1.1; rw [q1512] at h; omega
  have h1515 : 1 ≤ z1511 ∧ z1511 ≤ 46656 := (vc_X12_open_1 h1514 h1513)
  obtain ⟨z1516, q1517⟩ : ∃ z, μ 100 ((5 : Int).toNat) = z := ⟨_, rfl⟩
  have h1518 : (0 ≤ z1516 ∧ z1516 ≤ 46656) := by rw [← q1517]; exact hT 100 100 (A_100 hw) ((5 : Int).toNat)
  have h1519 : 1 ≤ z1516 := by have h : 0 < μ 100 ((5 : Int).toNat) := hrx.2.2.2.2.1.1; rw [q1517] at h; omega
  have h1520 : 1 ≤ z1516 ∧ z1516 ≤ 46656 := (vc_X12_open_1 h1519 h1518)
  obtain ⟨z1521, q1522⟩ : ∃ z, μ 100 ((6 : Int).toNat) = z := ⟨_, rfl⟩
  have h1523 : (0 ≤ z1521 ∧ z1521 ≤ 46656) := by rw [← q1522]; exact hT 100 100 (A_100 hw) ((6 : Int).toNat)
  have h1524 : 1 ≤ z1521 := by have h : 0 < μ 100 ((6 : Int).toNat) := hrx.2.2.2.2.2.1; rw [q1522] at h; omega
  have h1525 : 1 ≤ z1521 ∧ z1521 ≤ 46656 := (vc_X12_open_1 h1524 h1523)
  refine sv_aload_n (pc := 0) dX4_spread_0 rfl rfl ?_
  refine gf_X4_13 (pc := 1) dX4_spread_1 wF_X4_43 (A_94 hw) hT ?_
  refine mr_iconst (pc := 4) (z := 1) dX4_spread_4 ?_
  refine mr_iconst (pc := 5) (z := 0) dX4_spread_5 ?_
  refine ss_105 (pc := 6) dX4_spread_6 (A_105 hw) hT (rIx (n := 4) (rR (x := 1)) rfl) (rW (c := (-2147483648)) (d := 2147483647) (rR (x := 0)) rfl) fun μ1526 u1527 T1528 => ?_
  refine sv_aload_n (pc := 7) dX4_spread_7 rfl rfl ?_
  refine gf_X4_13 (pc := 8) dX4_spread_8 wF_X4_43 (A_94 hw) T1528 ?_
  refine mr_iconst (pc := 11) (z := 3) dX4_spread_11 ?_
  refine mr_ldc (pc := 12) (z := (-99999999)) dX4_spread_12 wG_X4_123 (by decide) ?_
  refine ss_105 (pc := 14) dX4_spread_14 (A_105 hw) T1528 (rIx (n := 4) (rR (x := 3)) rfl) (rW (c := (-2147483648)) (d := 2147483647) (rR (x := (-99999999))) rfl) fun μ1529 u1530 T1531 => ?_
  refine sv_aload_n (pc := 15) dX4_spread_15 rfl rfl ?_
  refine gk_X4_6 (pc := 16) dX4_spread_16 wF_X4_33 (A_94 hw) (u1530.f (Or.inl (mAt.ne (A_105 hw) (A_94 hw) rfl)) (u1527.f (Or.inl (mAt.ne (A_105 hw) (A_94 hw) rfl)) q_bq)) ?_
  refine mr_iconst (pc := 19) (z := 0) dX4_spread_19 ?_
  refine sv_aload_n (pc := 20) dX4_spread_20 rfl rfl ?_
  refine gk_X4_9 (pc := 21) dX4_spread_21 wF_X4_59 (A_94 hw) (u1530.f (Or.inl (mAt.ne (A_105 hw) (A_94 hw) rfl)) (u1527.f (Or.inl (mAt.ne (A_105 hw) (A_94 hw) rfl)) q_f_st)) ?_
  refine mr_iconst (pc := 24) (z := 1) dX4_spread_24 ?_
  refine mr_isub (pc := 25) (x := f_st) (y := 1) dX4_spread_25 ?_
  refine ss_102 (pc := 26) dX4_spread_26 hA_bq T1531 (lnC q1489 (vc_X4_spread_8 h1491 hq0 h1495 h1 h1490 h1494)) (rSub (e := 0) (f := 46655) h1 (rR (x := 1)) rfl) fun μ1532 u1533 T1534 => ?_
  refine sv_aload_n (pc := 27) dX4_spread_27 rfl rfl ?_
  refine gk_X4_8 (pc := 28) dX4_spread_28 wF_X4_39 (A_94 hw) (u1533.f (Or.inl (mAt.ne hA_bq (A_94 hw) rfl)) (u1530.f (Or.inl (mAt.ne (A_105 hw) (A_94 hw) rfl)) (u1527.f (Or.inl (mAt.ne (A_105 hw) (A_94 hw) rfl)) q_bf))) ?_
  refine sv_aload_n (pc := 31) dX4_spread_31 rfl rfl ?_
  refine gk_X4_9 (pc := 32) dX4_spread_32 wF_X4_59 (A_94 hw) (u1533.f (Or.inl (mAt.ne hA_bq (A_94 hw) rfl)) (u1530.f (Or.inl (mAt.ne (A_105 hw) (A_94 hw) rfl)) (u1527.f (Or.inl (mAt.ne (A_105 hw) (A_94 hw) rfl)) q_f_st))) ?_
  refine mr_iconst (pc := 35) (z := 1) dX4_spread_35 ?_
  refine mr_isub (pc := 36) (x := f_st) (y := 1) dX4_spread_36 ?_
  refine mr_iconst (pc := 37) (z := 1) dX4_spread_37 ?_
  refine ss_104 (pc := 38) dX4_spread_38 hA_bf T1534 (lnC q1493 (vc_X4_spread_9 hq0 h1491 h1495 h1 h1490 h1494)) (rW (c := (-128)) (d := 127) (rR (x := 1)) rfl) fun μ1535 u1536 T1537 => ?_
  have Q1538 : quC μ1535 bq bf 1 f_st 0 := quC.init (mAt.ne hA_bf hA_bq rfl) (vc_X4_spread_10 hq0 h1491 h1495 h1 h1490 h1494) (vc_X4_spread_11 hq0 h1491 h1495 h1 h1490 h1494) u1533 u1536
  refine mr_iconst (pc := 39) (z := 1) dX4_spread_39 ?_
  refine mr_istore_n (pc := 40) (lv' := [(1, iv 1), (0, .ref 94)]) dX4_spread_40 rfl (by decide) rfl ?_
  refine mr_iconst (pc := 41) (z := 0) dX4_spread_41 ?_
  refine mr_istore_n (pc := 42) (lv' := [(2, iv 0), (1, iv 1), (0, .ref 94)]) dX4_spread_42 rfl (by decide) rfl ?_
  refine mr_iconst (pc := 43) (z := 1) dX4_spread_43 ?_
  refine mr_istore_n (pc := 44) (lv' := [(3, iv 1), (2, iv 0), (1, iv 1), (0, .ref 94)]) dX4_spread_44 rfl (by decide) rfl ?_
  refine mr_iconst (pc := 45) (z := 0) dX4_spread_45 ?_
  refine mr_istore (pc := 46) (lv' := [(4, iv 0), (3, iv 1), (2, iv 0), (1, iv 1), (0, .ref 94)]) dX4_spread_46 (by decide) rfl ?_
  have L2726 : ∀ (nL2726 : Nat) (z2724 z2723 z2722 z2721 : Int) (μ2725 : mM), mT w μ2725 → mF [101999, 102999, 104999, 105999] w μ1535 μ2725 → (1 ≤ z2724 ∧ z2724 ≤ 46656) → (0 ≤ z2723 ∧ z2723 ≤ 46656) → (1 ≤ z2722 ∧ z2722 ≤ 46656) → (0 ≤ z2721 ∧ z2721 ≤ 46656) → (z2721 ≤ z2724) → (z2723 ≤ z2721) → quC μ2725 bq bf z2724 f_st 0 → (46657 - z2721) < (nL2726 : Int) → sV (gG l D c H0 sa) mX4_spread (sRm 3 0 0) (sZ (gG l D c H0 sa) 0 0 (qI w [101999, 102999, 104999, 105999] μ (fun z μ1 => (1 ≤ z ∧ z ≤ 46656) ∧ True))) 48 [(0, .ref 94), (1, iv z2724), (2, iv z2723), (3, iv z2722), (4, iv z2721)] [] (mk w μ2725) 0 0 := by
    intro nL2726
    induction nL2726 with
    | zero => intro z2724 z2723 z2722 z2721 μ2725 T2731 F2732 h2727 h2728 h2729 h2730 h2734 h2735 R2736 h2737; exact ((vc_X4_spread_12 h2737 h2734 h2735 h2730 h2728 h2727)).elim
    | succ nL2726 ih2738 =>
      intro z2724 z2723 z2722 z2721 μ2725 T2731 F2732 h2727 h2728 h2729 h2730 h2734 h2735 R2736 h2737
      refine mr_iload (pc := 48) (z := z2721) dX4_spread_48 rfl ?_
      have h2739 : z2724 ≤ f_st := quC.pig R2736 (vc_X4_spread_13 hq0 h1491 h1495 h1 h1490 h1494)
      refine mr_iload_n (pc := 50) (z := z2724) dX4_spread_50 rfl rfl ?_
      refine mr_icmp_ge (pc := 51) (tgt := 156) dX4_spread_51 (by decide) (r32 h2730 rfl) (r32 h2727 rfl) (fun h2818 => ?_) (fun h2818 => ?_)
      · have h2819 : 1 ≤ z2721 ∧ z2721 ≤ 46656 := (vc_X4_spread_14 h2818 h2734 h2735 h2739 h1 h2730 h2728 h2727)
        refine mr_iload_n (pc := 156) (z := z2724) dX4_spread_156 rfl rfl ?_
        exact mr_iret dX4_spread_157 rfl (le_t rfl) (le_t rfl) T2731 (mF.call (mF.up (mF.up (mF.up (mF.up mF.refl (A_105 hw) u1527 rfl) (A_105 hw) u1530 rfl) hA_bq u1533 rfl) hA_bf u1536 rfl) F2732 rfl) ⟨h2727, trivial⟩
      have h2820 : 0 ≤ z2721 ∧ z2721 ≤ 46655 := (vc_X4_spread_15 h2818 h2734 h2735 h2739 h1 h2730 h2728 h2727)
      refine mr_iload (pc := 54) (z := z2721) dX4_spread_54 rfl ?_
      refine mr_iload_n (pc := 56) (z := z2722) dX4_spread_56 rfl rfl ?_
      have J2828 : ∀ (z2823 z2825 : Int), ((0 ≤ z2823 ∧ z2823 ≤ 46657)) → ((1 ≤ z2825 ∧ z2825 ≤ 46656)) → (z2823 ≤ z2721 + 1) → sV (gG l D c H0 sa) mX4_spread (sRm 3 0 0) (sZ (gG l D c H0 sa) 0 0 (qI w [101999, 102999, 104999, 105999] μ (fun z μ1 => (1 ≤ z ∧ z ≤ 46656) ∧ True))) 65 [(0, .ref 94), (1, iv z2724), (2, iv z2823), (3, iv z2825), (4, iv z2721)] [] (mk w μ2725) 0 0 := by
        intro z2823 z2825 h2824 h2826 h2827
        refine sv_aload_n (pc := 65) dX4_spread_65 rfl rfl ?_
        refine sv_aload_n (pc := 66) dX4_spread_66 rfl rfl ?_
        refine gk_X4_6 (pc := 67) dX4_spread_67 wF_X4_33 (A_94 hw) (F2732.f (A_94 hw) rfl (u1536.f (Or.inl (mAt.ne hA_bf (A_94 hw) rfl)) (u1533.f (Or.inl (mAt.ne hA_bq (A_94 hw) rfl)) (u1530.f (Or.inl (mAt.ne (A_105 hw) (A_94 hw) rfl)) (u1527.f (Or.inl (mAt.ne (A_105 hw) (A_94 hw) rfl)) q_bq))))) ?_
        refine mr_iload (pc := 70) (z := z2721) dX4_spread_70 rfl ?_
        refine la_102 (pc := 72) dX4_spread_72 hA_bq T2731 (lnC q1489 (vc_X4_spread_16 h1491 h2734 h2735 h2818 h2827 hq0 h1495 h2739 h1 h1490 h1494 h2820 h2728 h2727 h2824)) fun z2829 q2830 h2831 => ?_
        have h2832 : 0 ≤ z2829 ∧ z2829 < f_st := quC.st R2736 (vc_X4_spread_17 h2734 h2735 h2818 h2827 h2739 h1 h2820 h2728 h2727 h2824) (vc_X4_spread_18 h2734 h2735 h2739 h2818 h2827 hq0 h1491 h1495 h1 h1490 h1494 h2820 h2728 h2727 h2824) q2830
        obtain ⟨z2833, q2834⟩ : ∃ z, μ2725 95 ((1 : Int).toNat) = z := ⟨_, rfl⟩
        have h2835 : (0 ≤ z2833 ∧ z2833 ≤ 5) := by rw [← q2834]; exact T2731 95 95 (A_95 hw) ((1 : Int).toNat)
        obtain ⟨z2836, q2837⟩ : ∃ z, μ2725 95 ((2 : Int).toNat) = z := ⟨_, rfl⟩
        have h2838 : (0 ≤ z2836 ∧ z2836 ≤ 5) := by rw [← q2837]; exact T2731 95 95 (A_95 hw) ((2 : Int).toNat)
        obtain ⟨z2839, q2840⟩ : ∃ z, μ2725 95 ((3 : Int).toNat) = z := ⟨_, rfl⟩
        have h2841 : (0 ≤ z2839 ∧ z2839 ≤ 5) := by rw [← q2840]; exact T2731 95 95 (A_95 hw) ((3 : Int).toNat)
        obtain ⟨z2842, q2843⟩ : ∃ z, μ2725 95 ((4 : Int).toNat) = z := ⟨_, rfl⟩
        have h2844 : (0 ≤ z2842 ∧ z2842 ≤ 5) := by rw [← q2843]; exact T2731 95 95 (A_95 hw) ((4 : Int).toNat)
        obtain ⟨z2845, q2846⟩ : ∃ z, μ2725 95 ((5 : Int).toNat) = z := ⟨_, rfl⟩
        have h2847 : (0 ≤ z2845 ∧ z2845 ≤ 5) := by rw [← q2846]; exact T2731 95 95 (A_95 hw) ((5 : Int).toNat)
        obtain ⟨z2848, q2849⟩ : ∃ z, μ2725 95 ((6 : Int).toNat) = z := ⟨_, rfl⟩
        have h2850 : (0 ≤ z2848 ∧ z2848 ≤ 5) := by rw [← q2849]; exact T2731 95 95 (A_95 hw) ((6 : Int).toNat)
        refine mr_cVV (pc := 73) (c_X4_unfold_r hw T2731 h2831 (F2732.f (A_100 hw) rfl (u1536.f (Or.inl (mAt.ne hA_bf (A_100 hw) rfl)) (u1533.f (Or.inl (mAt.ne hA_bq (A_100 hw) rfl)) (u1530.f (Or.inl (mAt.ne (A_105 hw) (A_100 hw) rfl)) (u1527.f (Or.inl (mAt.ne (A_105 hw) (A_100 hw) rfl)) q1497))))) (F2732.f (A_100 hw) rfl (u1536.f (Or.inl (mAt.ne hA_bf (A_100 hw) rfl)) (u1533.f (Or.inl (mAt.ne hA_bq (A_100 hw) rfl)) (u1530.f (Or.inl (mAt.ne (A_105 hw) (A_100 hw) rfl)) (u1527.f (Or.inl (mAt.ne (A_105 hw) (A_100 hw) rfl)) q1502))))) (F2732.f (A_100 hw) rfl (u1536.f (Or.inl (mAt.ne hA_bf (A_100 hw) rfl)) (u1533.f (Or.inl (mAt.ne hA_bq (A_100 hw) rfl)) (u1530.f (Or.inl (mAt.ne (A_105 hw) (A_100 hw) rfl)) (u1527.f (Or.inl (mAt.ne (A_105 hw) (A_100 hw) rfl)) q1507))))) (F2732.f (A_100 hw) rfl (u1536.f (Or.inl (mAt.ne hA_bf (A_100 hw) rfl)) (u1533.f (Or.inl (mAt.ne hA_bq (A_100 hw) rfl)) (u1530.f (Or.inl (mAt.ne (A_105 hw) (A_100 hw) rfl)) (u1527.f (Or.inl (mAt.ne (A_105 hw) (A_100 hw) rfl)) q1512))))) (F2732.f (A_100 hw) rfl (u1536.f (Or.inl (mAt.ne hA_bf (A_100 hw) rfl)) (u1533.f (Or.inl (mAt.ne hA_bq (A_100 hw) rfl)) (u1530.f (Or.inl (mAt.ne (A_105 hw) (A_100 hw) rfl)) (u1527.f (Or.inl (mAt.ne (A_105 hw) (A_100 hw) rfl)) q1517))))) (F2732.f (A_100 hw) rfl (u1536.f (Or.inl (mAt.ne hA_bf (A_100 hw) rfl)) (u1533.f (Or.inl (mAt.ne hA_bq (A_100 hw) rfl)) (u1530.f (Or.inl (mAt.ne (A_105 hw) (A_100 hw) rfl)) (u1527.f (Or.inl (mAt.ne (A_105 hw) (A_100 hw) rfl)) q1522))))) q2834 q2837 q2840 q2843 q2846 q2849 (vc_X12_isRest_7 h1499 h1500) (vc_X12_isRest_7 h1504 h1505) (vc_X12_isRest_7 h1509 h1510) (vc_X12_isRest_7 h1514 h1515) (vc_X12_isRest_7 h1519 h1520) (vc_X12_isRest_7 h1524 h1525)) (gOk _ _ _ _ _) dX4_spread_73 (tX4_unfold _ _ _ _ _) ⟨wV_X4_unfold, wL_X4_unfold⟩ wM_X4_85 (gCX4 _ _ _ _ _) rfl (A_94 hw) rfl ⟨le_t rfl, le_t rfl⟩ ⟨le_t rfl, le_t rfl⟩ rfl (le_t rfl) fun μ2851 T2852 F2853 h2854 => ?_
        refine sv_aload_n (pc := 76) dX4_spread_76 rfl rfl ?_
        refine sv_aload_n (pc := 77) dX4_spread_77 rfl rfl ?_
        refine gk_X4_6 (pc := 78) dX4_spread_78 wF_X4_33 (A_94 hw) (F2853.f (A_94 hw) rfl (F2732.f (A_94 hw) rfl (u1536.f (Or.inl (mAt.ne hA_bf (A_94 hw) rfl)) (u1533.f (Or.inl (mAt.ne hA_bq (A_94 hw) rfl)) (u1530.f (Or.inl (mAt.ne (A_105 hw) (A_94 hw) rfl)) (u1527.f (Or.inl (mAt.ne (A_105 hw) (A_94 hw) rfl)) q_bq)))))) ?_
        refine mr_iload (pc := 81) (z := z2721) dX4_spread_81 rfl ?_
        refine lk_102 (pc := 83) dX4_spread_83 hA_bq (lnC q1489 (vc_X4_spread_25 h1491 h2734 h2735 h2818 h2827 hq0 h1495 h2739 h2832 h1 h1490 h1494 h2820 h2728 h2727 h2824 h2831)) (F2853.f hA_bq rfl q2830) ?_
        have h2855 : 0 ≤ z2829 ∧ z2829 < f_st := quC.st (quC.keep R2736 ((mF.call mF.refl F2853 rfl) : mF [101999] w μ2725 μ2851) hA_bq hA_bf (fun _ => rfl) (fun _ => rfl)) (vc_X4_spread_17 h2734 h2735 h2818 h2827 h2739 h1 h2820 h2728 h2727 h2824) (vc_X4_spread_26 h2734 h2735 h2739 h2818 h2827 hq0 h1491 h1495 h2832 h1 h1490 h1494 h2820 h2728 h2727 h2824 h2831) (F2853.f hA_bq rfl q2830)
        refine mr_iload_n (pc := 84) (z := z2724) dX4_spread_84 rfl rfl ?_
        refine mr_cVI (pc := 85) (c_X4_addNeighbours hw T2852 h2831 h2727 (F2853.f (A_94 hw) rfl (F2732.f (A_94 hw) rfl (u1536.f (Or.inl (mAt.ne hA_bf (A_94 hw) rfl)) (u1533.f (Or.inl (mAt.ne hA_bq (A_94 hw) rfl)) (u1530.f (Or.inl (mAt.ne (A_105 hw) (A_94 hw) rfl)) (u1527.f (Or.inl (mAt.ne (A_105 hw) (A_94 hw) rfl)) q_f_st)))))) (F2853.f (A_94 hw) rfl (F2732.f (A_94 hw) rfl (u1536.f (Or.inl (mAt.ne hA_bf (A_94 hw) rfl)) (u1533.f (Or.inl (mAt.ne hA_bq (A_94 hw) rfl)) (u1530.f (Or.inl (mAt.ne (A_105 hw) (A_94 hw) rfl)) (u1527.f (Or.inl (mAt.ne (A_105 hw) (A_94 hw) rfl)) q_bq)))))) hA_bq (F2853.f (A_94 hw) rfl (F2732.f (A_94 hw) rfl (u1536.f (Or.inl (mAt.ne hA_bf (A_94 hw) rfl)) (u1533.f (Or.inl (mAt.ne hA_bq (A_94 hw) rfl)) (u1530.f (Or.inl (mAt.ne (A_105 hw) (A_94 hw) rfl)) (u1527.f (Or.inl (mAt.ne (A_105 hw) (A_94 hw) rfl)) q_bf)))))) hA_bf (vc_X4_spread_27 hq0 h1491 h1495 h2739 h2832 h2734 h2818 h1 h1490 h1494 h2820 h2727 h2831) (lenGe (F2853.f (A_94 hw) rfl (F2732.f (A_94 hw) rfl (u1536.f (Or.inl (mAt.ne hA_bf (A_94 hw) rfl)) (u1533.f (Or.inl (mAt.ne hA_bq (A_94 hw) rfl)) (u1530.f (Or.inl (mAt.ne (A_105 hw) (A_94 hw) rfl)) (u1527.f (Or.inl (mAt.ne (A_105 hw) (A_94 hw) rfl)) q_f_st)))))) q1489 (vc_X4_spread_28 hq0 h1491 h1495 h2739 h2832 h2734 h2818 h1 h1490 h1494 h2820 h2727 h2831)) (lenGe (F2853.f (A_94 hw) rfl (F2732.f (A_94 hw) rfl (u1536.f (Or.inl (mAt.ne hA_bf (A_94 hw) rfl)) (u1533.f (Or.inl (mAt.ne hA_bq (A_94 hw) rfl)) (u1530.f (Or.inl (mAt.ne (A_105 hw) (A_94 hw) rfl)) (u1527.f (Or.inl (mAt.ne (A_105 hw) (A_94 hw) rfl)) q_f_st)))))) q1493 (vc_X4_spread_29 hq0 h1491 h1495 h2739 h2832 h2734 h2818 h1 h1490 h1494 h2820 h2727 h2831)) (radix.keep hrx ((mF.call (mF.call (mF.up (mF.up (mF.up (mF.up mF.refl (A_105 hw) u1527 rfl) (A_105 hw) u1530 rfl) hA_bq u1533 rfl) hA_bf u1536 rfl) F2732 rfl) F2853 rfl) : mF [101999, 102999, 104999, 105999] w μ μ2851) (A_100 hw) (A_95 hw) (fun _ => rfl) (fun _ => rfl)) h2854.1 (quC.keep R2736 ((mF.call mF.refl F2853 rfl) : mF [101999] w μ2725 μ2851) hA_bq hA_bf (fun _ => rfl) (fun _ => rfl))) (gOk _ _ _ _ _) dX4_spread_85 (tX4_addNeighbours _ _ _ _ _) ⟨wV_X4_addNeighbours, wL_X4_addNeighbours⟩ wM_X4_124 (gCX4 _ _ _ _ _) rfl (A_94 hw) rfl ⟨le_t rfl, le_t rfl⟩ ⟨le_t rfl, le_t rfl⟩ rfl (le_t rfl) fun z2860 μ2856 T2857 F2858 h2859 => ?_
        refine mr_istore_n (pc := 88) (lv' := [(1, iv z2860), (0, .ref 94), (2, iv z2823), (3, iv z2825), (4, iv z2721)]) dX4_spread_88 rfl (by decide) rfl ?_
        refine sv_aload_n (pc := 89) dX4_spread_89 rfl rfl ?_
        refine mr_cVP (pc := 90) (c_X4_isRest hw T2857) (gOk _ _ _ _ _) dX4_spread_90 (tX4_isRest _ _ _ _ _) ⟨wV_X4_isRest, wL_X4_isRest⟩ wM_X4_88 (gCX4 _ _ _ _ _) rfl (A_94 hw) rfl ⟨le_t rfl, le_t rfl⟩ ⟨le_t rfl, le_t rfl⟩ rfl (le_t rfl) fun z2865 h2864 => ?_
        refine mr_if_eq (pc := 93) (tgt := 150) dX4_spread_93 (by decide) (r32 h2864.1 rfl) (fun h2866 => ?_) (fun h2866 => ?_)
        · have h2867 : 0 ≤ z2865 ∧ z2865 ≤ 0 := (vc_X12_ring_22 h2866 h2864.1)
          refine mr_iinc (pc := 150) (lv' := [(4, iv (z2721 + 1)), (1, iv z2860), (0, .ref 94), (2, iv z2823), (3, iv z2825)]) dX4_spread_150 rfl (by decide) rfl ?_
          refine sv_goto (pc := 153) (tgt := 48) dX4_spread_153 (by decide) ?_
          refine mr_lvS (lv' := [(0, .ref 94), (1, iv z2860), (2, iv z2823), (3, iv z2825), (4, iv (z2721 + 1))]) (List.forall_mem_cons.mpr ⟨rfl, List.forall_mem_cons.mpr ⟨rfl, List.forall_mem_cons.mpr ⟨rfl, List.forall_mem_cons.mpr ⟨rfl, List.forall_mem_cons.mpr ⟨rfl, fun _ h => absurd h List.not_mem_nil⟩⟩⟩⟩⟩) ?_
          exact ih2738 z2860 z2823 z2825 (z2721 + 1) μ2856 T2857 (mF.call (mF.call (mF.call mF.refl F2732 rfl) F2853 rfl) F2858 rfl) h2859.1 (vc_X4_spread_31 h2827 h2734 h2735 h2818 h2820 h2728 h2727 h2824) h2826 (rW (c := 0) (d := 46656) (rAdd (e := 1) (f := 46656) h2820 (rR (x := 1)) rfl) rfl) (vc_X4_spread_32 h2734 h2735 h2818 h2827 h2859.2.1 h2739 h1 h2820 h2728 h2727 h2824 h2859.1) (vc_X4_spread_33 h2734 h2735 h2818 h2827 h2739 h2859.2.1 h1 h2820 h2728 h2727 h2824 h2859.1) h2859.2.2.1 (vc_X4_spread_34 (nS h2737) h2734 h2735 h2818 h2827 h2739 h2859.2.1 h1 h2820 h2728 h2727 h2824 h2859.1)
        have h2868 : 1 ≤ z2865 ∧ z2865 ≤ 1 := (vc_X12_ring_24 h2866 h2864.1)
        refine sv_aload_n (pc := 96) dX4_spread_96 rfl rfl ?_
        refine gk_X4_8 (pc := 97) dX4_spread_97 wF_X4_39 (A_94 hw) (F2858.f (A_94 hw) rfl (F2853.f (A_94 hw) rfl (F2732.f (A_94 hw) rfl (u1536.f (Or.inl (mAt.ne hA_bf (A_94 hw) rfl)) (u1533.f (Or.inl (mAt.ne hA_bq (A_94 hw) rfl)) (u1530.f (Or.inl (mAt.ne (A_105 hw) (A_94 hw) rfl)) (u1527.f (Or.inl (mAt.ne (A_105 hw) (A_94 hw) rfl)) q_bf))))))) ?_
        refine sv_aload_n (pc := 100) dX4_spread_100 rfl rfl ?_
        refine gk_X4_6 (pc := 101) dX4_spread_101 wF_X4_33 (A_94 hw) (F2858.f (A_94 hw) rfl (F2853.f (A_94 hw) rfl (F2732.f (A_94 hw) rfl (u1536.f (Or.inl (mAt.ne hA_bf (A_94 hw) rfl)) (u1533.f (Or.inl (mAt.ne hA_bq (A_94 hw) rfl)) (u1530.f (Or.inl (mAt.ne (A_105 hw) (A_94 hw) rfl)) (u1527.f (Or.inl (mAt.ne (A_105 hw) (A_94 hw) rfl)) q_bq))))))) ?_
        refine mr_iload (pc := 104) (z := z2721) dX4_spread_104 rfl ?_
        refine la_102 (pc := 106) dX4_spread_106 hA_bq T2857 (lnC q1489 (vc_X4_spread_36 h1491 h2734 h2735 h2818 h2827 hq0 h1495 h2739 h2832 h2859.2.1 h1 h1490 h1494 h2820 h2728 h2727 h2824 h2831 h2859.1)) fun z2869 q2870 h2871 => ?_
        have h2872 : 0 ≤ z2869 ∧ z2869 < f_st := quC.st h2859.2.2.1 (vc_X4_spread_37 h2734 h2735 h2818 h2827 h2739 h2859.2.1 h1 h2820 h2728 h2727 h2824 h2859.1) (vc_X4_spread_38 h2734 h2735 h2818 h2827 h2859.2.1 h2739 h1 h2820 h2728 h2727 h2824 h2859.1) q2870
        refine sv_dup2 (pc := 107) dX4_spread_107 rfl rfl ?_
        refine la_104 (pc := 108) dX4_spread_108 hA_bf T2857 (lnC q1493 (vc_X4_spread_39 h1495 h2872 hq0 h1491 h2739 h2832 h1 h1490 h1494 h2727 h2831 h2871)) fun z2873 q2874 h2875 => ?_
        refine mr_iconst (pc := 109) (z := 2) dX4_spread_109 ?_
        refine mr_ior (pc := 110) (x := z2873) (y := 2) dX4_spread_110 ?_
        refine mr_gen (P := fun z => (-2147483648) ≤ z ∧ z ≤ 2147483647) (r32i _) fun z2876 q2877 h2878 => ?_
        refine mr_i2b (pc := 111) dX4_spread_111 ?_
        refine mr_gen (P := fun z => (-128) ≤ z ∧ z ≤ 127) (rByte _) fun z2879 q2880 h2881 => ?_
        have B2882 := flag2 (vc_X4_spread_40 h2875) q2877 q2880
        refine ss_104 (pc := 112) dX4_spread_112 hA_bf T2857 (lnC q1493 (vc_X4_spread_39 h1495 h2872 hq0 h1491 h2739 h2832 h1 h1490 h1494 h2727 h2831 h2871)) h2881 fun μ2883 u2884 T2885 => ?_
        have Q2886 := quC.set h2859.2.2.1 (mAt.ne hA_bf hA_bq rfl) u2884 B2882.1
        refine sv_aload_n (pc := 113) dX4_spread_113 rfl rfl ?_
        refine gf_X4_13 (pc := 114) dX4_spread_114 wF_X4_43 (A_94 hw) T2885 ?_
        refine mr_iconst (pc := 117) (z := 1) dX4_spread_117 ?_
        refine sv_dup2 (pc := 118) dX4_spread_118 rfl rfl ?_
        refine la_105 (pc := 119) dX4_spread_119 (A_105 hw) T2885 (rIx (n := 4) (rR (x := 1)) rfl) fun z2887 q2888 h2889 => ?_
        refine mr_iconst (pc := 120) (z := 1) dX4_spread_120 ?_
        refine mr_iadd (pc := 121) (x := z2887) (y := 1) dX4_spread_121 ?_
        refine mr_wrap fun z2890 h2891 => ?_
        refine ss_105 (pc := 122) dX4_spread_122 (A_105 hw) T2885 (rIx (n := 4) (rR (x := 1)) rfl) h2891 fun μ2892 u2893 T2894 => ?_
        refine sv_aload_n (pc := 123) dX4_spread_123 rfl rfl ?_
        refine gf_X4_13 (pc := 124) dX4_spread_124 wF_X4_43 (A_94 hw) T2894 ?_
        refine mr_iconst (pc := 127) (z := 3) dX4_spread_127 ?_
        refine sv_aload_n (pc := 128) dX4_spread_128 rfl rfl ?_
        refine gf_X4_13 (pc := 129) dX4_spread_129 wF_X4_43 (A_94 hw) T2894 ?_
        refine mr_iconst (pc := 132) (z := 3) dX4_spread_132 ?_
        refine la_105 (pc := 133) dX4_spread_133 (A_105 hw) T2894 (rIx (n := 4) (rR (x := 3)) rfl) fun z2895 q2896 h2897 => ?_
        refine mr_ldc (pc := 134) (z := (-99999999)) dX4_spread_134 wG_X4_123 (by decide) ?_
        refine mr_icmp_ne (pc := 136) (tgt := 143) dX4_spread_136 (by decide) h2897 (r32 (rR (x := (-99999999))) rfl) (fun h2899 => ?_) (fun h2899 => ?_)
        · refine sv_aload_n (pc := 143) dX4_spread_143 rfl rfl ?_
          refine gf_X4_13 (pc := 144) dX4_spread_144 wF_X4_43 (A_94 hw) T2894 ?_
          refine mr_iconst (pc := 147) (z := 3) dX4_spread_147 ?_
          refine lk_105 (pc := 148) dX4_spread_148 (A_105 hw) (rIx (n := 4) (rR (x := 3)) rfl) q2896 ?_
          refine ss_105 (pc := 149) dX4_spread_149 (A_105 hw) T2894 (rIx (n := 4) (rR (x := 3)) rfl) h2897 fun μ2900 u2901 T2902 => ?_
          refine mr_iinc (pc := 150) (lv' := [(4, iv (z2721 + 1)), (1, iv z2860), (0, .ref 94), (2, iv z2823), (3, iv z2825)]) dX4_spread_150 rfl (by decide) rfl ?_
          refine sv_goto (pc := 153) (tgt := 48) dX4_spread_153 (by decide) ?_
          refine mr_lvS (lv' := [(0, .ref 94), (1, iv z2860), (2, iv z2823), (3, iv z2825), (4, iv (z2721 + 1))]) (List.forall_mem_cons.mpr ⟨rfl, List.forall_mem_cons.mpr ⟨rfl, List.forall_mem_cons.mpr ⟨rfl, List.forall_mem_cons.mpr ⟨rfl, List.forall_mem_cons.mpr ⟨rfl, fun _ h => absurd h List.not_mem_nil⟩⟩⟩⟩⟩) ?_
          exact ih2738 z2860 z2823 z2825 (z2721 + 1) μ2900 T2902 (mF.up (mF.up (mF.up (mF.call (mF.call (mF.call mF.refl F2732 rfl) F2853 rfl) F2858 rfl) hA_bf u2884 rfl) (A_105 hw) u2893 rfl) (A_105 hw) u2901 rfl) h2859.1 (vc_X4_spread_31 h2827 h2734 h2735 h2818 h2820 h2728 h2727 h2824) h2826 (rW (c := 0) (d := 46656) (rAdd (e := 1) (f := 46656) h2820 (rR (x := 1)) rfl) rfl) (vc_X4_spread_32 h2734 h2735 h2818 h2827 h2859.2.1 h2739 h1 h2820 h2728 h2727 h2824 h2859.1) (vc_X4_spread_33 h2734 h2735 h2818 h2827 h2739 h2859.2.1 h1 h2820 h2728 h2727 h2824 h2859.1) (quC.keep Q2886 ((mF.up (mF.up mF.refl (A_105 hw) u2893 rfl) (A_105 hw) u2901 rfl) : mF [105999] w μ2883 μ2900) hA_bq hA_bf (fun _ => rfl) (fun _ => rfl)) (vc_X4_spread_34 (nS h2737) h2734 h2735 h2818 h2827 h2739 h2859.2.1 h1 h2820 h2728 h2727 h2824 h2859.1)
        have h2903 : (-99999999) ≤ z2895 ∧ z2895 ≤ (-99999999) := (vc_X12_judgedAnew_21 h2899 h2897)
        refine mr_iload_n (pc := 139) (z := z2823) dX4_spread_139 rfl rfl ?_
        refine sv_goto (pc := 140) (tgt := 149) dX4_spread_140 (by decide) ?_
        refine ss_105 (pc := 149) dX4_spread_149 (A_105 hw) T2894 (rIx (n := 4) (rR (x := 3)) rfl) (rW (c := (-2147483648)) (d := 2147483647) h2824 rfl) fun μ2904 u2905 T2906 => ?_
        refine mr_iinc (pc := 150) (lv' := [(4, iv (z2721 + 1)), (1, iv z2860), (0, .ref 94), (2, iv z2823), (3, iv z2825)]) dX4_spread_150 rfl (by decide) rfl ?_
        refine sv_goto (pc := 153) (tgt := 48) dX4_spread_153 (by decide) ?_
        refine mr_lvS (lv' := [(0, .ref 94), (1, iv z2860), (2, iv z2823), (3, iv z2825), (4, iv (z2721 + 1))]) (List.forall_mem_cons.mpr ⟨rfl, List.forall_mem_cons.mpr ⟨rfl, List.forall_mem_cons.mpr ⟨rfl, List.forall_mem_cons.mpr ⟨rfl, List.forall_mem_cons.mpr ⟨rfl, fun _ h => absurd h List.not_mem_nil⟩⟩⟩⟩⟩) ?_
        exact ih2738 z2860 z2823 z2825 (z2721 + 1) μ2904 T2906 (mF.up (mF.up (mF.up (mF.call (mF.call (mF.call mF.refl F2732 rfl) F2853 rfl) F2858 rfl) hA_bf u2884 rfl) (A_105 hw) u2893 rfl) (A_105 hw) u2905 rfl) h2859.1 (vc_X4_spread_31 h2827 h2734 h2735 h2818 h2820 h2728 h2727 h2824) h2826 (rW (c := 0) (d := 46656) (rAdd (e := 1) (f := 46656) h2820 (rR (x := 1)) rfl) rfl) (vc_X4_spread_32 h2734 h2735 h2818 h2827 h2859.2.1 h2739 h1 h2820 h2728 h2727 h2824 h2859.1) (vc_X4_spread_33 h2734 h2735 h2818 h2827 h2739 h2859.2.1 h1 h2820 h2728 h2727 h2824 h2859.1) (quC.keep Q2886 ((mF.up (mF.up mF.refl (A_105 hw) u2893 rfl) (A_105 hw) u2905 rfl) : mF [105999] w μ2883 μ2904) hA_bq hA_bf (fun _ => rfl) (fun _ => rfl)) (vc_X4_spread_34 (nS h2737) h2734 h2735 h2818 h2827 h2739 h2859.2.1 h1 h2820 h2728 h2727 h2824 h2859.1)
      refine mr_icmp_ne (pc := 57) (tgt := 65) dX4_spread_57 (by decide) (r32 h2820 rfl) (r32 h2729 rfl) (fun h2907 => ?_) (fun h2907 => ?_)
      · exact J2828 z2723 z2722 (rW (c := 0) (d := 46657) h2728 rfl) h2729 (vc_X4_spread_43 h2734 h2735 h2818 h2907 h2739 h1 h2820 h2729 h2728 h2727)
      have h2908 : 1 ≤ z2721 ∧ z2721 ≤ 46655 := (vc_X4_spread_44 h2907 h2734 h2735 h2818 h2820 h2729 h2728 h2727)
      have h2909 : 1 ≤ z2722 ∧ z2722 ≤ 46655 := (vc_X4_spread_45 h2907 h2734 h2735 h2818 h2908 h2729 h2728 h2727)
      refine mr_iinc (pc := 60) (lv' := [(2, iv (z2723 + 1)), (0, .ref 94), (1, iv z2724), (3, iv z2722), (4, iv z2721)]) dX4_spread_60 rfl (by decide) rfl ?_
      refine mr_iload_n (pc := 63) (z := z2724) dX4_spread_63 rfl rfl ?_
      refine mr_istore_n (pc := 64) (lv' := [(3, iv z2724), (2, iv (z2723 + 1)), (0, .ref 94), (1, iv z2724), (4, iv z2721)]) dX4_spread_64 rfl (by decide) rfl ?_
      refine mr_lvS (lv' := [(0, .ref 94), (1, iv z2724), (2, iv (z2723 + 1)), (3, iv z2724), (4, iv z2721)]) (List.forall_mem_cons.mpr ⟨rfl, List.forall_mem_cons.mpr ⟨rfl, List.forall_mem_cons.mpr ⟨rfl, List.forall_mem_cons.mpr ⟨rfl, List.forall_mem_cons.mpr ⟨rfl, fun _ h => absurd h List.not_mem_nil⟩⟩⟩⟩⟩) ?_
      exact J2828 (z2723 + 1) z2724 (rW (c := 0) (d := 46657) (rAdd (e := 1) (f := 46657) h2728 (rR (x := 1)) rfl) rfl) h2727 (vc_X4_spread_46 h2734 h2735 h2818 h2907 h2739 h1 h2908 h2909 h2728 h2727)
  refine mr_lvS (lv' := [(0, .ref 94), (1, iv 1), (2, iv 0), (3, iv 1), (4, iv 0)]) (List.forall_mem_cons.mpr ⟨rfl, List.forall_mem_cons.mpr ⟨rfl, List.forall_mem_cons.mpr ⟨rfl, List.forall_mem_cons.mpr ⟨rfl, List.forall_mem_cons.mpr ⟨rfl, fun _ h => absurd h List.not_mem_nil⟩⟩⟩⟩⟩) ?_
  exact L2726 46658 1 0 1 0 μ1535 T1537 mF.refl (rW (c := 1) (d := 46656) (rR (x := 1)) rfl) (rW (c := 0) (d := 46656) (rR (x := 0)) rfl) (rW (c := 1) (d := 46656) (rR (x := 1)) rfl) (rW (c := 0) (d := 46656) (rR (x := 0)) rfl) vc_X12_tries_128 vc_X12_dropMark_20 Q1538 vc_X12_rests_19
end
section
theorem vc_X4_leadBack_8 {f_st n_1852 n_1856 z2918 z2919 : Int} (h0 : (46657 - z2918) < ((0 : Nat) : Int)) (h1 : z2919 ≤ z2918) (h2 : z2918 ≤ f_st) (h3 : 1 ≤ f_st) (h4 : f_st ≤ n_1852) (h5 : f_st ≤ n_1856) (h6 : 1 ≤ f_st ∧ f_st ≤ 46656) (h7 : 0 ≤ n_1852 ∧ n_1852 ≤ 93312) (h8 : 0 ≤ n_1856 ∧ n_1856 ≤ 93312) (h9 : 0 ≤ z2918 ∧ z2918 ≤ 46656) (h10 : 0 ≤ z2919 ∧ z2919 ≤ 46656) : False := by omega
theorem vc_X4_leadBack_9 {f_st n_1852 n_1856 z2918 z2919 : Int} (h0 : f_st ≤ z2918) (h1 : 1 ≤ f_st) (h2 : f_st ≤ n_1852) (h3 : f_st ≤ n_1856) (h4 : z2919 ≤ z2918) (h5 : z2918 ≤ f_st) (h6 : 1 ≤ f_st ∧ f_st ≤ 46656) (h7 : 0 ≤ n_1852 ∧ n_1852 ≤ 93312) (h8 : 0 ≤ n_1856 ∧ n_1856 ≤ 93312) (h9 : 0 ≤ z2918 ∧ z2918 ≤ 46656) (h10 : 0 ≤ z2919 ∧ z2919 ≤ 46656) : 1 ≤ z2918 ∧ z2918 ≤ 46656 := by omega
theorem vc_X4_leadBack_10 {f_st n_1852 n_1856 z2918 z2919 : Int} (h0 : 1 ≤ f_st) (h1 : f_st ≤ n_1852) (h2 : f_st ≤ n_1856) (h3 : z2919 ≤ z2918) (h4 : z2918 ≤ f_st) (h5 : f_st ≤ z2918) (h6 : 1 ≤ f_st ∧ f_st ≤ 46656) (h7 : 0 ≤ n_1852 ∧ n_1852 ≤ 93312) (h8 : 0 ≤ n_1856 ∧ n_1856 ≤ 93312) (h9 : 1 ≤ z2918 ∧ z2918 ≤ 46656) (h10 : 0 ≤ z2919 ∧ z2919 ≤ 46656) : z2918 ≤ f_st := by omega
theorem vc_X4_leadBack_11 {z3391 z3392 : Int} (h0 : (46657 - z3391) < ((0 : Nat) : Int)) (h1 : z3391 ≤ z3392) (h2 : 0 ≤ z3391 ∧ z3391 ≤ 46656) (h3 : 0 ≤ z3392 ∧ z3392 ≤ 46656) : False := by omega
theorem vc_X4_leadBack_12 {f_st n_1852 n_1856 z2918 z2919 : Int} (h0 : 1 ≤ f_st) (h1 : f_st ≤ n_1852) (h2 : f_st ≤ n_1856) (h3 : z2918 ≤ f_st) (h4 : f_st ≤ z2918) (h5 : z2919 ≤ z2918) (h6 : 1 ≤ f_st ∧ f_st ≤ 46656) (h7 : 0 ≤ n_1852 ∧ n_1852 ≤ 93312) (h8 : 0 ≤ n_1856 ∧ n_1856 ≤ 93312) (h9 : 1 ≤ z2918 ∧ z2918 ≤ 46656) (h10 : 0 ≤ z2919 ∧ z2919 ≤ 46656) : 0 ≤ f_st := by omega
theorem vc_X4_leadBack_13 {f_st z3391 z3392 : Int} (h0 : z3391 < z3392) (h1 : z3391 ≤ z3392) (h2 : z3392 ≤ f_st) (h3 : 1 ≤ f_st ∧ f_st ≤ 46656) (h4 : 0 ≤ z3391 ∧ z3391 ≤ 46656) (h5 : 0 ≤ z3392 ∧ z3392 ≤ 46656) : 0 ≤ z3391 ∧ z3391 ≤ 46655 := by omega
theorem vc_X4_leadBack_14 {f_st z3391 z3392 : Int} (h0 : z3391 < z3392) (h1 : z3391 ≤ z3392) (h2 : z3392 ≤ f_st) (h3 : 1 ≤ f_st ∧ f_st ≤ 46656) (h4 : 0 ≤ z3391 ∧ z3391 ≤ 46655) (h5 : 0 ≤ z3392 ∧ z3392 ≤ 46656) : 1 ≤ z3392 ∧ z3392 ≤ 46656 := by omega
theorem vc_X4_leadBack_15 {f_st n_1852 n_1856 z2918 z3391 z3392 : Int} (h0 : f_st ≤ n_1852) (h1 : z3391 ≤ z3392) (h2 : z3391 < z3392) (h3 : 1 ≤ f_st) (h4 : f_st ≤ n_1856) (h5 : z2918 ≤ f_st) (h6 : f_st ≤ z2918) (h7 : z3392 ≤ f_st) (h8 : 1 ≤ f_st ∧ f_st ≤ 46656) (h9 : 0 ≤ n_1852 ∧ n_1852 ≤ 93312) (h10 : 0 ≤ n_1856 ∧ n_1856 ≤ 93312) (h11 : 1 ≤ z2918 ∧ z2918 ≤ 46656) (h12 : 0 ≤ z3391 ∧ z3391 ≤ 46655) (h13 : 1 ≤ z3392 ∧ z3392 ≤ 46656) : 0 ≤ z3391 ∧ z3391 < n_1852 := by omega
theorem vc_X4_leadBack_16 {f_st z3391 z3392 : Int} (h0 : z3391 ≤ z3392) (h1 : z3391 < z3392) (h2 : z3392 ≤ f_st) (h3 : 1 ≤ f_st ∧ f_st ≤ 46656) (h4 : 0 ≤ z3391 ∧ z3391 ≤ 46655) (h5 : 1 ≤ z3392 ∧ z3392 ≤ 46656) : 0 ≤ z3391 := by omega
theorem vc_X4_leadBack_17 {f_st n_1852 n_1856 z2918 z3391 z3392 : Int} (h0 : z3391 ≤ z3392) (h1 : z3392 ≤ f_st) (h2 : z3391 < z3392) (h3 : 1 ≤ f_st) (h4 : f_st ≤ n_1852) (h5 : f_st ≤ n_1856) (h6 : z2918 ≤ f_st) (h7 : f_st ≤ z2918) (h8 : 1 ≤ f_st ∧ f_st ≤ 46656) (h9 : 0 ≤ n_1852 ∧ n_1852 ≤ 93312) (h10 : 0 ≤ n_1856 ∧ n_1856 ≤ 93312) (h11 : 1 ≤ z2918 ∧ z2918 ≤ 46656) (h12 : 0 ≤ z3391 ∧ z3391 ≤ 46655) (h13 : 1 ≤ z3392 ∧ z3392 ≤ 46656) : z3391 < z3392 := by omega
theorem vc_X4_leadBack_24 {f_st n_1852 n_1856 z2918 z3391 z3392 z3441 : Int} (h0 : f_st ≤ n_1852) (h1 : z3391 ≤ z3392) (h2 : z3391 < z3392) (h3 : 1 ≤ f_st) (h4 : f_st ≤ n_1856) (h5 : z2918 ≤ f_st) (h6 : f_st ≤ z2918) (h7 : z3392 ≤ f_st) (h8 : 0 ≤ z3441 ∧ z3441 < f_st) (h9 : 1 ≤ f_st ∧ f_st ≤ 46656) (h10 : 0 ≤ n_1852 ∧ n_1852 ≤ 93312) (h11 : 0 ≤ n_1856 ∧ n_1856 ≤ 93312) (h12 : 1 ≤ z2918 ∧ z2918 ≤ 46656) (h13 : 0 ≤ z3391 ∧ z3391 ≤ 46655) (h14 : 1 ≤ z3392 ∧ z3392 ≤ 46656) (h15 : 0 ≤ z3441 ∧ z3441 ≤ 46655) : 0 ≤ z3391 ∧ z3391 < n_1852 := by omega
theorem vc_X4_leadBack_25 {f_st n_1852 n_1856 z2918 z3391 z3392 z3441 : Int} (h0 : z3391 ≤ z3392) (h1 : z3392 ≤ f_st) (h2 : z3391 < z3392) (h3 : 1 ≤ f_st) (h4 : f_st ≤ n_1852) (h5 : f_st ≤ n_1856) (h6 : z2918 ≤ f_st) (h7 : f_st ≤ z2918) (h8 : 0 ≤ z3441 ∧ z3441 < f_st) (h9 : 1 ≤ f_st ∧ f_st ≤ 46656) (h10 : 0 ≤ n_1852 ∧ n_1852 ≤ 93312) (h11 : 0 ≤ n_1856 ∧ n_1856 ≤ 93312) (h12 : 1 ≤ z2918 ∧ z2918 ≤ 46656) (h13 : 0 ≤ z3391 ∧ z3391 ≤ 46655) (h14 : 1 ≤ z3392 ∧ z3392 ≤ 46656) (h15 : 0 ≤ z3441 ∧ z3441 ≤ 46655) : z3391 < z3392 := by omega
theorem vc_X4_leadBack_26 {f_st n_1852 n_1856 z2918 z2919 z3391 z3392 z3441 : Int} (h0 : 1 ≤ f_st) (h1 : f_st ≤ n_1852) (h2 : f_st ≤ n_1856) (h3 : z2918 ≤ f_st) (h4 : f_st ≤ z2918) (h5 : z3392 ≤ f_st) (h6 : 0 ≤ z3441 ∧ z3441 < f_st) (h7 : z2919 ≤ z2918) (h8 : z3391 ≤ z3392) (h9 : z3391 < z3392) (h10 : 1 ≤ f_st ∧ f_st ≤ 46656) (h11 : 0 ≤ n_1852 ∧ n_1852 ≤ 93312) (h12 : 0 ≤ n_1856 ∧ n_1856 ≤ 93312) (h13 : 1 ≤ z2918 ∧ z2918 ≤ 46656) (h14 : 0 ≤ z2919 ∧ z2919 ≤ 46656) (h15 : 0 ≤ z3391 ∧ z3391 ≤ 46655) (h16 : 1 ≤ z3392 ∧ z3392 ≤ 46656) (h17 : 0 ≤ z3441 ∧ z3441 ≤ 46655) : z3441 < f_st := by omega
theorem vc_X4_leadBack_27 {f_st n_1852 n_1856 z2918 z2919 z3391 z3392 z3441 : Int} (h0 : 1 ≤ f_st) (h1 : f_st ≤ n_1852) (h2 : f_st ≤ n_1856) (h3 : z2918 ≤ f_st) (h4 : f_st ≤ z2918) (h5 : z3392 ≤ f_st) (h6 : 0 ≤ z3441 ∧ z3441 < f_st) (h7 : z2919 ≤ z2918) (h8 : z3391 ≤ z3392) (h9 : z3391 < z3392) (h10 : 1 ≤ f_st ∧ f_st ≤ 46656) (h11 : 0 ≤ n_1852 ∧ n_1852 ≤ 93312) (h12 : 0 ≤ n_1856 ∧ n_1856 ≤ 93312) (h13 : 1 ≤ z2918 ∧ z2918 ≤ 46656) (h14 : 0 ≤ z2919 ∧ z2919 ≤ 46656) (h15 : 0 ≤ z3391 ∧ z3391 ≤ 46655) (h16 : 1 ≤ z3392 ∧ z3392 ≤ 46656) (h17 : 0 ≤ z3441 ∧ z3441 ≤ 46655) : f_st ≤ n_1852 := by omega
theorem vc_X4_leadBack_28 {f_st n_1852 n_1856 z2918 z2919 z3391 z3392 z3441 : Int} (h0 : 1 ≤ f_st) (h1 : f_st ≤ n_1852) (h2 : f_st ≤ n_1856) (h3 : z2918 ≤ f_st) (h4 : f_st ≤ z2918) (h5 : z3392 ≤ f_st) (h6 : 0 ≤ z3441 ∧ z3441 < f_st) (h7 : z2919 ≤ z2918) (h8 : z3391 ≤ z3392) (h9 : z3391 < z3392) (h10 : 1 ≤ f_st ∧ f_st ≤ 46656) (h11 : 0 ≤ n_1852 ∧ n_1852 ≤ 93312) (h12 : 0 ≤ n_1856 ∧ n_1856 ≤ 93312) (h13 : 1 ≤ z2918 ∧ z2918 ≤ 46656) (h14 : 0 ≤ z2919 ∧ z2919 ≤ 46656) (h15 : 0 ≤ z3391 ∧ z3391 ≤ 46655) (h16 : 1 ≤ z3392 ∧ z3392 ≤ 46656) (h17 : 0 ≤ z3441 ∧ z3441 ≤ 46655) : f_st ≤ n_1856 := by omega
theorem vc_X4_leadBack_29 {f_st z3391 z3392 z3472 : Int} (h0 : z3392 ≤ z3472) (h1 : z3391 ≤ z3392) (h2 : z3392 ≤ f_st) (h3 : z3391 < z3392) (h4 : 1 ≤ f_st ∧ f_st ≤ 46656) (h5 : 0 ≤ z3391 ∧ z3391 ≤ 46655) (h6 : 1 ≤ z3392 ∧ z3392 ≤ 46656) (h7 : 0 ≤ z3472 ∧ z3472 ≤ 46656) : 1 ≤ z3472 ∧ z3472 ≤ 46656 := by omega
theorem vc_X4_leadBack_30 {f_st z3391 z3392 z3472 : Int} (h0 : z3391 ≤ z3392) (h1 : z3391 < z3392) (h2 : z3392 ≤ z3472) (h3 : z3392 ≤ f_st) (h4 : 1 ≤ f_st ∧ f_st ≤ 46656) (h5 : 0 ≤ z3391 ∧ z3391 ≤ 46655) (h6 : 1 ≤ z3392 ∧ z3392 ≤ 46656) (h7 : 1 ≤ z3472 ∧ z3472 ≤ 46656) : (z3391 + 1) ≤ z3472 := by omega
theorem vc_X4_leadBack_31 {N f_st z3391 z3392 z3472 : Int} (h0 : (46657 - z3391) < N + 1) (h1 : z3391 ≤ z3392) (h2 : z3391 < z3392) (h3 : z3392 ≤ f_st) (h4 : z3392 ≤ z3472) (h5 : 1 ≤ f_st ∧ f_st ≤ 46656) (h6 : 0 ≤ z3391 ∧ z3391 ≤ 46655) (h7 : 1 ≤ z3392 ∧ z3392 ≤ 46656) (h8 : 1 ≤ z3472 ∧ z3472 ≤ 46656) : (46657 - (z3391 + 1)) < N := by omega
theorem vc_X4_leadBack_32 {f_st z2918 z2919 : Int} (h0 : z2919 ≤ z2918) (h1 : z2918 ≤ f_st) (h2 : f_st ≤ z2918) (h3 : 1 ≤ f_st ∧ f_st ≤ 46656) (h4 : 1 ≤ z2918 ∧ z2918 ≤ 46656) (h5 : 0 ≤ z2919 ∧ z2919 ≤ 46656) : (0 : Int) ≤ z2919 := by omega
theorem vc_X4_leadBack_34 {f_st n_1852 n_1856 z2918 z2919 : Int} (h0 : z2918 < f_st) (h1 : 1 ≤ f_st) (h2 : f_st ≤ n_1852) (h3 : f_st ≤ n_1856) (h4 : z2919 ≤ z2918) (h5 : z2918 ≤ f_st) (h6 : 1 ≤ f_st ∧ f_st ≤ 46656) (h7 : 0 ≤ n_1852 ∧ n_1852 ≤ 93312) (h8 : 0 ≤ n_1856 ∧ n_1856 ≤ 93312) (h9 : 0 ≤ z2918 ∧ z2918 ≤ 46656) (h10 : 0 ≤ z2919 ∧ z2919 ≤ 46656) : 0 ≤ z2918 ∧ z2918 ≤ 46655 := by omega
theorem vc_X4_leadBack_35 {f_st n_1852 n_1856 z2918 z2919 : Int} (h0 : f_st ≤ n_1856) (h1 : z2919 ≤ z2918) (h2 : z2918 ≤ f_st) (h3 : z2918 < f_st) (h4 : 1 ≤ f_st) (h5 : f_st ≤ n_1852) (h6 : 1 ≤ f_st ∧ f_st ≤ 46656) (h7 : 0 ≤ n_1852 ∧ n_1852 ≤ 93312) (h8 : 0 ≤ n_1856 ∧ n_1856 ≤ 93312) (h9 : 0 ≤ z2918 ∧ z2918 ≤ 46655) (h10 : 0 ≤ z2919 ∧ z2919 ≤ 46656) : 0 ≤ z2918 ∧ z2918 < n_1856 := by omega
theorem vc_X4_leadBack_37 {f_st n_1852 n_1856 z2918 z2919 : Int} (h0 : z2919 ≤ z2918) (h1 : z2918 ≤ f_st) (h2 : z2918 < f_st) (h3 : 1 ≤ f_st) (h4 : f_st ≤ n_1852) (h5 : f_st ≤ n_1856) (h6 : 1 ≤ f_st ∧ f_st ≤ 46656) (h7 : 0 ≤ n_1852 ∧ n_1852 ≤ 93312) (h8 : 0 ≤ n_1856 ∧ n_1856 ≤ 93312) (h9 : 0 ≤ z2918 ∧ z2918 ≤ 46655) (h10 : 0 ≤ z2919 ∧ z2919 ≤ 46656) : z2919 ≤ (z2918 + 1) := by omega
theorem vc_X4_leadBack_38 {f_st n_1852 n_1856 z2918 z2919 : Int} (h0 : 1 ≤ f_st) (h1 : f_st ≤ n_1852) (h2 : f_st ≤ n_1856) (h3 : z2919 ≤ z2918) (h4 : z2918 ≤ f_st) (h5 : z2918 < f_st) (h6 : 1 ≤ f_st ∧ f_st ≤ 46656) (h7 : 0 ≤ n_1852 ∧ n_1852 ≤ 93312) (h8 : 0 ≤ n_1856 ∧ n_1856 ≤ 93312) (h9 : 0 ≤ z2918 ∧ z2918 ≤ 46655) (h10 : 0 ≤ z2919 ∧ z2919 ≤ 46656) : (z2918 + 1) ≤ f_st := by omega
theorem vc_X4_leadBack_39 {N f_st n_1852 n_1856 z2918 z2919 : Int} (h0 : (46657 - z2918) < N + 1) (h1 : z2919 ≤ z2918) (h2 : z2918 ≤ f_st) (h3 : z2918 < f_st) (h4 : 1 ≤ f_st) (h5 : f_st ≤ n_1852) (h6 : f_st ≤ n_1856) (h7 : 1 ≤ f_st ∧ f_st ≤ 46656) (h8 : 0 ≤ n_1852 ∧ n_1852 ≤ 93312) (h9 : 0 ≤ n_1856 ∧ n_1856 ≤ 93312) (h10 : 0 ≤ z2918 ∧ z2918 ≤ 46655) (h11 : 0 ≤ z2919 ∧ z2919 ≤ 46656) : (46657 - (z2918 + 1)) < N := by omega
theorem vc_X4_leadBack_40 {f_st n_1852 n_1856 z2918 z2919 : Int} (h0 : z2919 ≤ z2918) (h1 : z2918 ≤ f_st) (h2 : z2918 < f_st) (h3 : 1 ≤ f_st) (h4 : f_st ≤ n_1852) (h5 : f_st ≤ n_1856) (h6 : 1 ≤ f_st ∧ f_st ≤ 46656) (h7 : 0 ≤ n_1852 ∧ n_1852 ≤ 93312) (h8 : 0 ≤ n_1856 ∧ n_1856 ≤ 93312) (h9 : 0 ≤ z2918 ∧ z2918 ≤ 46655) (h10 : 0 ≤ z2919 ∧ z2919 ≤ 46656) : z2918 ≤ z2918 + 1 := by omega
theorem vc_X4_leadBack_42 {z3478 : Int} (h0 : ¬ z3478 = 0) (h1 : 1 ≤ z3478 ∧ z3478 ≤ 2) : ¬ z3478 = 0 := by omega
theorem vc_X4_leadBack_43 {f_st n_1852 n_1856 z2918 z2919 : Int} (h0 : f_st ≤ n_1852) (h1 : z2919 ≤ z2918) (h2 : 1 ≤ f_st) (h3 : f_st ≤ n_1856) (h4 : z2918 ≤ f_st) (h5 : z2918 < f_st) (h6 : 1 ≤ f_st ∧ f_st ≤ 46656) (h7 : 0 ≤ n_1852 ∧ n_1852 ≤ 93312) (h8 : 0 ≤ n_1856 ∧ n_1856 ≤ 93312) (h9 : 0 ≤ z2918 ∧ z2918 ≤ 46655) (h10 : 0 ≤ z2919 ∧ z2919 ≤ 46656) : 0 ≤ z2919 ∧ z2919 < n_1852 := by omega
theorem vc_X4_leadBack_44 {f_st z2918 z2919 : Int} (h0 : z2919 ≤ z2918) (h1 : z2918 ≤ f_st) (h2 : z2918 < f_st) (h3 : 1 ≤ f_st ∧ f_st ≤ 46656) (h4 : 0 ≤ z2918 ∧ z2918 ≤ 46655) (h5 : 0 ≤ z2919 ∧ z2919 ≤ 46656) : 0 ≤ z2919 := by omega
theorem vc_X4_leadBack_45 {f_st n_1852 n_1856 z2918 z2919 : Int} (h0 : z2919 ≤ z2918) (h1 : z2918 ≤ f_st) (h2 : z2918 < f_st) (h3 : 1 ≤ f_st) (h4 : f_st ≤ n_1852) (h5 : f_st ≤ n_1856) (h6 : 1 ≤ f_st ∧ f_st ≤ 46656) (h7 : 0 ≤ n_1852 ∧ n_1852 ≤ 93312) (h8 : 0 ≤ n_1856 ∧ n_1856 ≤ 93312) (h9 : 0 ≤ z2918 ∧ z2918 ≤ 46655) (h10 : 0 ≤ z2919 ∧ z2919 ≤ 46656) : 0 ≤ z2918 := by omega
theorem vc_X4_leadBack_46 {f_st z2918 z2919 : Int} (h0 : z2919 ≤ z2918) (h1 : z2918 ≤ f_st) (h2 : z2918 < f_st) (h3 : 1 ≤ f_st ∧ f_st ≤ 46656) (h4 : 0 ≤ z2918 ∧ z2918 ≤ 46655) (h5 : 0 ≤ z2919 ∧ z2919 ≤ 46656) : 0 ≤ (z2919 + 1) ∧ (z2919 + 1) ≤ 46656 := by omega
theorem vc_X4_leadBack_47 {f_st n_1852 n_1856 z2918 z2919 : Int} (h0 : z2919 ≤ z2918) (h1 : z2918 ≤ f_st) (h2 : z2918 < f_st) (h3 : 1 ≤ f_st) (h4 : f_st ≤ n_1852) (h5 : f_st ≤ n_1856) (h6 : 1 ≤ f_st ∧ f_st ≤ 46656) (h7 : 0 ≤ n_1852 ∧ n_1852 ≤ 93312) (h8 : 0 ≤ n_1856 ∧ n_1856 ≤ 93312) (h9 : 0 ≤ z2918 ∧ z2918 ≤ 46655) (h10 : 0 ≤ z2919 ∧ z2919 ≤ 46656) : (z2919 + 1) ≤ (z2918 + 1) := by omega
theorem vc_X4_leadBack_49 {f_st n_1852 n_1856 : Int} (h0 : 1 ≤ f_st) (h1 : f_st ≤ n_1852) (h2 : f_st ≤ n_1856) (h3 : 1 ≤ f_st ∧ f_st ≤ 46656) (h4 : 0 ≤ n_1852 ∧ n_1852 ≤ 93312) (h5 : 0 ≤ n_1856 ∧ n_1856 ≤ 93312) : (0 : Int) ≤ f_st := by omega
set_option maxRecDepth 4000 in
set_option maxHeartbeats 4000000 in
theorem c_X4_leadBack {l : Launch} {D : va_G} {c : Nat → ClassId} {H0 : Heap} {sa : Nat × Nat × (Nat → Int32)} {w : mW} {μ : mM} (hw : mWF w) (hT : mT w μ) {f_st : Int} (q_f_st : μ 94 9 = f_st) {bq : Nat} (q_bq : μ 94 6 = (bq : Int)) (hA_bq : mAt w bq 102) {bf : Nat} (q_bf : μ 94 8 = (bf : Int)) (hA_bf : mAt w bf 104) (hq0 : 1 ≤ f_st) (hlq : μ 94 9 ≤ (w.2.2.1 bq : Int)) (hlf : μ 94 9 ≤ (w.2.2.1 bf : Int)) (hrx : radix μ 100 95 f_st) : sC (gG l D c H0 sa) mX4_leadBack 3 0 0 [.ref 94] (mk w μ) (qI w [101999, 102999, 104999] μ (fun z μ1 => (0 ≤ z ∧ z ≤ 46656) ∧ True)) := by
  refine sC.of rfl (by decide) (le_t rfl) ?_
  have ht_f_st : (0 ≤ f_st ∧ f_st ≤ 46656) := by rw [← q_f_st]; exact hT 94 94 (A_94 hw) 9
  have h1 : 1 ≤ f_st ∧ f_st ≤ 46656 := (vc_X12_open_1 hq0 ht_f_st)
  refine mr_lvE (lv' := [(0, .ref 94)]) rfl ?_
  obtain ⟨n_1852, q1853⟩ : ∃ n : Int, (w.2.2.1 bq : Int) = n := ⟨_, rfl⟩
  have h1854 : 0 ≤ n_1852 ∧ n_1852 ≤ 93312 := lnR (m := 93312) q1853 hA_bq rfl
  have h1855 : f_st ≤ n_1852 := lenLe hlq q_f_st q1853
  obtain ⟨n_1856, q1857⟩ : ∃ n : Int, (w.2.2.1 bf : Int) = n := ⟨_, rfl⟩
  have h1858 : 0 ≤ n_1856 ∧ n_1856 ≤ 93312 := lnR (m := 93312) q1857 hA_bf rfl
  have h1859 : f_st ≤ n_1856 := lenLe hlf q_f_st q1857
  obtain ⟨z1860, q1861⟩ : ∃ z, μ 100 ((1 : Int).toNat) = z := ⟨_, rfl⟩
  have h1862 : (0 ≤ z1860 ∧ z1860 ≤ 46656) := by rw [← q1861]; exact hT 100 100 (A_100 hw) ((1 : Int).toNat)
  have h1863 : 1 ≤ z1860 := by have h : 0 < μ 100 ((1 : Int).toNat) := hrx.1.1; rw [q1861] at h; omega
  have h1864 : 1 ≤ z1860 ∧ z1860 ≤ 46656 := (vc_X12_open_1 h1863 h1862)
  obtain ⟨z1865, q1866⟩ : ∃ z, μ 100 ((2 : Int).toNat) = z := ⟨_, rfl⟩
  have h1867 : (0 ≤ z1865 ∧ z1865 ≤ 46656) := by rw [← q1866]; exact hT 100 100 (A_100 hw) ((2 : Int).toNat)
  have h1868 : 1 ≤ z1865 := by have h : 0 < μ 100 ((2 : Int).toNat) := hrx.2.1.1; rw [q1866] at h; omega
  have h1869 : 1 ≤ z1865 ∧ z1865 ≤ 46656 := (vc_X12_open_1 h1868 h1867)
  obtain ⟨z1870, q1871⟩ : ∃ z, μ 100 ((3 : Int).toNat) = z := ⟨_, rfl⟩
  have h1872 : (0 ≤ z1870 ∧ z1870 ≤ 46656) := by rw [← q1871]; exact hT 100 100 (A_100 hw) ((3 : Int).toNat)
  have h1873 : 1 ≤ z1870 := by have h : 0 < μ 100 ((3 : Int).toNat) := hrx.2.2.1.1; rw [q1871] at h; omega
  have h1874 : 1 ≤ z1870 ∧ z1870 ≤ 46656 := (vc_X12_open_1 h1873 h1872)
  obtain ⟨z1875, q1876⟩ : ∃ z, μ 100 ((4 : Int).toNat) = z := ⟨_, rfl⟩
  have h1877 : (0 ≤ z1875 ∧ z1875 ≤ 46656) := by rw [← q1876]; exact hT 100 100 (A_100 hw) ((4 : Int).toNat)
  have h1878 : 1 ≤ z1875 := by have h : 0 < μ 100 ((4 : Int).toNat) := hrx.2.2.2.1.1; rw [q1876] at h; omega
  have h1879 : 1 ≤ z1875 ∧ z1875 ≤ 46656 := (vc_X12_open_1 h1878 h1877)
  obtain ⟨z1880, q1881⟩ : ∃ z, μ 100 ((5 : Int).toNat) = z := ⟨_, rfl⟩
  have h1882 : (0 ≤ z1880 ∧ z1880 ≤ 46656) := by rw [← q1881]; exact hT 100 100 (A_100 hw) ((5 : Int).toNat)
  have h1883 : 1 ≤ z1880 := by have h : 0 < μ 100 ((5 : Int).toNat) := hrx.2.2.2.2.1.1; rw [q1881] at h; omega
  have h1884 : 1 ≤ z1880 ∧ z1880 ≤ 46656 := (vc_X12_open_1 h1883 h1882)
  obtain ⟨z1885, q1886⟩ : ∃ z, μ 100 ((6 : Int).toNat) = z := ⟨_, rfl⟩
  have h1887 : (0 ≤ z1885 ∧ z1885 ≤ 46656) := by rw [← q1886]; exact hT 100 100 (A_100 hw) ((6 : Int).toNat)
  have h1888 : 1 ≤ z1885 := by have h : 0 < μ 100 ((6 : Int).toNat) := hrx.2.2.2.2.2.1; rw [q1886] at h; omega
  have h1889 : 1 ≤ z1885 ∧ z1885 ≤ 46656 := (vc_X12_open_1 h1888 h1887)
  refine mr_iconst (pc := 0) (z := 0) dX4_leadBack_0 ?_
  refine mr_istore_n (pc := 1) (lv' := [(1, iv 0), (0, .ref 94)]) dX4_leadBack_1 rfl (by decide) rfl ?_
  refine mr_iconst (pc := 2) (z := 0) dX4_leadBack_2 ?_
  refine mr_istore_n (pc := 3) (lv' := [(2, iv 0), (1, iv 0), (0, .ref 94)]) dX4_leadBack_3 rfl (by decide) rfl ?_
  have L2921 : ∀ (nL2921 : Nat) (z2919 z2918 : Int) (μ2920 : mM), mT w μ2920 → mF [102999] w μ μ2920 → (0 ≤ z2919 ∧ z2919 ≤ 46656) → (0 ≤ z2918 ∧ z2918 ≤ 46656) → (z2919 ≤ z2918) → (z2918 ≤ f_st) → quC μ2920 bq bf z2919 z2918 1 → (46657 - z2918) < (nL2921 : Int) → sV (gG l D c H0 sa) mX4_leadBack (sRm 3 0 0) (sZ (gG l D c H0 sa) 0 0 (qI w [101999, 102999, 104999] μ (fun z μ1 => (0 ≤ z ∧ z ≤ 46656) ∧ True))) 4 [(0, .ref 94), (1, iv z2919), (2, iv z2918)] [] (mk w μ2920) 0 0 := by
    intro nL2921
    induction nL2921 with
    | zero => intro z2919 z2918 μ2920 T2924 F2925 h2922 h2923 h2927 h2928 R2929 h2930; exact ((vc_X4_leadBack_8 h2930 h2927 h2928 hq0 h1855 h1859 h1 h1854 h1858 h2923 h2922)).elim
    | succ nL2921 ih2931 =>
      intro z2919 z2918 μ2920 T2924 F2925 h2922 h2923 h2927 h2928 R2929 h2930
      refine mr_iload_n (pc := 4) (z := z2918) dX4_leadBack_4 rfl rfl ?_
      refine sv_aload_n (pc := 5) dX4_leadBack_5 rfl rfl ?_
      refine gk_X4_9 (pc := 6) dX4_leadBack_6 wF_X4_59 (A_94 hw) (F2925.f (A_94 hw) rfl q_f_st) ?_
      refine mr_icmp_ge (pc := 9) (tgt := 39) dX4_leadBack_9 (by decide) (r32 h2923 rfl) (r32 h1 rfl) (fun h2945 => ?_) (fun h2945 => ?_)
      · have h2946 : 1 ≤ z2918 ∧ z2918 ≤ 46656 := (vc_X4_leadBack_9 h2945 hq0 h1855 h1859 h2927 h2928 h1 h1854 h1858 h2923 h2922)
        refine mr_iconst (pc := 39) (z := 0) dX4_leadBack_39 ?_
        refine mr_istore_n (pc := 40) (lv' := [(2, iv 0), (0, .ref 94), (1, iv z2919)]) dX4_leadBack_40 rfl (by decide) rfl ?_
        have L3394 : ∀ (nL3394 : Nat) (z3392 z3391 : Int) (μ3393 : mM), mT w μ3393 → mF [101999, 102999, 104999] w μ2920 μ3393 → (0 ≤ z3392 ∧ z3392 ≤ 46656) → (0 ≤ z3391 ∧ z3391 ≤ 46656) → (z3391 ≤ z3392) → quC μ3393 bq bf z3392 f_st 1 → (46657 - z3391) < (nL3394 : Int) → sV (gG l D c H0 sa) mX4_leadBack (sRm 3 0 0) (sZ (gG l D c H0 sa) 0 0 (qI w [101999, 102999, 104999] μ (fun z μ1 => (0 ≤ z ∧ z ≤ 46656) ∧ True))) 41 [(0, .ref 94), (1, iv z3392), (2, iv z3391)] [] (mk w μ3393) 0 0 := by
          intro nL3394
          induction nL3394 with
          | zero => intro z3392 z3391 μ3393 T3397 F3398 h3395 h3396 h3400 R3401 h3402; exact ((vc_X4_leadBack_11 h3402 h3400 h3396 h3395)).elim
          | succ nL3394 ih3403 =>
            intro z3392 z3391 μ3393 T3397 F3398 h3395 h3396 h3400 R3401 h3402
            refine mr_iload_n (pc := 41) (z := z3391) dX4_leadBack_41 rfl rfl ?_
            have h3404 : z3392 ≤ f_st := quC.pig R3401 (vc_X4_leadBack_12 hq0 h1855 h1859 h2928 h2945 h2927 h1 h1854 h1858 h2946 h2922)
            refine mr_iload_n (pc := 42) (z := z3392) dX4_leadBack_42 rfl rfl ?_
            refine mr_icmp_ge (pc := 43) (tgt := 74) dX4_leadBack_43 (by decide) (r32 h3396 rfl) (r32 h3395 rfl) (fun h3438 => ?_) (fun h3438 => ?_)
            · refine mr_iload_n (pc := 74) (z := z3392) dX4_leadBack_74 rfl rfl ?_
              exact mr_iret dX4_leadBack_75 rfl (le_t rfl) (le_t rfl) T3397 (mF.call (mF.call mF.refl F2925 rfl) F3398 rfl) ⟨h3395, trivial⟩
            have h3439 : 0 ≤ z3391 ∧ z3391 ≤ 46655 := (vc_X4_leadBack_13 h3438 h3400 h3404 h1 h3396 h3395)
            have h3440 : 1 ≤ z3392 ∧ z3392 ≤ 46656 := (vc_X4_leadBack_14 h3438 h3400 h3404 h1 h3439 h3395)
            refine sv_aload_n (pc := 46) dX4_leadBack_46 rfl rfl ?_
            refine sv_aload_n (pc := 47) dX4_leadBack_47 rfl rfl ?_
            refine gk_X4_6 (pc := 48) dX4_leadBack_48 wF_X4_33 (A_94 hw) (F3398.f (A_94 hw) rfl (F2925.f (A_94 hw) rfl q_bq)) ?_
            refine mr_iload_n (pc := 51) (z := z3391) dX4_leadBack_51 rfl rfl ?_
            refine la_102 (pc := 52) dX4_leadBack_52 hA_bq T3397 (lnC q1853 (vc_X4_leadBack_15 h1855 h3400 h3438 hq0 h1859 h2928 h2945 h3404 h1 h1854 h1858 h2946 h3439 h3440)) fun z3441 q3442 h3443 => ?_
            have h3444 : 0 ≤ z3441 ∧ z3441 < f_st := quC.st R3401 (vc_X4_leadBack_16 h3400 h3438 h3404 h1 h3439 h3440) (vc_X4_leadBack_17 h3400 h3404 h3438 hq0 h1855 h1859 h2928 h2945 h1 h1854 h1858 h2946 h3439 h3440) q3442
            obtain ⟨z3445, q3446⟩ : ∃ z, μ3393 95 ((1 : Int).toNat) = z := ⟨_, rfl⟩
            have h3447 : (0 ≤ z3445 ∧ z3445 ≤ 5) := by rw [← q3446]; exact T3397 95 95 (A_95 hw) ((1 : Int).toNat)
            obtain ⟨z3448, q3449⟩ : ∃ z, μ3393 95 ((2 : Int).toNat) = z := ⟨_, rfl⟩
            have h3450 : (0 ≤ z3448 ∧ z3448 ≤ 5) := by rw [← q3449]; exact T3397 95 95 (A_95 hw) ((2 : Int).toNat)
            obtain ⟨z3451, q3452⟩ : ∃ z, μ3393 95 ((3 : Int).toNat) = z := ⟨_, rfl⟩
            have h3453 : (0 ≤ z3451 ∧ z3451 ≤ 5) := by rw [← q3452]; exact T3397 95 95 (A_95 hw) ((3 : Int).toNat)
            obtain ⟨z3454, q3455⟩ : ∃ z, μ3393 95 ((4 : Int).toNat) = z := ⟨_, rfl⟩
            have h3456 : (0 ≤ z3454 ∧ z3454 ≤ 5) := by rw [← q3455]; exact T3397 95 95 (A_95 hw) ((4 : Int).toNat)
            obtain ⟨z3457, q3458⟩ : ∃ z, μ3393 95 ((5 : Int).toNat) = z := ⟨_, rfl⟩
            have h3459 : (0 ≤ z3457 ∧ z3457 ≤ 5) := by rw [← q3458]; exact T3397 95 95 (A_95 hw) ((5 : Int).toNat)
            obtain ⟨z3460, q3461⟩ : ∃ z, μ3393 95 ((6 : Int).toNat) = z := ⟨_, rfl⟩
            have h3462 : (0 ≤ z3460 ∧ z3460 ≤ 5) := by rw [← q3461]; exact T3397 95 95 (A_95 hw) ((6 : Int).toNat)
            refine mr_cVV (pc := 53) (c_X4_unfold_r hw T3397 h3443 (F3398.f (A_100 hw) rfl (F2925.f (A_100 hw) rfl q1861)) (F3398.f (A_100 hw) rfl (F2925.f (A_100 hw) rfl q1866)) (F3398.f (A_100 hw) rfl (F2925.f (A_100 hw) rfl q1871)) (F3398.f (A_100 hw) rfl (F2925.f (A_100 hw) rfl q1876)) (F3398.f (A_100 hw) rfl (F2925.f (A_100 hw) rfl q1881)) (F3398.f (A_100 hw) rfl (F2925.f (A_100 hw) rfl q1886)) q3446 q3449 q3452 q3455 q3458 q3461 (vc_X12_isRest_7 h1863 h1864) (vc_X12_isRest_7 h1868 h1869) (vc_X12_isRest_7 h1873 h1874) (vc_X12_isRest_7 h1878 h1879) (vc_X12_isRest_7 h1883 h1884) (vc_X12_isRest_7 h1888 h1889)) (gOk _ _ _ _ _) dX4_leadBack_53 (tX4_unfold _ _ _ _ _) ⟨wV_X4_unfold, wL_X4_unfold⟩ wM_X4_85 (gCX4 _ _ _ _ _) rfl (A_94 hw) rfl ⟨le_t rfl, le_t rfl⟩ ⟨le_t rfl, le_t rfl⟩ rfl (le_t rfl) fun μ3463 T3464 F3465 h3466 => ?_
            refine sv_aload_n (pc := 56) dX4_leadBack_56 rfl rfl ?_
            refine sv_aload_n (pc := 57) dX4_leadBack_57 rfl rfl ?_
            refine gk_X4_6 (pc := 58) dX4_leadBack_58 wF_X4_33 (A_94 hw) (F3465.f (A_94 hw) rfl (F3398.f (A_94 hw) rfl (F2925.f (A_94 hw) rfl q_bq))) ?_
            refine mr_iload_n (pc := 61) (z := z3391) dX4_leadBack_61 rfl rfl ?_
            refine lk_102 (pc := 62) dX4_leadBack_62 hA_bq (lnC q1853 (vc_X4_leadBack_24 h1855 h3400 h3438 hq0 h1859 h2928 h2945 h3404 h3444 h1 h1854 h1858 h2946 h3439 h3440 h3443)) (F3465.f hA_bq rfl q3442) ?_
            have h3467 : 0 ≤ z3441 ∧ z3441 < f_st := quC.st (quC.keep R3401 ((mF.call mF.refl F3465 rfl) : mF [101999] w μ3393 μ3463) hA_bq hA_bf (fun _ => rfl) (fun _ => rfl)) (vc_X4_leadBack_16 h3400 h3438 h3404 h1 h3439 h3440) (vc_X4_leadBack_25 h3400 h3404 h3438 hq0 h1855 h1859 h2928 h2945 h3444 h1 h1854 h1858 h2946 h3439 h3440 h3443) (F3465.f hA_bq rfl q3442)
            refine mr_iload_n (pc := 63) (z := z3392) dX4_leadBack_63 rfl rfl ?_
            refine mr_cVI (pc := 64) (c_X4_addSources hw T3464 h3443 (rW (c := 0) (d := 46656) h3440 rfl) (F3465.f (A_94 hw) rfl (F3398.f (A_94 hw) rfl (F2925.f (A_94 hw) rfl q_f_st))) (F3465.f (A_94 hw) rfl (F3398.f (A_94 hw) rfl (F2925.f (A_94 hw) rfl q_bq))) hA_bq (F3465.f (A_94 hw) rfl (F3398.f (A_94 hw) rfl (F2925.f (A_94 hw) rfl q_bf))) hA_bf (vc_X4_leadBack_26 hq0 h1855 h1859 h2928 h2945 h3404 h3444 h2927 h3400 h3438 h1 h1854 h1858 h2946 h2922 h3439 h3440 h3443) (lenGe (F3465.f (A_94 hw) rfl (F3398.f (A_94 hw) rfl (F2925.f (A_94 hw) rfl q_f_st))) q1853 (vc_X4_leadBack_27 hq0 h1855 h1859 h2928 h2945 h3404 h3444 h2927 h3400 h3438 h1 h1854 h1858 h2946 h2922 h3439 h3440 h3443)) (lenGe (F3465.f (A_94 hw) rfl (F3398.f (A_94 hw) rfl (F2925.f (A_94 hw) rfl q_f_st))) q1857 (vc_X4_leadBack_28 hq0 h1855 h1859 h2928 h2945 h3404 h3444 h2927 h3400 h3438 h1 h1854 h1858 h2946 h2922 h3439 h3440 h3443)) (radix.keep hrx ((mF.call (mF.call (mF.call mF.refl F2925 rfl) F3398 rfl) F3465 rfl) : mF [101999, 102999, 104999] w μ μ3463) (A_100 hw) (A_95 hw) (fun _ => rfl) (fun _ => rfl)) h3466.1 (quC.keep R3401 ((mF.call mF.refl F3465 rfl) : mF [101999] w μ3393 μ3463) hA_bq hA_bf (fun _ => rfl) (fun _ => rfl))) (gOk _ _ _ _ _) dX4_leadBack_64 (tX4_addSources _ _ _ _ _) ⟨wV_X4_addSources, wL_X4_addSources⟩ wM_X4_127 (gCX4 _ _ _ _ _) rfl (A_94 hw) rfl ⟨le_t rfl, le_t rfl⟩ ⟨le_t rfl, le_t rfl⟩ rfl (le_t rfl) fun z3472 μ3468 T3469 F3470 h3471 => ?_
            have h3473 : 1 ≤ z3472 ∧ z3472 ≤ 46656 := (vc_X4_leadBack_29 h3471.2.1 h3400 h3404 h3438 h1 h3439 h3440 h3471.1)
            refine mr_istore_n (pc := 67) (lv' := [(1, iv z3472), (0, .ref 94), (2, iv z3391)]) dX4_leadBack_67 rfl (by decide) rfl ?_
            refine mr_iinc (pc := 68) (lv' := [(2, iv (z3391 + 1)), (1, iv z3472), (0, .ref 94)]) dX4_leadBack_68 rfl (by decide) rfl ?_
            refine sv_goto (pc := 71) (tgt := 41) dX4_leadBack_71 (by decide) ?_
            refine mr_lvS (lv' := [(0, .ref 94), (1, iv z3472), (2, iv (z3391 + 1))]) (List.forall_mem_cons.mpr ⟨rfl, List.forall_mem_cons.mpr ⟨rfl, List.forall_mem_cons.mpr ⟨rfl, fun _ h => absurd h List.not_mem_nil⟩⟩⟩) ?_
            exact ih3403 z3472 (z3391 + 1) μ3468 T3469 (mF.call (mF.call (mF.call mF.refl F3398 rfl) F3465 rfl) F3470 rfl) (rW (c := 0) (d := 46656) h3473 rfl) (rW (c := 0) (d := 46656) (rAdd (e := 1) (f := 46656) h3439 (rR (x := 1)) rfl) rfl) (vc_X4_leadBack_30 h3400 h3438 h3471.2.1 h3404 h1 h3439 h3440 h3473) h3471.2.2.1 (vc_X4_leadBack_31 (nS h3402) h3400 h3438 h3404 h3471.2.1 h1 h3439 h3440 h3473)
        refine mr_lvS (lv' := [(0, .ref 94), (1, iv z2919), (2, iv 0)]) (List.forall_mem_cons.mpr ⟨rfl, List.forall_mem_cons.mpr ⟨rfl, List.forall_mem_cons.mpr ⟨rfl, fun _ h => absurd h List.not_mem_nil⟩⟩⟩) ?_
        exact L3394 46658 z2919 0 μ2920 T2924 mF.refl h2922 (rW (c := 0) (d := 46656) (rR (x := 0)) rfl) (vc_X4_leadBack_32 h2927 h2928 h2945 h1 h2946 h2922) (quC.up R2929 (vc_X4_leadBack_10 hq0 h1855 h1859 h2927 h2928 h2945 h1 h1854 h1858 h2946 h2922)) vc_X12_rests_19
      have h3474 : 0 ≤ z2918 ∧ z2918 ≤ 46655 := (vc_X4_leadBack_34 h2945 hq0 h1855 h1859 h2927 h2928 h1 h1854 h1858 h2923 h2922)
      refine sv_aload_n (pc := 12) dX4_leadBack_12 rfl rfl ?_
      refine gk_X4_8 (pc := 13) dX4_leadBack_13 wF_X4_39 (A_94 hw) (F2925.f (A_94 hw) rfl q_bf) ?_
      refine mr_iload_n (pc := 16) (z := z2918) dX4_leadBack_16 rfl rfl ?_
      refine la_104 (pc := 17) dX4_leadBack_17 hA_bf T2924 (lnC q1857 (vc_X4_leadBack_35 h1859 h2927 h2928 h2945 hq0 h1855 h1 h1854 h1858 h3474 h2922)) fun z3475 q3476 h3477 => ?_
      refine mr_iconst (pc := 18) (z := 2) dX4_leadBack_18 ?_
      refine mr_iand (pc := 19) (x := z3475) (y := 2) dX4_leadBack_19 ?_
      refine mr_gen (P := fun z => 0 ≤ z ∧ z ≤ 2) (rAndR (rR (x := 2)) rfl) fun z3478 q3479 h3480 => ?_
      refine mr_if_eq (pc := 20) (tgt := 33) dX4_leadBack_20 (by decide) (r32 h3480 rfl) (fun h3481 => ?_) (fun h3481 => ?_)
      · have h3482 : 0 ≤ z3478 ∧ z3478 ≤ 0 := (vc_X12_provides_4 h3481 h3480)
        refine mr_iinc (pc := 33) (lv' := [(2, iv (z2918 + 1)), (0, .ref 94), (1, iv z2919)]) dX4_leadBack_33 rfl (by decide) rfl ?_
        refine sv_goto (pc := 36) (tgt := 4) dX4_leadBack_36 (by decide) ?_
        refine mr_lvS (lv' := [(0, .ref 94), (1, iv z2919), (2, iv (z2918 + 1))]) (List.forall_mem_cons.mpr ⟨rfl, List.forall_mem_cons.mpr ⟨rfl, List.forall_mem_cons.mpr ⟨rfl, fun _ h => absurd h List.not_mem_nil⟩⟩⟩) ?_
        exact ih2931 z2919 (z2918 + 1) μ2920 T2924 (mF.call mF.refl F2925 rfl) h2922 (rW (c := 0) (d := 46656) (rAdd (e := 1) (f := 46656) h3474 (rR (x := 1)) rfl) rfl) (vc_X4_leadBack_37 h2927 h2928 h2945 hq0 h1855 h1859 h1 h1854 h1858 h3474 h2922) (vc_X4_leadBack_38 hq0 h1855 h1859 h2927 h2928 h2945 h1 h1854 h1858 h3474 h2922) (quC.up R2929 (vc_X4_leadBack_40 h2927 h2928 h2945 hq0 h1855 h1859 h1 h1854 h1858 h3474 h2922)) (vc_X4_leadBack_39 (nS h2930) h2927 h2928 h2945 hq0 h1855 h1859 h1 h1854 h1858 h3474 h2922)
      have h3483 : 1 ≤ z3478 ∧ z3478 ≤ 2 := (vc_X12_provides_3 h3481 h3480)
      refine sv_aload_n (pc := 23) dX4_leadBack_23 rfl rfl ?_
      refine gk_X4_6 (pc := 24) dX4_leadBack_24 wF_X4_33 (A_94 hw) (F2925.f (A_94 hw) rfl q_bq) ?_
      refine mr_iload_n (pc := 27) (z := z2919) dX4_leadBack_27 rfl rfl ?_
      refine mr_iload_n (pc := 28) (z := z2918) dX4_leadBack_28 rfl rfl ?_
      refine ss_102 (pc := 29) dX4_leadBack_29 hA_bq T2924 (lnC q1853 (vc_X4_leadBack_43 h1855 h2927 hq0 h1859 h2928 h2945 h1 h1854 h1858 h3474 h2922)) h3474 fun μ3484 u3485 T3486 => ?_
      have Q3487 := quA.add R2929 (mAt.ne hA_bq hA_bf rfl) (vc_X4_leadBack_44 h2927 h2928 h2945 h1 h3474 h2922) (vc_X4_leadBack_45 h2927 h2928 h2945 hq0 h1855 h1859 h1 h1854 h1858 h3474 h2922) q3476 (flagA q3479 (vc_X4_leadBack_42 h3481 h3483)) u3485
      refine mr_iinc (pc := 30) (lv' := [(1, iv (z2919 + 1)), (0, .ref 94), (2, iv z2918)]) dX4_leadBack_30 rfl (by decide) rfl ?_
      refine mr_iinc (pc := 33) (lv' := [(2, iv (z2918 + 1)), (1, iv (z2919 + 1)), (0, .ref 94)]) dX4_leadBack_33 rfl (by decide) rfl ?_
      refine sv_goto (pc := 36) (tgt := 4) dX4_leadBack_36 (by decide) ?_
      refine mr_lvS (lv' := [(0, .ref 94), (1, iv (z2919 + 1)), (2, iv (z2918 + 1))]) (List.forall_mem_cons.mpr ⟨rfl, List.forall_mem_cons.mpr ⟨rfl, List.forall_mem_cons.mpr ⟨rfl, fun _ h => absurd h List.not_mem_nil⟩⟩⟩) ?_
      exact ih2931 (z2919 + 1) (z2918 + 1) μ3484 T3486 (mF.up (mF.call mF.refl F2925 rfl) hA_bq u3485 rfl) (vc_X4_leadBack_46 h2927 h2928 h2945 h1 h3474 h2922) (rW (c := 0) (d := 46656) (rAdd (e := 1) (f := 46656) h3474 (rR (x := 1)) rfl) rfl) (vc_X4_leadBack_47 h2927 h2928 h2945 hq0 h1855 h1859 h1 h1854 h1858 h3474 h2922) (vc_X4_leadBack_38 hq0 h1855 h1859 h2927 h2928 h2945 h1 h1854 h1858 h3474 h2922) Q3487 (vc_X4_leadBack_39 (nS h2930) h2927 h2928 h2945 hq0 h1855 h1859 h1 h1854 h1858 h3474 h2922)
  refine mr_lvS (lv' := [(0, .ref 94), (1, iv 0), (2, iv 0)]) (List.forall_mem_cons.mpr ⟨rfl, List.forall_mem_cons.mpr ⟨rfl, List.forall_mem_cons.mpr ⟨rfl, fun _ h => absurd h List.not_mem_nil⟩⟩⟩) ?_
  exact L2921 46658 0 0 μ hT mF.refl (rW (c := 0) (d := 46656) (rR (x := 0)) rfl) (rW (c := 0) (d := 46656) (rR (x := 0)) rfl) vc_X12_dropMark_20 (vc_X4_leadBack_49 hq0 h1855 h1859 h1 h1854 h1858) quC.zero vc_X12_rests_19
theorem vc_X4_wayInRest_1 {n_1 p1 : Int} (h0 : p1 < n_1) (h1 : 0 ≤ n_1 ∧ n_1 ≤ 93312) (h2 : 0 ≤ p1 ∧ p1 ≤ 46655) : 0 ≤ p1 ∧ p1 < n_1 := by omega
set_option maxRecDepth 4000 in
set_option maxHeartbeats 4000000 in
theorem c_X4_wayInRest {l : Launch} {D : va_G} {c : Nat → ClassId} {H0 : Heap} {sa : Nat × Nat × (Nat → Int32)} {w : mW} {μ : mM} (hw : mWF w) (hT : mT w μ) {p1 : Int} (hp1 : 0 ≤ p1 ∧ p1 ≤ 46655) {p2 : Int} (hp2 : 1 ≤ p2 ∧ p2 ≤ 6) {br : Nat} (q_br : μ 94 7 = (br : Int)) (hA_br : mAt w br 103) (hix : p1 < (w.2.2.1 br : Int)) : sC (gG l D c H0 sa) mX4_wayInRest 2 0 0 [.ref 94, iv p1, iv p2] (mk w μ) (qP w μ (fun z => ((-2147483648) ≤ z ∧ z ≤ 2147483647) ∧ True)) := by
  refine sC.of rfl (by decide) (le_t rfl) ?_
  refine mr_lvE (lv' := [(0, .ref 94), (1, iv p1), (2, iv p2)]) rfl ?_
  obtain ⟨n_1, q2⟩ : ∃ n : Int, (w.2.2.1 br : Int) = n := ⟨_, rfl⟩
  have h3 : 0 ≤ n_1 ∧ n_1 ≤ 93312 := lnR (m := 93312) q2 hA_br rfl
  have h4 : p1 < n_1 := by rw [← q2]; exact hix
  refine sv_aload_n (pc := 0) dX4_wayInRest_0 rfl rfl ?_
  refine sv_aload_n (pc := 1) dX4_wayInRest_1 rfl rfl ?_
  refine gk_X4_7 (pc := 2) dX4_wayInRest_2 wF_X4_36 (A_94 hw) q_br ?_
  refine mr_iload_n (pc := 5) (z := p1) dX4_wayInRest_5 rfl rfl ?_
  refine la_103 (pc := 6) dX4_wayInRest_6 hA_br hT (lnC q2 (vc_X4_wayInRest_1 h4 h3 hp1)) fun z5 q6 h7 => ?_
  refine mr_iload_n (pc := 7) (z := p2) dX4_wayInRest_7 rfl rfl ?_
  refine mr_cVP (pc := 8) (c_X4_figure hw hT h7 hp2) (gOk _ _ _ _ _) dX4_wayInRest_8 (tX4_figure _ _ _ _ _) ⟨wV_X4_figure, wL_X4_figure⟩ wM_X4_75 (gCX4 _ _ _ _ _) rfl (A_94 hw) rfl ⟨le_t rfl, le_t rfl⟩ ⟨le_t rfl, le_t rfl⟩ rfl (le_t rfl) fun z12 h11 => ?_
  refine mr_istore_n (pc := 11) (lv' := [(3, iv z12), (0, .ref 94), (1, iv p1), (2, iv p2)]) dX4_wayInRest_11 rfl (by decide) rfl ?_
  refine mr_iload_n (pc := 12) (z := z12) dX4_wayInRest_12 rfl rfl ?_
  refine sv_aload_n (pc := 13) dX4_wayInRest_13 rfl rfl ?_
  refine gf_X4_12 (pc := 14) dX4_wayInRest_14 wF_X4_11 (A_94 hw) hT ?_
  refine mr_iload_n (pc := 17) (z := p2) dX4_wayInRest_17 rfl rfl ?_
  refine la_95 (pc := 18) dX4_wayInRest_18 (A_95 hw) hT (rIx (n := 7) hp2 rfl) fun z13 q14 h15 => ?_
  refine mr_icmp_ne (pc := 19) (tgt := 27) dX4_wayInRest_19 (by decide) (r32 h11.1 rfl) (r32 h15 rfl) (fun h16 => ?_) (fun h16 => ?_)
  · refine mr_iload_n (pc := 27) (z := z12) dX4_wayInRest_27 rfl rfl ?_
    exact mr_iretP dX4_wayInRest_28 rfl (le_t rfl) (le_t rfl) ⟨(rW (c := (-2147483648)) (d := 2147483647) h11.1 rfl), trivial⟩
  refine mr_bipush (pc := 22) (z := (-4)) dX4_wayInRest_22 (by decide) ?_
  refine sv_goto (pc := 24) (tgt := 28) dX4_wayInRest_24 (by decide) ?_
  exact mr_iretP dX4_wayInRest_28 rfl (le_t rfl) (le_t rfl) ⟨(rW (c := (-2147483648)) (d := 2147483647) (rR (x := (-4))) rfl), trivial⟩
end
section
/-! The class's reader: what stands in the code row. -/
def preL (μ : mM) (n : Int) (μ1 : mM) : Prop := ∀ k : Nat, (k : Int) < n → μ1 27 k = μ 27 k
theorem preL.refl {μ : mM} {n : Int} : preL μ n μ := fun _ _ => rfl
theorem preL.trans {μ μ1 μ2 : mM} {n m : Int} (h : preL μ n μ1) (g : preL μ1 m μ2) (hm : n ≤ m) : preL μ n μ2 := fun k hk => (g k (by omega)).trans (h k hk)
theorem preL.fr {l : List Nat} {w : mW} {μ μ1 μ2 : mM} {n : Int} (h : preL μ n μ1) (hw : mWF w) (hF : mF l w μ1 μ2) (hl : l.elem 27999 = false) : preL μ n μ2 := fun k hk => (hF.f (z := μ1 27 k) (A_27 hw) hl rfl).trans (h k hk)
theorem preL.up {μ μ1 μ2 : mM} {n e z : Int} (h : preL μ n μ1) (u : mU μ1 27 e.toNat z μ2) (he : 0 ≤ e ∧ n ≤ e) : preL μ n μ2 := fun k hk => (u.2 27 k (Or.inr (by omega))).trans (h k hk)
theorem preL.upO {μ μ1 μ2 : mM} {n z : Int} {a k : Nat} (h : preL μ n μ1) (u : mU μ1 a k z μ2) (ha : 27 ≠ a) : preL μ n μ2 := fun j hj => (u.2 27 j (Or.inl ha)).trans (h j hj)
theorem preL.f {μ μ1 : mM} {n e z : Int} (h : preL μ n μ1) (he : 0 ≤ e ∧ e < n) (q : μ 27 e.toNat = z) : μ1 27 e.toNat = z := (h e.toNat (by omega)).trans q
theorem preL.le {μ μ1 : mM} {n m : Int} (h : preL μ n μ1) (hm : m ≤ n) : preL μ m μ1 := fun k hk => h k (by omega)
def argA (μ : mM) (b k : Int) : Prop := ∀ i : Int, 0 ≤ i → i < k → 0 ≤ μ 27 (b + 2 * i + 1).toNat ∧ μ 27 (b + 2 * i + 1).toNat ≤ 1000000
theorem argA.zero {μ : mM} {b : Int} : argA μ b 0 := fun i h0 h1 => by omega
theorem argA.pre {μ μ1 : mM} {b k n : Int} (h : argA μ b k) (g : preL μ n μ1) (hb : 0 ≤ b) (hn : b + 2 * k ≤ n) : argA μ1 b k := fun i h0 h1 => by
  rw [g _ (by omega)]; exact h i h0 h1
theorem argA.succ {μ : mM} {b k e z : Int} (h : argA μ b k) (he : e = b + 2 * k + 1) (q : μ 27 e.toNat = z) (hz : 0 ≤ z ∧ z ≤ 1000000) : argA μ b (k + 1) := fun i h0 h1 => by
  by_cases hk : i = k
  · rw [hk, ← he, q]; exact hz
  · exact h i h0 (by omega)
theorem argA.up {μ μ1 : mM} {b k e z : Int} (h : argA μ b k) (u : mU μ 27 e.toNat z μ1) (he : 0 ≤ e ∧ e < b) : argA μ1 b k := fun i h0 h1 => by
  rw [u.2 27 _ (Or.inr (by omega))]; exact h i h0 h1
theorem argA.fr {l : List Nat} {w : mW} {μ μ1 : mM} {b k : Int} (h : argA μ b k) (hw : mWF w) (hF : mF l w μ μ1) (hl : l.elem 27999 = false) : argA μ1 b k := fun i h0 h1 => by
  rw [hF.f (z := μ 27 (b + 2 * i + 1).toNat) (A_27 hw) hl rfl]; exact h i h0 h1
def wfF (f : Nat → Int) : Nat → Nat → Prop
  | 0, c => c = 0
  | n + 1, c => ∃ h, wfF f n h ∧ 0 ≤ f h ∧ 0 ≤ f (h + 1) ∧ c = h + 2 + 5 * (f h).toNat + 2 * (f (h + 1)).toNat ∧ ∀ i, i < (f (h + 1)).toNat → 0 ≤ f (h + 2 + 5 * (f h).toNat + 2 * i + 1) ∧ f (h + 2 + 5 * (f h).toNat + 2 * i + 1) ≤ 1000000
theorem wfF.cong {f g : Nat → Int} : ∀ {n c : Nat}, wfF f n c → (∀ k, k < c → g k = f k) → wfF g n c
  | 0, _, h, _ => h
  | n + 1, c, ⟨h, h1, h2, h3, h4, h5⟩, e => by
    have e0 : g h = f h := e h (by omega)
    have e1 : g (h + 1) = f (h + 1) := e (h + 1) (by omega)
    refine ⟨h, wfF.cong h1 (fun k hk => e k (by omega)), by rw [e0]; exact h2, by rw [e1]; exact h3, by rw [e0, e1]; exact h4, fun i hi => ?_⟩
    rw [e1] at hi
    rw [e0, e (h + 2 + 5 * (f h).toNat + 2 * i + 1) (by omega)]
    exact h5 i hi
theorem wfF.toR {f : Nat → Int} {len : Nat} : ∀ {n c m : Nat}, wfF f n c → wfR f len c m → wfR f len 0 (n + m)
  | 0, c, m, h, g => by
    have h : c = 0 := h
    subst h; rw [Nat.zero_add]; exact g
  | n + 1, c, m, ⟨h, h1, h2, h3, h4, h5⟩, g => by
    have hc : c ≤ len := by
      cases m with
      | zero => exact g
      | succ m => have := g.1; omega
    have := wfF.toR (len := len) (m := m + 1) h1 (show wfR f len h (m + 1) from ⟨by omega, h2, h3, by omega, h5, by rw [← h4]; exact g⟩)
    have e : n + 1 + m = n + (m + 1) := by omega
    rw [e]; exact this
theorem wfF.fin {f : Nat → Int} {n c : Nat} (h : wfF f n c) : wfR f c 0 n := by
  have := wfF.toR (len := c) (m := 0) h (Nat.le_refl c)
  rw [Nat.add_zero] at this; exact this
theorem wfF.row {μ μ1 : mM} {n h t k c m : Int} (g : wfF (μ 27) n.toNat h.toNat) (hn : 0 ≤ n) (hh : 0 ≤ h) (p : preL μ h μ1) (e : Int) (he : e = h + 1) (qt : μ1 27 h.toNat = t) (qk : μ1 27 e.toNat = k) (ht : 0 ≤ t) (hk : 0 ≤ k) (b : Int) (hb : b = h + 2 + 5 * t) (ha : argA μ1 b k) (hc : c = b + 2 * k) (hm : m = n + 1) : wfF (μ1 27) m.toNat c.toNat := by
  have e1 : m.toNat = n.toNat + 1 := by omega
  have e2 : h.toNat + 1 = e.toNat := by omega
  rw [e1]
  refine ⟨h.toNat, g.cong (fun j hj => p j (by omega)), by rw [qt]; exact ht, by rw [e2, qk]; exact hk, by rw [e2, qt, qk]; omega, fun i hi => ?_⟩
  rw [e2, qk] at hi
  have := ha i (by omega) (by omega)
  have e3 : (b + 2 * (i : Int) + 1).toNat = h.toNat + 2 + 5 * t.toNat + 2 * i + 1 := by omega
  rw [e3] at this
  rw [qt]; exact this
theorem wfF.zero {f : Nat → Int} {n c : Int} (hn : n = 0) (hc : c = 0) : wfF f n.toNat c.toNat := by subst hn; subst hc; exact rfl
theorem wfF.cg {f : Nat → Int} {n c n' c' : Int} (h : wfF f n.toNat c.toNat) (hn : n' = n) (hc : c' = c) : wfF f n'.toNat c'.toNat := by rw [hn, hc]; exact h
theorem argV {μ : mM} {e x c : Int} (h : 2000 ≤ e ∨ μ 27 e.toNat = x) (he : 1990 ≤ c ∨ e = c + 1) (hx : 0 ≤ x ∧ x ≤ 1000000) : 1990 ≤ c ∨ (0 ≤ μ 27 (c + 1).toNat ∧ μ 27 (c + 1).toNat ≤ 1000000) := by
  rcases he with he | he
  · exact Or.inl he
  · rcases h with h | h
    · exact Or.inl (by omega)
    · rw [← he, h]; exact Or.inr hx
end
section
theorem dX6_readAct_0 : decode cX6_readAct 0 = .ok (.aload_n 0, 1) := dc0 dO_42 (by decide +kernel)
theorem dX6_readAct_1 : decode cX6_readAct 1 = .ok (.getfield 9, 3) := dcU2 dO_180 (by decide +kernel)
theorem dX6_readAct_4 : decode cX6_readAct 4 = .ok (.aload_n 0, 1) := dc0 dO_42 (by decide +kernel)
theorem dX6_readAct_5 : decode cX6_readAct 5 = .ok (.getfield 63, 3) := dcU2 dO_180 (by decide +kernel)
theorem dX6_readAct_8 : decode cX6_readAct 8 = .ok (.iaload, 1) := dc0 dO_46 (by decide +kernel)
theorem dX6_readAct_9 : decode cX6_readAct 9 = .ok (.istore_n 1, 1) := dc0 dO_60 (by decide +kernel)
theorem dX6_readAct_10 : decode cX6_readAct 10 = .ok (.iload_n 1, 1) := dc0 dO_27 (by decide +kernel)
theorem dX6_readAct_11 : decode cX6_readAct 11 = .ok (.invokestatic 127, 3) := dcU2 dO_184 (by decide +kernel)
theorem dX6_readAct_14 : decode cX6_readAct 14 = .ok (.ifCond .ne 9, 3) := dcS2 dO_154 (by decide +kernel)
theorem dX6_readAct_17 : decode cX6_readAct 17 = .ok (.aload_n 0, 1) := dc0 dO_42 (by decide +kernel)
theorem dX6_readAct_18 : decode cX6_readAct 18 = .ok (.iconst 2, 1) := dc0 dO_5 (by decide +kernel)
theorem dX6_readAct_19 : decode cX6_readAct 19 = .ok (.invokevirtual 123, 3) := dcU2 dO_182 (by decide +kernel)
theorem dX6_readAct_22 : decode cX6_readAct 22 = .ok (.return_, 1) := dc0 dO_177 (by decide +kernel)
theorem dX6_readAct_23 : decode cX6_readAct 23 = .ok (.aload_n 0, 1) := dc0 dO_42 (by decide +kernel)
theorem dX6_readAct_24 : decode cX6_readAct 24 = .ok (.invokevirtual 117, 3) := dcU2 dO_182 (by decide +kernel)
theorem dX6_readAct_27 : decode cX6_readAct 27 = .ok (.aload_n 0, 1) := dc0 dO_42 (by decide +kernel)
theorem dX6_readAct_28 : decode cX6_readAct 28 = .ok (.iload_n 1, 1) := dc0 dO_27 (by decide +kernel)
theorem dX6_readAct_29 : decode cX6_readAct 29 = .ok (.invokevirtual 130, 3) := dcU2 dO_182 (by decide +kernel)
theorem dX6_readAct_32 : decode cX6_readAct 32 = .ok (.iload_n 1, 1) := dc0 dO_27 (by decide +kernel)
theorem dX6_readAct_33 : decode cX6_readAct 33 = .ok (.tableswitch 158 12 28 #[97, 112, 158, 158, 158, 158, 158, 158, 158, 158, 158, 158, 158, 83, 83, 126, 140], 83) := by decide +kernel
theorem dX6_readAct_116 : decode cX6_readAct 116 = .ok (.aload_n 0, 1) := dc0 dO_42 (by decide +kernel)
theorem dX6_readAct_117 : decode cX6_readAct 117 = .ok (.aload_n 0, 1) := dc0 dO_42 (by decide +kernel)
theorem dX6_readAct_118 : decode cX6_readAct 118 = .ok (.iconst 0, 1) := dc0 dO_3 (by decide +kernel)
theorem dX6_readAct_119 : decode cX6_readAct 119 = .ok (.ldc 142, 2) := dcU1 dO_18 (by decide +kernel)
theorem dX6_readAct_121 : decode cX6_readAct 121 = .ok (.invokevirtual 143, 3) := dcU2 dO_182 (by decide +kernel)
theorem dX6_readAct_124 : decode cX6_readAct 124 = .ok (.invokevirtual 130, 3) := dcU2 dO_182 (by decide +kernel)
theorem dX6_readAct_127 : decode cX6_readAct 127 = .ok (.goto 69, 3) := dcS2 dO_167 (by decide +kernel)
theorem sfx_cX6_readAct_128 : (cX6_readAct.data.toList.drop 128).take 67 = [0, 69, 42, 42, 3, 17, 3, 232, 182, 0, 143, 182, 0, 130, 167, 0, 54, 42, 42, 3, 18, 147, 182, 0, 143, 182, 0, 130, 167, 0, 40, 42, 42, 4, 16, 9, 182, 0, 143, 182, 0, 130, 167, 0, 26, 42, 42, 3, 42, 180, 0, 56, 4, 100, 182, 0, 143, 182, 0, 130, 167, 0, 8, 42, 3, 182, 0] := by decide +kernel
theorem dX6_readAct_130 : decode cX6_readAct 130 = .ok (.aload_n 0, 1) := dc0 dO_42 (rdB.ch sfx_cX6_readAct_128 2 rfl (by decide +kernel))
theorem dX6_readAct_131 : decode cX6_readAct 131 = .ok (.aload_n 0, 1) := dc0 dO_42 (rdB.ch sfx_cX6_readAct_128 3 rfl (by decide +kernel))
theorem dX6_readAct_132 : decode cX6_readAct 132 = .ok (.iconst 0, 1) := dc0 dO_3 (rdB.ch sfx_cX6_readAct_128 4 rfl (by decide +kernel))
theorem dX6_readAct_133 : decode cX6_readAct 133 = .ok (.sipush 1000, 3) := dcS2 dO_17 (rdS2.ch sfx_cX6_readAct_128 5 rfl (by decide +kernel))
theorem dX6_readAct_136 : decode cX6_readAct 136 = .ok (.invokevirtual 143, 3) := dcU2 dO_182 (rdU2.ch sfx_cX6_readAct_128 8 rfl (by decide +kernel))
theorem dX6_readAct_139 : decode cX6_readAct 139 = .ok (.invokevirtual 130, 3) := dcU2 dO_182 (rdU2.ch sfx_cX6_readAct_128 11 rfl (by decide +kernel))
theorem dX6_readAct_142 : decode cX6_readAct 142 = .ok (.goto 54, 3) := dcS2 dO_167 (rdS2.ch sfx_cX6_readAct_128 14 rfl (by decide +kernel))
theorem dX6_readAct_145 : decode cX6_readAct 145 = .ok (.aload_n 0, 1) := dc0 dO_42 (rdB.ch sfx_cX6_readAct_128 17 rfl (by decide +kernel))
theorem dX6_readAct_146 : decode cX6_readAct 146 = .ok (.aload_n 0, 1) := dc0 dO_42 (rdB.ch sfx_cX6_readAct_128 18 rfl (by decide +kernel))
theorem dX6_readAct_147 : decode cX6_readAct 147 = .ok (.iconst 0, 1) := dc0 dO_3 (rdB.ch sfx_cX6_readAct_128 19 rfl (by decide +kernel))
theorem dX6_readAct_148 : decode cX6_readAct 148 = .ok (.ldc 147, 2) := dcU1 dO_18 (rdU1.ch sfx_cX6_readAct_128 20 rfl (by decide +kernel))
theorem dX6_readAct_150 : decode cX6_readAct 150 = .ok (.invokevirtual 143, 3) := dcU2 dO_182 (rdU2.ch sfx_cX6_readAct_128 22 rfl (by decide +kernel))
theorem dX6_readAct_153 : decode cX6_readAct 153 = .ok (.invokevirtual 130, 3) := dcU2 dO_182 (rdU2.ch sfx_cX6_readAct_128 25 rfl (by decide +kernel))
theorem dX6_readAct_156 : decode cX6_readAct 156 = .ok (.goto 40, 3) := dcS2 dO_167 (rdS2.ch sfx_cX6_readAct_128 28 rfl (by decide +kernel))
theorem dX6_readAct_159 : decode cX6_readAct 159 = .ok (.aload_n 0, 1) := dc0 dO_42 (rdB.ch sfx_cX6_readAct_128 31 rfl (by decide +kernel))
theorem dX6_readAct_160 : decode cX6_readAct 160 = .ok (.aload_n 0, 1) := dc0 dO_42 (rdB.ch sfx_cX6_readAct_128 32 rfl (by decide +kernel))
theorem dX6_readAct_161 : decode cX6_readAct 161 = .ok (.iconst 1, 1) := dc0 dO_4 (rdB.ch sfx_cX6_readAct_128 33 rfl (by decide +kernel))
theorem dX6_readAct_162 : decode cX6_readAct 162 = .ok (.bipush 9, 2) := dcS1 dO_16 (rdS1.ch sfx_cX6_readAct_128 34 rfl (by decide +kernel))
theorem dX6_readAct_164 : decode cX6_readAct 164 = .ok (.invokevirtual 143, 3) := dcU2 dO_182 (rdU2.ch sfx_cX6_readAct_128 36 rfl (by decide +kernel))
theorem dX6_readAct_167 : decode cX6_readAct 167 = .ok (.invokevirtual 130, 3) := dcU2 dO_182 (rdU2.ch sfx_cX6_readAct_128 39 rfl (by decide +kernel))
theorem dX6_readAct_170 : decode cX6_readAct 170 = .ok (.goto 26, 3) := dcS2 dO_167 (rdS2.ch sfx_cX6_readAct_128 42 rfl (by decide +kernel))
theorem dX6_readAct_173 : decode cX6_readAct 173 = .ok (.aload_n 0, 1) := dc0 dO_42 (rdB.ch sfx_cX6_readAct_128 45 rfl (by decide +kernel))
theorem dX6_readAct_174 : decode cX6_readAct 174 = .ok (.aload_n 0, 1) := dc0 dO_42 (rdB.ch sfx_cX6_readAct_128 46 rfl (by decide +kernel))
theorem dX6_readAct_175 : decode cX6_readAct 175 = .ok (.iconst 0, 1) := dc0 dO_3 (rdB.ch sfx_cX6_readAct_128 47 rfl (by decide +kernel))
theorem dX6_readAct_176 : decode cX6_readAct 176 = .ok (.aload_n 0, 1) := dc0 dO_42 (rdB.ch sfx_cX6_readAct_128 48 rfl (by decide +kernel))
theorem dX6_readAct_177 : decode cX6_readAct 177 = .ok (.getfield 56, 3) := dcU2 dO_180 (rdU2.ch sfx_cX6_readAct_128 49 rfl (by decide +kernel))
theorem dX6_readAct_180 : decode cX6_readAct 180 = .ok (.iconst 1, 1) := dc0 dO_4 (rdB.ch sfx_cX6_readAct_128 52 rfl (by decide +kernel))
theorem dX6_readAct_181 : decode cX6_readAct 181 = .ok (.isub, 1) := dc0 dO_100 (rdB.ch sfx_cX6_readAct_128 53 rfl (by decide +kernel))
theorem dX6_readAct_182 : decode cX6_readAct 182 = .ok (.invokevirtual 143, 3) := dcU2 dO_182 (rdU2.ch sfx_cX6_readAct_128 54 rfl (by decide +kernel))
theorem dX6_readAct_185 : decode cX6_readAct 185 = .ok (.invokevirtual 130, 3) := dcU2 dO_182 (rdU2.ch sfx_cX6_readAct_128 57 rfl (by decide +kernel))
theorem dX6_readAct_188 : decode cX6_readAct 188 = .ok (.goto 8, 3) := dcS2 dO_167 (rdS2.ch sfx_cX6_readAct_128 60 rfl (by decide +kernel))
theorem dX6_readAct_191 : decode cX6_readAct 191 = .ok (.aload_n 0, 1) := dc0 dO_42 (rdB.ch sfx_cX6_readAct_128 63 rfl (by decide +kernel))
theorem sfx_cX6_readAct_192 : (cX6_readAct.data.toList.drop 192).take 67 = [3, 182, 0, 130, 177] := by decide +kernel
theorem dX6_readAct_192 : decode cX6_readAct 192 = .ok (.iconst 0, 1) := dc0 dO_3 (rdB.ch sfx_cX6_readAct_192 0 rfl (by decide +kernel))
theorem dX6_readAct_193 : decode cX6_readAct 193 = .ok (.invokevirtual 130, 3) := dcU2 dO_182 (rdU2.ch sfx_cX6_readAct_192 1 rfl (by decide +kernel))
theorem dX6_readAct_196 : decode cX6_readAct 196 = .ok (.return_, 1) := dc0 dO_177 (rdB.ch sfx_cX6_readAct_192 4 rfl (by decide +kernel))
theorem dX6_readBranches_0 : decode cX6_readBranches 0 = .ok (.iconst 0, 1) := dc0 dO_3 (by decide +kernel)
theorem dX6_readBranches_1 : decode cX6_readBranches 1 = .ok (.istore_n 2, 1) := dc0 dO_61 (by decide +kernel)
theorem dX6_readBranches_2 : decode cX6_readBranches 2 = .ok (.lconst 0, 1) := dc0 dO_9 (by decide +kernel)
theorem dX6_readBranches_3 : decode cX6_readBranches 3 = .ok (.lstore_n 3, 1) := dc0 dO_66 (by decide +kernel)
theorem dX6_readBranches_4 : decode cX6_readBranches 4 = .ok (.lconst 0, 1) := dc0 dO_9 (by decide +kernel)
theorem dX6_readBranches_5 : decode cX6_readBranches 5 = .ok (.lstore 5, 2) := dcU1 dO_55 (by decide +kernel)
theorem dX6_readBranches_7 : decode cX6_readBranches 7 = .ok (.iconst 1, 1) := dc0 dO_4 (by decide +kernel)
theorem dX6_readBranches_8 : decode cX6_readBranches 8 = .ok (.istore 7, 2) := dcU1 dO_54 (by decide +kernel)
theorem dX6_readBranches_10 : decode cX6_readBranches 10 = .ok (.iconst 0, 1) := dc0 dO_3 (by decide +kernel)
theorem dX6_readBranches_11 : decode cX6_readBranches 11 = .ok (.istore 8, 2) := dcU1 dO_54 (by decide +kernel)
theorem dX6_readBranches_13 : decode cX6_readBranches 13 = .ok (.iload 8, 2) := dcU1 dO_21 (by decide +kernel)
theorem dX6_readBranches_15 : decode cX6_readBranches 15 = .ok (.sipush 1000, 3) := dcS2 dO_17 (by decide +kernel)
theorem dX6_readBranches_18 : decode cX6_readBranches 18 = .ok (.if_icmp .gt 193, 3) := dcS2 dO_163 (by decide +kernel)
theorem dX6_readBranches_21 : decode cX6_readBranches 21 = .ok (.iload 7, 2) := dcU1 dO_21 (by decide +kernel)
theorem dX6_readBranches_23 : decode cX6_readBranches 23 = .ok (.ifCond .eq 188, 3) := dcS2 dO_153 (by decide +kernel)
theorem dX6_readBranches_26 : decode cX6_readBranches 26 = .ok (.iconst 1, 1) := dc0 dO_4 (by decide +kernel)
theorem dX6_readBranches_27 : decode cX6_readBranches 27 = .ok (.istore 9, 2) := dcU1 dO_54 (by decide +kernel)
theorem dX6_readBranches_29 : decode cX6_readBranches 29 = .ok (.lconst 0, 1) := dc0 dO_9 (by decide +kernel)
theorem dX6_readBranches_30 : decode cX6_readBranches 30 = .ok (.lstore 10, 2) := dcU1 dO_55 (by decide +kernel)
theorem dX6_readBranches_32 : decode cX6_readBranches 32 = .ok (.lconst 0, 1) := dc0 dO_9 (by decide +kernel)
theorem dX6_readBranches_33 : decode cX6_readBranches 33 = .ok (.lstore 12, 2) := dcU1 dO_55 (by decide +kernel)
theorem dX6_readBranches_35 : decode cX6_readBranches 35 = .ok (.iconst 0, 1) := dc0 dO_3 (by decide +kernel)
theorem dX6_readBranches_36 : decode cX6_readBranches 36 = .ok (.istore 14, 2) := dcU1 dO_54 (by decide +kernel)
theorem dX6_readBranches_38 : decode cX6_readBranches 38 = .ok (.iload 14, 2) := dcU1 dO_21 (by decide +kernel)
theorem dX6_readBranches_40 : decode cX6_readBranches 40 = .ok (.sipush 1000, 3) := dcS2 dO_17 (by decide +kernel)
theorem dX6_readBranches_43 : decode cX6_readBranches 43 = .ok (.if_icmp .gt 126, 3) := dcS2 dO_163 (by decide +kernel)
theorem dX6_readBranches_46 : decode cX6_readBranches 46 = .ok (.aload_n 0, 1) := dc0 dO_42 (by decide +kernel)
theorem dX6_readBranches_47 : decode cX6_readBranches 47 = .ok (.getfield 9, 3) := dcU2 dO_180 (by decide +kernel)
theorem dX6_readBranches_50 : decode cX6_readBranches 50 = .ok (.aload_n 0, 1) := dc0 dO_42 (by decide +kernel)
theorem dX6_readBranches_51 : decode cX6_readBranches 51 = .ok (.getfield 63, 3) := dcU2 dO_180 (by decide +kernel)
theorem dX6_readBranches_54 : decode cX6_readBranches 54 = .ok (.iaload, 1) := dc0 dO_46 (by decide +kernel)
theorem dX6_readBranches_55 : decode cX6_readBranches 55 = .ok (.invokestatic 190, 3) := dcU2 dO_184 (by decide +kernel)
theorem dX6_readBranches_58 : decode cX6_readBranches 58 = .ok (.ifCond .eq 111, 3) := dcS2 dO_153 (by decide +kernel)
theorem dX6_readBranches_61 : decode cX6_readBranches 61 = .ok (.aload_n 0, 1) := dc0 dO_42 (by decide +kernel)
theorem dX6_readBranches_62 : decode cX6_readBranches 62 = .ok (.getfield 9, 3) := dcU2 dO_180 (by decide +kernel)
theorem dX6_readBranches_65 : decode cX6_readBranches 65 = .ok (.aload_n 0, 1) := dc0 dO_42 (by decide +kernel)
theorem dX6_readBranches_66 : decode cX6_readBranches 66 = .ok (.getfield 63, 3) := dcU2 dO_180 (by decide +kernel)
theorem dX6_readBranches_69 : decode cX6_readBranches 69 = .ok (.iaload, 1) := dc0 dO_46 (by decide +kernel)
theorem dX6_readBranches_70 : decode cX6_readBranches 70 = .ok (.sipush 1040, 3) := dcS2 dO_17 (by decide +kernel)
theorem dX6_readBranches_73 : decode cX6_readBranches 73 = .ok (.if_icmp .ne 11, 3) := dcS2 dO_160 (by decide +kernel)
theorem dX6_readBranches_76 : decode cX6_readBranches 76 = .ok (.aload_n 0, 1) := dc0 dO_42 (by decide +kernel)
theorem dX6_readBranches_77 : decode cX6_readBranches 77 = .ok (.iload_n 1, 1) := dc0 dO_27 (by decide +kernel)
theorem dX6_readBranches_78 : decode cX6_readBranches 78 = .ok (.invokevirtual 193, 3) := dcU2 dO_182 (by decide +kernel)
theorem dX6_readBranches_81 : decode cX6_readBranches 81 = .ok (.goto 7, 3) := dcS2 dO_167 (by decide +kernel)
theorem dX6_readBranches_84 : decode cX6_readBranches 84 = .ok (.aload_n 0, 1) := dc0 dO_42 (by decide +kernel)
theorem dX6_readBranches_85 : decode cX6_readBranches 85 = .ok (.invokevirtual 196, 3) := dcU2 dO_182 (by decide +kernel)
theorem dX6_readBranches_88 : decode cX6_readBranches 88 = .ok (.aload_n 0, 1) := dc0 dO_42 (by decide +kernel)
theorem dX6_readBranches_89 : decode cX6_readBranches 89 = .ok (.invokevirtual 199, 3) := dcU2 dO_182 (by decide +kernel)
theorem dX6_readBranches_92 : decode cX6_readBranches 92 = .ok (.aload_n 0, 1) := dc0 dO_42 (by decide +kernel)
theorem dX6_readBranches_93 : decode cX6_readBranches 93 = .ok (.lload 12, 2) := dcU1 dO_22 (by decide +kernel)
theorem dX6_readBranches_95 : decode cX6_readBranches 95 = .ok (.aload_n 0, 1) := dc0 dO_42 (by decide +kernel)
theorem dX6_readBranches_96 : decode cX6_readBranches 96 = .ok (.getfield 179, 3) := dcU2 dO_180 (by decide +kernel)
theorem dX6_readBranches_99 : decode cX6_readBranches 99 = .ok (.invokevirtual 202, 3) := dcU2 dO_182 (by decide +kernel)
theorem dX6_readBranches_102 : decode cX6_readBranches 102 = .ok (.iload 9, 2) := dcU1 dO_21 (by decide +kernel)
theorem dX6_readBranches_104 : decode cX6_readBranches 104 = .ok (.ifCond .eq 13, 3) := dcS2 dO_153 (by decide +kernel)
theorem dX6_readBranches_107 : decode cX6_readBranches 107 = .ok (.lload 10, 2) := dcU1 dO_22 (by decide +kernel)
theorem dX6_readBranches_109 : decode cX6_readBranches 109 = .ok (.aload_n 0, 1) := dc0 dO_42 (by decide +kernel)
theorem dX6_readBranches_110 : decode cX6_readBranches 110 = .ok (.getfield 179, 3) := dcU2 dO_180 (by decide +kernel)
theorem dX6_readBranches_113 : decode cX6_readBranches 113 = .ok (.lor, 1) := dc0 dO_129 (by decide +kernel)
theorem dX6_readBranches_114 : decode cX6_readBranches 114 = .ok (.goto 5, 3) := dcS2 dO_167 (by decide +kernel)
theorem dX6_readBranches_117 : decode cX6_readBranches 117 = .ok (.lload 10, 2) := dcU1 dO_22 (by decide +kernel)
theorem dX6_readBranches_119 : decode cX6_readBranches 119 = .ok (.lstore 10, 2) := dcU1 dO_55 (by decide +kernel)
theorem dX6_readBranches_121 : decode cX6_readBranches 121 = .ok (.aload_n 0, 1) := dc0 dO_42 (by decide +kernel)
theorem dX6_readBranches_122 : decode cX6_readBranches 122 = .ok (.getfield 186, 3) := dcU2 dO_180 (by decide +kernel)
theorem dX6_readBranches_125 : decode cX6_readBranches 125 = .ok (.ifCond .eq 13, 3) := dcS2 dO_153 (by decide +kernel)
theorem sfx_cX6_readBranches_128 : (cX6_readBranches.data.toList.drop 128).take 67 = [22, 12, 42, 180, 0, 183, 129, 167, 0, 7, 42, 180, 0, 183, 55, 12, 21, 9, 153, 0, 14, 42, 180, 0, 186, 153, 0, 7, 4, 167, 0, 4, 3, 54, 9, 132, 14, 1, 167, 255, 128, 28, 154, 0, 8, 21, 9, 153, 0, 7, 4, 167, 0, 4, 3, 61, 33, 22, 10, 129, 66, 22, 5, 22, 12, 129, 55] := by decide +kernel
theorem dX6_readBranches_128 : decode cX6_readBranches 128 = .ok (.lload 12, 2) := dcU1 dO_22 (rdU1.ch sfx_cX6_readBranches_128 0 rfl (by decide +kernel))
theorem dX6_readBranches_130 : decode cX6_readBranches 130 = .ok (.aload_n 0, 1) := dc0 dO_42 (rdB.ch sfx_cX6_readBranches_128 2 rfl (by decide +kernel))
theorem dX6_readBranches_131 : decode cX6_readBranches 131 = .ok (.getfield 183, 3) := dcU2 dO_180 (rdU2.ch sfx_cX6_readBranches_128 3 rfl (by decide +kernel))
theorem dX6_readBranches_134 : decode cX6_readBranches 134 = .ok (.lor, 1) := dc0 dO_129 (rdB.ch sfx_cX6_readBranches_128 6 rfl (by decide +kernel))
theorem dX6_readBranches_135 : decode cX6_readBranches 135 = .ok (.goto 7, 3) := dcS2 dO_167 (rdS2.ch sfx_cX6_readBranches_128 7 rfl (by decide +kernel))
theorem dX6_readBranches_138 : decode cX6_readBranches 138 = .ok (.aload_n 0, 1) := dc0 dO_42 (rdB.ch sfx_cX6_readBranches_128 10 rfl (by decide +kernel))
theorem dX6_readBranches_139 : decode cX6_readBranches 139 = .ok (.getfield 183, 3) := dcU2 dO_180 (rdU2.ch sfx_cX6_readBranches_128 11 rfl (by decide +kernel))
theorem dX6_readBranches_142 : decode cX6_readBranches 142 = .ok (.lstore 12, 2) := dcU1 dO_55 (rdU1.ch sfx_cX6_readBranches_128 14 rfl (by decide +kernel))
theorem dX6_readBranches_144 : decode cX6_readBranches 144 = .ok (.iload 9, 2) := dcU1 dO_21 (rdU1.ch sfx_cX6_readBranches_128 16 rfl (by decide +kernel))
theorem dX6_readBranches_146 : decode cX6_readBranches 146 = .ok (.ifCond .eq 14, 3) := dcS2 dO_153 (rdS2.ch sfx_cX6_readBranches_128 18 rfl (by decide +kernel))
theorem dX6_readBranches_149 : decode cX6_readBranches 149 = .ok (.aload_n 0, 1) := dc0 dO_42 (rdB.ch sfx_cX6_readBranches_128 21 rfl (by decide +kernel))
theorem dX6_readBranches_150 : decode cX6_readBranches 150 = .ok (.getfield 186, 3) := dcU2 dO_180 (rdU2.ch sfx_cX6_readBranches_128 22 rfl (by decide +kernel))
theorem dX6_readBranches_153 : decode cX6_readBranches 153 = .ok (.ifCond .eq 7, 3) := dcS2 dO_153 (rdS2.ch sfx_cX6_readBranches_128 25 rfl (by decide +kernel))
theorem dX6_readBranches_156 : decode cX6_readBranches 156 = .ok (.iconst 1, 1) := dc0 dO_4 (rdB.ch sfx_cX6_readBranches_128 28 rfl (by decide +kernel))
theorem dX6_readBranches_157 : decode cX6_readBranches 157 = .ok (.goto 4, 3) := dcS2 dO_167 (rdS2.ch sfx_cX6_readBranches_128 29 rfl (by decide +kernel))
theorem dX6_readBranches_160 : decode cX6_readBranches 160 = .ok (.iconst 0, 1) := dc0 dO_3 (rdB.ch sfx_cX6_readBranches_128 32 rfl (by decide +kernel))
theorem dX6_readBranches_161 : decode cX6_readBranches 161 = .ok (.istore 9, 2) := dcU1 dO_54 (rdU1.ch sfx_cX6_readBranches_128 33 rfl (by decide +kernel))
theorem dX6_readBranches_163 : decode cX6_readBranches 163 = .ok (.iinc 14 1, 3) := dcI dO_132 (rdI.ch sfx_cX6_readBranches_128 35 rfl (by decide +kernel))
theorem dX6_readBranches_166 : decode cX6_readBranches 166 = .ok (.goto (-128), 3) := dcS2 dO_167 (rdS2.ch sfx_cX6_readBranches_128 38 rfl (by decide +kernel))
theorem dX6_readBranches_169 : decode cX6_readBranches 169 = .ok (.iload_n 2, 1) := dc0 dO_28 (rdB.ch sfx_cX6_readBranches_128 41 rfl (by decide +kernel))
theorem dX6_readBranches_170 : decode cX6_readBranches 170 = .ok (.ifCond .ne 8, 3) := dcS2 dO_154 (rdS2.ch sfx_cX6_readBranches_128 42 rfl (by decide +kernel))
theorem dX6_readBranches_173 : decode cX6_readBranches 173 = .ok (.iload 9, 2) := dcU1 dO_21 (rdU1.ch sfx_cX6_readBranches_128 45 rfl (by decide +kernel))
theorem dX6_readBranches_175 : decode cX6_readBranches 175 = .ok (.ifCond .eq 7, 3) := dcS2 dO_153 (rdS2.ch sfx_cX6_readBranches_128 47 rfl (by decide +kernel))
theorem dX6_readBranches_178 : decode cX6_readBranches 178 = .ok (.iconst 1, 1) := dc0 dO_4 (rdB.ch sfx_cX6_readBranches_128 50 rfl (by decide +kernel))
theorem dX6_readBranches_179 : decode cX6_readBranches 179 = .ok (.goto 4, 3) := dcS2 dO_167 (rdS2.ch sfx_cX6_readBranches_128 51 rfl (by decide +kernel))
theorem dX6_readBranches_182 : decode cX6_readBranches 182 = .ok (.iconst 0, 1) := dc0 dO_3 (rdB.ch sfx_cX6_readBranches_128 54 rfl (by decide +kernel))
theorem dX6_readBranches_183 : decode cX6_readBranches 183 = .ok (.istore_n 2, 1) := dc0 dO_61 (rdB.ch sfx_cX6_readBranches_128 55 rfl (by decide +kernel))
theorem dX6_readBranches_184 : decode cX6_readBranches 184 = .ok (.lload_n 3, 1) := dc0 dO_33 (rdB.ch sfx_cX6_readBranches_128 56 rfl (by decide +kernel))
theorem dX6_readBranches_185 : decode cX6_readBranches 185 = .ok (.lload 10, 2) := dcU1 dO_22 (rdU1.ch sfx_cX6_readBranches_128 57 rfl (by decide +kernel))
theorem dX6_readBranches_187 : decode cX6_readBranches 187 = .ok (.lor, 1) := dc0 dO_129 (rdB.ch sfx_cX6_readBranches_128 59 rfl (by decide +kernel))
theorem dX6_readBranches_188 : decode cX6_readBranches 188 = .ok (.lstore_n 3, 1) := dc0 dO_66 (rdB.ch sfx_cX6_readBranches_128 60 rfl (by decide +kernel))
theorem dX6_readBranches_189 : decode cX6_readBranches 189 = .ok (.lload 5, 2) := dcU1 dO_22 (rdU1.ch sfx_cX6_readBranches_128 61 rfl (by decide +kernel))
theorem dX6_readBranches_191 : decode cX6_readBranches 191 = .ok (.lload 12, 2) := dcU1 dO_22 (rdU1.ch sfx_cX6_readBranches_128 63 rfl (by decide +kernel))
theorem sfx_cX6_readBranches_192 : (cX6_readBranches.data.toList.drop 192).take 67 = [12, 129, 55, 5, 42, 17, 4, 100, 182, 0, 120, 54, 7, 132, 8, 1, 167, 255, 61, 42, 28, 181, 0, 186, 42, 33, 181, 0, 179, 42, 22, 5, 181, 0, 183, 177] := by decide +kernel
theorem dX6_readBranches_193 : decode cX6_readBranches 193 = .ok (.lor, 1) := dc0 dO_129 (rdB.ch sfx_cX6_readBranches_192 1 rfl (by decide +kernel))
theorem dX6_readBranches_194 : decode cX6_readBranches 194 = .ok (.lstore 5, 2) := dcU1 dO_55 (rdU1.ch sfx_cX6_readBranches_192 2 rfl (by decide +kernel))
theorem dX6_readBranches_196 : decode cX6_readBranches 196 = .ok (.aload_n 0, 1) := dc0 dO_42 (rdB.ch sfx_cX6_readBranches_192 4 rfl (by decide +kernel))
theorem dX6_readBranches_197 : decode cX6_readBranches 197 = .ok (.sipush 1124, 3) := dcS2 dO_17 (rdS2.ch sfx_cX6_readBranches_192 5 rfl (by decide +kernel))
theorem dX6_readBranches_200 : decode cX6_readBranches 200 = .ok (.invokevirtual 120, 3) := dcU2 dO_182 (rdU2.ch sfx_cX6_readBranches_192 8 rfl (by decide +kernel))
theorem dX6_readBranches_203 : decode cX6_readBranches 203 = .ok (.istore 7, 2) := dcU1 dO_54 (rdU1.ch sfx_cX6_readBranches_192 11 rfl (by decide +kernel))
theorem dX6_readBranches_205 : decode cX6_readBranches 205 = .ok (.iinc 8 1, 3) := dcI dO_132 (rdI.ch sfx_cX6_readBranches_192 13 rfl (by decide +kernel))
theorem dX6_readBranches_208 : decode cX6_readBranches 208 = .ok (.goto (-195), 3) := dcS2 dO_167 (rdS2.ch sfx_cX6_readBranches_192 16 rfl (by decide +kernel))
theorem dX6_readBranches_211 : decode cX6_readBranches 211 = .ok (.aload_n 0, 1) := dc0 dO_42 (rdB.ch sfx_cX6_readBranches_192 19 rfl (by decide +kernel))
theorem dX6_readBranches_212 : decode cX6_readBranches 212 = .ok (.iload_n 2, 1) := dc0 dO_28 (rdB.ch sfx_cX6_readBranches_192 20 rfl (by decide +kernel))
theorem dX6_readBranches_213 : decode cX6_readBranches 213 = .ok (.putfield 186, 3) := dcU2 dO_181 (rdU2.ch sfx_cX6_readBranches_192 21 rfl (by decide +kernel))
theorem dX6_readBranches_216 : decode cX6_readBranches 216 = .ok (.aload_n 0, 1) := dc0 dO_42 (rdB.ch sfx_cX6_readBranches_192 24 rfl (by decide +kernel))
theorem dX6_readBranches_217 : decode cX6_readBranches 217 = .ok (.lload_n 3, 1) := dc0 dO_33 (rdB.ch sfx_cX6_readBranches_192 25 rfl (by decide +kernel))
theorem dX6_readBranches_218 : decode cX6_readBranches 218 = .ok (.putfield 179, 3) := dcU2 dO_181 (rdU2.ch sfx_cX6_readBranches_192 26 rfl (by decide +kernel))
theorem dX6_readBranches_221 : decode cX6_readBranches 221 = .ok (.aload_n 0, 1) := dc0 dO_42 (rdB.ch sfx_cX6_readBranches_192 29 rfl (by decide +kernel))
theorem dX6_readBranches_222 : decode cX6_readBranches 222 = .ok (.lload 5, 2) := dcU1 dO_22 (rdU1.ch sfx_cX6_readBranches_192 30 rfl (by decide +kernel))
theorem dX6_readBranches_224 : decode cX6_readBranches 224 = .ok (.putfield 183, 3) := dcU2 dO_181 (rdU2.ch sfx_cX6_readBranches_192 32 rfl (by decide +kernel))
theorem dX6_readBranches_227 : decode cX6_readBranches 227 = .ok (.return_, 1) := dc0 dO_177 (rdB.ch sfx_cX6_readBranches_192 35 rfl (by decide +kernel))
theorem dX6_readGroup_0 : decode cX6_readGroup 0 = .ok (.iload_n 1, 1) := dc0 dO_27 (by decide +kernel)
theorem dX6_readGroup_1 : decode cX6_readGroup 1 = .ok (.bipush 6, 2) := dcS1 dO_16 (by decide +kernel)
theorem dX6_readGroup_3 : decode cX6_readGroup 3 = .ok (.if_icmp .lt 9, 3) := dcS2 dO_161 (by decide +kernel)
theorem dX6_readGroup_6 : decode cX6_readGroup 6 = .ok (.aload_n 0, 1) := dc0 dO_42 (by decide +kernel)
theorem dX6_readGroup_7 : decode cX6_readGroup 7 = .ok (.iconst 4, 1) := dc0 dO_7 (by decide +kernel)
theorem dX6_readGroup_8 : decode cX6_readGroup 8 = .ok (.invokevirtual 123, 3) := dcU2 dO_182 (by decide +kernel)
theorem dX6_readGroup_11 : decode cX6_readGroup 11 = .ok (.return_, 1) := dc0 dO_177 (by decide +kernel)
theorem dX6_readGroup_12 : decode cX6_readGroup 12 = .ok (.aload_n 0, 1) := dc0 dO_42 (by decide +kernel)
theorem dX6_readGroup_13 : decode cX6_readGroup 13 = .ok (.invokevirtual 117, 3) := dcU2 dO_182 (by decide +kernel)
theorem dX6_readGroup_16 : decode cX6_readGroup 16 = .ok (.aload_n 0, 1) := dc0 dO_42 (by decide +kernel)
theorem dX6_readGroup_17 : decode cX6_readGroup 17 = .ok (.iload_n 1, 1) := dc0 dO_27 (by decide +kernel)
theorem dX6_readGroup_18 : decode cX6_readGroup 18 = .ok (.iconst 1, 1) := dc0 dO_4 (by decide +kernel)
theorem dX6_readGroup_19 : decode cX6_readGroup 19 = .ok (.iadd, 1) := dc0 dO_96 (by decide +kernel)
theorem dX6_readGroup_20 : decode cX6_readGroup 20 = .ok (.invokevirtual 176, 3) := dcU2 dO_182 (by decide +kernel)
theorem dX6_readGroup_23 : decode cX6_readGroup 23 = .ok (.aload_n 0, 1) := dc0 dO_42 (by decide +kernel)
theorem dX6_readGroup_24 : decode cX6_readGroup 24 = .ok (.getfield 9, 3) := dcU2 dO_180 (by decide +kernel)
theorem dX6_readGroup_27 : decode cX6_readGroup 27 = .ok (.aload_n 0, 1) := dc0 dO_42 (by decide +kernel)
theorem dX6_readGroup_28 : decode cX6_readGroup 28 = .ok (.getfield 63, 3) := dcU2 dO_180 (by decide +kernel)
theorem dX6_readGroup_31 : decode cX6_readGroup 31 = .ok (.iaload, 1) := dc0 dO_46 (by decide +kernel)
theorem dX6_readGroup_32 : decode cX6_readGroup 32 = .ok (.sipush 1041, 3) := dcS2 dO_17 (by decide +kernel)
theorem dX6_readGroup_35 : decode cX6_readGroup 35 = .ok (.if_icmp .eq 9, 3) := dcS2 dO_159 (by decide +kernel)
theorem dX6_readGroup_38 : decode cX6_readGroup 38 = .ok (.aload_n 0, 1) := dc0 dO_42 (by decide +kernel)
theorem dX6_readGroup_39 : decode cX6_readGroup 39 = .ok (.iconst 2, 1) := dc0 dO_5 (by decide +kernel)
theorem dX6_readGroup_40 : decode cX6_readGroup 40 = .ok (.invokevirtual 123, 3) := dcU2 dO_182 (by decide +kernel)
theorem dX6_readGroup_43 : decode cX6_readGroup 43 = .ok (.return_, 1) := dc0 dO_177 (by decide +kernel)
theorem dX6_readGroup_44 : decode cX6_readGroup 44 = .ok (.aload_n 0, 1) := dc0 dO_42 (by decide +kernel)
theorem dX6_readGroup_45 : decode cX6_readGroup 45 = .ok (.invokevirtual 117, 3) := dcU2 dO_182 (by decide +kernel)
theorem dX6_readGroup_48 : decode cX6_readGroup 48 = .ok (.return_, 1) := dc0 dO_177 (by decide +kernel)
theorem dX6_readHeldIn_0 : decode cX6_readHeldIn 0 = .ok (.aload_n 0, 1) := dc0 dO_42 (by decide +kernel)
theorem dX6_readHeldIn_1 : decode cX6_readHeldIn 1 = .ok (.iconst 0, 1) := dc0 dO_3 (by decide +kernel)
theorem dX6_readHeldIn_2 : decode cX6_readHeldIn 2 = .ok (.sipush 255, 3) := dcS2 dO_17 (by decide +kernel)
theorem dX6_readHeldIn_5 : decode cX6_readHeldIn 5 = .ok (.invokevirtual 143, 3) := dcU2 dO_182 (by decide +kernel)
theorem dX6_readHeldIn_8 : decode cX6_readHeldIn 8 = .ok (.istore_n 2, 1) := dc0 dO_61 (by decide +kernel)
theorem dX6_readHeldIn_9 : decode cX6_readHeldIn 9 = .ok (.iconst 0, 1) := dc0 dO_3 (by decide +kernel)
theorem dX6_readHeldIn_10 : decode cX6_readHeldIn 10 = .ok (.istore_n 3, 1) := dc0 dO_62 (by decide +kernel)
theorem dX6_readHeldIn_11 : decode cX6_readHeldIn 11 = .ok (.iload_n 3, 1) := dc0 dO_29 (by decide +kernel)
theorem dX6_readHeldIn_12 : decode cX6_readHeldIn 12 = .ok (.iconst 3, 1) := dc0 dO_6 (by decide +kernel)
theorem dX6_readHeldIn_13 : decode cX6_readHeldIn 13 = .ok (.if_icmp .ge 30, 3) := dcS2 dO_162 (by decide +kernel)
theorem dX6_readHeldIn_16 : decode cX6_readHeldIn 16 = .ok (.aload_n 0, 1) := dc0 dO_42 (by decide +kernel)
theorem dX6_readHeldIn_17 : decode cX6_readHeldIn 17 = .ok (.sipush 1046, 3) := dcS2 dO_17 (by decide +kernel)
theorem dX6_readHeldIn_20 : decode cX6_readHeldIn 20 = .ok (.invokevirtual 136, 3) := dcU2 dO_182 (by decide +kernel)
theorem dX6_readHeldIn_23 : decode cX6_readHeldIn 23 = .ok (.iload_n 2, 1) := dc0 dO_28 (by decide +kernel)
theorem dX6_readHeldIn_24 : decode cX6_readHeldIn 24 = .ok (.bipush 8, 2) := dcS1 dO_16 (by decide +kernel)
theorem dX6_readHeldIn_26 : decode cX6_readHeldIn 26 = .ok (.ishl, 1) := dc0 dO_120 (by decide +kernel)
theorem dX6_readHeldIn_27 : decode cX6_readHeldIn 27 = .ok (.aload_n 0, 1) := dc0 dO_42 (by decide +kernel)
theorem dX6_readHeldIn_28 : decode cX6_readHeldIn 28 = .ok (.iconst 0, 1) := dc0 dO_3 (by decide +kernel)
theorem dX6_readHeldIn_29 : decode cX6_readHeldIn 29 = .ok (.sipush 255, 3) := dcS2 dO_17 (by decide +kernel)
theorem dX6_readHeldIn_32 : decode cX6_readHeldIn 32 = .ok (.invokevirtual 143, 3) := dcU2 dO_182 (by decide +kernel)
theorem dX6_readHeldIn_35 : decode cX6_readHeldIn 35 = .ok (.ior, 1) := dc0 dO_128 (by decide +kernel)
theorem dX6_readHeldIn_36 : decode cX6_readHeldIn 36 = .ok (.istore_n 2, 1) := dc0 dO_61 (by decide +kernel)
theorem dX6_readHeldIn_37 : decode cX6_readHeldIn 37 = .ok (.iinc 3 1, 3) := dcI dO_132 (by decide +kernel)
theorem dX6_readHeldIn_40 : decode cX6_readHeldIn 40 = .ok (.goto (-29), 3) := dcS2 dO_167 (by decide +kernel)
theorem dX6_readHeldIn_43 : decode cX6_readHeldIn 43 = .ok (.aload_n 0, 1) := dc0 dO_42 (by decide +kernel)
theorem dX6_readHeldIn_44 : decode cX6_readHeldIn 44 = .ok (.sipush 1047, 3) := dcS2 dO_17 (by decide +kernel)
theorem dX6_readHeldIn_47 : decode cX6_readHeldIn 47 = .ok (.invokevirtual 136, 3) := dcU2 dO_182 (by decide +kernel)
theorem dX6_readHeldIn_50 : decode cX6_readHeldIn 50 = .ok (.aload_n 0, 1) := dc0 dO_42 (by decide +kernel)
theorem dX6_readHeldIn_51 : decode cX6_readHeldIn 51 = .ok (.getfield 9, 3) := dcU2 dO_180 (by decide +kernel)
theorem dX6_readHeldIn_54 : decode cX6_readHeldIn 54 = .ok (.aload_n 0, 1) := dc0 dO_42 (by decide +kernel)
theorem dX6_readHeldIn_55 : decode cX6_readHeldIn 55 = .ok (.getfield 63, 3) := dcU2 dO_180 (by decide +kernel)
theorem dX6_readHeldIn_58 : decode cX6_readHeldIn 58 = .ok (.iaload, 1) := dc0 dO_46 (by decide +kernel)
theorem dX6_readHeldIn_59 : decode cX6_readHeldIn 59 = .ok (.bipush (-2), 2) := dcS1 dO_16 (by decide +kernel)
theorem dX6_readHeldIn_61 : decode cX6_readHeldIn 61 = .ok (.if_icmp .ne 21, 3) := dcS2 dO_160 (by decide +kernel)
theorem dX6_readHeldIn_64 : decode cX6_readHeldIn 64 = .ok (.aload_n 0, 1) := dc0 dO_42 (by decide +kernel)
theorem dX6_readHeldIn_65 : decode cX6_readHeldIn 65 = .ok (.getfield 15, 3) := dcU2 dO_180 (by decide +kernel)
theorem dX6_readHeldIn_68 : decode cX6_readHeldIn 68 = .ok (.aload_n 0, 1) := dc0 dO_42 (by decide +kernel)
theorem dX6_readHeldIn_69 : decode cX6_readHeldIn 69 = .ok (.getfield 63, 3) := dcU2 dO_180 (by decide +kernel)
theorem dX6_readHeldIn_72 : decode cX6_readHeldIn 72 = .ok (.iaload, 1) := dc0 dO_46 (by decide +kernel)
theorem dX6_readHeldIn_73 : decode cX6_readHeldIn 73 = .ok (.bipush 32, 2) := dcS1 dO_16 (by decide +kernel)
theorem dX6_readHeldIn_75 : decode cX6_readHeldIn 75 = .ok (.if_icmp .gt 7, 3) := dcS2 dO_163 (by decide +kernel)
theorem dX6_readHeldIn_78 : decode cX6_readHeldIn 78 = .ok (.iconst 1, 1) := dc0 dO_4 (by decide +kernel)
theorem dX6_readHeldIn_79 : decode cX6_readHeldIn 79 = .ok (.goto 4, 3) := dcS2 dO_167 (by decide +kernel)
theorem dX6_readHeldIn_82 : decode cX6_readHeldIn 82 = .ok (.iconst 0, 1) := dc0 dO_3 (by decide +kernel)
theorem dX6_readHeldIn_83 : decode cX6_readHeldIn 83 = .ok (.istore_n 3, 1) := dc0 dO_62 (by decide +kernel)
theorem dX6_readHeldIn_84 : decode cX6_readHeldIn 84 = .ok (.iload_n 3, 1) := dc0 dO_29 (by decide +kernel)
theorem dX6_readHeldIn_85 : decode cX6_readHeldIn 85 = .ok (.ifCond .eq 27, 3) := dcS2 dO_153 (by decide +kernel)
theorem dX6_readHeldIn_88 : decode cX6_readHeldIn 88 = .ok (.iload_n 2, 1) := dc0 dO_28 (by decide +kernel)
theorem dX6_readHeldIn_89 : decode cX6_readHeldIn 89 = .ok (.aload_n 0, 1) := dc0 dO_42 (by decide +kernel)
theorem dX6_readHeldIn_90 : decode cX6_readHeldIn 90 = .ok (.getfield 15, 3) := dcU2 dO_180 (by decide +kernel)
theorem dX6_readHeldIn_93 : decode cX6_readHeldIn 93 = .ok (.aload_n 0, 1) := dc0 dO_42 (by decide +kernel)
theorem dX6_readHeldIn_94 : decode cX6_readHeldIn 94 = .ok (.getfield 63, 3) := dcU2 dO_180 (by decide +kernel)
theorem dX6_readHeldIn_97 : decode cX6_readHeldIn 97 = .ok (.iaload, 1) := dc0 dO_46 (by decide +kernel)
theorem dX6_readHeldIn_98 : decode cX6_readHeldIn 98 = .ok (.invokestatic 171, 3) := dcU2 dO_184 (by decide +kernel)
theorem dX6_readHeldIn_101 : decode cX6_readHeldIn 101 = .ok (.iconst (-1), 1) := dc0 dO_2 (by decide +kernel)
theorem dX6_readHeldIn_102 : decode cX6_readHeldIn 102 = .ok (.ixor, 1) := dc0 dO_130 (by decide +kernel)
theorem dX6_readHeldIn_103 : decode cX6_readHeldIn 103 = .ok (.iand, 1) := dc0 dO_126 (by decide +kernel)
theorem dX6_readHeldIn_104 : decode cX6_readHeldIn 104 = .ok (.ifCond .eq 8, 3) := dcS2 dO_153 (by decide +kernel)
theorem dX6_readHeldIn_107 : decode cX6_readHeldIn 107 = .ok (.aload_n 0, 1) := dc0 dO_42 (by decide +kernel)
theorem dX6_readHeldIn_108 : decode cX6_readHeldIn 108 = .ok (.iconst 3, 1) := dc0 dO_6 (by decide +kernel)
theorem dX6_readHeldIn_109 : decode cX6_readHeldIn 109 = .ok (.invokevirtual 123, 3) := dcU2 dO_182 (by decide +kernel)
theorem dX6_readHeldIn_112 : decode cX6_readHeldIn 112 = .ok (.aload_n 0, 1) := dc0 dO_42 (by decide +kernel)
theorem dX6_readHeldIn_113 : decode cX6_readHeldIn 113 = .ok (.iconst 0, 1) := dc0 dO_3 (by decide +kernel)
theorem dX6_readHeldIn_114 : decode cX6_readHeldIn 114 = .ok (.bipush 32, 2) := dcS1 dO_16 (by decide +kernel)
theorem dX6_readHeldIn_116 : decode cX6_readHeldIn 116 = .ok (.invokevirtual 143, 3) := dcU2 dO_182 (by decide +kernel)
theorem dX6_readHeldIn_119 : decode cX6_readHeldIn 119 = .ok (.istore 4, 2) := dcU1 dO_54 (by decide +kernel)
theorem dX6_readHeldIn_121 : decode cX6_readHeldIn 121 = .ok (.aload_n 0, 1) := dc0 dO_42 (by decide +kernel)
theorem dX6_readHeldIn_122 : decode cX6_readHeldIn 122 = .ok (.iconst 5, 1) := dc0 dO_8 (by decide +kernel)
theorem dX6_readHeldIn_123 : decode cX6_readHeldIn 123 = .ok (.invokevirtual 120, 3) := dcU2 dO_182 (by decide +kernel)
theorem dX6_readHeldIn_126 : decode cX6_readHeldIn 126 = .ok (.ifCond .eq 14, 3) := dcS2 dO_153 (by decide +kernel)
theorem sfx_cX6_readHeldIn_128 : (cX6_readHeldIn.data.toList.drop 128).take 67 = [14, 42, 21, 4, 16, 32, 182, 0, 143, 167, 0, 5, 16, 32, 54, 5, 42, 7, 27, 28, 21, 4, 21, 5, 182, 0, 157, 177] := by decide +kernel
theorem dX6_readHeldIn_129 : decode cX6_readHeldIn 129 = .ok (.aload_n 0, 1) := dc0 dO_42 (rdB.ch sfx_cX6_readHeldIn_128 1 rfl (by decide +kernel))
theorem dX6_readHeldIn_130 : decode cX6_readHeldIn 130 = .ok (.iload 4, 2) := dcU1 dO_21 (rdU1.ch sfx_cX6_readHeldIn_128 2 rfl (by decide +kernel))
theorem dX6_readHeldIn_132 : decode cX6_readHeldIn 132 = .ok (.bipush 32, 2) := dcS1 dO_16 (rdS1.ch sfx_cX6_readHeldIn_128 4 rfl (by decide +kernel))
theorem dX6_readHeldIn_134 : decode cX6_readHeldIn 134 = .ok (.invokevirtual 143, 3) := dcU2 dO_182 (rdU2.ch sfx_cX6_readHeldIn_128 6 rfl (by decide +kernel))
theorem dX6_readHeldIn_137 : decode cX6_readHeldIn 137 = .ok (.goto 5, 3) := dcS2 dO_167 (rdS2.ch sfx_cX6_readHeldIn_128 9 rfl (by decide +kernel))
theorem dX6_readHeldIn_140 : decode cX6_readHeldIn 140 = .ok (.bipush 32, 2) := dcS1 dO_16 (rdS1.ch sfx_cX6_readHeldIn_128 12 rfl (by decide +kernel))
theorem dX6_readHeldIn_142 : decode cX6_readHeldIn 142 = .ok (.istore 5, 2) := dcU1 dO_54 (rdU1.ch sfx_cX6_readHeldIn_128 14 rfl (by decide +kernel))
theorem dX6_readHeldIn_144 : decode cX6_readHeldIn 144 = .ok (.aload_n 0, 1) := dc0 dO_42 (rdB.ch sfx_cX6_readHeldIn_128 16 rfl (by decide +kernel))
theorem dX6_readHeldIn_145 : decode cX6_readHeldIn 145 = .ok (.iconst 4, 1) := dc0 dO_7 (rdB.ch sfx_cX6_readHeldIn_128 17 rfl (by decide +kernel))
theorem dX6_readHeldIn_146 : decode cX6_readHeldIn 146 = .ok (.iload_n 1, 1) := dc0 dO_27 (rdB.ch sfx_cX6_readHeldIn_128 18 rfl (by decide +kernel))
theorem dX6_readHeldIn_147 : decode cX6_readHeldIn 147 = .ok (.iload_n 2, 1) := dc0 dO_28 (rdB.ch sfx_cX6_readHeldIn_128 19 rfl (by decide +kernel))
theorem dX6_readHeldIn_148 : decode cX6_readHeldIn 148 = .ok (.iload 4, 2) := dcU1 dO_21 (rdU1.ch sfx_cX6_readHeldIn_128 20 rfl (by decide +kernel))
theorem dX6_readHeldIn_150 : decode cX6_readHeldIn 150 = .ok (.iload 5, 2) := dcU1 dO_21 (rdU1.ch sfx_cX6_readHeldIn_128 22 rfl (by decide +kernel))
theorem dX6_readHeldIn_152 : decode cX6_readHeldIn 152 = .ok (.invokevirtual 157, 3) := dcU2 dO_182 (rdU2.ch sfx_cX6_readHeldIn_128 24 rfl (by decide +kernel))
theorem dX6_readHeldIn_155 : decode cX6_readHeldIn 155 = .ok (.return_, 1) := dc0 dO_177 (rdB.ch sfx_cX6_readHeldIn_128 27 rfl (by decide +kernel))
theorem dX6_readRow_0 : decode cX6_readRow 0 = .ok (.aload_n 0, 1) := dc0 dO_42 (by decide +kernel)
theorem dX6_readRow_1 : decode cX6_readRow 1 = .ok (.getfield 9, 3) := dcU2 dO_180 (by decide +kernel)
theorem dX6_readRow_4 : decode cX6_readRow 4 = .ok (.aload_n 0, 1) := dc0 dO_42 (by decide +kernel)
theorem dX6_readRow_5 : decode cX6_readRow 5 = .ok (.getfield 63, 3) := dcU2 dO_180 (by decide +kernel)
theorem dX6_readRow_8 : decode cX6_readRow 8 = .ok (.iaload, 1) := dc0 dO_46 (by decide +kernel)
theorem dX6_readRow_9 : decode cX6_readRow 9 = .ok (.ifCond .eq 24, 3) := dcS2 dO_153 (by decide +kernel)
theorem dX6_readRow_12 : decode cX6_readRow 12 = .ok (.aload_n 0, 1) := dc0 dO_42 (by decide +kernel)
theorem dX6_readRow_13 : decode cX6_readRow 13 = .ok (.getfield 9, 3) := dcU2 dO_180 (by decide +kernel)
theorem dX6_readRow_16 : decode cX6_readRow 16 = .ok (.aload_n 0, 1) := dc0 dO_42 (by decide +kernel)
theorem dX6_readRow_17 : decode cX6_readRow 17 = .ok (.getfield 63, 3) := dcU2 dO_180 (by decide +kernel)
theorem dX6_readRow_20 : decode cX6_readRow 20 = .ok (.iaload, 1) := dc0 dO_46 (by decide +kernel)
theorem dX6_readRow_21 : decode cX6_readRow 21 = .ok (.invokestatic 127, 3) := dcU2 dO_184 (by decide +kernel)
theorem dX6_readRow_24 : decode cX6_readRow 24 = .ok (.ifCond .ne 9, 3) := dcS2 dO_154 (by decide +kernel)
theorem dX6_readRow_27 : decode cX6_readRow 27 = .ok (.aload_n 0, 1) := dc0 dO_42 (by decide +kernel)
theorem dX6_readRow_28 : decode cX6_readRow 28 = .ok (.iconst 2, 1) := dc0 dO_5 (by decide +kernel)
theorem dX6_readRow_29 : decode cX6_readRow 29 = .ok (.invokevirtual 123, 3) := dcU2 dO_182 (by decide +kernel)
theorem dX6_readRow_32 : decode cX6_readRow 32 = .ok (.return_, 1) := dc0 dO_177 (by decide +kernel)
theorem dX6_readRow_33 : decode cX6_readRow 33 = .ok (.aload_n 0, 1) := dc0 dO_42 (by decide +kernel)
theorem dX6_readRow_34 : decode cX6_readRow 34 = .ok (.getfield 44, 3) := dcU2 dO_180 (by decide +kernel)
theorem dX6_readRow_37 : decode cX6_readRow 37 = .ok (.bipush 30, 2) := dcS1 dO_16 (by decide +kernel)
theorem dX6_readRow_39 : decode cX6_readRow 39 = .ok (.if_icmp .lt 9, 3) := dcS2 dO_161 (by decide +kernel)
theorem dX6_readRow_42 : decode cX6_readRow 42 = .ok (.aload_n 0, 1) := dc0 dO_42 (by decide +kernel)
theorem dX6_readRow_43 : decode cX6_readRow 43 = .ok (.iconst 4, 1) := dc0 dO_7 (by decide +kernel)
theorem dX6_readRow_44 : decode cX6_readRow 44 = .ok (.invokevirtual 123, 3) := dcU2 dO_182 (by decide +kernel)
theorem dX6_readRow_47 : decode cX6_readRow 47 = .ok (.return_, 1) := dc0 dO_177 (by decide +kernel)
theorem dX6_readRow_48 : decode cX6_readRow 48 = .ok (.aload_n 0, 1) := dc0 dO_42 (by decide +kernel)
theorem dX6_readRow_49 : decode cX6_readRow 49 = .ok (.dup, 1) := dc0 dO_89 (by decide +kernel)
theorem dX6_readRow_50 : decode cX6_readRow 50 = .ok (.getfield 44, 3) := dcU2 dO_180 (by decide +kernel)
theorem dX6_readRow_53 : decode cX6_readRow 53 = .ok (.iconst 1, 1) := dc0 dO_4 (by decide +kernel)
theorem dX6_readRow_54 : decode cX6_readRow 54 = .ok (.iadd, 1) := dc0 dO_96 (by decide +kernel)
theorem dX6_readRow_55 : decode cX6_readRow 55 = .ok (.putfield 44, 3) := dcU2 dO_181 (by decide +kernel)
theorem dX6_readRow_58 : decode cX6_readRow 58 = .ok (.aload_n 0, 1) := dc0 dO_42 (by decide +kernel)
theorem dX6_readRow_59 : decode cX6_readRow 59 = .ok (.getfield 47, 3) := dcU2 dO_180 (by decide +kernel)
theorem dX6_readRow_62 : decode cX6_readRow 62 = .ok (.istore_n 1, 1) := dc0 dO_60 (by decide +kernel)
theorem dX6_readRow_63 : decode cX6_readRow 63 = .ok (.aload_n 0, 1) := dc0 dO_42 (by decide +kernel)
theorem dX6_readRow_64 : decode cX6_readRow 64 = .ok (.iconst 0, 1) := dc0 dO_3 (by decide +kernel)
theorem dX6_readRow_65 : decode cX6_readRow 65 = .ok (.invokevirtual 130, 3) := dcU2 dO_182 (by decide +kernel)
theorem dX6_readRow_68 : decode cX6_readRow 68 = .ok (.aload_n 0, 1) := dc0 dO_42 (by decide +kernel)
theorem dX6_readRow_69 : decode cX6_readRow 69 = .ok (.iconst 0, 1) := dc0 dO_3 (by decide +kernel)
theorem dX6_readRow_70 : decode cX6_readRow 70 = .ok (.invokevirtual 130, 3) := dcU2 dO_182 (by decide +kernel)
theorem dX6_readRow_73 : decode cX6_readRow 73 = .ok (.aload_n 0, 1) := dc0 dO_42 (by decide +kernel)
theorem dX6_readRow_74 : decode cX6_readRow 74 = .ok (.iconst 0, 1) := dc0 dO_3 (by decide +kernel)
theorem dX6_readRow_75 : decode cX6_readRow 75 = .ok (.invokevirtual 120, 3) := dcU2 dO_182 (by decide +kernel)
theorem dX6_readRow_78 : decode cX6_readRow 78 = .ok (.istore_n 2, 1) := dc0 dO_61 (by decide +kernel)
theorem dX6_readRow_79 : decode cX6_readRow 79 = .ok (.iload_n 2, 1) := dc0 dO_28 (by decide +kernel)
theorem dX6_readRow_80 : decode cX6_readRow 80 = .ok (.istore_n 3, 1) := dc0 dO_62 (by decide +kernel)
theorem dX6_readRow_81 : decode cX6_readRow 81 = .ok (.iconst 0, 1) := dc0 dO_3 (by decide +kernel)
theorem dX6_readRow_82 : decode cX6_readRow 82 = .ok (.istore 4, 2) := dcU1 dO_54 (by decide +kernel)
theorem dX6_readRow_84 : decode cX6_readRow 84 = .ok (.iload 4, 2) := dcU1 dO_21 (by decide +kernel)
theorem dX6_readRow_86 : decode cX6_readRow 86 = .ok (.sipush 1000, 3) := dcS2 dO_17 (by decide +kernel)
theorem dX6_readRow_89 : decode cX6_readRow 89 = .ok (.if_icmp .ge 33, 3) := dcS2 dO_162 (by decide +kernel)
theorem dX6_readRow_92 : decode cX6_readRow 92 = .ok (.iload_n 3, 1) := dc0 dO_29 (by decide +kernel)
theorem dX6_readRow_93 : decode cX6_readRow 93 = .ok (.ifCond .eq 29, 3) := dcS2 dO_153 (by decide +kernel)
theorem dX6_readRow_96 : decode cX6_readRow 96 = .ok (.aload_n 0, 1) := dc0 dO_42 (by decide +kernel)
theorem dX6_readRow_97 : decode cX6_readRow 97 = .ok (.invokevirtual 133, 3) := dcU2 dO_182 (by decide +kernel)
theorem dX6_readRow_100 : decode cX6_readRow 100 = .ok (.aload_n 0, 1) := dc0 dO_42 (by decide +kernel)
theorem dX6_readRow_101 : decode cX6_readRow 101 = .ok (.getfield 21, 3) := dcU2 dO_180 (by decide +kernel)
theorem dX6_readRow_104 : decode cX6_readRow 104 = .ok (.iload_n 1, 1) := dc0 dO_27 (by decide +kernel)
theorem dX6_readRow_105 : decode cX6_readRow 105 = .ok (.dup2, 1) := dc0 dO_92 (by decide +kernel)
theorem dX6_readRow_106 : decode cX6_readRow 106 = .ok (.iaload, 1) := dc0 dO_46 (by decide +kernel)
theorem dX6_readRow_107 : decode cX6_readRow 107 = .ok (.iconst 1, 1) := dc0 dO_4 (by decide +kernel)
theorem dX6_readRow_108 : decode cX6_readRow 108 = .ok (.iadd, 1) := dc0 dO_96 (by decide +kernel)
theorem dX6_readRow_109 : decode cX6_readRow 109 = .ok (.iastore, 1) := dc0 dO_79 (by decide +kernel)
theorem dX6_readRow_110 : decode cX6_readRow 110 = .ok (.aload_n 0, 1) := dc0 dO_42 (by decide +kernel)
theorem dX6_readRow_111 : decode cX6_readRow 111 = .ok (.iconst 1, 1) := dc0 dO_4 (by decide +kernel)
theorem dX6_readRow_112 : decode cX6_readRow 112 = .ok (.invokevirtual 120, 3) := dcU2 dO_182 (by decide +kernel)
theorem dX6_readRow_115 : decode cX6_readRow 115 = .ok (.istore_n 3, 1) := dc0 dO_62 (by decide +kernel)
theorem dX6_readRow_116 : decode cX6_readRow 116 = .ok (.iinc 4 1, 3) := dcI dO_132 (by decide +kernel)
theorem dX6_readRow_119 : decode cX6_readRow 119 = .ok (.goto (-35), 3) := dcS2 dO_167 (by decide +kernel)
theorem dX6_readRow_122 : decode cX6_readRow 122 = .ok (.iload_n 2, 1) := dc0 dO_28 (by decide +kernel)
theorem dX6_readRow_123 : decode cX6_readRow 123 = .ok (.ifCond .eq 8, 3) := dcS2 dO_153 (by decide +kernel)
theorem dX6_readRow_126 : decode cX6_readRow 126 = .ok (.aload_n 0, 1) := dc0 dO_42 (by decide +kernel)
theorem dX6_readRow_127 : decode cX6_readRow 127 = .ok (.iconst 2, 1) := dc0 dO_5 (by decide +kernel)
theorem sfx_cX6_readRow_128 : (cX6_readRow.data.toList.drop 128).take 67 = [182, 0, 136, 4, 62, 3, 54, 4, 21, 4, 17, 3, 232, 162, 0, 37, 29, 153, 0, 33, 42, 182, 0, 139, 42, 180, 0, 21, 27, 4, 96, 92, 46, 4, 96, 79, 42, 17, 4, 20, 182, 0, 120, 62, 132, 4, 1, 167, 255, 217, 42, 17, 4, 35, 182, 0, 136, 177] := by decide +kernel
theorem dX6_readRow_128 : decode cX6_readRow 128 = .ok (.invokevirtual 136, 3) := dcU2 dO_182 (rdU2.ch sfx_cX6_readRow_128 0 rfl (by decide +kernel))
theorem dX6_readRow_131 : decode cX6_readRow 131 = .ok (.iconst 1, 1) := dc0 dO_4 (rdB.ch sfx_cX6_readRow_128 3 rfl (by decide +kernel))
theorem dX6_readRow_132 : decode cX6_readRow 132 = .ok (.istore_n 3, 1) := dc0 dO_62 (rdB.ch sfx_cX6_readRow_128 4 rfl (by decide +kernel))
theorem dX6_readRow_133 : decode cX6_readRow 133 = .ok (.iconst 0, 1) := dc0 dO_3 (rdB.ch sfx_cX6_readRow_128 5 rfl (by decide +kernel))
theorem dX6_readRow_134 : decode cX6_readRow 134 = .ok (.istore 4, 2) := dcU1 dO_54 (rdU1.ch sfx_cX6_readRow_128 6 rfl (by decide +kernel))
theorem dX6_readRow_136 : decode cX6_readRow 136 = .ok (.iload 4, 2) := dcU1 dO_21 (rdU1.ch sfx_cX6_readRow_128 8 rfl (by decide +kernel))
theorem dX6_readRow_138 : decode cX6_readRow 138 = .ok (.sipush 1000, 3) := dcS2 dO_17 (rdS2.ch sfx_cX6_readRow_128 10 rfl (by decide +kernel))
theorem dX6_readRow_141 : decode cX6_readRow 141 = .ok (.if_icmp .ge 37, 3) := dcS2 dO_162 (rdS2.ch sfx_cX6_readRow_128 13 rfl (by decide +kernel))
theorem dX6_readRow_144 : decode cX6_readRow 144 = .ok (.iload_n 3, 1) := dc0 dO_29 (rdB.ch sfx_cX6_readRow_128 16 rfl (by decide +kernel))
theorem dX6_readRow_145 : decode cX6_readRow 145 = .ok (.ifCond .eq 33, 3) := dcS2 dO_153 (rdS2.ch sfx_cX6_readRow_128 17 rfl (by decide +kernel))
theorem dX6_readRow_148 : decode cX6_readRow 148 = .ok (.aload_n 0, 1) := dc0 dO_42 (rdB.ch sfx_cX6_readRow_128 20 rfl (by decide +kernel))
theorem dX6_readRow_149 : decode cX6_readRow 149 = .ok (.invokevirtual 139, 3) := dcU2 dO_182 (rdU2.ch sfx_cX6_readRow_128 21 rfl (by decide +kernel))
theorem dX6_readRow_152 : decode cX6_readRow 152 = .ok (.aload_n 0, 1) := dc0 dO_42 (rdB.ch sfx_cX6_readRow_128 24 rfl (by decide +kernel))
theorem dX6_readRow_153 : decode cX6_readRow 153 = .ok (.getfield 21, 3) := dcU2 dO_180 (rdU2.ch sfx_cX6_readRow_128 25 rfl (by decide +kernel))
theorem dX6_readRow_156 : decode cX6_readRow 156 = .ok (.iload_n 1, 1) := dc0 dO_27 (rdB.ch sfx_cX6_readRow_128 28 rfl (by decide +kernel))
theorem dX6_readRow_157 : decode cX6_readRow 157 = .ok (.iconst 1, 1) := dc0 dO_4 (rdB.ch sfx_cX6_readRow_128 29 rfl (by decide +kernel))
theorem dX6_readRow_158 : decode cX6_readRow 158 = .ok (.iadd, 1) := dc0 dO_96 (rdB.ch sfx_cX6_readRow_128 30 rfl (by decide +kernel))
theorem dX6_readRow_159 : decode cX6_readRow 159 = .ok (.dup2, 1) := dc0 dO_92 (rdB.ch sfx_cX6_readRow_128 31 rfl (by decide +kernel))
theorem dX6_readRow_160 : decode cX6_readRow 160 = .ok (.iaload, 1) := dc0 dO_46 (rdB.ch sfx_cX6_readRow_128 32 rfl (by decide +kernel))
theorem dX6_readRow_161 : decode cX6_readRow 161 = .ok (.iconst 1, 1) := dc0 dO_4 (rdB.ch sfx_cX6_readRow_128 33 rfl (by decide +kernel))
theorem dX6_readRow_162 : decode cX6_readRow 162 = .ok (.iadd, 1) := dc0 dO_96 (rdB.ch sfx_cX6_readRow_128 34 rfl (by decide +kernel))
theorem dX6_readRow_163 : decode cX6_readRow 163 = .ok (.iastore, 1) := dc0 dO_79 (rdB.ch sfx_cX6_readRow_128 35 rfl (by decide +kernel))
theorem dX6_readRow_164 : decode cX6_readRow 164 = .ok (.aload_n 0, 1) := dc0 dO_42 (rdB.ch sfx_cX6_readRow_128 36 rfl (by decide +kernel))
theorem dX6_readRow_165 : decode cX6_readRow 165 = .ok (.sipush 1044, 3) := dcS2 dO_17 (rdS2.ch sfx_cX6_readRow_128 37 rfl (by decide +kernel))
theorem dX6_readRow_168 : decode cX6_readRow 168 = .ok (.invokevirtual 120, 3) := dcU2 dO_182 (rdU2.ch sfx_cX6_readRow_128 40 rfl (by decide +kernel))
theorem dX6_readRow_171 : decode cX6_readRow 171 = .ok (.istore_n 3, 1) := dc0 dO_62 (rdB.ch sfx_cX6_readRow_128 43 rfl (by decide +kernel))
theorem dX6_readRow_172 : decode cX6_readRow 172 = .ok (.iinc 4 1, 3) := dcI dO_132 (rdI.ch sfx_cX6_readRow_128 44 rfl (by decide +kernel))
theorem dX6_readRow_175 : decode cX6_readRow 175 = .ok (.goto (-39), 3) := dcS2 dO_167 (rdS2.ch sfx_cX6_readRow_128 47 rfl (by decide +kernel))
theorem dX6_readRow_178 : decode cX6_readRow 178 = .ok (.aload_n 0, 1) := dc0 dO_42 (rdB.ch sfx_cX6_readRow_128 50 rfl (by decide +kernel))
theorem dX6_readRow_179 : decode cX6_readRow 179 = .ok (.sipush 1059, 3) := dcS2 dO_17 (rdS2.ch sfx_cX6_readRow_128 51 rfl (by decide +kernel))
theorem dX6_readRow_182 : decode cX6_readRow 182 = .ok (.invokevirtual 136, 3) := dcU2 dO_182 (rdU2.ch sfx_cX6_readRow_128 54 rfl (by decide +kernel))
theorem dX6_readRow_185 : decode cX6_readRow 185 = .ok (.return_, 1) := dc0 dO_177 (rdB.ch sfx_cX6_readRow_128 57 rfl (by decide +kernel))
theorem dX6_readTest_0 : decode cX6_readTest 0 = .ok (.iconst 0, 1) := dc0 dO_3 (by decide +kernel)
theorem dX6_readTest_1 : decode cX6_readTest 1 = .ok (.istore_n 1, 1) := dc0 dO_60 (by decide +kernel)
theorem dX6_readTest_2 : decode cX6_readTest 2 = .ok (.iconst 0, 1) := dc0 dO_3 (by decide +kernel)
theorem dX6_readTest_3 : decode cX6_readTest 3 = .ok (.istore_n 2, 1) := dc0 dO_61 (by decide +kernel)
theorem dX6_readTest_4 : decode cX6_readTest 4 = .ok (.iload_n 2, 1) := dc0 dO_28 (by decide +kernel)
theorem dX6_readTest_5 : decode cX6_readTest 5 = .ok (.sipush 1000, 3) := dcS2 dO_17 (by decide +kernel)
theorem dX6_readTest_8 : decode cX6_readTest 8 = .ok (.if_icmp .ge 21, 3) := dcS2 dO_162 (by decide +kernel)
theorem dX6_readTest_11 : decode cX6_readTest 11 = .ok (.aload_n 0, 1) := dc0 dO_42 (by decide +kernel)
theorem dX6_readTest_12 : decode cX6_readTest 12 = .ok (.iconst 3, 1) := dc0 dO_6 (by decide +kernel)
theorem dX6_readTest_13 : decode cX6_readTest 13 = .ok (.invokevirtual 120, 3) := dcU2 dO_182 (by decide +kernel)
theorem dX6_readTest_16 : decode cX6_readTest 16 = .ok (.ifCond .eq 13, 3) := dcS2 dO_153 (by decide +kernel)
theorem dX6_readTest_19 : decode cX6_readTest 19 = .ok (.iconst 1, 1) := dc0 dO_4 (by decide +kernel)
theorem dX6_readTest_20 : decode cX6_readTest 20 = .ok (.iload_n 1, 1) := dc0 dO_27 (by decide +kernel)
theorem dX6_readTest_21 : decode cX6_readTest 21 = .ok (.isub, 1) := dc0 dO_100 (by decide +kernel)
theorem dX6_readTest_22 : decode cX6_readTest 22 = .ok (.istore_n 1, 1) := dc0 dO_60 (by decide +kernel)
theorem dX6_readTest_23 : decode cX6_readTest 23 = .ok (.iinc 2 1, 3) := dcI dO_132 (by decide +kernel)
theorem dX6_readTest_26 : decode cX6_readTest 26 = .ok (.goto (-22), 3) := dcS2 dO_167 (by decide +kernel)
theorem dX6_readTest_29 : decode cX6_readTest 29 = .ok (.aload_n 0, 1) := dc0 dO_42 (by decide +kernel)
theorem dX6_readTest_30 : decode cX6_readTest 30 = .ok (.getfield 9, 3) := dcU2 dO_180 (by decide +kernel)
theorem dX6_readTest_33 : decode cX6_readTest 33 = .ok (.aload_n 0, 1) := dc0 dO_42 (by decide +kernel)
theorem dX6_readTest_34 : decode cX6_readTest 34 = .ok (.getfield 63, 3) := dcU2 dO_180 (by decide +kernel)
theorem dX6_readTest_37 : decode cX6_readTest 37 = .ok (.iaload, 1) := dc0 dO_46 (by decide +kernel)
theorem dX6_readTest_38 : decode cX6_readTest 38 = .ok (.istore_n 2, 1) := dc0 dO_61 (by decide +kernel)
theorem dX6_readTest_39 : decode cX6_readTest 39 = .ok (.iload_n 2, 1) := dc0 dO_28 (by decide +kernel)
theorem dX6_readTest_40 : decode cX6_readTest 40 = .ok (.invokestatic 148, 3) := dcU2 dO_184 (by decide +kernel)
theorem dX6_readTest_43 : decode cX6_readTest 43 = .ok (.ifCond .ne 9, 3) := dcS2 dO_154 (by decide +kernel)
theorem dX6_readTest_46 : decode cX6_readTest 46 = .ok (.aload_n 0, 1) := dc0 dO_42 (by decide +kernel)
theorem dX6_readTest_47 : decode cX6_readTest 47 = .ok (.iconst 2, 1) := dc0 dO_5 (by decide +kernel)
theorem dX6_readTest_48 : decode cX6_readTest 48 = .ok (.invokevirtual 123, 3) := dcU2 dO_182 (by decide +kernel)
theorem dX6_readTest_51 : decode cX6_readTest 51 = .ok (.return_, 1) := dc0 dO_177 (by decide +kernel)
theorem dX6_readTest_52 : decode cX6_readTest 52 = .ok (.aload_n 0, 1) := dc0 dO_42 (by decide +kernel)
theorem dX6_readTest_53 : decode cX6_readTest 53 = .ok (.invokevirtual 117, 3) := dcU2 dO_182 (by decide +kernel)
theorem dX6_readTest_56 : decode cX6_readTest 56 = .ok (.iload_n 2, 1) := dc0 dO_28 (by decide +kernel)
theorem dX6_readTest_57 : decode cX6_readTest 57 = .ok (.tableswitch 198 4 15 #[63, 198, 71, 198, 79, 97, 132, 198, 176, 198, 115, 154], 63) := by decide +kernel
theorem dX6_readTest_120 : decode cX6_readTest 120 = .ok (.aload_n 0, 1) := dc0 dO_42 (by decide +kernel)
theorem dX6_readTest_121 : decode cX6_readTest 121 = .ok (.iload_n 1, 1) := dc0 dO_27 (by decide +kernel)
theorem dX6_readTest_122 : decode cX6_readTest 122 = .ok (.invokevirtual 151, 3) := dcU2 dO_182 (by decide +kernel)
theorem dX6_readTest_125 : decode cX6_readTest 125 = .ok (.goto 148, 3) := dcS2 dO_167 (by decide +kernel)
theorem sfx_cX6_readTest_128 : (cX6_readTest.data.toList.drop 128).take 67 = [42, 27, 182, 0, 154, 167, 0, 140, 42, 28, 27, 42, 3, 18, 142, 182, 0, 143, 3, 3, 182, 0, 157, 167, 0, 122, 42, 28, 27, 42, 3, 16, 9, 182, 0, 143, 3, 3, 182, 0, 157, 167, 0, 104, 42, 28, 27, 42, 3, 5, 182, 0, 143, 3, 3, 182, 0, 157, 167, 0, 87, 42, 28, 27, 42, 16, 16] := by decide +kernel
theorem dX6_readTest_128 : decode cX6_readTest 128 = .ok (.aload_n 0, 1) := dc0 dO_42 (rdB.ch sfx_cX6_readTest_128 0 rfl (by decide +kernel))
theorem dX6_readTest_129 : decode cX6_readTest 129 = .ok (.iload_n 1, 1) := dc0 dO_27 (rdB.ch sfx_cX6_readTest_128 1 rfl (by decide +kernel))
theorem dX6_readTest_130 : decode cX6_readTest 130 = .ok (.invokevirtual 154, 3) := dcU2 dO_182 (rdU2.ch sfx_cX6_readTest_128 2 rfl (by decide +kernel))
theorem dX6_readTest_133 : decode cX6_readTest 133 = .ok (.goto 140, 3) := dcS2 dO_167 (rdS2.ch sfx_cX6_readTest_128 5 rfl (by decide +kernel))
theorem dX6_readTest_136 : decode cX6_readTest 136 = .ok (.aload_n 0, 1) := dc0 dO_42 (rdB.ch sfx_cX6_readTest_128 8 rfl (by decide +kernel))
theorem dX6_readTest_137 : decode cX6_readTest 137 = .ok (.iload_n 2, 1) := dc0 dO_28 (rdB.ch sfx_cX6_readTest_128 9 rfl (by decide +kernel))
theorem dX6_readTest_138 : decode cX6_readTest 138 = .ok (.iload_n 1, 1) := dc0 dO_27 (rdB.ch sfx_cX6_readTest_128 10 rfl (by decide +kernel))
theorem dX6_readTest_139 : decode cX6_readTest 139 = .ok (.aload_n 0, 1) := dc0 dO_42 (rdB.ch sfx_cX6_readTest_128 11 rfl (by decide +kernel))
theorem dX6_readTest_140 : decode cX6_readTest 140 = .ok (.iconst 0, 1) := dc0 dO_3 (rdB.ch sfx_cX6_readTest_128 12 rfl (by decide +kernel))
theorem dX6_readTest_141 : decode cX6_readTest 141 = .ok (.ldc 142, 2) := dcU1 dO_18 (rdU1.ch sfx_cX6_readTest_128 13 rfl (by decide +kernel))
theorem dX6_readTest_143 : decode cX6_readTest 143 = .ok (.invokevirtual 143, 3) := dcU2 dO_182 (rdU2.ch sfx_cX6_readTest_128 15 rfl (by decide +kernel))
theorem dX6_readTest_146 : decode cX6_readTest 146 = .ok (.iconst 0, 1) := dc0 dO_3 (rdB.ch sfx_cX6_readTest_128 18 rfl (by decide +kernel))
theorem dX6_readTest_147 : decode cX6_readTest 147 = .ok (.iconst 0, 1) := dc0 dO_3 (rdB.ch sfx_cX6_readTest_128 19 rfl (by decide +kernel))
theorem dX6_readTest_148 : decode cX6_readTest 148 = .ok (.invokevirtual 157, 3) := dcU2 dO_182 (rdU2.ch sfx_cX6_readTest_128 20 rfl (by decide +kernel))
theorem dX6_readTest_151 : decode cX6_readTest 151 = .ok (.goto 122, 3) := dcS2 dO_167 (rdS2.ch sfx_cX6_readTest_128 23 rfl (by decide +kernel))
theorem dX6_readTest_154 : decode cX6_readTest 154 = .ok (.aload_n 0, 1) := dc0 dO_42 (rdB.ch sfx_cX6_readTest_128 26 rfl (by decide +kernel))
theorem dX6_readTest_155 : decode cX6_readTest 155 = .ok (.iload_n 2, 1) := dc0 dO_28 (rdB.ch sfx_cX6_readTest_128 27 rfl (by decide +kernel))
theorem dX6_readTest_156 : decode cX6_readTest 156 = .ok (.iload_n 1, 1) := dc0 dO_27 (rdB.ch sfx_cX6_readTest_128 28 rfl (by decide +kernel))
theorem dX6_readTest_157 : decode cX6_readTest 157 = .ok (.aload_n 0, 1) := dc0 dO_42 (rdB.ch sfx_cX6_readTest_128 29 rfl (by decide +kernel))
theorem dX6_readTest_158 : decode cX6_readTest 158 = .ok (.iconst 0, 1) := dc0 dO_3 (rdB.ch sfx_cX6_readTest_128 30 rfl (by decide +kernel))
theorem dX6_readTest_159 : decode cX6_readTest 159 = .ok (.bipush 9, 2) := dcS1 dO_16 (rdS1.ch sfx_cX6_readTest_128 31 rfl (by decide +kernel))
theorem dX6_readTest_161 : decode cX6_readTest 161 = .ok (.invokevirtual 143, 3) := dcU2 dO_182 (rdU2.ch sfx_cX6_readTest_128 33 rfl (by decide +kernel))
theorem dX6_readTest_164 : decode cX6_readTest 164 = .ok (.iconst 0, 1) := dc0 dO_3 (rdB.ch sfx_cX6_readTest_128 36 rfl (by decide +kernel))
theorem dX6_readTest_165 : decode cX6_readTest 165 = .ok (.iconst 0, 1) := dc0 dO_3 (rdB.ch sfx_cX6_readTest_128 37 rfl (by decide +kernel))
theorem dX6_readTest_166 : decode cX6_readTest 166 = .ok (.invokevirtual 157, 3) := dcU2 dO_182 (rdU2.ch sfx_cX6_readTest_128 38 rfl (by decide +kernel))
theorem dX6_readTest_169 : decode cX6_readTest 169 = .ok (.goto 104, 3) := dcS2 dO_167 (rdS2.ch sfx_cX6_readTest_128 41 rfl (by decide +kernel))
theorem dX6_readTest_172 : decode cX6_readTest 172 = .ok (.aload_n 0, 1) := dc0 dO_42 (rdB.ch sfx_cX6_readTest_128 44 rfl (by decide +kernel))
theorem dX6_readTest_173 : decode cX6_readTest 173 = .ok (.iload_n 2, 1) := dc0 dO_28 (rdB.ch sfx_cX6_readTest_128 45 rfl (by decide +kernel))
theorem dX6_readTest_174 : decode cX6_readTest 174 = .ok (.iload_n 1, 1) := dc0 dO_27 (rdB.ch sfx_cX6_readTest_128 46 rfl (by decide +kernel))
theorem dX6_readTest_175 : decode cX6_readTest 175 = .ok (.aload_n 0, 1) := dc0 dO_42 (rdB.ch sfx_cX6_readTest_128 47 rfl (by decide +kernel))
theorem dX6_readTest_176 : decode cX6_readTest 176 = .ok (.iconst 0, 1) := dc0 dO_3 (rdB.ch sfx_cX6_readTest_128 48 rfl (by decide +kernel))
theorem dX6_readTest_177 : decode cX6_readTest 177 = .ok (.iconst 2, 1) := dc0 dO_5 (rdB.ch sfx_cX6_readTest_128 49 rfl (by decide +kernel))
theorem dX6_readTest_178 : decode cX6_readTest 178 = .ok (.invokevirtual 143, 3) := dcU2 dO_182 (rdU2.ch sfx_cX6_readTest_128 50 rfl (by decide +kernel))
theorem dX6_readTest_181 : decode cX6_readTest 181 = .ok (.iconst 0, 1) := dc0 dO_3 (rdB.ch sfx_cX6_readTest_128 53 rfl (by decide +kernel))
theorem dX6_readTest_182 : decode cX6_readTest 182 = .ok (.iconst 0, 1) := dc0 dO_3 (rdB.ch sfx_cX6_readTest_128 54 rfl (by decide +kernel))
theorem dX6_readTest_183 : decode cX6_readTest 183 = .ok (.invokevirtual 157, 3) := dcU2 dO_182 (rdU2.ch sfx_cX6_readTest_128 55 rfl (by decide +kernel))
theorem dX6_readTest_186 : decode cX6_readTest 186 = .ok (.goto 87, 3) := dcS2 dO_167 (rdS2.ch sfx_cX6_readTest_128 58 rfl (by decide +kernel))
theorem dX6_readTest_189 : decode cX6_readTest 189 = .ok (.aload_n 0, 1) := dc0 dO_42 (rdB.ch sfx_cX6_readTest_128 61 rfl (by decide +kernel))
theorem dX6_readTest_190 : decode cX6_readTest 190 = .ok (.iload_n 2, 1) := dc0 dO_28 (rdB.ch sfx_cX6_readTest_128 62 rfl (by decide +kernel))
theorem dX6_readTest_191 : decode cX6_readTest 191 = .ok (.iload_n 1, 1) := dc0 dO_27 (rdB.ch sfx_cX6_readTest_128 63 rfl (by decide +kernel))
theorem sfx_cX6_readTest_192 : (cX6_readTest.data.toList.drop 192).take 67 = [42, 16, 16, 16, 19, 182, 0, 161, 16, 16, 100, 3, 3, 182, 0, 157, 167, 0, 65, 42, 28, 27, 42, 16, 20, 16, 22, 182, 0, 161, 184, 0, 164, 3, 3, 182, 0, 157, 167, 0, 43, 42, 28, 27, 42, 182, 0, 168, 42, 3, 17, 3, 232, 182, 0, 143, 3, 182, 0, 157, 167, 0, 21, 42, 28, 27, 42] := by decide +kernel
theorem dX6_readTest_192 : decode cX6_readTest 192 = .ok (.aload_n 0, 1) := dc0 dO_42 (rdB.ch sfx_cX6_readTest_192 0 rfl (by decide +kernel))
theorem dX6_readTest_193 : decode cX6_readTest 193 = .ok (.bipush 16, 2) := dcS1 dO_16 (rdS1.ch sfx_cX6_readTest_192 1 rfl (by decide +kernel))
theorem dX6_readTest_195 : decode cX6_readTest 195 = .ok (.bipush 19, 2) := dcS1 dO_16 (rdS1.ch sfx_cX6_readTest_192 3 rfl (by decide +kernel))
theorem dX6_readTest_197 : decode cX6_readTest 197 = .ok (.invokevirtual 161, 3) := dcU2 dO_182 (rdU2.ch sfx_cX6_readTest_192 5 rfl (by decide +kernel))
theorem dX6_readTest_200 : decode cX6_readTest 200 = .ok (.bipush 16, 2) := dcS1 dO_16 (rdS1.ch sfx_cX6_readTest_192 8 rfl (by decide +kernel))
theorem dX6_readTest_202 : decode cX6_readTest 202 = .ok (.isub, 1) := dc0 dO_100 (rdB.ch sfx_cX6_readTest_192 10 rfl (by decide +kernel))
theorem dX6_readTest_203 : decode cX6_readTest 203 = .ok (.iconst 0, 1) := dc0 dO_3 (rdB.ch sfx_cX6_readTest_192 11 rfl (by decide +kernel))
theorem dX6_readTest_204 : decode cX6_readTest 204 = .ok (.iconst 0, 1) := dc0 dO_3 (rdB.ch sfx_cX6_readTest_192 12 rfl (by decide +kernel))
theorem dX6_readTest_205 : decode cX6_readTest 205 = .ok (.invokevirtual 157, 3) := dcU2 dO_182 (rdU2.ch sfx_cX6_readTest_192 13 rfl (by decide +kernel))
theorem dX6_readTest_208 : decode cX6_readTest 208 = .ok (.goto 65, 3) := dcS2 dO_167 (rdS2.ch sfx_cX6_readTest_192 16 rfl (by decide +kernel))
theorem dX6_readTest_211 : decode cX6_readTest 211 = .ok (.aload_n 0, 1) := dc0 dO_42 (rdB.ch sfx_cX6_readTest_192 19 rfl (by decide +kernel))
theorem dX6_readTest_212 : decode cX6_readTest 212 = .ok (.iload_n 2, 1) := dc0 dO_28 (rdB.ch sfx_cX6_readTest_192 20 rfl (by decide +kernel))
theorem dX6_readTest_213 : decode cX6_readTest 213 = .ok (.iload_n 1, 1) := dc0 dO_27 (rdB.ch sfx_cX6_readTest_192 21 rfl (by decide +kernel))
theorem dX6_readTest_214 : decode cX6_readTest 214 = .ok (.aload_n 0, 1) := dc0 dO_42 (rdB.ch sfx_cX6_readTest_192 22 rfl (by decide +kernel))
theorem dX6_readTest_215 : decode cX6_readTest 215 = .ok (.bipush 20, 2) := dcS1 dO_16 (rdS1.ch sfx_cX6_readTest_192 23 rfl (by decide +kernel))
theorem dX6_readTest_217 : decode cX6_readTest 217 = .ok (.bipush 22, 2) := dcS1 dO_16 (rdS1.ch sfx_cX6_readTest_192 25 rfl (by decide +kernel))
theorem dX6_readTest_219 : decode cX6_readTest 219 = .ok (.invokevirtual 161, 3) := dcU2 dO_182 (rdU2.ch sfx_cX6_readTest_192 27 rfl (by decide +kernel))
theorem dX6_readTest_222 : decode cX6_readTest 222 = .ok (.invokestatic 164, 3) := dcU2 dO_184 (rdU2.ch sfx_cX6_readTest_192 30 rfl (by decide +kernel))
theorem dX6_readTest_225 : decode cX6_readTest 225 = .ok (.iconst 0, 1) := dc0 dO_3 (rdB.ch sfx_cX6_readTest_192 33 rfl (by decide +kernel))
theorem dX6_readTest_226 : decode cX6_readTest 226 = .ok (.iconst 0, 1) := dc0 dO_3 (rdB.ch sfx_cX6_readTest_192 34 rfl (by decide +kernel))
theorem dX6_readTest_227 : decode cX6_readTest 227 = .ok (.invokevirtual 157, 3) := dcU2 dO_182 (rdU2.ch sfx_cX6_readTest_192 35 rfl (by decide +kernel))
theorem dX6_readTest_230 : decode cX6_readTest 230 = .ok (.goto 43, 3) := dcS2 dO_167 (rdS2.ch sfx_cX6_readTest_192 38 rfl (by decide +kernel))
theorem dX6_readTest_233 : decode cX6_readTest 233 = .ok (.aload_n 0, 1) := dc0 dO_42 (rdB.ch sfx_cX6_readTest_192 41 rfl (by decide +kernel))
theorem dX6_readTest_234 : decode cX6_readTest 234 = .ok (.iload_n 2, 1) := dc0 dO_28 (rdB.ch sfx_cX6_readTest_192 42 rfl (by decide +kernel))
theorem dX6_readTest_235 : decode cX6_readTest 235 = .ok (.iload_n 1, 1) := dc0 dO_27 (rdB.ch sfx_cX6_readTest_192 43 rfl (by decide +kernel))
theorem dX6_readTest_236 : decode cX6_readTest 236 = .ok (.aload_n 0, 1) := dc0 dO_42 (rdB.ch sfx_cX6_readTest_192 44 rfl (by decide +kernel))
theorem dX6_readTest_237 : decode cX6_readTest 237 = .ok (.invokevirtual 168, 3) := dcU2 dO_182 (rdU2.ch sfx_cX6_readTest_192 45 rfl (by decide +kernel))
theorem dX6_readTest_240 : decode cX6_readTest 240 = .ok (.aload_n 0, 1) := dc0 dO_42 (rdB.ch sfx_cX6_readTest_192 48 rfl (by decide +kernel))
theorem dX6_readTest_241 : decode cX6_readTest 241 = .ok (.iconst 0, 1) := dc0 dO_3 (rdB.ch sfx_cX6_readTest_192 49 rfl (by decide +kernel))
theorem dX6_readTest_242 : decode cX6_readTest 242 = .ok (.sipush 1000, 3) := dcS2 dO_17 (rdS2.ch sfx_cX6_readTest_192 50 rfl (by decide +kernel))
theorem dX6_readTest_245 : decode cX6_readTest 245 = .ok (.invokevirtual 143, 3) := dcU2 dO_182 (rdU2.ch sfx_cX6_readTest_192 53 rfl (by decide +kernel))
theorem dX6_readTest_248 : decode cX6_readTest 248 = .ok (.iconst 0, 1) := dc0 dO_3 (rdB.ch sfx_cX6_readTest_192 56 rfl (by decide +kernel))
theorem dX6_readTest_249 : decode cX6_readTest 249 = .ok (.invokevirtual 157, 3) := dcU2 dO_182 (rdU2.ch sfx_cX6_readTest_192 57 rfl (by decide +kernel))
theorem dX6_readTest_252 : decode cX6_readTest 252 = .ok (.goto 21, 3) := dcS2 dO_167 (rdS2.ch sfx_cX6_readTest_192 60 rfl (by decide +kernel))
theorem dX6_readTest_255 : decode cX6_readTest 255 = .ok (.aload_n 0, 1) := dc0 dO_42 (rdB.ch sfx_cX6_readTest_192 63 rfl (by decide +kernel))
theorem sfx_cX6_readTest_256 : (cX6_readTest.data.toList.drop 256).take 67 = [28, 27, 42, 182, 0, 168, 42, 3, 18, 147, 182, 0, 143, 3, 182, 0, 157, 177] := by decide +kernel
theorem dX6_readTest_256 : decode cX6_readTest 256 = .ok (.iload_n 2, 1) := dc0 dO_28 (rdB.ch sfx_cX6_readTest_256 0 rfl (by decide +kernel))
theorem dX6_readTest_257 : decode cX6_readTest 257 = .ok (.iload_n 1, 1) := dc0 dO_27 (rdB.ch sfx_cX6_readTest_256 1 rfl (by decide +kernel))
theorem dX6_readTest_258 : decode cX6_readTest 258 = .ok (.aload_n 0, 1) := dc0 dO_42 (rdB.ch sfx_cX6_readTest_256 2 rfl (by decide +kernel))
theorem dX6_readTest_259 : decode cX6_readTest 259 = .ok (.invokevirtual 168, 3) := dcU2 dO_182 (rdU2.ch sfx_cX6_readTest_256 3 rfl (by decide +kernel))
theorem dX6_readTest_262 : decode cX6_readTest 262 = .ok (.aload_n 0, 1) := dc0 dO_42 (rdB.ch sfx_cX6_readTest_256 6 rfl (by decide +kernel))
theorem dX6_readTest_263 : decode cX6_readTest 263 = .ok (.iconst 0, 1) := dc0 dO_3 (rdB.ch sfx_cX6_readTest_256 7 rfl (by decide +kernel))
theorem dX6_readTest_264 : decode cX6_readTest 264 = .ok (.ldc 147, 2) := dcU1 dO_18 (rdU1.ch sfx_cX6_readTest_256 8 rfl (by decide +kernel))
theorem dX6_readTest_266 : decode cX6_readTest 266 = .ok (.invokevirtual 143, 3) := dcU2 dO_182 (rdU2.ch sfx_cX6_readTest_256 10 rfl (by decide +kernel))
theorem dX6_readTest_269 : decode cX6_readTest 269 = .ok (.iconst 0, 1) := dc0 dO_3 (rdB.ch sfx_cX6_readTest_256 13 rfl (by decide +kernel))
theorem dX6_readTest_270 : decode cX6_readTest 270 = .ok (.invokevirtual 157, 3) := dcU2 dO_182 (rdU2.ch sfx_cX6_readTest_256 14 rfl (by decide +kernel))
theorem dX6_readTest_273 : decode cX6_readTest 273 = .ok (.return_, 1) := dc0 dO_177 (rdB.ch sfx_cX6_readTest_256 17 rfl (by decide +kernel))
theorem dX6_readWay_0 : decode cX6_readWay 0 = .ok (.aload_n 0, 1) := dc0 dO_42 (by decide +kernel)
theorem dX6_readWay_1 : decode cX6_readWay 1 = .ok (.sipush 1040, 3) := dcS2 dO_17 (by decide +kernel)
theorem dX6_readWay_4 : decode cX6_readWay 4 = .ok (.invokevirtual 136, 3) := dcU2 dO_182 (by decide +kernel)
theorem dX6_readWay_7 : decode cX6_readWay 7 = .ok (.aload_n 0, 1) := dc0 dO_42 (by decide +kernel)
theorem dX6_readWay_8 : decode cX6_readWay 8 = .ok (.iconst 1, 1) := dc0 dO_4 (by decide +kernel)
theorem dX6_readWay_9 : decode cX6_readWay 9 = .ok (.invokevirtual 176, 3) := dcU2 dO_182 (by decide +kernel)
theorem dX6_readWay_12 : decode cX6_readWay 12 = .ok (.aload_n 0, 1) := dc0 dO_42 (by decide +kernel)
theorem dX6_readWay_13 : decode cX6_readWay 13 = .ok (.sipush 1041, 3) := dcS2 dO_17 (by decide +kernel)
theorem dX6_readWay_16 : decode cX6_readWay 16 = .ok (.invokevirtual 136, 3) := dcU2 dO_182 (by decide +kernel)
theorem dX6_readWay_19 : decode cX6_readWay 19 = .ok (.aload_n 0, 1) := dc0 dO_42 (by decide +kernel)
theorem dX6_readWay_20 : decode cX6_readWay 20 = .ok (.getfield 53, 3) := dcU2 dO_180 (by decide +kernel)
theorem dX6_readWay_23 : decode cX6_readWay 23 = .ok (.sipush 250, 3) := dcS2 dO_17 (by decide +kernel)
theorem dX6_readWay_26 : decode cX6_readWay 26 = .ok (.if_icmp .ge 63, 3) := dcS2 dO_162 (by decide +kernel)
theorem dX6_readWay_29 : decode cX6_readWay 29 = .ok (.aload_n 0, 1) := dc0 dO_42 (by decide +kernel)
theorem dX6_readWay_30 : decode cX6_readWay 30 = .ok (.getfield 31, 3) := dcU2 dO_180 (by decide +kernel)
theorem dX6_readWay_33 : decode cX6_readWay 33 = .ok (.aload_n 0, 1) := dc0 dO_42 (by decide +kernel)
theorem dX6_readWay_34 : decode cX6_readWay 34 = .ok (.getfield 53, 3) := dcU2 dO_180 (by decide +kernel)
theorem dX6_readWay_37 : decode cX6_readWay 37 = .ok (.aload_n 0, 1) := dc0 dO_42 (by decide +kernel)
theorem dX6_readWay_38 : decode cX6_readWay 38 = .ok (.getfield 179, 3) := dcU2 dO_180 (by decide +kernel)
theorem dX6_readWay_41 : decode cX6_readWay 41 = .ok (.lastore, 1) := dc0 dO_80 (by decide +kernel)
theorem dX6_readWay_42 : decode cX6_readWay 42 = .ok (.aload_n 0, 1) := dc0 dO_42 (by decide +kernel)
theorem dX6_readWay_43 : decode cX6_readWay 43 = .ok (.getfield 34, 3) := dcU2 dO_180 (by decide +kernel)
theorem dX6_readWay_46 : decode cX6_readWay 46 = .ok (.aload_n 0, 1) := dc0 dO_42 (by decide +kernel)
theorem dX6_readWay_47 : decode cX6_readWay 47 = .ok (.getfield 53, 3) := dcU2 dO_180 (by decide +kernel)
theorem dX6_readWay_50 : decode cX6_readWay 50 = .ok (.aload_n 0, 1) := dc0 dO_42 (by decide +kernel)
theorem dX6_readWay_51 : decode cX6_readWay 51 = .ok (.getfield 183, 3) := dcU2 dO_180 (by decide +kernel)
theorem dX6_readWay_54 : decode cX6_readWay 54 = .ok (.lastore, 1) := dc0 dO_80 (by decide +kernel)
theorem dX6_readWay_55 : decode cX6_readWay 55 = .ok (.aload_n 0, 1) := dc0 dO_42 (by decide +kernel)
theorem dX6_readWay_56 : decode cX6_readWay 56 = .ok (.bipush 6, 2) := dcS1 dO_16 (by decide +kernel)
theorem dX6_readWay_58 : decode cX6_readWay 58 = .ok (.iload_n 1, 1) := dc0 dO_27 (by decide +kernel)
theorem dX6_readWay_59 : decode cX6_readWay 59 = .ok (.aload_n 0, 1) := dc0 dO_42 (by decide +kernel)
theorem dX6_readWay_60 : decode cX6_readWay 60 = .ok (.getfield 53, 3) := dcU2 dO_180 (by decide +kernel)
theorem dX6_readWay_63 : decode cX6_readWay 63 = .ok (.aload_n 0, 1) := dc0 dO_42 (by decide +kernel)
theorem dX6_readWay_64 : decode cX6_readWay 64 = .ok (.getfield 186, 3) := dcU2 dO_180 (by decide +kernel)
theorem dX6_readWay_67 : decode cX6_readWay 67 = .ok (.ifCond .eq 7, 3) := dcS2 dO_153 (by decide +kernel)
theorem dX6_readWay_70 : decode cX6_readWay 70 = .ok (.iconst 1, 1) := dc0 dO_4 (by decide +kernel)
theorem dX6_readWay_71 : decode cX6_readWay 71 = .ok (.goto 4, 3) := dcS2 dO_167 (by decide +kernel)
theorem dX6_readWay_74 : decode cX6_readWay 74 = .ok (.iconst 0, 1) := dc0 dO_3 (by decide +kernel)
theorem dX6_readWay_75 : decode cX6_readWay 75 = .ok (.iconst 0, 1) := dc0 dO_3 (by decide +kernel)
theorem dX6_readWay_76 : decode cX6_readWay 76 = .ok (.invokevirtual 157, 3) := dcU2 dO_182 (by decide +kernel)
theorem dX6_readWay_79 : decode cX6_readWay 79 = .ok (.aload_n 0, 1) := dc0 dO_42 (by decide +kernel)
theorem dX6_readWay_80 : decode cX6_readWay 80 = .ok (.dup, 1) := dc0 dO_89 (by decide +kernel)
theorem dX6_readWay_81 : decode cX6_readWay 81 = .ok (.getfield 53, 3) := dcU2 dO_180 (by decide +kernel)
theorem dX6_readWay_84 : decode cX6_readWay 84 = .ok (.iconst 1, 1) := dc0 dO_4 (by decide +kernel)
theorem dX6_readWay_85 : decode cX6_readWay 85 = .ok (.iadd, 1) := dc0 dO_96 (by decide +kernel)
theorem dX6_readWay_86 : decode cX6_readWay 86 = .ok (.putfield 53, 3) := dcU2 dO_181 (by decide +kernel)
theorem dX6_readWay_89 : decode cX6_readWay 89 = .ok (.return_, 1) := dc0 dO_177 (by decide +kernel)
end
section
/-! no rows -/
end
section
/-! no rows -/
end
section
/-! no rows -/
end
section
/-! no rows -/
end
section
/-! A copy whose numbers are known to be small only where they are read. -/
section MV24
variable {g : sG} {M : sM} {R : Room} {Z : sZT} {pc : Nat} {lv : List (Nat × Value)} {st : List Value} {hp : sHp} {w : mW} {μ : mM} {ce sl : Nat}
theorem mr_acR {index a0 a s0 s1 : Nat} {cA : ClassId} {sp dp n : Int} (hd : decode M.2.1 pc = .ok (.invokestatic index, 3)) (hlk : Cond.methodLink M.1.cls index arraycopyName ∈ sg_ws g) (hw1 : Cond.native arraycopyName ∈ sg_ws g) (hw2 : Cond.static arraycopyName ∈ sg_ws g) (hw3 : Cond.initialized "java/lang/System" ∈ sg_ws g) (ht : g.2.2.1[0]? = some (cA, .int)) (hA0 : mAt w a0 s0) (hs0 : mTab s0 = .inr (0, 0)) (hA : mAt w a s1) (hs1 : mTab s1 = .inr (0, 0)) (h1 : 0 ≤ sp) (h2 : 0 ≤ dp) (h3 : 0 ≤ n) (h4 : sp + n ≤ (w.2.2.1 a0 : Int)) (h5 : dp + n ≤ (w.2.2.1 a : Int)) (hb0 : w.2.2.1 a0 ≤ 2147483647) (hb : w.2.2.1 a ≤ 2147483647) (hfr : 1 ≤ R.frames) (hlo : nativeFrameWords "java/lang/System" "arraycopy" 5 + 19 ≤ R.locals) (hr8 : (st.map fun v => v.category).sum ≤ 8) (hT : mT w μ) (hty : ∀ i j : Nat, sp ≤ (i : Int) → (i : Int) < sp + n → dp ≤ (j : Int) → (j : Int) < dp + n → tyP w a j (mTy s1 j) (μ a0 i))
    (kk : ∀ μ1, mQ μ a0 a sp dp n μ1 → mT w μ1 → sV g M R Z (pc + 3) lv st (mk w μ1) ce sl) : sV g M R Z pc lv (iv n :: iv dp :: .ref a :: iv sp :: .ref a0 :: st) (mk w μ) ce sl := by
  have e1 := iv_natE (e := sp) ⟨h1, by omega⟩
  have e2 := iv_natE (e := dp) ⟨h2, by omega⟩
  have e3 := iv_natE (e := n) ⟨h3, by omega⟩
  refine sv_copyI (hf := (mk w μ).2) (hn := (mk w μ).1) (q := fun i => Int32.ofInt (μ a0 i)) (q' := fun i => Int32.ofInt (μ a i)) hd hlk hw1 hw2 hw3 ht hA0.2.1 hA.2.1 (mk_arr hA0 hs0) (mk_arr hA hs1) (iv_nn ⟨h1, by omega⟩) (iv_nn ⟨h2, by omega⟩) (iv_nn ⟨h3, by omega⟩) (by rw [e1, e3]; omega) (by rw [e2, e3]; omega) hfr hlo hr8 ?_
  rw [e1, e2, e3]
  refine sv_heap (hp' := mk w (mCp μ a0 a sp.toNat dp.toNat n.toNat)) rfl (fun j _ => ?_) (kk _ ⟨fun b j hb => if_neg hb, fun j => ?_⟩ ?_)
  · show sUp (mk w μ).2 a _ j = (mk w (mCp μ a0 a sp.toNat dp.toNat n.toNat)).2 j
    by_cases h : j = a
    · subst h
      rw [sUp_at, mk_arr hA hs1]
      congr 3
      funext i
      simp only [sI, va_cpy, mv, iv, mCp, if_true]
      split <;> rfl
    · rw [sUp_ne _ _ h]
      have : mCp μ a0 a sp.toNat dp.toNat n.toNat j = μ j := by funext i; simp only [mCp, if_neg h]
      simp only [mk, this]
  · simp only [mCp, if_true]
    by_cases q : dp ≤ (j : Int) ∧ (j : Int) < dp + n
    · rw [if_pos q, if_pos (by omega)]
    · rw [if_neg q, if_neg (by omega)]
  · intro b t hB i
    by_cases h : b = a
    · subst h
      have hst : t = s1 := hB.1.symm.trans hA.1
      subst hst
      simp only [mCp, if_true]
      split
      next q => exact hty _ i (by omega) (by omega) (by omega) (by omega)
      next q => exact hT b t hB i
    · have : mCp μ a0 a sp.toNat dp.toNat n.toNat b i = μ b i := by simp only [mCp, if_neg h]
      rw [this]; exact hT b t hB i
end MV24
end
section
/-! The String of the words, as numbers. -/
def wsZ (x : Int) : Int := ((wsN.getD x.toNat 0 : Nat) : Int)
section STRM
variable {l : Launch} {D : va_G} {c : Nat → ClassId} {H0 : Heap} {sa : Nat × Nat × (Nat → Int32)} {M : sM} {R : Room} {Z : sZT} {pc : Nat} {lv : List (Nat × Value)} {st : List Value} {hp : sHp} {ce sl : Nat}
theorem mr_strlen (hd : decode M.2.1 pc = .ok (.ldc 105, 2)) (hd2 : decode M.2.1 (pc + 2) = .ok (.invokevirtual 107, 3)) (hM : M.1.cls = RX6) (hR : 4 ≤ R.frames ∧ 200 ≤ R.locals) (hf : ce ≤ R.cells ∧ sl ≤ R.slots) (hr8 : (st.map fun v => v.category).sum ≤ 8)
    (kk : sV (gG l D c H0 sa) M R Z (pc + 5) lv (iv 147 :: st) hp ce sl) : sV (gG l D c H0 sa) M R Z pc lv st hp ce sl := by
  refine sv_ldcS hM hd ?_
  refine sv_callVS (pc := pc + 2) (M' := mJ_slen) (d' := 3) (C' := 0) (S' := 0) (av := []) (st := st) (c_slen (Nat.le_refl _)) (gOk l D c H0 sa) hd2 (tJ_slen l D c H0 sa) ⟨wV_String_length___I, wL_String_length___I⟩ (by rw [hM]; exact wM_X6_107) rfl ⟨hR.1, hR.2⟩ hf rfl hr8 ?_
  rintro r hp' ⟨rfl, rfl⟩
  exact kk
theorem mr_strchrV {i : Nat} {x : Int} (hd : decode M.2.1 pc = .ok (.ldc 105, 2)) (hdi : decode M.2.1 (pc + 2) = .ok (.iload i, 2)) (hd2 : decode M.2.1 (pc + 4) = .ok (.invokevirtual 113, 3)) (hM : M.1.cls = RX6) (hg : sGet i lv = some (iv x)) (hx : 0 ≤ x ∧ x ≤ 146) (hR : 8 ≤ R.frames ∧ 441 ≤ R.locals) (hf : ce ≤ R.cells ∧ sl ≤ R.slots) (hr8 : (st.map fun v => v.category).sum ≤ 8)
    (kk : ∀ z : Int, 0 ≤ z ∧ z ≤ 255 ∧ z = wsZ x → sV (gG l D c H0 sa) M R Z (pc + 7) lv (iv z :: st) hp ce sl) : sV (gG l D c H0 sa) M R Z pc lv st hp ce sl := by
  refine sv_ldcS hM hd ?_
  refine sv_iload (pc := pc + 2) hdi hg ?_
  have h0 : ¬ Int32.ofInt x < 0 := fun q => by
    have q : Int32.ofInt x < Int32.ofInt 0 := q
    rw [iv_lt (by omega) (by omega)] at q; omega
  have h1 : Int32.ofInt x < 147 := by
    have : Int32.ofInt x < Int32.ofInt 147 := (iv_lt (by omega) (by omega)).mpr (by omega)
    exact this
  refine sv_callVS (pc := pc + 2 + 2) (M' := mJ_schr) (d' := 7) (C' := 0) (S' := 0) (av := [iv x]) (st := st) (c_schr (Nat.le_refl _) h0 h1) (gOk l D c H0 sa) hd2 (tJ_schr l D c H0 sa) ⟨wV_String_charAt__I_C, wL_String_charAt__I_C⟩ (by rw [hM]; exact wM_X6_113) rfl ⟨hR.1, hR.2⟩ hf rfl hr8 ?_
  rintro r hp' ⟨rfl, rfl⟩
  have ex : (Int32.ofInt x).toNatClampNeg = x.toNat := by
    show (Int32.ofInt x).toInt.toNat = x.toNat
    rw [ivI (by omega)]
  rw [ex]
  have hb : wsN.getD x.toNat 0 < 256 := (ws_and ⟨x.toNat, by omega⟩).2
  have e : Value.int (nI (wsN.getD x.toNat 0)) = iv (wsZ x) := by
    show Value.int (Int32.ofNat (wsN.getD x.toNat 0)) = Value.int (Int32.ofInt ((wsN.getD x.toNat 0 : Nat) : Int))
    exact congrArg Value.int Int32.ofInt_eq_ofNat.symm
  show sV (gG l D c H0 sa) M R Z (pc + 7) lv (.int (nI (wsN.getD x.toNat 0)) :: st) hp' ce sl
  rw [e]
  exact kk _ ⟨by unfold wsZ; omega, by unfold wsZ; omega, rfl⟩
theorem mr_strchr {i : Nat} {x : Int} (hd : decode M.2.1 pc = .ok (.ldc 105, 2)) (hdi : decode M.2.1 (pc + 2) = .ok (.iload i, 2)) (hd2 : decode M.2.1 (pc + 4) = .ok (.invokevirtual 113, 3)) (hM : M.1.cls = RX6) (hg : sGet i lv = some (iv x)) (hx : 0 ≤ x ∧ x ≤ 146) (hR : 8 ≤ R.frames ∧ 441 ≤ R.locals) (hf : ce ≤ R.cells ∧ sl ≤ R.slots) (hr8 : (st.map fun v => v.category).sum ≤ 8)
    (kk : ∀ z : Int, 0 ≤ z ∧ z ≤ 255 → sV (gG l D c H0 sa) M R Z (pc + 7) lv (iv z :: st) hp ce sl) : sV (gG l D c H0 sa) M R Z pc lv st hp ce sl := mr_strchrV hd hdi hd2 hM hg hx hR hf hr8 (fun z h => kk z ⟨h.1, h.2.1⟩)
end STRM
end
section
theorem dX11_wish_0 : decode cX11_wish 0 = .ok (.aload_n 0, 1) := dc0 dO_42 (by decide +kernel)
theorem dX11_wish_1 : decode cX11_wish 1 = .ok (.getfield 13, 3) := dcU2 dO_180 (by decide +kernel)
theorem dX11_wish_4 : decode cX11_wish 4 = .ok (.aload_n 0, 1) := dc0 dO_42 (by decide +kernel)
theorem dX11_wish_5 : decode cX11_wish 5 = .ok (.getfield 169, 3) := dcU2 dO_180 (by decide +kernel)
theorem dX11_wish_8 : decode cX11_wish 8 = .ok (.invokestatic 397, 3) := dcU2 dO_184 (by decide +kernel)
theorem dX11_wish_11 : decode cX11_wish 11 = .ok (.ifCond .ne 5, 3) := dcS2 dO_154 (by decide +kernel)
theorem dX11_wish_14 : decode cX11_wish 14 = .ok (.iconst (-1), 1) := dc0 dO_2 (by decide +kernel)
theorem dX11_wish_15 : decode cX11_wish 15 = .ok (.ireturn, 1) := dc0 dO_172 (by decide +kernel)
theorem dX11_wish_16 : decode cX11_wish 16 = .ok (.aload_n 0, 1) := dc0 dO_42 (by decide +kernel)
theorem dX11_wish_17 : decode cX11_wish 17 = .ok (.getfield 72, 3) := dcU2 dO_180 (by decide +kernel)
theorem dX11_wish_20 : decode cX11_wish 20 = .ok (.aload_n 0, 1) := dc0 dO_42 (by decide +kernel)
theorem dX11_wish_21 : decode cX11_wish 21 = .ok (.getfield 13, 3) := dcU2 dO_180 (by decide +kernel)
theorem dX11_wish_24 : decode cX11_wish 24 = .ok (.iconst 0, 1) := dc0 dO_3 (by decide +kernel)
theorem dX11_wish_25 : decode cX11_wish 25 = .ok (.aload_n 0, 1) := dc0 dO_42 (by decide +kernel)
theorem dX11_wish_26 : decode cX11_wish 26 = .ok (.getfield 169, 3) := dcU2 dO_180 (by decide +kernel)
theorem dX11_wish_29 : decode cX11_wish 29 = .ok (.invokevirtual 401, 3) := dcU2 dO_182 (by decide +kernel)
theorem dX11_wish_32 : decode cX11_wish 32 = .ok (.ifCond .lt 6, 3) := dcS2 dO_155 (by decide +kernel)
theorem dX11_wish_35 : decode cX11_wish 35 = .ok (.bipush (-2), 2) := dcS1 dO_16 (by decide +kernel)
theorem dX11_wish_37 : decode cX11_wish 37 = .ok (.ireturn, 1) := dc0 dO_172 (by decide +kernel)
theorem dX11_wish_38 : decode cX11_wish 38 = .ok (.aload_n 0, 1) := dc0 dO_42 (by decide +kernel)
theorem dX11_wish_39 : decode cX11_wish 39 = .ok (.getfield 72, 3) := dcU2 dO_180 (by decide +kernel)
theorem dX11_wish_42 : decode cX11_wish 42 = .ok (.getfield 405, 3) := dcU2 dO_180 (by decide +kernel)
theorem dX11_wish_45 : decode cX11_wish 45 = .ok (.aload_n 0, 1) := dc0 dO_42 (by decide +kernel)
theorem dX11_wish_46 : decode cX11_wish 46 = .ok (.getfield 13, 3) := dcU2 dO_180 (by decide +kernel)
theorem dX11_wish_49 : decode cX11_wish 49 = .ok (.iconst 0, 1) := dc0 dO_3 (by decide +kernel)
theorem dX11_wish_50 : decode cX11_wish 50 = .ok (.iaload, 1) := dc0 dO_46 (by decide +kernel)
theorem dX11_wish_51 : decode cX11_wish 51 = .ok (.iaload, 1) := dc0 dO_46 (by decide +kernel)
theorem dX11_wish_52 : decode cX11_wish 52 = .ok (.iconst 5, 1) := dc0 dO_8 (by decide +kernel)
theorem dX11_wish_53 : decode cX11_wish 53 = .ok (.if_icmp .lt 6, 3) := dcS2 dO_161 (by decide +kernel)
theorem dX11_wish_56 : decode cX11_wish 56 = .ok (.bipush (-3), 2) := dcS1 dO_16 (by decide +kernel)
theorem dX11_wish_58 : decode cX11_wish 58 = .ok (.ireturn, 1) := dc0 dO_172 (by decide +kernel)
theorem dX11_wish_59 : decode cX11_wish 59 = .ok (.aload_n 0, 1) := dc0 dO_42 (by decide +kernel)
theorem dX11_wish_60 : decode cX11_wish 60 = .ok (.getfield 72, 3) := dcU2 dO_180 (by decide +kernel)
theorem dX11_wish_63 : decode cX11_wish 63 = .ok (.aload_n 0, 1) := dc0 dO_42 (by decide +kernel)
theorem dX11_wish_64 : decode cX11_wish 64 = .ok (.getfield 13, 3) := dcU2 dO_180 (by decide +kernel)
theorem dX11_wish_67 : decode cX11_wish 67 = .ok (.aload_n 0, 1) := dc0 dO_42 (by decide +kernel)
theorem dX11_wish_68 : decode cX11_wish 68 = .ok (.getfield 169, 3) := dcU2 dO_180 (by decide +kernel)
theorem dX11_wish_71 : decode cX11_wish 71 = .ok (.invokevirtual 408, 3) := dcU2 dO_182 (by decide +kernel)
theorem dX11_wish_74 : decode cX11_wish 74 = .ok (.ireturn, 1) := dc0 dO_172 (by decide +kernel)
theorem dX4_addWish_0 : decode cX4_addWish 0 = .ok (.aload_n 1, 1) := dc0 dO_43 (by decide +kernel)
theorem dX4_addWish_1 : decode cX4_addWish 1 = .ok (.iconst 0, 1) := dc0 dO_3 (by decide +kernel)
theorem dX4_addWish_2 : decode cX4_addWish 2 = .ok (.iaload, 1) := dc0 dO_46 (by decide +kernel)
theorem dX4_addWish_3 : decode cX4_addWish 3 = .ok (.istore_n 3, 1) := dc0 dO_62 (by decide +kernel)
theorem dX4_addWish_4 : decode cX4_addWish 4 = .ok (.iload_n 3, 1) := dc0 dO_29 (by decide +kernel)
theorem dX4_addWish_5 : decode cX4_addWish 5 = .ok (.iconst 5, 1) := dc0 dO_8 (by decide +kernel)
theorem dX4_addWish_6 : decode cX4_addWish 6 = .ok (.imul, 1) := dc0 dO_104 (by decide +kernel)
theorem dX4_addWish_7 : decode cX4_addWish 7 = .ok (.aload_n 0, 1) := dc0 dO_42 (by decide +kernel)
theorem dX4_addWish_8 : decode cX4_addWish 8 = .ok (.getfield 11, 3) := dcU2 dO_180 (by decide +kernel)
theorem dX4_addWish_11 : decode cX4_addWish 11 = .ok (.iload_n 3, 1) := dc0 dO_29 (by decide +kernel)
theorem dX4_addWish_12 : decode cX4_addWish 12 = .ok (.iaload, 1) := dc0 dO_46 (by decide +kernel)
theorem dX4_addWish_13 : decode cX4_addWish 13 = .ok (.iadd, 1) := dc0 dO_96 (by decide +kernel)
theorem dX4_addWish_14 : decode cX4_addWish 14 = .ok (.istore 4, 2) := dcU1 dO_54 (by decide +kernel)
theorem dX4_addWish_16 : decode cX4_addWish 16 = .ok (.aload_n 1, 1) := dc0 dO_43 (by decide +kernel)
theorem dX4_addWish_17 : decode cX4_addWish 17 = .ok (.iconst 0, 1) := dc0 dO_3 (by decide +kernel)
theorem dX4_addWish_18 : decode cX4_addWish 18 = .ok (.aload_n 0, 1) := dc0 dO_42 (by decide +kernel)
theorem dX4_addWish_19 : decode cX4_addWish 19 = .ok (.getfield 15, 3) := dcU2 dO_180 (by decide +kernel)
theorem dX4_addWish_22 : decode cX4_addWish 22 = .ok (.iload 4, 2) := dcU1 dO_21 (by decide +kernel)
theorem dX4_addWish_24 : decode cX4_addWish 24 = .ok (.bipush 7, 2) := dcS1 dO_16 (by decide +kernel)
theorem dX4_addWish_26 : decode cX4_addWish 26 = .ok (.imul, 1) := dc0 dO_104 (by decide +kernel)
theorem dX4_addWish_27 : decode cX4_addWish 27 = .ok (.iload_n 2, 1) := dc0 dO_28 (by decide +kernel)
theorem dX4_addWish_28 : decode cX4_addWish 28 = .ok (.invokestatic 46, 3) := dcU2 dO_184 (by decide +kernel)
theorem dX4_addWish_31 : decode cX4_addWish 31 = .ok (.aload_n 0, 1) := dc0 dO_42 (by decide +kernel)
theorem dX4_addWish_32 : decode cX4_addWish 32 = .ok (.getfield 18, 3) := dcU2 dO_180 (by decide +kernel)
theorem dX4_addWish_35 : decode cX4_addWish 35 = .ok (.iload 4, 2) := dcU1 dO_21 (by decide +kernel)
theorem dX4_addWish_37 : decode cX4_addWish 37 = .ok (.iload_n 2, 1) := dc0 dO_28 (by decide +kernel)
theorem dX4_addWish_38 : decode cX4_addWish 38 = .ok (.iastore, 1) := dc0 dO_79 (by decide +kernel)
theorem dX4_addWish_39 : decode cX4_addWish 39 = .ok (.aload_n 0, 1) := dc0 dO_42 (by decide +kernel)
theorem dX4_addWish_40 : decode cX4_addWish 40 = .ok (.getfield 11, 3) := dcU2 dO_180 (by decide +kernel)
theorem dX4_addWish_43 : decode cX4_addWish 43 = .ok (.iload_n 3, 1) := dc0 dO_29 (by decide +kernel)
theorem dX4_addWish_44 : decode cX4_addWish 44 = .ok (.dup2, 1) := dc0 dO_92 (by decide +kernel)
theorem dX4_addWish_45 : decode cX4_addWish 45 = .ok (.iaload, 1) := dc0 dO_46 (by decide +kernel)
theorem dX4_addWish_46 : decode cX4_addWish 46 = .ok (.iconst 1, 1) := dc0 dO_4 (by decide +kernel)
theorem dX4_addWish_47 : decode cX4_addWish 47 = .ok (.iadd, 1) := dc0 dO_96 (by decide +kernel)
theorem dX4_addWish_48 : decode cX4_addWish 48 = .ok (.iastore, 1) := dc0 dO_79 (by decide +kernel)
theorem dX4_addWish_49 : decode cX4_addWish 49 = .ok (.aload_n 0, 1) := dc0 dO_42 (by decide +kernel)
theorem dX4_addWish_50 : decode cX4_addWish 50 = .ok (.iconst 0, 1) := dc0 dO_3 (by decide +kernel)
theorem dX4_addWish_51 : decode cX4_addWish 51 = .ok (.putfield 52, 3) := dcU2 dO_181 (by decide +kernel)
theorem dX4_addWish_54 : decode cX4_addWish 54 = .ok (.aload_n 0, 1) := dc0 dO_42 (by decide +kernel)
theorem dX4_addWish_55 : decode cX4_addWish 55 = .ok (.iconst 0, 1) := dc0 dO_3 (by decide +kernel)
theorem dX4_addWish_56 : decode cX4_addWish 56 = .ok (.putfield 56, 3) := dcU2 dO_181 (by decide +kernel)
theorem dX4_addWish_59 : decode cX4_addWish 59 = .ok (.aload_n 0, 1) := dc0 dO_42 (by decide +kernel)
theorem dX4_addWish_60 : decode cX4_addWish 60 = .ok (.getfield 11, 3) := dcU2 dO_180 (by decide +kernel)
theorem dX4_addWish_63 : decode cX4_addWish 63 = .ok (.iload_n 3, 1) := dc0 dO_29 (by decide +kernel)
theorem dX4_addWish_64 : decode cX4_addWish 64 = .ok (.iaload, 1) := dc0 dO_46 (by decide +kernel)
theorem dX4_addWish_65 : decode cX4_addWish 65 = .ok (.ireturn, 1) := dc0 dO_172 (by decide +kernel)
theorem dX6_putNumber_0 : decode cX6_putNumber 0 = .ok (.iload_n 3, 1) := dc0 dO_29 (by decide +kernel)
theorem dX6_putNumber_1 : decode cX6_putNumber 1 = .ok (.iload_n 2, 1) := dc0 dO_28 (by decide +kernel)
theorem dX6_putNumber_2 : decode cX6_putNumber 2 = .ok (.isub, 1) := dc0 dO_100 (by decide +kernel)
theorem dX6_putNumber_3 : decode cX6_putNumber 3 = .ok (.bipush 9, 2) := dcS1 dO_16 (by decide +kernel)
theorem dX6_putNumber_5 : decode cX6_putNumber 5 = .ok (.if_icmp .le 12, 3) := dcS2 dO_164 (by decide +kernel)
theorem dX6_putNumber_8 : decode cX6_putNumber 8 = .ok (.aload_n 0, 1) := dc0 dO_42 (by decide +kernel)
theorem dX6_putNumber_9 : decode cX6_putNumber 9 = .ok (.bipush (-3), 2) := dcS1 dO_16 (by decide +kernel)
theorem dX6_putNumber_11 : decode cX6_putNumber 11 = .ok (.iconst 0, 1) := dc0 dO_3 (by decide +kernel)
theorem dX6_putNumber_12 : decode cX6_putNumber 12 = .ok (.iload_n 2, 1) := dc0 dO_28 (by decide +kernel)
theorem dX6_putNumber_13 : decode cX6_putNumber 13 = .ok (.invokevirtual 94, 3) := dcU2 dO_182 (by decide +kernel)
theorem dX6_putNumber_16 : decode cX6_putNumber 16 = .ok (.return_, 1) := dc0 dO_177 (by decide +kernel)
theorem dX6_putNumber_17 : decode cX6_putNumber 17 = .ok (.iconst 0, 1) := dc0 dO_3 (by decide +kernel)
theorem dX6_putNumber_18 : decode cX6_putNumber 18 = .ok (.istore 4, 2) := dcU1 dO_54 (by decide +kernel)
theorem dX6_putNumber_20 : decode cX6_putNumber 20 = .ok (.iload_n 2, 1) := dc0 dO_28 (by decide +kernel)
theorem dX6_putNumber_21 : decode cX6_putNumber 21 = .ok (.istore 5, 2) := dcU1 dO_54 (by decide +kernel)
theorem dX6_putNumber_23 : decode cX6_putNumber 23 = .ok (.iload 5, 2) := dcU1 dO_21 (by decide +kernel)
theorem dX6_putNumber_25 : decode cX6_putNumber 25 = .ok (.iload_n 3, 1) := dc0 dO_29 (by decide +kernel)
theorem dX6_putNumber_26 : decode cX6_putNumber 26 = .ok (.if_icmp .ge 24, 3) := dcS2 dO_162 (by decide +kernel)
theorem dX6_putNumber_29 : decode cX6_putNumber 29 = .ok (.iload 4, 2) := dcU1 dO_21 (by decide +kernel)
theorem dX6_putNumber_31 : decode cX6_putNumber 31 = .ok (.bipush 10, 2) := dcS1 dO_16 (by decide +kernel)
theorem dX6_putNumber_33 : decode cX6_putNumber 33 = .ok (.imul, 1) := dc0 dO_104 (by decide +kernel)
theorem dX6_putNumber_34 : decode cX6_putNumber 34 = .ok (.aload_n 1, 1) := dc0 dO_43 (by decide +kernel)
theorem dX6_putNumber_35 : decode cX6_putNumber 35 = .ok (.iload 5, 2) := dcU1 dO_21 (by decide +kernel)
theorem dX6_putNumber_37 : decode cX6_putNumber 37 = .ok (.iaload, 1) := dc0 dO_46 (by decide +kernel)
theorem dX6_putNumber_38 : decode cX6_putNumber 38 = .ok (.iadd, 1) := dc0 dO_96 (by decide +kernel)
theorem dX6_putNumber_39 : decode cX6_putNumber 39 = .ok (.bipush 48, 2) := dcS1 dO_16 (by decide +kernel)
theorem dX6_putNumber_41 : decode cX6_putNumber 41 = .ok (.isub, 1) := dc0 dO_100 (by decide +kernel)
theorem dX6_putNumber_42 : decode cX6_putNumber 42 = .ok (.istore 4, 2) := dcU1 dO_54 (by decide +kernel)
theorem dX6_putNumber_44 : decode cX6_putNumber 44 = .ok (.iinc 5 1, 3) := dcI dO_132 (by decide +kernel)
theorem dX6_putNumber_47 : decode cX6_putNumber 47 = .ok (.goto (-24), 3) := dcS2 dO_167 (by decide +kernel)
theorem dX6_putNumber_50 : decode cX6_putNumber 50 = .ok (.aload_n 0, 1) := dc0 dO_42 (by decide +kernel)
theorem dX6_putNumber_51 : decode cX6_putNumber 51 = .ok (.bipush (-2), 2) := dcS1 dO_16 (by decide +kernel)
theorem dX6_putNumber_53 : decode cX6_putNumber 53 = .ok (.iload 4, 2) := dcU1 dO_21 (by decide +kernel)
theorem dX6_putNumber_55 : decode cX6_putNumber 55 = .ok (.iload_n 2, 1) := dc0 dO_28 (by decide +kernel)
theorem dX6_putNumber_56 : decode cX6_putNumber 56 = .ok (.invokevirtual 94, 3) := dcU2 dO_182 (by decide +kernel)
theorem dX6_putNumber_59 : decode cX6_putNumber 59 = .ok (.return_, 1) := dc0 dO_177 (by decide +kernel)
theorem dX6_read_0 : decode cX6_read 0 = .ok (.aload_n 0, 1) := dc0 dO_42 (by decide +kernel)
theorem dX6_read_1 : decode cX6_read 1 = .ok (.iconst 0, 1) := dc0 dO_3 (by decide +kernel)
theorem dX6_read_2 : decode cX6_read 2 = .ok (.putfield 37, 3) := dcU2 dO_181 (by decide +kernel)
theorem dX6_read_5 : decode cX6_read 5 = .ok (.aload_n 0, 1) := dc0 dO_42 (by decide +kernel)
theorem dX6_read_6 : decode cX6_read 6 = .ok (.iconst 0, 1) := dc0 dO_3 (by decide +kernel)
theorem dX6_read_7 : decode cX6_read 7 = .ok (.putfield 41, 3) := dcU2 dO_181 (by decide +kernel)
theorem dX6_read_10 : decode cX6_read 10 = .ok (.aload_n 0, 1) := dc0 dO_42 (by decide +kernel)
theorem dX6_read_11 : decode cX6_read 11 = .ok (.iconst 0, 1) := dc0 dO_3 (by decide +kernel)
theorem dX6_read_12 : decode cX6_read 12 = .ok (.putfield 44, 3) := dcU2 dO_181 (by decide +kernel)
theorem dX6_read_15 : decode cX6_read 15 = .ok (.aload_n 0, 1) := dc0 dO_42 (by decide +kernel)
theorem dX6_read_16 : decode cX6_read 16 = .ok (.iconst 0, 1) := dc0 dO_3 (by decide +kernel)
theorem dX6_read_17 : decode cX6_read 17 = .ok (.putfield 47, 3) := dcU2 dO_181 (by decide +kernel)
theorem dX6_read_20 : decode cX6_read 20 = .ok (.aload_n 0, 1) := dc0 dO_42 (by decide +kernel)
theorem dX6_read_21 : decode cX6_read 21 = .ok (.iconst 0, 1) := dc0 dO_3 (by decide +kernel)
theorem dX6_read_22 : decode cX6_read 22 = .ok (.putfield 50, 3) := dcU2 dO_181 (by decide +kernel)
theorem dX6_read_25 : decode cX6_read 25 = .ok (.aload_n 0, 1) := dc0 dO_42 (by decide +kernel)
theorem dX6_read_26 : decode cX6_read 26 = .ok (.iconst 0, 1) := dc0 dO_3 (by decide +kernel)
theorem dX6_read_27 : decode cX6_read 27 = .ok (.putfield 53, 3) := dcU2 dO_181 (by decide +kernel)
theorem dX6_read_30 : decode cX6_read 30 = .ok (.aload_n 0, 1) := dc0 dO_42 (by decide +kernel)
theorem dX6_read_31 : decode cX6_read 31 = .ok (.iload_n 3, 1) := dc0 dO_29 (by decide +kernel)
theorem dX6_read_32 : decode cX6_read 32 = .ok (.putfield 56, 3) := dcU2 dO_181 (by decide +kernel)
theorem dX6_read_35 : decode cX6_read 35 = .ok (.aload_n 0, 1) := dc0 dO_42 (by decide +kernel)
theorem dX6_read_36 : decode cX6_read 36 = .ok (.aload_n 1, 1) := dc0 dO_43 (by decide +kernel)
theorem dX6_read_37 : decode cX6_read 37 = .ok (.iload_n 2, 1) := dc0 dO_28 (by decide +kernel)
theorem dX6_read_38 : decode cX6_read 38 = .ok (.invokevirtual 59, 3) := dcU2 dO_182 (by decide +kernel)
theorem dX6_read_41 : decode cX6_read 41 = .ok (.aload_n 0, 1) := dc0 dO_42 (by decide +kernel)
theorem dX6_read_42 : decode cX6_read 42 = .ok (.iconst 0, 1) := dc0 dO_3 (by decide +kernel)
theorem dX6_read_43 : decode cX6_read 43 = .ok (.putfield 63, 3) := dcU2 dO_181 (by decide +kernel)
theorem dX6_read_46 : decode cX6_read 46 = .ok (.iconst 0, 1) := dc0 dO_3 (by decide +kernel)
theorem dX6_read_47 : decode cX6_read 47 = .ok (.istore 4, 2) := dcU1 dO_54 (by decide +kernel)
theorem dX6_read_49 : decode cX6_read 49 = .ok (.iload 4, 2) := dcU1 dO_21 (by decide +kernel)
theorem dX6_read_51 : decode cX6_read 51 = .ok (.sipush 1000, 3) := dcS2 dO_17 (by decide +kernel)
theorem dX6_read_54 : decode cX6_read 54 = .ok (.if_icmp .gt 26, 3) := dcS2 dO_163 (by decide +kernel)
theorem dX6_read_57 : decode cX6_read 57 = .ok (.aload_n 0, 1) := dc0 dO_42 (by decide +kernel)
theorem dX6_read_58 : decode cX6_read 58 = .ok (.getfield 9, 3) := dcU2 dO_180 (by decide +kernel)
theorem dX6_read_61 : decode cX6_read 61 = .ok (.aload_n 0, 1) := dc0 dO_42 (by decide +kernel)
theorem dX6_read_62 : decode cX6_read 62 = .ok (.getfield 63, 3) := dcU2 dO_180 (by decide +kernel)
theorem dX6_read_65 : decode cX6_read 65 = .ok (.iaload, 1) := dc0 dO_46 (by decide +kernel)
theorem dX6_read_66 : decode cX6_read 66 = .ok (.iconst (-1), 1) := dc0 dO_2 (by decide +kernel)
theorem dX6_read_67 : decode cX6_read 67 = .ok (.if_icmp .eq 13, 3) := dcS2 dO_159 (by decide +kernel)
theorem dX6_read_70 : decode cX6_read 70 = .ok (.aload_n 0, 1) := dc0 dO_42 (by decide +kernel)
theorem dX6_read_71 : decode cX6_read 71 = .ok (.invokevirtual 66, 3) := dcU2 dO_182 (by decide +kernel)
theorem dX6_read_74 : decode cX6_read 74 = .ok (.iinc 4 1, 3) := dcI dO_132 (by decide +kernel)
theorem dX6_read_77 : decode cX6_read 77 = .ok (.goto (-28), 3) := dcS2 dO_167 (by decide +kernel)
theorem dX6_read_80 : decode cX6_read 80 = .ok (.return_, 1) := dc0 dO_177 (by decide +kernel)
theorem dX6_split_0 : decode cX6_split 0 = .ok (.aload_n 0, 1) := dc0 dO_42 (by decide +kernel)
theorem dX6_split_1 : decode cX6_split 1 = .ok (.iconst 0, 1) := dc0 dO_3 (by decide +kernel)
theorem dX6_split_2 : decode cX6_split 2 = .ok (.putfield 83, 3) := dcU2 dO_181 (by decide +kernel)
theorem dX6_split_5 : decode cX6_split 5 = .ok (.iconst 0, 1) := dc0 dO_3 (by decide +kernel)
theorem dX6_split_6 : decode cX6_split 6 = .ok (.istore_n 3, 1) := dc0 dO_62 (by decide +kernel)
theorem dX6_split_7 : decode cX6_split 7 = .ok (.iload_n 3, 1) := dc0 dO_29 (by decide +kernel)
theorem dX6_split_8 : decode cX6_split 8 = .ok (.iload_n 2, 1) := dc0 dO_28 (by decide +kernel)
theorem dX6_split_9 : decode cX6_split 9 = .ok (.if_icmp .ge 134, 3) := dcS2 dO_162 (by decide +kernel)
theorem dX6_split_12 : decode cX6_split 12 = .ok (.aload_n 1, 1) := dc0 dO_43 (by decide +kernel)
theorem dX6_split_13 : decode cX6_split 13 = .ok (.iload_n 3, 1) := dc0 dO_29 (by decide +kernel)
theorem dX6_split_14 : decode cX6_split 14 = .ok (.iaload, 1) := dc0 dO_46 (by decide +kernel)
theorem dX6_split_15 : decode cX6_split 15 = .ok (.istore 4, 2) := dcU1 dO_54 (by decide +kernel)
theorem dX6_split_17 : decode cX6_split 17 = .ok (.iload_n 3, 1) := dc0 dO_29 (by decide +kernel)
theorem dX6_split_18 : decode cX6_split 18 = .ok (.iconst 1, 1) := dc0 dO_4 (by decide +kernel)
theorem dX6_split_19 : decode cX6_split 19 = .ok (.iadd, 1) := dc0 dO_96 (by decide +kernel)
theorem dX6_split_20 : decode cX6_split 20 = .ok (.istore 5, 2) := dcU1 dO_54 (by decide +kernel)
theorem dX6_split_22 : decode cX6_split 22 = .ok (.iload 4, 2) := dcU1 dO_21 (by decide +kernel)
theorem dX6_split_24 : decode cX6_split 24 = .ok (.invokestatic 86, 3) := dcU2 dO_184 (by decide +kernel)
theorem dX6_split_27 : decode cX6_split 27 = .ok (.ifCond .eq 43, 3) := dcS2 dO_153 (by decide +kernel)
theorem dX6_split_30 : decode cX6_split 30 = .ok (.iload 5, 2) := dcU1 dO_21 (by decide +kernel)
theorem dX6_split_32 : decode cX6_split 32 = .ok (.iload_n 2, 1) := dc0 dO_28 (by decide +kernel)
theorem dX6_split_33 : decode cX6_split 33 = .ok (.if_icmp .ge 19, 3) := dcS2 dO_162 (by decide +kernel)
theorem dX6_split_36 : decode cX6_split 36 = .ok (.aload_n 1, 1) := dc0 dO_43 (by decide +kernel)
theorem dX6_split_37 : decode cX6_split 37 = .ok (.iload 5, 2) := dcU1 dO_21 (by decide +kernel)
theorem dX6_split_39 : decode cX6_split 39 = .ok (.iaload, 1) := dc0 dO_46 (by decide +kernel)
theorem dX6_split_40 : decode cX6_split 40 = .ok (.invokestatic 86, 3) := dcU2 dO_184 (by decide +kernel)
theorem dX6_split_43 : decode cX6_split 43 = .ok (.ifCond .eq 9, 3) := dcS2 dO_153 (by decide +kernel)
theorem dX6_split_46 : decode cX6_split 46 = .ok (.iinc 5 1, 3) := dcI dO_132 (by decide +kernel)
theorem dX6_split_49 : decode cX6_split 49 = .ok (.goto (-19), 3) := dcS2 dO_167 (by decide +kernel)
theorem dX6_split_52 : decode cX6_split 52 = .ok (.aload_n 0, 1) := dc0 dO_42 (by decide +kernel)
theorem dX6_split_53 : decode cX6_split 53 = .ok (.aload_n 1, 1) := dc0 dO_43 (by decide +kernel)
theorem dX6_split_54 : decode cX6_split 54 = .ok (.iload_n 3, 1) := dc0 dO_29 (by decide +kernel)
theorem dX6_split_55 : decode cX6_split 55 = .ok (.iload 5, 2) := dcU1 dO_21 (by decide +kernel)
theorem dX6_split_57 : decode cX6_split 57 = .ok (.iload_n 3, 1) := dc0 dO_29 (by decide +kernel)
theorem dX6_split_58 : decode cX6_split 58 = .ok (.isub, 1) := dc0 dO_100 (by decide +kernel)
theorem dX6_split_59 : decode cX6_split 59 = .ok (.invokestatic 90, 3) := dcU2 dO_184 (by decide +kernel)
theorem dX6_split_62 : decode cX6_split 62 = .ok (.iconst 0, 1) := dc0 dO_3 (by decide +kernel)
theorem dX6_split_63 : decode cX6_split 63 = .ok (.iload_n 3, 1) := dc0 dO_29 (by decide +kernel)
theorem dX6_split_64 : decode cX6_split 64 = .ok (.invokevirtual 94, 3) := dcU2 dO_182 (by decide +kernel)
theorem dX6_split_67 : decode cX6_split 67 = .ok (.goto 70, 3) := dcS2 dO_167 (by decide +kernel)
theorem dX6_split_70 : decode cX6_split 70 = .ok (.iload 4, 2) := dcU1 dO_21 (by decide +kernel)
theorem dX6_split_72 : decode cX6_split 72 = .ok (.invokestatic 98, 3) := dcU2 dO_184 (by decide +kernel)
theorem dX6_split_75 : decode cX6_split 75 = .ok (.ifCond .eq 36, 3) := dcS2 dO_153 (by decide +kernel)
theorem dX6_split_78 : decode cX6_split 78 = .ok (.iload 5, 2) := dcU1 dO_21 (by decide +kernel)
theorem dX6_split_80 : decode cX6_split 80 = .ok (.iload_n 2, 1) := dc0 dO_28 (by decide +kernel)
theorem dX6_split_81 : decode cX6_split 81 = .ok (.if_icmp .ge 19, 3) := dcS2 dO_162 (by decide +kernel)
theorem dX6_split_84 : decode cX6_split 84 = .ok (.aload_n 1, 1) := dc0 dO_43 (by decide +kernel)
theorem dX6_split_85 : decode cX6_split 85 = .ok (.iload 5, 2) := dcU1 dO_21 (by decide +kernel)
theorem dX6_split_87 : decode cX6_split 87 = .ok (.iaload, 1) := dc0 dO_46 (by decide +kernel)
theorem dX6_split_88 : decode cX6_split 88 = .ok (.invokestatic 98, 3) := dcU2 dO_184 (by decide +kernel)
theorem dX6_split_91 : decode cX6_split 91 = .ok (.ifCond .eq 9, 3) := dcS2 dO_153 (by decide +kernel)
theorem dX6_split_94 : decode cX6_split 94 = .ok (.iinc 5 1, 3) := dcI dO_132 (by decide +kernel)
theorem dX6_split_97 : decode cX6_split 97 = .ok (.goto (-19), 3) := dcS2 dO_167 (by decide +kernel)
theorem dX6_split_100 : decode cX6_split 100 = .ok (.aload_n 0, 1) := dc0 dO_42 (by decide +kernel)
theorem dX6_split_101 : decode cX6_split 101 = .ok (.aload_n 1, 1) := dc0 dO_43 (by decide +kernel)
theorem dX6_split_102 : decode cX6_split 102 = .ok (.iload_n 3, 1) := dc0 dO_29 (by decide +kernel)
theorem dX6_split_103 : decode cX6_split 103 = .ok (.iload 5, 2) := dcU1 dO_21 (by decide +kernel)
theorem dX6_split_105 : decode cX6_split 105 = .ok (.invokevirtual 101, 3) := dcU2 dO_182 (by decide +kernel)
theorem dX6_split_108 : decode cX6_split 108 = .ok (.goto 29, 3) := dcS2 dO_167 (by decide +kernel)
theorem dX6_split_111 : decode cX6_split 111 = .ok (.iload 4, 2) := dcU1 dO_21 (by decide +kernel)
theorem dX6_split_113 : decode cX6_split 113 = .ok (.bipush 32, 2) := dcS1 dO_16 (by decide +kernel)
theorem dX6_split_115 : decode cX6_split 115 = .ok (.if_icmp .eq 22, 3) := dcS2 dO_159 (by decide +kernel)
theorem dX6_split_118 : decode cX6_split 118 = .ok (.iload 4, 2) := dcU1 dO_21 (by decide +kernel)
theorem dX6_split_120 : decode cX6_split 120 = .ok (.bipush 10, 2) := dcS1 dO_16 (by decide +kernel)
theorem dX6_split_122 : decode cX6_split 122 = .ok (.if_icmp .eq 15, 3) := dcS2 dO_159 (by decide +kernel)
theorem dX6_split_125 : decode cX6_split 125 = .ok (.aload_n 0, 1) := dc0 dO_42 (by decide +kernel)
theorem dX6_split_126 : decode cX6_split 126 = .ok (.sipush 1000, 3) := dcS2 dO_17 (by decide +kernel)
theorem sfx_cX6_split_128 : (cX6_split.data.toList.drop 128).take 67 = [232, 21, 4, 96, 3, 29, 182, 0, 94, 21, 5, 62, 167, 255, 123, 42, 180, 0, 9, 42, 180, 0, 83, 2, 79, 42, 180, 0, 18, 42, 180, 0, 83, 28, 79, 177] := by decide +kernel
theorem dX6_split_129 : decode cX6_split 129 = .ok (.iload 4, 2) := dcU1 dO_21 (rdU1.ch sfx_cX6_split_128 1 rfl (by decide +kernel))
theorem dX6_split_131 : decode cX6_split 131 = .ok (.iadd, 1) := dc0 dO_96 (rdB.ch sfx_cX6_split_128 3 rfl (by decide +kernel))
theorem dX6_split_132 : decode cX6_split 132 = .ok (.iconst 0, 1) := dc0 dO_3 (rdB.ch sfx_cX6_split_128 4 rfl (by decide +kernel))
theorem dX6_split_133 : decode cX6_split 133 = .ok (.iload_n 3, 1) := dc0 dO_29 (rdB.ch sfx_cX6_split_128 5 rfl (by decide +kernel))
theorem dX6_split_134 : decode cX6_split 134 = .ok (.invokevirtual 94, 3) := dcU2 dO_182 (rdU2.ch sfx_cX6_split_128 6 rfl (by decide +kernel))
theorem dX6_split_137 : decode cX6_split 137 = .ok (.iload 5, 2) := dcU1 dO_21 (rdU1.ch sfx_cX6_split_128 9 rfl (by decide +kernel))
theorem dX6_split_139 : decode cX6_split 139 = .ok (.istore_n 3, 1) := dc0 dO_62 (rdB.ch sfx_cX6_split_128 11 rfl (by decide +kernel))
theorem dX6_split_140 : decode cX6_split 140 = .ok (.goto (-133), 3) := dcS2 dO_167 (rdS2.ch sfx_cX6_split_128 12 rfl (by decide +kernel))
theorem dX6_split_143 : decode cX6_split 143 = .ok (.aload_n 0, 1) := dc0 dO_42 (rdB.ch sfx_cX6_split_128 15 rfl (by decide +kernel))
theorem dX6_split_144 : decode cX6_split 144 = .ok (.getfield 9, 3) := dcU2 dO_180 (rdU2.ch sfx_cX6_split_128 16 rfl (by decide +kernel))
theorem dX6_split_147 : decode cX6_split 147 = .ok (.aload_n 0, 1) := dc0 dO_42 (rdB.ch sfx_cX6_split_128 19 rfl (by decide +kernel))
theorem dX6_split_148 : decode cX6_split 148 = .ok (.getfield 83, 3) := dcU2 dO_180 (rdU2.ch sfx_cX6_split_128 20 rfl (by decide +kernel))
theorem dX6_split_151 : decode cX6_split 151 = .ok (.iconst (-1), 1) := dc0 dO_2 (rdB.ch sfx_cX6_split_128 23 rfl (by decide +kernel))
theorem dX6_split_152 : decode cX6_split 152 = .ok (.iastore, 1) := dc0 dO_79 (rdB.ch sfx_cX6_split_128 24 rfl (by decide +kernel))
theorem dX6_split_153 : decode cX6_split 153 = .ok (.aload_n 0, 1) := dc0 dO_42 (rdB.ch sfx_cX6_split_128 25 rfl (by decide +kernel))
theorem dX6_split_154 : decode cX6_split 154 = .ok (.getfield 18, 3) := dcU2 dO_180 (rdU2.ch sfx_cX6_split_128 26 rfl (by decide +kernel))
theorem dX6_split_157 : decode cX6_split 157 = .ok (.aload_n 0, 1) := dc0 dO_42 (rdB.ch sfx_cX6_split_128 29 rfl (by decide +kernel))
theorem dX6_split_158 : decode cX6_split 158 = .ok (.getfield 83, 3) := dcU2 dO_180 (rdU2.ch sfx_cX6_split_128 30 rfl (by decide +kernel))
theorem dX6_split_161 : decode cX6_split 161 = .ok (.iload_n 2, 1) := dc0 dO_28 (rdB.ch sfx_cX6_split_128 33 rfl (by decide +kernel))
theorem dX6_split_162 : decode cX6_split 162 = .ok (.iastore, 1) := dc0 dO_79 (rdB.ch sfx_cX6_split_128 34 rfl (by decide +kernel))
theorem dX6_split_163 : decode cX6_split 163 = .ok (.return_, 1) := dc0 dO_177 (rdB.ch sfx_cX6_split_128 35 rfl (by decide +kernel))
theorem dX6_wordAt_0 : decode cX6_wordAt 0 = .ok (.iconst 0, 1) := dc0 dO_3 (by decide +kernel)
theorem dX6_wordAt_1 : decode cX6_wordAt 1 = .ok (.istore_n 3, 1) := dc0 dO_62 (by decide +kernel)
theorem dX6_wordAt_2 : decode cX6_wordAt 2 = .ok (.iconst 0, 1) := dc0 dO_3 (by decide +kernel)
theorem dX6_wordAt_3 : decode cX6_wordAt 3 = .ok (.istore 4, 2) := dcU1 dO_54 (by decide +kernel)
theorem dX6_wordAt_5 : decode cX6_wordAt 5 = .ok (.iconst 1, 1) := dc0 dO_4 (by decide +kernel)
theorem dX6_wordAt_6 : decode cX6_wordAt 6 = .ok (.istore 5, 2) := dcU1 dO_54 (by decide +kernel)
theorem dX6_wordAt_8 : decode cX6_wordAt 8 = .ok (.iconst 0, 1) := dc0 dO_3 (by decide +kernel)
theorem dX6_wordAt_9 : decode cX6_wordAt 9 = .ok (.istore 6, 2) := dcU1 dO_54 (by decide +kernel)
theorem dX6_wordAt_11 : decode cX6_wordAt 11 = .ok (.iload 6, 2) := dcU1 dO_21 (by decide +kernel)
theorem dX6_wordAt_13 : decode cX6_wordAt 13 = .ok (.ldc 105, 2) := dcU1 dO_18 (by decide +kernel)
theorem dX6_wordAt_15 : decode cX6_wordAt 15 = .ok (.invokevirtual 107, 3) := dcU2 dO_182 (by decide +kernel)
theorem dX6_wordAt_18 : decode cX6_wordAt 18 = .ok (.if_icmp .ge 91, 3) := dcS2 dO_162 (by decide +kernel)
theorem dX6_wordAt_21 : decode cX6_wordAt 21 = .ok (.ldc 105, 2) := dcU1 dO_18 (by decide +kernel)
theorem dX6_wordAt_23 : decode cX6_wordAt 23 = .ok (.iload 6, 2) := dcU1 dO_21 (by decide +kernel)
theorem dX6_wordAt_25 : decode cX6_wordAt 25 = .ok (.invokevirtual 113, 3) := dcU2 dO_182 (by decide +kernel)
theorem dX6_wordAt_28 : decode cX6_wordAt 28 = .ok (.istore 7, 2) := dcU1 dO_54 (by decide +kernel)
theorem dX6_wordAt_30 : decode cX6_wordAt 30 = .ok (.iload 7, 2) := dcU1 dO_21 (by decide +kernel)
theorem dX6_wordAt_32 : decode cX6_wordAt 32 = .ok (.bipush 32, 2) := dcS1 dO_16 (by decide +kernel)
theorem dX6_wordAt_34 : decode cX6_wordAt 34 = .ok (.if_icmp .eq 41, 3) := dcS2 dO_159 (by decide +kernel)
theorem dX6_wordAt_37 : decode cX6_wordAt 37 = .ok (.iload 5, 2) := dcU1 dO_21 (by decide +kernel)
theorem dX6_wordAt_39 : decode cX6_wordAt 39 = .ok (.ifCond .eq 30, 3) := dcS2 dO_153 (by decide +kernel)
theorem dX6_wordAt_42 : decode cX6_wordAt 42 = .ok (.iload 6, 2) := dcU1 dO_21 (by decide +kernel)
theorem dX6_wordAt_44 : decode cX6_wordAt 44 = .ok (.iload 4, 2) := dcU1 dO_21 (by decide +kernel)
theorem dX6_wordAt_46 : decode cX6_wordAt 46 = .ok (.isub, 1) := dc0 dO_100 (by decide +kernel)
theorem dX6_wordAt_47 : decode cX6_wordAt 47 = .ok (.iload_n 2, 1) := dc0 dO_28 (by decide +kernel)
theorem dX6_wordAt_48 : decode cX6_wordAt 48 = .ok (.if_icmp .ge 21, 3) := dcS2 dO_162 (by decide +kernel)
theorem dX6_wordAt_51 : decode cX6_wordAt 51 = .ok (.aload_n 0, 1) := dc0 dO_42 (by decide +kernel)
theorem dX6_wordAt_52 : decode cX6_wordAt 52 = .ok (.iload_n 1, 1) := dc0 dO_27 (by decide +kernel)
theorem dX6_wordAt_53 : decode cX6_wordAt 53 = .ok (.iload 6, 2) := dcU1 dO_21 (by decide +kernel)
theorem dX6_wordAt_55 : decode cX6_wordAt 55 = .ok (.iadd, 1) := dc0 dO_96 (by decide +kernel)
theorem dX6_wordAt_56 : decode cX6_wordAt 56 = .ok (.iload 4, 2) := dcU1 dO_21 (by decide +kernel)
theorem dX6_wordAt_58 : decode cX6_wordAt 58 = .ok (.isub, 1) := dc0 dO_100 (by decide +kernel)
theorem dX6_wordAt_59 : decode cX6_wordAt 59 = .ok (.iaload, 1) := dc0 dO_46 (by decide +kernel)
theorem dX6_wordAt_60 : decode cX6_wordAt 60 = .ok (.iload 7, 2) := dcU1 dO_21 (by decide +kernel)
theorem dX6_wordAt_62 : decode cX6_wordAt 62 = .ok (.if_icmp .ne 7, 3) := dcS2 dO_160 (by decide +kernel)
theorem dX6_wordAt_65 : decode cX6_wordAt 65 = .ok (.iconst 1, 1) := dc0 dO_4 (by decide +kernel)
theorem dX6_wordAt_66 : decode cX6_wordAt 66 = .ok (.goto 4, 3) := dcS2 dO_167 (by decide +kernel)
theorem dX6_wordAt_69 : decode cX6_wordAt 69 = .ok (.iconst 0, 1) := dc0 dO_3 (by decide +kernel)
theorem dX6_wordAt_70 : decode cX6_wordAt 70 = .ok (.istore 5, 2) := dcU1 dO_54 (by decide +kernel)
theorem dX6_wordAt_72 : decode cX6_wordAt 72 = .ok (.goto 31, 3) := dcS2 dO_167 (by decide +kernel)
theorem dX6_wordAt_75 : decode cX6_wordAt 75 = .ok (.iload 5, 2) := dcU1 dO_21 (by decide +kernel)
theorem dX6_wordAt_77 : decode cX6_wordAt 77 = .ok (.ifCond .eq 14, 3) := dcS2 dO_153 (by decide +kernel)
theorem dX6_wordAt_80 : decode cX6_wordAt 80 = .ok (.iload 6, 2) := dcU1 dO_21 (by decide +kernel)
theorem dX6_wordAt_82 : decode cX6_wordAt 82 = .ok (.iload 4, 2) := dcU1 dO_21 (by decide +kernel)
theorem dX6_wordAt_84 : decode cX6_wordAt 84 = .ok (.isub, 1) := dc0 dO_100 (by decide +kernel)
theorem dX6_wordAt_85 : decode cX6_wordAt 85 = .ok (.iload_n 2, 1) := dc0 dO_28 (by decide +kernel)
theorem dX6_wordAt_86 : decode cX6_wordAt 86 = .ok (.if_icmp .ne 5, 3) := dcS2 dO_160 (by decide +kernel)
theorem dX6_wordAt_89 : decode cX6_wordAt 89 = .ok (.iload_n 3, 1) := dc0 dO_29 (by decide +kernel)
theorem dX6_wordAt_90 : decode cX6_wordAt 90 = .ok (.ireturn, 1) := dc0 dO_172 (by decide +kernel)
theorem dX6_wordAt_91 : decode cX6_wordAt 91 = .ok (.iinc 3 1, 3) := dcI dO_132 (by decide +kernel)
theorem dX6_wordAt_94 : decode cX6_wordAt 94 = .ok (.iload 6, 2) := dcU1 dO_21 (by decide +kernel)
theorem dX6_wordAt_96 : decode cX6_wordAt 96 = .ok (.iconst 1, 1) := dc0 dO_4 (by decide +kernel)
theorem dX6_wordAt_97 : decode cX6_wordAt 97 = .ok (.iadd, 1) := dc0 dO_96 (by decide +kernel)
theorem dX6_wordAt_98 : decode cX6_wordAt 98 = .ok (.istore 4, 2) := dcU1 dO_54 (by decide +kernel)
theorem dX6_wordAt_100 : decode cX6_wordAt 100 = .ok (.iconst 1, 1) := dc0 dO_4 (by decide +kernel)
theorem dX6_wordAt_101 : decode cX6_wordAt 101 = .ok (.istore 5, 2) := dcU1 dO_54 (by decide +kernel)
theorem dX6_wordAt_103 : decode cX6_wordAt 103 = .ok (.iinc 6 1, 3) := dcI dO_132 (by decide +kernel)
theorem dX6_wordAt_106 : decode cX6_wordAt 106 = .ok (.goto (-95), 3) := dcS2 dO_167 (by decide +kernel)
theorem dX6_wordAt_109 : decode cX6_wordAt 109 = .ok (.bipush (-3), 2) := dcS1 dO_16 (by decide +kernel)
theorem dX6_wordAt_111 : decode cX6_wordAt 111 = .ok (.ireturn, 1) := dc0 dO_172 (by decide +kernel)
end
section
theorem vc_X4_isWish_r_2 {p2 : Int} (h0 : p2 < 2) (h1 : 0 ≤ p2 ∧ p2 ≤ 1) : (0 : Int) = 1 → 2 ≤ p2 ∧ p2 ≤ 7 := by omega
theorem vc_X4_isWish_r_5 {p2 : Int} (h0 : 2 ≤ p2) (h1 : 7 < p2) (h2 : 8 ≤ p2 ∧ p2 ≤ 20) : (0 : Int) = 1 → 2 ≤ p2 ∧ p2 ≤ 7 := by omega
theorem vc_X4_isWish_r_8 {p2 z176 : Int} (h0 : (8 - z176) < ((0 : Nat) : Int)) (h1 : z176 ≤ p2) (h2 : 2 ≤ p2) (h3 : p2 ≤ 7) (h4 : 2 ≤ p2 ∧ p2 ≤ 7) (h5 : 0 ≤ z176 ∧ z176 ≤ 7) : False := by omega
theorem vc_X4_isWish_r_9 {p2 z176 : Int} (h0 : p2 ≤ z176) (h1 : 2 ≤ p2) (h2 : p2 ≤ 7) (h3 : z176 ≤ p2) (h4 : 2 ≤ p2 ∧ p2 ≤ 7) (h5 : 0 ≤ z176 ∧ z176 ≤ 7) : 2 ≤ z176 ∧ z176 ≤ 7 := by omega
theorem vc_X4_isWish_r_10 {p2 z176 : Int} (h0 : 2 ≤ p2) (h1 : p2 ≤ 7) (h2 : z176 ≤ p2) (h3 : p2 ≤ z176) (h4 : 2 ≤ p2 ∧ p2 ≤ 7) (h5 : 2 ≤ z176 ∧ z176 ≤ 7) : (1 : Int) = 1 → 2 ≤ p2 ∧ p2 ≤ 7 := by omega
theorem vc_X4_isWish_r_11 {p2 z176 : Int} (h0 : 2 ≤ p2) (h1 : p2 ≤ 7) (h2 : z176 ≤ p2) (h3 : p2 ≤ z176) (h4 : 2 ≤ p2 ∧ p2 ≤ 7) (h5 : 2 ≤ z176 ∧ z176 ≤ 7) : z176 = p2 := by omega
theorem vc_X4_isWish_r_12 {p2 z176 : Int} (h0 : z176 < p2) (h1 : 2 ≤ p2) (h2 : p2 ≤ 7) (h3 : z176 ≤ p2) (h4 : 2 ≤ p2 ∧ p2 ≤ 7) (h5 : 0 ≤ z176 ∧ z176 ≤ 7) : 0 ≤ z176 ∧ z176 ≤ 6 := by omega
theorem vc_X4_isWish_r_13 {z191 : Int} (h0 : 7 ≤ z191) (h1 : 0 ≤ z191 ∧ z191 ≤ 9) : 7 ≤ z191 ∧ z191 ≤ 9 := by omega
theorem vc_X4_isWish_r_14 {p2 z176 : Int} (h0 : 2 ≤ p2) (h1 : p2 ≤ 7) (h2 : z176 ≤ p2) (h3 : z176 < p2) (h4 : 2 ≤ p2 ∧ p2 ≤ 7) (h5 : 0 ≤ z176 ∧ z176 ≤ 6) : (0 : Int) = 1 → 2 ≤ p2 ∧ p2 ≤ 7 := by omega
theorem vc_X4_isWish_r_15 {z191 : Int} (h0 : z191 < 7) (h1 : 0 ≤ z191 ∧ z191 ≤ 9) : 0 ≤ z191 ∧ z191 ≤ 6 := by omega
theorem vc_X4_isWish_r_17 {p2 z176 : Int} (h0 : 2 ≤ p2) (h1 : p2 ≤ 7) (h2 : z176 ≤ p2) (h3 : z176 < p2) (h4 : 2 ≤ p2 ∧ p2 ≤ 7) (h5 : 0 ≤ z176 ∧ z176 ≤ 6) : (z176 + 1) ≤ p2 := by omega
theorem vc_X4_isWish_r_18 {N p2 z176 : Int} (h0 : (8 - z176) < N + 1) (h1 : z176 ≤ p2) (h2 : z176 < p2) (h3 : 2 ≤ p2) (h4 : p2 ≤ 7) (h5 : 2 ≤ p2 ∧ p2 ≤ 7) (h6 : 0 ≤ z176 ∧ z176 ≤ 6) : (8 - (z176 + 1)) < N := by omega
theorem vc_X4_isWish_r_19 {z191 : Int} (h0 : z191 < 7) (h1 : 0 ≤ z191 ∧ z191 ≤ 6) : z191 ≤ 6 := by omega
theorem vc_X4_isWish_r_21 {p2 : Int} (h0 : 2 ≤ p2) (h1 : p2 ≤ 7) (h2 : 2 ≤ p2 ∧ p2 ≤ 7) : (0 : Int) ≤ p2 := by omega
theorem vc_X4_isWish_r_24 {p2 : Int} (h0 : 2 ≤ p2) (h1 : p2 ≤ 7) (h2 : 2 ≤ p2 ∧ p2 ≤ 7) : (0 : Int) = 1 → 2 ≤ p2 ∧ p2 ≤ 7 := by omega
set_option maxRecDepth 4000 in
set_option maxHeartbeats 4000000 in
theorem c_X4_isWish_r {l : Launch} {D : va_G} {c : Nat → ClassId} {H0 : Heap} {sa : Nat × Nat × (Nat → Int32)} {w : mW} {μ : mM} (hw : mWF w) (hT : mT w μ) (hA1 : mAt w 2 2) {p2 : Int} (hp2 : 0 ≤ p2 ∧ p2 ≤ 20) : sC (gG l D c H0 sa) mX4_isWish 1 0 0 [.ref 2, iv p2] (mk w μ) (qP w μ (fun z => (0 ≤ z ∧ z ≤ 1) ∧ (z = 1 → 2 ≤ p2 ∧ p2 ≤ 7) ∧ (z = 1 → allLe μ 2 p2 6) ∧ True)) := by
  refine sC.of rfl (by decide) (le_t rfl) ?_
  refine mr_lvE (lv' := [(0, .ref 2), (1, iv p2)]) rfl ?_
  refine mr_iload_n (pc := 0) (z := p2) dX4_isWish_0 rfl rfl ?_
  refine mr_iconst (pc := 1) (z := 2) dX4_isWish_1 ?_
  refine mr_icmp_lt (pc := 2) (tgt := 19) dX4_isWish_2 (by decide) (r32 hp2 rfl) (r32 (rR (x := 2)) rfl) (fun h1 => ?_) (fun h1 => ?_)
  · have h2 : 0 ≤ p2 ∧ p2 ≤ 1 := (vc_X12_wish_1 h1 hp2)
    refine mr_iconst (pc := 19) (z := 0) dX4_isWish_19 ?_
    exact mr_zretP dX4_isWish_20 rfl (rW (c := 0) (d := 1) (rR (x := 0)) rfl) (le_t rfl) (le_t rfl) ⟨(rW (c := 0) (d := 1) (rR (x := 0)) rfl), (vc_X4_isWish_r_2 h1 h2), (fun h => absurd h (by decide)), trivial⟩
  have h3 : 2 ≤ p2 ∧ p2 ≤ 20 := (vc_X12_wish_7 h1 hp2)
  refine mr_iload_n (pc := 5) (z := p2) dX4_isWish_5 rfl rfl ?_
  refine mr_bipush (pc := 6) (z := 7) dX4_isWish_6 (by decide) ?_
  refine mr_icmp_gt (pc := 8) (tgt := 19) dX4_isWish_8 (by decide) (r32 h3 rfl) (r32 (rR (x := 7)) rfl) (fun h4 => ?_) (fun h4 => ?_)
  · have h5 : 8 ≤ p2 ∧ p2 ≤ 20 := (vc_X12_wish_8 h4 h1 h3)
    refine mr_iconst (pc := 19) (z := 0) dX4_isWish_19 ?_
    exact mr_zretP dX4_isWish_20 rfl (rW (c := 0) (d := 1) (rR (x := 0)) rfl) (le_t rfl) (le_t rfl) ⟨(rW (c := 0) (d := 1) (rR (x := 0)) rfl), (vc_X4_isWish_r_5 h1 h4 h5), (fun h => absurd h (by decide)), trivial⟩
  have h6 : 2 ≤ p2 ∧ p2 ≤ 7 := (vc_X12_wish_11 h4 h1 h3)
  refine sv_aload_n (pc := 11) dX4_isWish_11 rfl rfl ?_
  refine mr_iload_n (pc := 12) (z := p2) dX4_isWish_12 rfl rfl ?_
  refine mr_iconst (pc := 13) (z := 1) dX4_isWish_13 ?_
  refine mr_isub (pc := 14) (x := p2) (y := 1) dX4_isWish_14 ?_
  refine la_2 (pc := 15) dX4_isWish_15 (A_2 hw) hT (rIx (n := 20) (rSub (e := 1) (f := 6) h6 (rR (x := 1)) rfl) rfl) fun z7 q8 h9 => ?_
  refine mr_if_eq (pc := 16) (tgt := 21) dX4_isWish_16 (by decide) (r32 h9 rfl) (fun h10 => ?_) (fun h10 => ?_)
  · have h11 : 0 ≤ z7 ∧ z7 ≤ 0 := (vc_X12_wish_12 h10 h9)
    refine mr_iconst (pc := 21) (z := 0) dX4_isWish_21 ?_
    refine mr_istore_n (pc := 22) (lv' := [(2, iv 0), (0, .ref 2), (1, iv p2)]) dX4_isWish_22 rfl (by decide) rfl ?_
    refine mr_iconst (pc := 23) (z := 0) dX4_isWish_23 ?_
    refine mr_istore_n (pc := 24) (lv' := [(3, iv 0), (2, iv 0), (0, .ref 2), (1, iv p2)]) dX4_isWish_24 rfl (by decide) rfl ?_
    have L178 : ∀ (nL178 : Nat) (z177 z176 : Int), True → ((-2147483648) ≤ z177 ∧ z177 ≤ 2147483647) → (0 ≤ z176 ∧ z176 ≤ 7) → (z176 ≤ p2) → allLe μ 2 z176 6 → (8 - z176) < (nL178 : Int) → sV (gG l D c H0 sa) mX4_isWish (sRm 1 0 0) (sZ (gG l D c H0 sa) 0 0 (qP w μ (fun z => (0 ≤ z ∧ z ≤ 1) ∧ (z = 1 → 2 ≤ p2 ∧ p2 ≤ 7) ∧ (z = 1 → allLe μ 2 p2 6) ∧ True))) 25 [(0, .ref 2), (1, iv p2), (2, iv z177), (3, iv z176)] [] (mk w μ) 0 0 := by
      intro nL178
      induction nL178 with
      | zero => intro z177 z176 _ h179 h180 h184 R185 h186; exact ((vc_X4_isWish_r_8 h186 h184 h1 h4 h6 h180)).elim
      | succ nL178 ih187 =>
        intro z177 z176 _ h179 h180 h184 R185 h186
        refine mr_iload_n (pc := 25) (z := z176) dX4_isWish_25 rfl rfl ?_
        refine mr_iload_n (pc := 26) (z := p2) dX4_isWish_26 rfl rfl ?_
        refine mr_icmp_ge (pc := 27) (tgt := 64) dX4_isWish_27 (by decide) (r32 h180 rfl) (r32 h6 rfl) (fun h188 => ?_) (fun h188 => ?_)
        · have h189 : 2 ≤ z176 ∧ z176 ≤ 7 := (vc_X4_isWish_r_9 h188 h1 h4 h184 h6 h180)
          refine mr_iconst (pc := 64) (z := 1) dX4_isWish_64 ?_
          exact mr_zretP dX4_isWish_65 rfl (rW (c := 0) (d := 1) (rR (x := 1)) rfl) (le_t rfl) (le_t rfl) ⟨(rW (c := 0) (d := 1) (rR (x := 1)) rfl), (vc_X4_isWish_r_10 h1 h4 h184 h188 h6 h189), (fun _ => by have h := R185; rw [show z176 = p2 from (vc_X4_isWish_r_11 h1 h4 h184 h188 h6 h189)] at h; exact h), trivial⟩
        have h190 : 0 ≤ z176 ∧ z176 ≤ 6 := (vc_X4_isWish_r_12 h188 h1 h4 h184 h6 h180)
        refine sv_aload_n (pc := 30) dX4_isWish_30 rfl rfl ?_
        refine mr_iload_n (pc := 31) (z := z176) dX4_isWish_31 rfl rfl ?_
        refine la_2 (pc := 32) dX4_isWish_32 (A_2 hw) hT (rIx (n := 20) h190 rfl) fun z191 q192 h193 => ?_
        refine mr_bipush (pc := 33) (z := 7) dX4_isWish_33 (by decide) ?_
        refine mr_icmp_ge (pc := 35) (tgt := 48) dX4_isWish_35 (by decide) (r32 h193 rfl) (r32 (rR (x := 7)) rfl) (fun h194 => ?_) (fun h194 => ?_)
        · have h195 : 7 ≤ z191 ∧ z191 ≤ 9 := (vc_X4_isWish_r_13 h194 h193)
          refine mr_iconst (pc := 48) (z := 0) dX4_isWish_48 ?_
          exact mr_zretP dX4_isWish_49 rfl (rW (c := 0) (d := 1) (rR (x := 0)) rfl) (le_t rfl) (le_t rfl) ⟨(rW (c := 0) (d := 1) (rR (x := 0)) rfl), (vc_X4_isWish_r_14 h1 h4 h184 h188 h6 h190), (fun h => absurd h (by decide)), trivial⟩
        have h196 : 0 ≤ z191 ∧ z191 ≤ 6 := (vc_X4_isWish_r_15 h194 h193)
        refine mr_iload_n (pc := 38) (z := z177) dX4_isWish_38 rfl rfl ?_
        refine sv_aload_n (pc := 39) dX4_isWish_39 rfl rfl ?_
        refine mr_iload_n (pc := 40) (z := z176) dX4_isWish_40 rfl rfl ?_
        refine lk_2 (pc := 41) dX4_isWish_41 (A_2 hw) (rIx (n := 20) h190 rfl) q192 ?_
        refine mr_ishr (pc := 42) (x := z177) (y := z191) dX4_isWish_42 ?_
        refine mr_gen (P := fun z => (-2147483648) ≤ z ∧ z ≤ 2147483647) (r32i _) fun z197 q198 h199 => ?_
        refine mr_iconst (pc := 43) (z := 1) dX4_isWish_43 ?_
        refine mr_iand (pc := 44) (x := z197) (y := 1) dX4_isWish_44 ?_
        refine mr_gen (P := fun z => 0 ≤ z ∧ z ≤ 1) (rAndR (rR (x := 1)) rfl) fun z200 q201 h202 => ?_
        refine mr_if_eq (pc := 45) (tgt := 50) dX4_isWish_45 (by decide) (r32 h202 rfl) (fun h203 => ?_) (fun h203 => ?_)
        · have h204 : 0 ≤ z200 ∧ z200 ≤ 0 := (vc_X12_ring_22 h203 h202)
          refine mr_iload_n (pc := 50) (z := z177) dX4_isWish_50 rfl rfl ?_
          refine mr_iconst (pc := 51) (z := 1) dX4_isWish_51 ?_
          refine sv_aload_n (pc := 52) dX4_isWish_52 rfl rfl ?_
          refine mr_iload_n (pc := 53) (z := z176) dX4_isWish_53 rfl rfl ?_
          refine lk_2 (pc := 54) dX4_isWish_54 (A_2 hw) (rIx (n := 20) h190 rfl) q192 ?_
          refine mr_ishl (pc := 55) (x := 1) (y := z191) dX4_isWish_55 ?_
          refine mr_gen (P := fun z => (-2147483648) ≤ z ∧ z ≤ 2147483647) (r32i _) fun z205 q206 h207 => ?_
          refine mr_ior (pc := 56) (x := z177) (y := z205) dX4_isWish_56 ?_
          refine mr_gen (P := fun z => (-2147483648) ≤ z ∧ z ≤ 2147483647) (r32i _) fun z208 q209 h210 => ?_
          refine mr_istore_n (pc := 57) (lv' := [(2, iv z208), (0, .ref 2), (1, iv p2), (3, iv z176)]) dX4_isWish_57 rfl (by decide) rfl ?_
          refine mr_iinc (pc := 58) (lv' := [(3, iv (z176 + 1)), (2, iv z208), (0, .ref 2), (1, iv p2)]) dX4_isWish_58 rfl (by decide) rfl ?_
          refine sv_goto (pc := 61) (tgt := 25) dX4_isWish_61 (by decide) ?_
          refine mr_lvS (lv' := [(0, .ref 2), (1, iv p2), (2, iv z208), (3, iv (z176 + 1))]) (List.forall_mem_cons.mpr ⟨rfl, List.forall_mem_cons.mpr ⟨rfl, List.forall_mem_cons.mpr ⟨rfl, List.forall_mem_cons.mpr ⟨rfl, fun _ h => absurd h List.not_mem_nil⟩⟩⟩⟩) ?_
          exact ih187 z208 (z176 + 1) trivial h210 (rW (c := 0) (d := 7) (rAdd (e := 1) (f := 7) h190 (rR (x := 1)) rfl) rfl) (vc_X4_isWish_r_17 h1 h4 h184 h188 h6 h190) (allLe.succ R185 q192 (vc_X4_isWish_r_19 h194 h196)) (vc_X4_isWish_r_18 (nS h186) h184 h188 h1 h4 h6 h190)
        have h211 : 1 ≤ z200 ∧ z200 ≤ 1 := (vc_X12_ring_24 h203 h202)
        refine mr_iconst (pc := 48) (z := 0) dX4_isWish_48 ?_
        exact mr_zretP dX4_isWish_49 rfl (rW (c := 0) (d := 1) (rR (x := 0)) rfl) (le_t rfl) (le_t rfl) ⟨(rW (c := 0) (d := 1) (rR (x := 0)) rfl), (vc_X4_isWish_r_14 h1 h4 h184 h188 h6 h190), (fun h => absurd h (by decide)), trivial⟩
    refine mr_lvS (lv' := [(0, .ref 2), (1, iv p2), (2, iv 0), (3, iv 0)]) (List.forall_mem_cons.mpr ⟨rfl, List.forall_mem_cons.mpr ⟨rfl, List.forall_mem_cons.mpr ⟨rfl, List.forall_mem_cons.mpr ⟨rfl, fun _ h => absurd h List.not_mem_nil⟩⟩⟩⟩) ?_
    exact L178 9 0 0 trivial (rW (c := (-2147483648)) (d := 2147483647) (rR (x := 0)) rfl) (rW (c := 0) (d := 7) (rR (x := 0)) rfl) (vc_X4_isWish_r_21 h1 h4 h6) (allLe.zero (Int.le_refl 0)) vc_X12_isWished_9
  have h212 : 1 ≤ z7 ∧ z7 ≤ 9 := (vc_X12_wish_15 h10 h9)
  refine mr_iconst (pc := 19) (z := 0) dX4_isWish_19 ?_
  exact mr_zretP dX4_isWish_20 rfl (rW (c := 0) (d := 1) (rR (x := 0)) rfl) (le_t rfl) (le_t rfl) ⟨(rW (c := 0) (d := 1) (rR (x := 0)) rfl), (vc_X4_isWish_r_24 h1 h4 h6), (fun h => absurd h (by decide)), trivial⟩
theorem vc_X4_addWish_2 {f_wp : Int} (h0 : f_wp ≤ 4) (h1 : 0 ≤ f_wp ∧ f_wp ≤ 5) : 0 ≤ f_wp ∧ f_wp ≤ 4 := by omega
theorem vc_X4_addWish_4 {f_p f_wp : Int} (h0 : f_p ≤ 6) (h1 : f_wp ≤ 4) (h2 : 0 ≤ f_p ∧ f_p ≤ 6) (h3 : 0 ≤ f_wp ∧ f_wp ≤ 4) : 0 ≤ (((f_p * 5) + f_wp) * 7) := by omega
theorem vc_X4_addWish_5 {p2 : Int} (h0 : 2 ≤ p2 ∧ p2 ≤ 7) : 0 ≤ p2 := by omega
theorem vc_X4_addWish_6 {p2 : Int} (h0 : 2 ≤ p2 ∧ p2 ≤ 7) : 0 + p2 ≤ ((20 : Nat) : Int) := by omega
theorem vc_X4_addWish_7 {f_p f_wp p2 : Int} (h0 : f_p ≤ 6) (h1 : f_wp ≤ 4) (h2 : 0 ≤ f_p ∧ f_p ≤ 6) (h3 : 0 ≤ f_wp ∧ f_wp ≤ 4) (h4 : 2 ≤ p2 ∧ p2 ≤ 7) : (((f_p * 5) + f_wp) * 7) + p2 ≤ ((245 : Nat) : Int) := by omega
set_option maxRecDepth 4000 in
set_option maxHeartbeats 4000000 in
theorem c_X4_addWish {l : Launch} {D : va_G} {c : Nat → ClassId} {H0 : Heap} {sa : Nat × Nat × (Nat → Int32)} {w : mW} {μ : mM} (hw : mWF w) (hT : mT w μ) (hA1 : mAt w 2 2) {p2 : Int} (hp2 : 2 ≤ p2 ∧ p2 ≤ 7) {f_p : Int} (q_f_p : μ 2 ((0 : Int).toNat) = f_p) {f_wp : Int} (q_f_wp : μ 95 (f_p.toNat) = f_wp) (hq0 : f_p ≤ 6) (hq1 : f_wp ≤ 4) (hall : allLe μ 2 p2 6) : sC (gG l D c H0 sa) mX4_addWish 3 0 0 [.ref 94, .ref 2, iv p2] (mk w μ) (qI w [94010, 94011, 95999, 96999, 97999] μ (fun z μ1 => ((-2147483648) ≤ z ∧ z ≤ 2147483647) ∧ True)) := by
  refine sC.of rfl (by decide) (le_t rfl) ?_
  have ht_f_p : (0 ≤ f_p ∧ f_p ≤ 9) := by rw [← q_f_p]; exact hT 2 2 (A_2 hw) ((0 : Int).toNat)
  have ht_f_wp : (0 ≤ f_wp ∧ f_wp ≤ 5) := by rw [← q_f_wp]; exact hT 95 95 (A_95 hw) (f_p.toNat)
  have h1 : 0 ≤ f_p ∧ f_p ≤ 6 := (vc_X12_wish_34 hq0 ht_f_p)
  have h2 : 0 ≤ f_wp ∧ f_wp ≤ 4 := (vc_X4_addWish_2 hq1 ht_f_wp)
  refine mr_lvE (lv' := [(0, .ref 94), (1, .ref 2), (2, iv p2)]) rfl ?_
  refine sv_aload_n (pc := 0) dX4_addWish_0 rfl rfl ?_
  refine mr_iconst (pc := 1) (z := 0) dX4_addWish_1 ?_
  refine lk_2 (pc := 2) dX4_addWish_2 (A_2 hw) (rIx (n := 20) (rR (x := 0)) rfl) q_f_p ?_
  refine mr_istore_n (pc := 3) (lv' := [(3, iv f_p), (0, .ref 94), (1, .ref 2), (2, iv p2)]) dX4_addWish_3 rfl (by decide) rfl ?_
  refine mr_iload_n (pc := 4) (z := f_p) dX4_addWish_4 rfl rfl ?_
  refine mr_iconst (pc := 5) (z := 5) dX4_addWish_5 ?_
  refine mr_imul (pc := 6) (x := f_p) (y := 5) dX4_addWish_6 ?_
  refine sv_aload_n (pc := 7) dX4_addWish_7 rfl rfl ?_
  refine gf_X4_12 (pc := 8) dX4_addWish_8 wF_X4_11 (A_94 hw) hT ?_
  refine mr_iload_n (pc := 11) (z := f_p) dX4_addWish_11 rfl rfl ?_
  refine lk_95 (pc := 12) dX4_addWish_12 (A_95 hw) (rIx (n := 7) h1 rfl) q_f_wp ?_
  refine mr_iadd (pc := 13) (x := (f_p * 5)) (y := f_wp) dX4_addWish_13 ?_
  refine mr_istore (pc := 14) (lv' := [(4, iv ((f_p * 5) + f_wp)), (3, iv f_p), (0, .ref 94), (1, .ref 2), (2, iv p2)]) dX4_addWish_14 (by decide) rfl ?_
  refine sv_aload_n (pc := 16) dX4_addWish_16 rfl rfl ?_
  refine mr_iconst (pc := 17) (z := 0) dX4_addWish_17 ?_
  refine sv_aload_n (pc := 18) dX4_addWish_18 rfl rfl ?_
  refine gf_X4_0 (pc := 19) dX4_addWish_19 wF_X4_15 (A_94 hw) hT ?_
  refine mr_iload (pc := 22) (z := ((f_p * 5) + f_wp)) dX4_addWish_22 rfl ?_
  refine mr_bipush (pc := 24) (z := 7) dX4_addWish_24 (by decide) ?_
  refine mr_imul (pc := 26) (x := ((f_p * 5) + f_wp)) (y := 7) dX4_addWish_26 ?_
  refine mr_iload_n (pc := 27) (z := p2) dX4_addWish_27 rfl rfl ?_
  refine mr_acR (pc := 28) (sp := 0) (dp := (((f_p * 5) + f_wp) * 7)) (n := p2) dX4_addWish_28 wM_X4_46 wN_J_ac wS_J_ac wI_J_sys rfl (A_2 hw) rfl (A_96 hw) rfl vc_X2_send_2 (vc_X4_addWish_4 hq0 hq1 h1 h2) (vc_X4_addWish_5 hp2) (by have h := (A_2 hw).2.2.2 rfl; rw [h]; exact (vc_X4_addWish_6 hp2)) (by have h := (A_96 hw).2.2.2 rfl; rw [h]; exact (vc_X4_addWish_7 hq0 hq1 h1 h2 hp2)) (Nat.le_trans (A_2 hw).2.2.1 (le_t rfl)) (Nat.le_trans (A_96 hw).2.2.1 (le_t rfl)) (le_t rfl) (le_t rfl) (le_t rfl) hT (fun i j h1 h2 _ _ => ⟨(hT 2 2 (A_2 hw) i).1, hall (i : Int) (Int.natCast_nonneg i) (by omega)⟩) fun μ51 q52 T53 => ?_
  have F54 : mF [96999] w μ μ51 := mF.cell q52.1 (A_96 hw) rfl
  refine sv_aload_n (pc := 31) dX4_addWish_31 rfl rfl ?_
  refine gf_X4_1 (pc := 32) dX4_addWish_32 wF_X4_18 (A_94 hw) T53 ?_
  refine mr_iload (pc := 35) (z := ((f_p * 5) + f_wp)) dX4_addWish_35 rfl ?_
  refine mr_iload_n (pc := 37) (z := p2) dX4_addWish_37 rfl rfl ?_
  refine ss_97 (pc := 38) dX4_addWish_38 (A_97 hw) T53 (rIx (n := 35) (rAdd (e := 0) (f := 34) (rMulR (n := 5) (e := 0) (f := 30) h1 rfl) h2 rfl) rfl) (rW (c := 0) (d := 7) hp2 rfl) fun μ55 u56 T57 => ?_
  refine sv_aload_n (pc := 39) dX4_addWish_39 rfl rfl ?_
  refine gf_X4_12 (pc := 40) dX4_addWish_40 wF_X4_11 (A_94 hw) T57 ?_
  refine mr_iload_n (pc := 43) (z := f_p) dX4_addWish_43 rfl rfl ?_
  refine sv_dup2 (pc := 44) dX4_addWish_44 rfl rfl ?_
  refine lk_95 (pc := 45) dX4_addWish_45 (A_95 hw) (rIx (n := 7) h1 rfl) (u56.f (Or.inl (mAt.ne (A_97 hw) (A_95 hw) rfl)) (F54.f (A_95 hw) rfl q_f_wp)) ?_
  refine mr_iconst (pc := 46) (z := 1) dX4_addWish_46 ?_
  refine mr_iadd (pc := 47) (x := f_wp) (y := 1) dX4_addWish_47 ?_
  refine ss_95 (pc := 48) dX4_addWish_48 (A_95 hw) T57 (rIx (n := 7) h1 rfl) (rW (c := 0) (d := 5) (rAdd (e := 1) (f := 5) h2 (rR (x := 1)) rfl) rfl) fun μ58 u59 T60 => ?_
  refine sv_aload_n (pc := 49) dX4_addWish_49 rfl rfl ?_
  refine mr_iconst (pc := 50) (z := 0) dX4_addWish_50 ?_
  refine pf_X4_10 (pc := 51) dX4_addWish_51 wF_X4_52 (A_94 hw) T60 (rW (c := 0) (d := 1) (rR (x := 0)) rfl) fun μ61 u62 T63 => ?_
  refine sv_aload_n (pc := 54) dX4_addWish_54 rfl rfl ?_
  refine mr_iconst (pc := 55) (z := 0) dX4_addWish_55 ?_
  refine pf_X4_11 (pc := 56) dX4_addWish_56 wF_X4_56 (A_94 hw) T63 (rW (c := 0) (d := 1) (rR (x := 0)) rfl) fun μ64 u65 T66 => ?_
  refine sv_aload_n (pc := 59) dX4_addWish_59 rfl rfl ?_
  refine gf_X4_12 (pc := 60) dX4_addWish_60 wF_X4_11 (A_94 hw) T66 ?_
  refine mr_iload_n (pc := 63) (z := f_p) dX4_addWish_63 rfl rfl ?_
  refine lk_95 (pc := 64) dX4_addWish_64 (A_95 hw) (rIx (n := 7) h1 rfl) (u65.f (Or.inl (mAt.ne (A_94 hw) (A_95 hw) rfl)) (u62.f (Or.inl (mAt.ne (A_94 hw) (A_95 hw) rfl)) u59.1)) ?_
  exact mr_iret dX4_addWish_65 rfl (le_t rfl) (le_t rfl) T66 (mF.up (mF.up (mF.up (mF.up (mF.call mF.refl F54 rfl) (A_97 hw) u56 rfl) (A_95 hw) u59 rfl) (A_94 hw) u62 rfl) (A_94 hw) u65 rfl) ⟨(rW (c := (-2147483648)) (d := 2147483647) (rAdd (e := 1) (f := 5) h2 (rR (x := 1)) rfl) rfl), trivial⟩
theorem vc_X11_wish_1 {z1 z8 : Int} (h0 : ¬ z8 = 0) (h1 : (z8 = 1 → 2 ≤ z1 ∧ z1 ≤ 7)) (h2 : 0 ≤ z1 ∧ z1 ≤ 20) (h3 : 0 ≤ z8 ∧ z8 ≤ 1) : 1 ≤ z8 ∧ z8 ≤ 1 := by omega
theorem vc_X11_wish_2 {z1 z8 : Int} (h0 : (z8 = 1 → 2 ≤ z1 ∧ z1 ≤ 7)) (h1 : ¬ z8 = 0) (h2 : 0 ≤ z1 ∧ z1 ≤ 20) (h3 : 1 ≤ z8 ∧ z8 ≤ 1) : z8 = 1 := by omega
theorem vc_X11_wish_3 {z1 z8 : Int} (h0 : 2 ≤ z1 ∧ z1 ≤ 7) (h1 : (z8 = 1 → 2 ≤ z1 ∧ z1 ≤ 7)) (h2 : 0 ≤ z1 ∧ z1 ≤ 20) (h3 : 1 ≤ z8 ∧ z8 ≤ 1) : 2 ≤ z1 ∧ z1 ≤ 7 := by omega
theorem vc_X11_wish_4 {z1 z8 : Int} (h0 : (z8 = 1 → 2 ≤ z1 ∧ z1 ≤ 7)) (h1 : ¬ z8 = 0) (h2 : 2 ≤ z1 ∧ z1 ≤ 7) (h3 : 1 ≤ z8 ∧ z8 ≤ 1) : z8 = 1 := by omega
theorem vc_X11_wish_5 {z1 z8 : Int} (h0 : (z8 = 1 → 2 ≤ z1 ∧ z1 ≤ 7)) (h1 : 2 ≤ z1 ∧ z1 ≤ 7) (h2 : ¬ z8 = 0) (h3 : 1 ≤ z8 ∧ z8 ≤ 1) : 0 < z1 := by omega
theorem vc_X11_wish_8 {z22 : Int} (h0 : z22 < 0) (h1 : (-1) ≤ z22 ∧ z22 ≤ 4) : (-1) ≤ z22 ∧ z22 ≤ (-1) := by omega
theorem vc_X11_wish_9 {z25 : Int} (h0 : z25 < 5) (h1 : 0 ≤ z25 ∧ z25 ≤ 5) : 0 ≤ z25 ∧ z25 ≤ 4 := by omega
theorem vc_X11_wish_10 {z25 : Int} (h0 : z25 < 5) (h1 : 0 ≤ z25 ∧ z25 ≤ 4) : z25 ≤ 4 := by omega
theorem vc_X11_wish_11 {z25 : Int} (h0 : 5 ≤ z25) (h1 : 0 ≤ z25 ∧ z25 ≤ 5) : 5 ≤ z25 ∧ z25 ≤ 5 := by omega
theorem vc_X11_wish_12 {z22 : Int} (h0 : 0 ≤ z22) (h1 : (-1) ≤ z22 ∧ z22 ≤ 4) : 0 ≤ z22 ∧ z22 ≤ 4 := by omega
theorem vc_X11_wish_13 {z1 z8 : Int} (h0 : z8 = 0) (h1 : (z8 = 1 → 2 ≤ z1 ∧ z1 ≤ 7)) (h2 : 0 ≤ z1 ∧ z1 ≤ 20) (h3 : 0 ≤ z8 ∧ z8 ≤ 1) : 0 ≤ z8 ∧ z8 ≤ 0 := by omega
set_option maxRecDepth 4000 in
set_option maxHeartbeats 4000000 in
theorem c_X11_wish {l : Launch} {D : va_G} {c : Nat → ClassId} {H0 : Heap} {sa : Nat × Nat × (Nat → Int32)} {w : mW} {μ : mM} (hw : mWF w) (hT : mT w μ) : sC (gG l D c H0 sa) mX11_wish 4 0 0 [.ref 0] (mk w μ) (qI w [94010, 94011, 95999, 96999, 97999] μ (fun z μ1 => ((-2147483648) ≤ z ∧ z ≤ 2147483647) ∧ True)) := by
  refine sC.of rfl (by decide) (le_t rfl) ?_
  refine mr_lvE (lv' := [(0, .ref 0)]) rfl ?_
  refine sv_aload_n (pc := 0) dX11_wish_0 rfl rfl ?_
  refine gf_X11_1 (pc := 1) dX11_wish_1 wF_X11_13 (A_0 hw) hT ?_
  refine sv_aload_n (pc := 4) dX11_wish_4 rfl rfl ?_
  refine gf_X11_11 (pc := 5) dX11_wish_5 wF_X11_169 (A_0 hw) hT fun z1 q2 h3 => ?_
  refine mr_cSP (pc := 8) (c_X4_isWish_r hw hT (A_2 hw) h3) (gOk _ _ _ _ _) dX11_wish_8 (tX4_isWish _ _ _ _ _) wS_X4_isWish wM_X11_397 ⟨le_t rfl, le_t rfl⟩ ⟨le_t rfl, le_t rfl⟩ rfl (le_t rfl) fun z8 h7 => ?_
  refine mr_if_ne (pc := 11) (tgt := 16) dX11_wish_11 (by decide) (r32 h7.1 rfl) (fun h9 => ?_) (fun h9 => ?_)
  · have h10 : 1 ≤ z8 ∧ z8 ≤ 1 := (vc_X11_wish_1 h9 h7.2.1 h3 h7.1)
    have h11 : 2 ≤ z1 ∧ z1 ≤ 7 := (h7.2.1 (vc_X11_wish_2 h7.2.1 h9 h3 h10))
    have h12 : 2 ≤ z1 ∧ z1 ≤ 7 := (vc_X11_wish_3 h11 h7.2.1 h3 h10)
    obtain ⟨z13, q14⟩ : ∃ z, μ 2 ((0 : Int).toNat) = z := ⟨_, rfl⟩
    have h15 : (0 ≤ z13 ∧ z13 ≤ 9) := by rw [← q14]; exact hT 2 2 (A_2 hw) ((0 : Int).toNat)
    have h16 : z13 ≤ 6 := allLe.at (h7.2.2.1 (vc_X11_wish_4 h7.2.1 h9 h11 h10)) (e := 0) (by decide) (vc_X11_wish_5 h7.2.1 h11 h9 h10) q14
    have h17 : 0 ≤ z13 ∧ z13 ≤ 6 := (vc_X12_wish_34 h16 h15)
    refine sv_aload_n (pc := 16) dX11_wish_16 rfl rfl ?_
    refine gf_X11_9 (pc := 17) dX11_wish_17 wF_X11_72 (A_0 hw) hT ?_
    refine sv_aload_n (pc := 20) dX11_wish_20 rfl rfl ?_
    refine gf_X11_1 (pc := 21) dX11_wish_21 wF_X11_13 (A_0 hw) hT ?_
    refine mr_iconst (pc := 24) (z := 0) dX11_wish_24 ?_
    refine sv_aload_n (pc := 25) dX11_wish_25 rfl rfl ?_
    refine gk_X11_11 (pc := 26) dX11_wish_26 wF_X11_169 (A_0 hw) q2 ?_
    refine mr_cVP (pc := 29) (c_X4_find_h hw hT (A_2 hw) (rR (x := 0)) (rW (c := 0) (d := 7) h12 rfl) q14 (vc_X12_wish_60 h16 h17)) (gOk _ _ _ _ _) dX11_wish_29 (tX4_find _ _ _ _ _) ⟨wV_X4_find, wL_X4_find⟩ wM_X11_401 (gCX4 _ _ _ _ _) rfl (A_94 hw) rfl ⟨le_t rfl, le_t rfl⟩ ⟨le_t rfl, le_t rfl⟩ rfl (le_t rfl) fun z22 h21 => ?_
    refine mr_if_lt (pc := 32) (tgt := 38) dX11_wish_32 (by decide) (r32 h21.1 rfl) (fun h23 => ?_) (fun h23 => ?_)
    · have h24 : (-1) ≤ z22 ∧ z22 ≤ (-1) := (vc_X11_wish_8 h23 h21.1)
      refine sv_aload_n (pc := 38) dX11_wish_38 rfl rfl ?_
      refine gf_X11_9 (pc := 39) dX11_wish_39 wF_X11_72 (A_0 hw) hT ?_
      refine gf_X4_12 (pc := 42) dX11_wish_42 wF_X11_405 (A_94 hw) hT ?_
      refine sv_aload_n (pc := 45) dX11_wish_45 rfl rfl ?_
      refine gf_X11_1 (pc := 46) dX11_wish_46 wF_X11_13 (A_0 hw) hT ?_
      refine mr_iconst (pc := 49) (z := 0) dX11_wish_49 ?_
      refine lk_2 (pc := 50) dX11_wish_50 (A_2 hw) (rIx (n := 20) (rR (x := 0)) rfl) q14 ?_
      refine la_95 (pc := 51) dX11_wish_51 (A_95 hw) hT (rIx (n := 7) h17 rfl) fun z25 q26 h27 => ?_
      refine mr_iconst (pc := 52) (z := 5) dX11_wish_52 ?_
      refine mr_icmp_lt (pc := 53) (tgt := 59) dX11_wish_53 (by decide) (r32 h27 rfl) (r32 (rR (x := 5)) rfl) (fun h28 => ?_) (fun h28 => ?_)
      · have h29 : 0 ≤ z25 ∧ z25 ≤ 4 := (vc_X11_wish_9 h28 h27)
        refine sv_aload_n (pc := 59) dX11_wish_59 rfl rfl ?_
        refine gf_X11_9 (pc := 60) dX11_wish_60 wF_X11_72 (A_0 hw) hT ?_
        refine sv_aload_n (pc := 63) dX11_wish_63 rfl rfl ?_
        refine gf_X11_1 (pc := 64) dX11_wish_64 wF_X11_13 (A_0 hw) hT ?_
        refine sv_aload_n (pc := 67) dX11_wish_67 rfl rfl ?_
        refine gk_X11_11 (pc := 68) dX11_wish_68 wF_X11_169 (A_0 hw) q2 ?_
        refine mr_cVI (pc := 71) (c_X4_addWish hw hT (A_2 hw) h12 q14 q26 (vc_X12_wish_60 h16 h17) (vc_X11_wish_10 h28 h29) (h7.2.2.1 (vc_X11_wish_4 h7.2.1 h9 h11 h10))) (gOk _ _ _ _ _) dX11_wish_71 (tX4_addWish _ _ _ _ _) ⟨wV_X4_addWish, wL_X4_addWish⟩ wM_X11_408 (gCX4 _ _ _ _ _) rfl (A_94 hw) rfl ⟨le_t rfl, le_t rfl⟩ ⟨le_t rfl, le_t rfl⟩ rfl (le_t rfl) fun z34 μ30 T31 F32 h33 => ?_
        exact mr_iret dX11_wish_74 rfl (le_t rfl) (le_t rfl) T31 (mF.call mF.refl F32 rfl) ⟨h33.1, trivial⟩
      have h35 : 5 ≤ z25 ∧ z25 ≤ 5 := (vc_X11_wish_11 h28 h27)
      refine mr_bipush (pc := 56) (z := (-3)) dX11_wish_56 (by decide) ?_
      exact mr_iret dX11_wish_58 rfl (le_t rfl) (le_t rfl) hT mF.refl ⟨(rW (c := (-2147483648)) (d := 2147483647) (rR (x := (-3))) rfl), trivial⟩
    have h36 : 0 ≤ z22 ∧ z22 ≤ 4 := (vc_X11_wish_12 h23 h21.1)
    refine mr_bipush (pc := 35) (z := (-2)) dX11_wish_35 (by decide) ?_
    exact mr_iret dX11_wish_37 rfl (le_t rfl) (le_t rfl) hT mF.refl ⟨(rW (c := (-2147483648)) (d := 2147483647) (rR (x := (-2))) rfl), trivial⟩
  have h37 : 0 ≤ z8 ∧ z8 ≤ 0 := (vc_X11_wish_13 h9 h7.2.1 h3 h7.1)
  refine mr_iconst (pc := 14) (z := (-1)) dX11_wish_14 ?_
  exact mr_iret dX11_wish_15 rfl (le_t rfl) (le_t rfl) hT mF.refl ⟨(rW (c := (-2147483648)) (d := 2147483647) (rR (x := (-1))) rfl), trivial⟩
end
section
/-! Memory that grows: new cells behind the old ones. -/
def wE (w w1 : mW) : Prop := w.1 ≤ w1.1 ∧ (∀ a, a < w.1 → w1.2.1 a = w.2.1 a ∧ w1.2.2.1 a = w.2.2.1 a) ∧ ∀ a, w.1 ≤ a → a < w1.1 → 100 < w1.2.1 a
theorem wE.refl {w : mW} : wE w w := ⟨Nat.le_refl _, fun _ _ => ⟨rfl, rfl⟩, fun _ h1 h2 => absurd h2 (Nat.not_lt.mpr h1)⟩
theorem wE.trans {w w1 w2 : mW} (h : wE w w1) (g : wE w1 w2) : wE w w2 := by
  refine ⟨Nat.le_trans h.1 g.1, fun a ha => ⟨(g.2.1 a (Nat.lt_of_lt_of_le ha h.1)).1.trans (h.2.1 a ha).1, (g.2.1 a (Nat.lt_of_lt_of_le ha h.1)).2.trans (h.2.1 a ha).2⟩, fun a h1 h2 => ?_⟩
  by_cases q : a < w1.1
  · rw [(g.2.1 a q).1]; exact h.2.2 a h1 q
  · exact g.2.2 a (Nat.not_lt.mp q) h2
theorem mAt.ext {w w1 : mW} {a s : Nat} (h : wE w w1) (hA : mAt w a s) : mAt w1 a s := by
  obtain ⟨h1, h2, h3, h4⟩ := hA
  obtain ⟨e1, e2⟩ := h.2.1 a h2
  exact ⟨e1.trans h1, Nat.lt_of_lt_of_le h2 h.1, by rw [e2]; exact h3, fun v => by rw [e2]; exact h4 v⟩
theorem mAt.back {w w1 : mW} {a s : Nat} (h : wE w w1) (ha : a < w.1) (hA : mAt w1 a s) : mAt w a s := by
  obtain ⟨h1, h2, h3, h4⟩ := hA
  obtain ⟨e1, e2⟩ := h.2.1 a ha
  exact ⟨e1 ▸ h1, ha, by rw [← e2]; exact h3, fun v => by rw [← e2]; exact h4 v⟩
theorem mWF.ext {w w1 : mW} (h : wE w w1) (hw : mWF w) : mWF w1 := by
  have lt : ∀ a, a < 192 → a < w.1 := fun a ha => Nat.lt_of_lt_of_le ha hw.2.1
  refine ⟨fun a ha => (h.2.1 a (lt a ha)).1.trans (hw.1 a ha), Nat.le_trans hw.2.1 h.1, fun a ha v => (h.2.1 a (lt a ha)).2.trans (hw.2.2.1 a ha v), fun a ha => by rw [(h.2.1 a (lt a ha)).2]; exact hw.2.2.2.1 a ha, fun a h1 h2 => ?_⟩
  by_cases q : a < w.1
  · rw [(h.2.1 a q).1]; exact hw.2.2.2.2 a h1 q
  · exact h.2.2 a (Nat.not_lt.mp q) h2
theorem tyP.ext {w w1 : mW} {a i : Nat} {d : Nat × Int × Int} {z : Int} (h : wE w w1) (hc : w1.2.2.2 = w.2.2.2) (t : tyP w a i d z) : tyP w1 a i d z := by
  obtain ⟨k, x, y⟩ := d
  have e : ∀ j, w1.2.2.2 j = w.2.2.2 j := fun j => by rw [hc]
  match k, t with
  | 0, t => exact t
  | 1, t => exact ⟨t.1, t.2.ext h⟩
  | 2, t => exact ⟨t.1, t.2.ext h⟩
  | 3, t => exact t.imp id (fun q => ⟨q.1, q.2.ext h⟩)
  | 4, t => exact ⟨t.1, t.2.ext h⟩
  | 5, t => exact t
  | 6, t => exact t
  | 7, t => exact t
  | 8, t => exact ⟨fun q => by have g := t.1 (by rw [← e]; exact q); exact ⟨g.1, g.2.ext h⟩, fun q => t.2 (by rw [← e]; exact q)⟩
  | 9, t => exact ⟨by rw [e]; exact t.1, t.2⟩
  | 10, t => exact ⟨t.1, t.2.1, by rw [e]; exact t.2.2⟩
  | 11, t => exact ⟨t.1, t.2.1, by rw [e]; exact t.2.2⟩
  | 12, t => exact ⟨t.1, t.2.1, by rw [e]; exact t.2.2⟩
  | 13, t => exact ⟨t.1, t.2.1, by rw [e]; exact t.2.2⟩
  | _ + 14, t => exact ⟨t.1, by rw [e]; exact t.2⟩
/-- frames over growth -/
def mX (l : List Nat) (w : mW) (μ : mM) (w1 : mW) (μ1 : mM) : Prop := wE w w1 ∧ ∀ a i, a < w.1 → l.elem (mRg w a i) = false → μ1 a i = μ a i
theorem mX.refl {l : List Nat} {w : mW} {μ : mM} : mX l w μ w μ := ⟨wE.refl, fun _ _ _ _ => rfl⟩
theorem mX.fr {l l' : List Nat} {w w1 : mW} {μ μ1 μ2 : mM} (h : mX l w μ w1 μ1) (h' : mF l' w1 μ1 μ2) (hs : (l'.all fun x => l.elem x) = true) : mX l w μ w1 μ2 := by
  refine ⟨h.1, fun a i ha hl => ?_⟩
  rw [← h.2 a i ha hl]
  refine h' a i ?_
  have er : mRg w1 a i = mRg w a i := by simp only [mRg, (h.1.2.1 a ha).1]
  rw [er]
  cases hq : l'.elem (mRg w a i) with
  | false => rfl
  | true =>
    have := (List.all_eq_true.mp hs) _ (List.elem_iff.mp hq)
    rw [hl] at this; cases this
theorem mX.trans {l l' : List Nat} {w w1 w2 : mW} {μ μ1 μ2 : mM} (h : mX l w μ w1 μ1) (h' : mX l' w1 μ1 w2 μ2) (hs : (l'.all fun x => l.elem x) = true) : mX l w μ w2 μ2 := by
  refine ⟨h.1.trans h'.1, fun a i ha hl => ?_⟩
  rw [← h.2 a i ha hl]
  refine h'.2 a i (Nat.lt_of_lt_of_le ha h.1.1) ?_
  have er : mRg w1 a i = mRg w a i := by simp only [mRg, (h.1.2.1 a ha).1]
  rw [er]
  cases hq : l'.elem (mRg w a i) with
  | false => rfl
  | true =>
    have := (List.all_eq_true.mp hs) _ (List.elem_iff.mp hq)
    rw [hl] at this; cases this
theorem mX.f {l : List Nat} {w w1 : mW} {μ μ1 : mM} {a s k : Nat} {z : Int} (h : mX l w μ w1 μ1) (hA : mAt w a s) (hl : l.elem (1000 * s + (if mArr s then 999 else k)) = false) (q : μ a k = z) : μ1 a k = z := by
  rw [← q]; exact h.2 a k hA.2.1 (by simp only [mRg, hA.1]; exact hl)
theorem mX.len {l : List Nat} {w w1 : mW} {μ μ1 : mM} {a s : Nat} {n : Int} (h : mX l w μ w1 μ1) (hA : mAt w a s) (q : (w.2.2.1 a : Int) = n) : (w1.2.2.1 a : Int) = n := by
  rw [(h.1.2.1 a hA.2.1).2]; exact q
/-- one cell more, of shape s, n long, filled by v -/
def wNew (w : mW) (s n : Nat) : mW := (w.1 + 1, fun a => if a = w.1 then s else w.2.1 a, fun a => if a = w.1 then n else w.2.2.1 a, w.2.2.2)
def mNew (μ : mM) (a : Nat) (v : Nat → Int) : mM := fun b j => if b = a then v j else μ b j
theorem wNew.ext {w : mW} {s n : Nat} (hs : 100 < s) : wE w (wNew w s n) := ⟨Nat.le_succ _, fun a ha => ⟨if_neg (Nat.ne_of_lt ha), if_neg (Nat.ne_of_lt ha)⟩, fun a h1 h2 => by
  have e : a = w.1 := by have : a < w.1 + 1 := h2; omega
  subst e
  rw [show (wNew w s n).2.1 w.1 = s from if_pos rfl]; exact hs⟩
theorem mVar_gt {s : Nat} (h : mVar s = true) : 100 < s := by
  unfold mVar at h
  have h := List.elem_iff.mp h
  simp at h
  omega
theorem wNew.at {w : mW} {s n : Nat} (h : n ≤ mLen s) (hv : mVar s = false → n = mLen s) : mAt (wNew w s n) w.1 s := ⟨if_pos rfl, Nat.lt_succ_self _, by rw [show (wNew w s n).2.2.1 w.1 = n from if_pos rfl]; exact h, fun q => by rw [show (wNew w s n).2.2.1 w.1 = n from if_pos rfl]; exact hv q⟩
theorem mNew.x {l : List Nat} {w : mW} {μ : mM} {s n : Nat} {v : Nat → Int} (hs : 100 < s) : mX l w μ (wNew w s n) (mNew μ w.1 v) := ⟨wNew.ext hs, fun a _ ha _ => if_neg (Nat.ne_of_lt ha)⟩
theorem mT.new {w : mW} {μ : mM} {s n : Nat} {v : Nat → Int} (hs : 100 < s) (hT : mT w μ) (hv : ∀ i, tyP (wNew w s n) w.1 i (mTy s i) (v i)) : mT (wNew w s n) (mNew μ w.1 v) := by
  intro a t hA i
  by_cases h : a = w.1
  · subst h
    have e : t = s := by have h1 := hA.1; rw [show (wNew w s n).2.1 w.1 = s from if_pos rfl] at h1; exact h1.symm
    subst e
    rw [show mNew μ w.1 v w.1 i = v i from if_pos rfl]; exact hv i
  · have ha : a < w.1 := by have := hA.2.1; have e : (wNew w s n).1 = w.1 + 1 := rfl; omega
    rw [show mNew μ w.1 v a i = μ a i from if_neg h]
    exact (hT a t (hA.back (wNew.ext hs) ha) i).ext (wNew.ext hs) rfl
theorem mkNew {w : mW} {μ : mM} {s n : Nat} {v : Nat → Int} : ∀ j, j < w.1 + 1 → sUp (mk w μ).2 w.1 (mCell (mTab s) n v) j = (mk (wNew w s n) (mNew μ w.1 v)).2 j := by
  intro j hj
  by_cases h : j = w.1
  · subst h
    rw [sUp_at]
    have e : mNew μ w.1 v w.1 = v := by funext i; exact if_pos rfl
    simp only [mk, wNew, e, if_true]
  · rw [sUp_ne _ _ h]
    have e : mNew μ w.1 v j = μ j := by funext i; simp only [mNew, if_neg h]
    simp only [mk, wNew, e, if_neg h]
section MV25
variable {g : sG} {M : sM} {R : Room} {Z : sZT} {pc : Nat} {lv : List (Nat × Value)} {st : List Value} {w : mW} {μ : mM} {ce sl : Nat}
/-- a new row of ints of a shape whose length may change -/
theorem mr_newI {s : Nat} {x : Int} {cA : ClassId} (hd : decode M.2.1 pc = .ok (.newarray .int, 2)) (hw : Cond.arrayClass .int ∈ sg_ws g) (ht : g.2.2.1[0]? = some (cA, .int)) (hra : ∀ U : State, va_RA U cA .int → U.vm.findClass ("[" ++ FieldType.int.toString) = some cA) (hs : mTab s = .inr (0, 0)) (hx : 0 ≤ x ∧ x ≤ (mLen s : Int)) (hL : mLen s ≤ 100000) (hvar : mVar s = true) (hT : mT w μ) (hty : ∀ i, tyP (wNew w s x.toNat) w.1 i (mTy s i) 0) (hc1 : ce + 1 ≤ R.cells) (hs1 : sl + x.toNat ≤ R.slots)
    (kk : ∀ w1 μ1, mX [] w μ w1 μ1 → mT w1 μ1 → mAt w1 w.1 s → w1.1 = w.1 + 1 → (w1.2.2.1 w.1 : Int) = x → w1.2.2.2 = w.2.2.2 → (∀ i, μ1 w.1 i = 0) → sV g M R Z (pc + 2) lv (.ref w.1 :: st) (mk w1 μ1) (ce + 1) (sl + x.toNat)) : sV g M R Z pc lv (iv x :: st) (mk w μ) ce sl := by
  have hn : (Int32.ofInt x).toNatClampNeg = x.toNat := iv_nat (n := mLen s + 1) (by omega) (by omega)
  refine sv_newarray (kd := 0) (ty := .int) (v := iv 0) (N := x.toNat) hd rfl hw ht hra ?_ hn ?_ (fun _ => rfl) hc1 hs1 ?_
  · intro q
    have : Int32.ofInt x < Int32.ofInt 0 := q
    rw [iv_lt (by omega) (by omega)] at this; omega
  · show x.toNat * 4 ≤ 536870912
    omega
  · refine sv_heap (hp' := mk (wNew w s x.toNat) (mNew μ w.1 (fun _ => 0))) rfl (fun j hj => ?_) (kk _ _ (mNew.x (mVar_gt hvar)) (mT.new (mVar_gt hvar) hT hty) (wNew.at (by omega) (fun q => by rw [hvar] at q; cases q)) rfl ?_ rfl (fun i => if_pos rfl))
    · rw [← mkNew (μ := μ) (s := s) j hj, hs]; rfl
    · rw [show (wNew w s x.toNat).2.2.1 w.1 = x.toNat from if_pos rfl]; omega
/-- a new row of bytes of a shape whose length may change -/
theorem mr_newB {s : Nat} {x : Int} {cA : ClassId} (hd : decode M.2.1 pc = .ok (.newarray .byte, 2)) (hw : Cond.arrayClass .byte ∈ sg_ws g) (ht : g.2.2.1[2]? = some (cA, .byte)) (hra : ∀ U : State, va_RA U cA .byte → U.vm.findClass ("[" ++ FieldType.byte.toString) = some cA) (hs : mTab s = .inr (2, 0)) (hx : 0 ≤ x ∧ x ≤ (mLen s : Int)) (hL : mLen s ≤ 100000) (hvar : mVar s = true) (hT : mT w μ) (hty : ∀ i, tyP (wNew w s x.toNat) w.1 i (mTy s i) 0) (hc1 : ce + 1 ≤ R.cells) (hs1 : sl + x.toNat ≤ R.slots)
    (kk : ∀ w1 μ1, mX [] w μ w1 μ1 → mT w1 μ1 → mAt w1 w.1 s → w1.1 = w.1 + 1 → (w1.2.2.1 w.1 : Int) = x → w1.2.2.2 = w.2.2.2 → (∀ i, μ1 w.1 i = 0) → sV g M R Z (pc + 2) lv (.ref w.1 :: st) (mk w1 μ1) (ce + 1) (sl + x.toNat)) : sV g M R Z pc lv (iv x :: st) (mk w μ) ce sl := by
  have hn : (Int32.ofInt x).toNatClampNeg = x.toNat := iv_nat (n := mLen s + 1) (by omega) (by omega)
  refine sv_newarray (kd := 2) (ty := .byte) (v := iv 0) (N := x.toNat) hd rfl hw ht hra ?_ hn ?_ (fun _ => rfl) hc1 hs1 ?_
  · intro q
    have : Int32.ofInt x < Int32.ofInt 0 := q
    rw [iv_lt (by omega) (by omega)] at this; omega
  · show x.toNat * 1 ≤ 536870912
    omega
  · refine sv_heap (hp' := mk (wNew w s x.toNat) (mNew μ w.1 (fun _ => 0))) rfl (fun j hj => ?_) (kk _ _ (mNew.x (mVar_gt hvar)) (mT.new (mVar_gt hvar) hT hty) (wNew.at (by omega) (fun q => by rw [hvar] at q; cases q)) rfl ?_ rfl (fun i => if_pos rfl))
    · rw [← mkNew (μ := μ) (s := s) j hj, hs]; rfl
    · rw [show (wNew w s x.toNat).2.2.1 w.1 = x.toNat from if_pos rfl]; omega
end MV25
end
section
/-! Contracts of methods that make cells: the world behind them is another. -/
def qVx (w : mW) (l : List Nat) (μ : mM) (P : mW → mM → Prop) : Option Value → sHp → Prop := fun r hp => ∃ w1 μ1, r = none ∧ hp = mk w1 μ1 ∧ mWF w1 ∧ mT w1 μ1 ∧ mX l w μ w1 μ1 ∧ P w1 μ1
def qIx (w : mW) (l : List Nat) (μ : mM) (P : Int → mW → mM → Prop) : Option Value → sHp → Prop := fun r hp => ∃ z w1 μ1, r = some (iv z) ∧ hp = mk w1 μ1 ∧ mWF w1 ∧ mT w1 μ1 ∧ mX l w μ w1 μ1 ∧ P z w1 μ1
def qRx (w : mW) (l : List Nat) (μ : mM) (P : Nat → mW → mM → Prop) : Option Value → sHp → Prop := fun r hp => ∃ b w1 μ1, r = some (.ref b) ∧ hp = mk w1 μ1 ∧ mWF w1 ∧ mT w1 μ1 ∧ mX l w μ w1 μ1 ∧ P b w1 μ1
section MV26
variable {g : sG} {M M' : sM} {R : Room} {Z : sZT} {pc d' C S C' S' : Nat} {lv : List (Nat × Value)} {st st0 av : List Value} {w w1 : mW} {μ μ1 : mM} {ce sl : Nat} {l : List Nat}
theorem mr_vretX {P : mW → mM → Prop} (hd : decode M.2.1 pc = .ok (.return_, 1)) (hret : M.2.2.2 = none) (hc : ce ≤ C) (hs : sl ≤ S) (hw : mWF w1) (hT : mT w1 μ1) (hX : mX l w μ w1 μ1) (hP : P w1 μ1) : sV g M R (sZ g C S (qVx w l μ P)) pc lv [] (mk w1 μ1) ce sl := sv_vret hd hret hc hs ⟨w1, μ1, rfl, rfl, hw, hT, hX, hP⟩
theorem mr_iretX {z : Int} {P : Int → mW → mM → Prop} (hd : decode M.2.1 pc = .ok (.ireturn, 1)) (hret : M.2.2.2 = some .int) (hc : ce ≤ C) (hs : sl ≤ S) (hw : mWF w1) (hT : mT w1 μ1) (hX : mX l w μ w1 μ1) (hP : P z w1 μ1) : sV g M R (sZ g C S (qIx w l μ P)) pc lv [iv z] (mk w1 μ1) ce sl := sv_iret hd hret hc hs ⟨z, w1, μ1, rfl, rfl, hw, hT, hX, hP⟩
theorem mr_aretX {b : Nat} {C0 : String} {P : Nat → mW → mM → Prop} (hd : decode M.2.1 pc = .ok (.areturn, 1)) (hret : M.2.2.2 = some (.object C0)) (hc : ce ≤ C) (hs : sl ≤ S) (hw : mWF w1) (hT : mT w1 μ1) (hX : mX l w μ w1 μ1) (hP : P b w1 μ1) : sV g M R (sZ g C S (qRx w l μ P)) pc lv [.ref b] (mk w1 μ1) ce sl := sv_aret hd hret hc hs ⟨b, w1, μ1, rfl, rfl, hw, hT, hX, hP⟩
theorem mr_aretAX {b : Nat} {t0 : FieldType} {P : Nat → mW → mM → Prop} (hd : decode M.2.1 pc = .ok (.areturn, 1)) (hret : M.2.2.2 = some (.array t0)) (hc : ce ≤ C) (hs : sl ≤ S) (hw : mWF w1) (hT : mT w1 μ1) (hX : mX l w μ w1 μ1) (hP : P b w1 μ1) : sV g M R (sZ g C S (qRx w l μ P)) pc lv [.ref b] (mk w1 μ1) ce sl := sv_aretA hd hret hc hs ⟨b, w1, μ1, rfl, rfl, hw, hT, hX, hP⟩
theorem mr_cVVX {index ci a s : Nat} {T : vw_C} {ty : Nat → FieldType} {ks : List Nat} {P : mW → mM → Prop} (hct : sC g M' d' C' S' (.ref a :: av) (mk w μ) (qVx w l μ P)) (ho : sOk g) (hd : decode M.2.1 pc = .ok (.invokevirtual index, 3)) (hm : sMt g M' av.length) (hi : Cond.instanceMethod M'.1 ∈ sg_ws g ∧ Cond.selects M'.1.cls M'.1 M'.1 ∈ sg_ws g) (hlk : Cond.methodLink M.1.cls index M'.1 ∈ sg_ws g) (hC : sCl g ci T ty) (hT1 : T.1 = M'.1.cls) (hA : mAt w a s) (hs : mTab s = .inl (ci, ks)) (hR : d' + 1 ≤ R.frames ∧ 60 * d' + M'.2.2.1 + 19 ≤ R.locals) (hce : ce + C' ≤ R.cells ∧ sl + S' ≤ R.slots) (hst : st0 = av.reverse ++ .ref a :: st) (hr8 : (st.map fun v => v.category).sum ≤ 8)
    (kt : ∀ w1 μ1, mWF w1 → mT w1 μ1 → mX l w μ w1 μ1 → P w1 μ1 → sV g M R Z (pc + 3) lv st (mk w1 μ1) (ce + C') (sl + S')) : sV g M R Z pc lv st0 (mk w μ) ce sl :=
  sv_callV hct ho hd hm hi hlk hC hT1 hA.2.1 (mk_obj hA hs) hR hce hst hr8 (by
    rintro r hp' ⟨w1, μ1, rfl, rfl, h0, h1, h2, h3⟩
    exact kt w1 μ1 h0 h1 h2 h3)
theorem mr_cVIX {index ci a s : Nat} {T : vw_C} {ty : Nat → FieldType} {ks : List Nat} {P : Int → mW → mM → Prop} (hct : sC g M' d' C' S' (.ref a :: av) (mk w μ) (qIx w l μ P)) (ho : sOk g) (hd : decode M.2.1 pc = .ok (.invokevirtual index, 3)) (hm : sMt g M' av.length) (hi : Cond.instanceMethod M'.1 ∈ sg_ws g ∧ Cond.selects M'.1.cls M'.1 M'.1 ∈ sg_ws g) (hlk : Cond.methodLink M.1.cls index M'.1 ∈ sg_ws g) (hC : sCl g ci T ty) (hT1 : T.1 = M'.1.cls) (hA : mAt w a s) (hs : mTab s = .inl (ci, ks)) (hR : d' + 1 ≤ R.frames ∧ 60 * d' + M'.2.2.1 + 19 ≤ R.locals) (hce : ce + C' ≤ R.cells ∧ sl + S' ≤ R.slots) (hst : st0 = av.reverse ++ .ref a :: st) (hr8 : (st.map fun v => v.category).sum ≤ 8)
    (kt : ∀ z w1 μ1, mWF w1 → mT w1 μ1 → mX l w μ w1 μ1 → P z w1 μ1 → sV g M R Z (pc + 3) lv (iv z :: st) (mk w1 μ1) (ce + C') (sl + S')) : sV g M R Z pc lv st0 (mk w μ) ce sl :=
  sv_callV hct ho hd hm hi hlk hC hT1 hA.2.1 (mk_obj hA hs) hR hce hst hr8 (by
    rintro r hp' ⟨z, w1, μ1, rfl, rfl, h0, h1, h2, h3⟩
    exact kt z w1 μ1 h0 h1 h2 h3)
theorem mr_cSRX {index : Nat} {P : Nat → mW → mM → Prop} (hct : sC g M' d' C' S' av (mk w μ) (qRx w l μ P)) (ho : sOk g) (hd : decode M.2.1 pc = .ok (.invokestatic index, 3)) (hm : sMt g M' av.length) (hi : Cond.static M'.1 ∈ sg_ws g) (hlk : Cond.methodLink M.1.cls index M'.1 ∈ sg_ws g) (hR : d' + 1 ≤ R.frames ∧ 60 * d' + M'.2.2.1 + 19 ≤ R.locals) (hce : ce + C' ≤ R.cells ∧ sl + S' ≤ R.slots) (hst : st0 = av.reverse ++ st) (hr8 : (st.map fun v => v.category).sum ≤ 8)
    (kt : ∀ b w1 μ1, mWF w1 → mT w1 μ1 → mX l w μ w1 μ1 → P b w1 μ1 → sV g M R Z (pc + 3) lv (.ref b :: st) (mk w1 μ1) (ce + C') (sl + S')) : sV g M R Z pc lv st0 (mk w μ) ce sl :=
  sv_callS hct ho hd hm hi hlk hR hce hst hr8 (by
    rintro r hp' ⟨b, w1, μ1, rfl, rfl, h0, h1, h2, h3⟩
    exact kt b w1 μ1 h0 h1 h2 h3)
/-- a contract of a method that makes nothing, as one that might -/
theorem qV.x {l : List Nat} {w : mW} {μ : mM} {P : mM → Prop} {r : Option Value} {hp : sHp} (hw : mWF w) (h : qV w l μ P r hp) : qVx w l μ (fun _ μ1 => P μ1) r hp := by
  obtain ⟨μ1, h1, h2, h3, h4, h5⟩ := h
  exact ⟨w, μ1, h1, h2, hw, h3, mX.fr mX.refl h4 (List.all_eq_true.mpr fun x hx => List.elem_iff.mpr hx), h5⟩
theorem qI.x {l : List Nat} {w : mW} {μ : mM} {P : Int → mM → Prop} {r : Option Value} {hp : sHp} (hw : mWF w) (h : qI w l μ P r hp) : qIx w l μ (fun z _ μ1 => P z μ1) r hp := by
  obtain ⟨z, μ1, h1, h2, h3, h4, h5⟩ := h
  exact ⟨z, w, μ1, h1, h2, hw, h3, mX.fr mX.refl h4 (List.all_eq_true.mpr fun x hx => List.elem_iff.mpr hx), h5⟩
end MV26
section MV26b
variable {g : sG} {M : sM} {R : Room} {Z : sZT} {pc : Nat} {lv : List (Nat × Value)} {st : List Value} {hp : sHp} {ce sl : Nat}
theorem sv_wid {ce' sl' : Nat} (h1 : ce ≤ ce') (h2 : sl ≤ sl') (k : sV g M R Z pc lv st hp ce' sl') : sV g M R Z pc lv st hp ce sl :=
  fun p e s m args below meth c H locs ls X r hl h => W.widen h1 h2 (k p e s m args below meth c H locs ls X r hl h)
theorem slLe {sl S K : Nat} {x : Int} (h : x ≤ (K : Int)) (q : Nat.ble (sl + K) S = true) : sl + x.toNat ≤ S := by
  have := Nat.le_of_ble_eq_true q
  omega
end MV26b
theorem lenP {w : mW} {μ : mM} {b : Nat} {x y n : Int} (q : x = (b : Int)) (hl : (w.2.2.1 b : Int) = n) {s : Int} (qs : s = y) (h : y ≤ n) : s ≤ (w.2.2.1 x.toNat : Int) := by
  have e : x.toNat = b := by omega
  rw [e]; omega
theorem lenE {w : mW} {b c : Nat} {x y n m : Int} (q : x = (b : Int)) (hl : (w.2.2.1 b : Int) = n) (q' : y = (c : Int)) (hl' : (w.2.2.1 c : Int) = m) (h : n = m) : w.2.2.1 x.toNat = w.2.2.1 y.toNat := by
  have e : x.toNat = b := by omega
  have e' : y.toNat = c := by omega
  rw [e, e']; omega
theorem lenQ {w : mW} {b : Nat} {x y : Int} (h : x ≤ (w.2.2.1 y.toNat : Int)) (q : y = (b : Int)) : x ≤ (w.2.2.1 b : Int) := by
  have e : y.toNat = b := by omega
  rw [e] at h; exact h
theorem lenQ2 {w : mW} {b c : Nat} {x y : Int} (h : w.2.2.1 x.toNat = w.2.2.1 y.toNat) (q : x = (b : Int)) (q' : y = (c : Int)) : w.2.2.1 b = w.2.2.1 c := by
  have e : x.toNat = b := by omega
  have e' : y.toNat = c := by omega
  rw [e, e'] at h; exact h
theorem radix.keepX {l : List Nat} {w w1 : mW} {μ μ1 : mM} {a v sa sv : Nat} {N : Int} (h : radix μ a v N) (hX : mX l w μ w1 μ1) (hA : mAt w a sa) (hV : mAt w v sv) (ha : ∀ i, l.elem (1000 * sa + (if mArr sa then 999 else i)) = false) (hv : ∀ i, l.elem (1000 * sv + (if mArr sv then 999 else i)) = false) : radix μ1 a v N := by
  have e1 : ∀ i, μ1 a i = μ a i := fun i => hX.f hA (ha i) rfl
  have e2 : ∀ i, μ1 v i = μ v i := fun i => hX.f hV (hv i) rfl
  unfold radix radx at h ⊢
  simp only [e1, e2]; exact h
theorem lenQ0 {w : mW} {b c : Nat} {x y : Int} (h : w.2.2.1 b = w.2.2.1 c) (q : x = (b : Int)) (q' : y = (c : Int)) : w.2.2.1 x.toNat = w.2.2.1 y.toNat := by
  have e : x.toNat = b := by omega
  have e' : y.toNat = c := by omega
  rw [e, e']; exact h
end
section
/-! How much lies in memory: cells and slots, counted. -/
def sumN (f : Nat → Nat) : Nat → Nat
  | 0 => 0
  | n + 1 => sumN f n + f n
theorem sumN_le {f g : Nat → Nat} : ∀ {n : Nat}, (∀ i, i < n → f i ≤ g i) → sumN f n ≤ sumN g n
  | 0, _ => Nat.le_refl _
  | n + 1, h => Nat.add_le_add (sumN_le fun i hi => h i (Nat.lt_succ_of_lt hi)) (h n (Nat.lt_succ_self n))
theorem sumN_eq {f g : Nat → Nat} : ∀ {n : Nat}, (∀ i, i < n → f i = g i) → sumN f n = sumN g n
  | 0, _ => rfl
  | n + 1, h => by
    show sumN f n + f n = sumN g n + g n
    rw [sumN_eq fun i hi => h i (Nat.lt_succ_of_lt hi), h n (Nat.lt_succ_self n)]
theorem sumN_add {f : Nat → Nat} (n : Nat) : ∀ k, sumN f (n + k) = sumN f n + sumN (fun i => f (n + i)) k
  | 0 => rfl
  | k + 1 => by
    show sumN f (n + k) + f (n + k) = sumN f n + (sumN (fun i => f (n + i)) k + f (n + k))
    rw [sumN_add n k]; omega
def szS (s n : Nat) : Nat := match mTab s with
  | .inl (_, ks) => ks.length
  | .inr _ => n
def szW (w : mW) : Nat := sumN (fun a => szS (w.2.1 a) (w.2.2.1 a)) w.1
theorem szW.ext {w w1 : mW} (h : wE w w1) : szW w1 = szW w + sumN (fun i => szS (w1.2.1 (w.1 + i)) (w1.2.2.1 (w.1 + i))) (w1.1 - w.1) := by
  have e : w1.1 = w.1 + (w1.1 - w.1) := by have := h.1; omega
  unfold szW
  rw [e, sumN_add]
  rw [← e]
  congr 1
  · exact sumN_eq fun i hi => by rw [(h.2.1 i hi).1, (h.2.1 i hi).2]
theorem szW.new {w w1 : mW} {s kd k : Nat} {x : Int} (h : wE w w1) (e : w1.1 = w.1 + 1) (hA : mAt w1 w.1 s) (hs : mTab s = .inr (kd, k)) (q : (w1.2.2.1 w.1 : Int) = x) : (szW w1 : Int) = szW w + x := by
  have := szW.ext h
  rw [e, show w.1 + 1 - w.1 = 1 by omega] at this
  have e1 : sumN (fun i => szS (w1.2.1 (w.1 + i)) (w1.2.2.1 (w.1 + i))) 1 = w1.2.2.1 w.1 := by
    show 0 + szS (w1.2.1 (w.1 + 0)) (w1.2.2.1 (w.1 + 0)) = w1.2.2.1 w.1
    rw [Nat.zero_add, Nat.add_zero, hA.1]
    unfold szS
    rw [hs]
  rw [e1] at this
  omega
/-- two rows more, each at least twice as long as the one before -/
theorem potM {w w1 w2 : mW} {bq : Nat} {n x y : Int} (h1 : wE w w1) (e1 : w1.1 = w.1 + 1) (A1 : mAt w1 w.1 102) (q1 : (w1.2.2.1 w.1 : Int) = x) (h2 : wE w1 w2) (e2 : w2.1 = w1.1 + 1) (A2 : mAt w2 w1.1 104) (q2 : (w2.2.2.1 w1.1 : Int) = x) (hn : (w.2.2.1 bq : Int) = n) (qy : y = ((w.1 : Nat) : Int)) (hx : 2 * n ≤ x ∧ n < x) : (szW w2 : Int) + 4 * (w.2.2.1 bq : Int) ≤ szW w + 4 * (w2.2.2.1 y.toNat : Int) ∧ (w2.1 : Int) + 2 * (w.2.2.1 bq : Int) ≤ (w.1 : Int) + 2 * (w2.2.2.1 y.toNat : Int) := by
  have s1 := szW.new h1 e1 A1 rfl q1
  have s2 := szW.new h2 e2 A2 rfl q2
  have ey : y.toNat = w.1 := by omega
  have l2 : w2.2.2.1 w.1 = w1.2.2.1 w.1 := (h2.2.1 w.1 (by omega)).2
  rw [ey, l2, q1, hn]
  omega
theorem potM0 {w : mW} {bq : Nat} {y : Int} (qy : y = (bq : Int)) : (szW w : Int) + 4 * (w.2.2.1 bq : Int) ≤ szW w + 4 * (w.2.2.1 y.toNat : Int) ∧ (w.1 : Int) + 2 * (w.2.2.1 bq : Int) ≤ (w.1 : Int) + 2 * (w.2.2.1 y.toNat : Int) := by
  have ey : y.toNat = bq := by omega
  rw [ey]; exact ⟨Int.le_refl _, Int.le_refl _⟩
theorem potQ {w w1 : mW} {bq b : Nat} {x y : Int} (h : (szW w1 : Int) + 4 * (w.2.2.1 bq : Int) ≤ szW w + 4 * (w1.2.2.1 x.toNat : Int) ∧ (w1.1 : Int) + 2 * (w.2.2.1 bq : Int) ≤ (w.1 : Int) + 2 * (w1.2.2.1 x.toNat : Int)) (q : x = (b : Int)) (q' : y = (b : Int)) : (szW w1 : Int) + 4 * (w.2.2.1 bq : Int) ≤ szW w + 4 * (w1.2.2.1 y.toNat : Int) ∧ (w1.1 : Int) + 2 * (w.2.2.1 bq : Int) ≤ (w.1 : Int) + 2 * (w1.2.2.1 y.toNat : Int) := by
  rw [q', ← q]; exact h
end
section
theorem dX11_tries_0 : decode cX11_tries 0 = .ok (.iload_n 1, 1) := dc0 dO_27 (by decide +kernel)
theorem dX11_tries_1 : decode cX11_tries 1 = .ok (.ifCond .lt 8, 3) := dcS2 dO_155 (by decide +kernel)
theorem dX11_tries_4 : decode cX11_tries 4 = .ok (.iload_n 1, 1) := dc0 dO_27 (by decide +kernel)
theorem dX11_tries_5 : decode cX11_tries 5 = .ok (.iconst 3, 1) := dc0 dO_6 (by decide +kernel)
theorem dX11_tries_6 : decode cX11_tries 6 = .ok (.if_icmp .le 5, 3) := dcS2 dO_164 (by decide +kernel)
theorem dX11_tries_9 : decode cX11_tries 9 = .ok (.iconst (-1), 1) := dc0 dO_2 (by decide +kernel)
theorem dX11_tries_10 : decode cX11_tries 10 = .ok (.ireturn, 1) := dc0 dO_172 (by decide +kernel)
theorem dX11_tries_11 : decode cX11_tries 11 = .ok (.aload_n 0, 1) := dc0 dO_42 (by decide +kernel)
theorem dX11_tries_12 : decode cX11_tries 12 = .ok (.getfield 72, 3) := dcU2 dO_180 (by decide +kernel)
theorem dX11_tries_15 : decode cX11_tries 15 = .ok (.invokevirtual 420, 3) := dcU2 dO_182 (by decide +kernel)
theorem dX11_tries_18 : decode cX11_tries 18 = .ok (.aload_n 0, 1) := dc0 dO_42 (by decide +kernel)
theorem dX11_tries_19 : decode cX11_tries 19 = .ok (.getfield 72, 3) := dcU2 dO_180 (by decide +kernel)
theorem dX11_tries_22 : decode cX11_tries 22 = .ok (.getfield 423, 3) := dcU2 dO_180 (by decide +kernel)
theorem dX11_tries_25 : decode cX11_tries 25 = .ok (.iload_n 1, 1) := dc0 dO_27 (by decide +kernel)
theorem dX11_tries_26 : decode cX11_tries 26 = .ok (.iaload, 1) := dc0 dO_46 (by decide +kernel)
theorem dX11_tries_27 : decode cX11_tries 27 = .ok (.ireturn, 1) := dc0 dO_172 (by decide +kernel)
theorem dX4_explore_0 : decode cX4_explore 0 = .ok (.aload_n 0, 1) := dc0 dO_42 (by decide +kernel)
theorem dX4_explore_1 : decode cX4_explore 1 = .ok (.getfield 56, 3) := dcU2 dO_180 (by decide +kernel)
theorem dX4_explore_4 : decode cX4_explore 4 = .ok (.ifCond .eq 4, 3) := dcS2 dO_153 (by decide +kernel)
theorem dX4_explore_7 : decode cX4_explore 7 = .ok (.return_, 1) := dc0 dO_177 (by decide +kernel)
theorem dX4_explore_8 : decode cX4_explore 8 = .ok (.aload_n 0, 1) := dc0 dO_42 (by decide +kernel)
theorem dX4_explore_9 : decode cX4_explore 9 = .ok (.invokevirtual 79, 3) := dcU2 dO_182 (by decide +kernel)
theorem dX4_explore_12 : decode cX4_explore 12 = .ok (.aload_n 0, 1) := dc0 dO_42 (by decide +kernel)
theorem dX4_explore_13 : decode cX4_explore 13 = .ok (.invokevirtual 104, 3) := dcU2 dO_182 (by decide +kernel)
theorem dX4_explore_16 : decode cX4_explore 16 = .ok (.aload_n 0, 1) := dc0 dO_42 (by decide +kernel)
theorem dX4_explore_17 : decode cX4_explore 17 = .ok (.invokevirtual 107, 3) := dcU2 dO_182 (by decide +kernel)
theorem dX4_explore_20 : decode cX4_explore 20 = .ok (.istore_n 1, 1) := dc0 dO_60 (by decide +kernel)
theorem dX4_explore_21 : decode cX4_explore 21 = .ok (.aload_n 0, 1) := dc0 dO_42 (by decide +kernel)
theorem dX4_explore_22 : decode cX4_explore 22 = .ok (.invokevirtual 111, 3) := dcU2 dO_182 (by decide +kernel)
theorem dX4_explore_25 : decode cX4_explore 25 = .ok (.istore_n 2, 1) := dc0 dO_61 (by decide +kernel)
theorem dX4_explore_26 : decode cX4_explore 26 = .ok (.aload_n 0, 1) := dc0 dO_42 (by decide +kernel)
theorem dX4_explore_27 : decode cX4_explore 27 = .ok (.getfield 43, 3) := dcU2 dO_180 (by decide +kernel)
theorem dX4_explore_30 : decode cX4_explore 30 = .ok (.iconst 0, 1) := dc0 dO_3 (by decide +kernel)
theorem dX4_explore_31 : decode cX4_explore 31 = .ok (.iload_n 1, 1) := dc0 dO_27 (by decide +kernel)
theorem dX4_explore_32 : decode cX4_explore 32 = .ok (.iastore, 1) := dc0 dO_79 (by decide +kernel)
theorem dX4_explore_33 : decode cX4_explore 33 = .ok (.aload_n 0, 1) := dc0 dO_42 (by decide +kernel)
theorem dX4_explore_34 : decode cX4_explore 34 = .ok (.getfield 43, 3) := dcU2 dO_180 (by decide +kernel)
theorem dX4_explore_37 : decode cX4_explore 37 = .ok (.iconst 2, 1) := dc0 dO_5 (by decide +kernel)
theorem dX4_explore_38 : decode cX4_explore 38 = .ok (.iload_n 1, 1) := dc0 dO_27 (by decide +kernel)
theorem dX4_explore_39 : decode cX4_explore 39 = .ok (.iload_n 2, 1) := dc0 dO_28 (by decide +kernel)
theorem dX4_explore_40 : decode cX4_explore 40 = .ok (.isub, 1) := dc0 dO_100 (by decide +kernel)
theorem dX4_explore_41 : decode cX4_explore 41 = .ok (.iastore, 1) := dc0 dO_79 (by decide +kernel)
theorem dX4_explore_42 : decode cX4_explore 42 = .ok (.aload_n 0, 1) := dc0 dO_42 (by decide +kernel)
theorem dX4_explore_43 : decode cX4_explore 43 = .ok (.iconst 1, 1) := dc0 dO_4 (by decide +kernel)
theorem dX4_explore_44 : decode cX4_explore 44 = .ok (.putfield 56, 3) := dcU2 dO_181 (by decide +kernel)
theorem dX4_explore_47 : decode cX4_explore 47 = .ok (.return_, 1) := dc0 dO_177 (by decide +kernel)
theorem dX4_keepRest_0 : decode cX4_keepRest 0 = .ok (.aload_n 0, 1) := dc0 dO_42 (by decide +kernel)
theorem dX4_keepRest_1 : decode cX4_keepRest 1 = .ok (.getfield 82, 3) := dcU2 dO_180 (by decide +kernel)
theorem dX4_keepRest_4 : decode cX4_keepRest 4 = .ok (.aload_n 0, 1) := dc0 dO_42 (by decide +kernel)
theorem dX4_keepRest_5 : decode cX4_keepRest 5 = .ok (.getfield 36, 3) := dcU2 dO_180 (by decide +kernel)
theorem dX4_keepRest_8 : decode cX4_keepRest 8 = .ok (.arraylength, 1) := dc0 dO_190 (by decide +kernel)
theorem dX4_keepRest_9 : decode cX4_keepRest 9 = .ok (.if_icmp .lt 20, 3) := dcS2 dO_161 (by decide +kernel)
theorem dX4_keepRest_29 : decode cX4_keepRest 29 = .ok (.aload_n 0, 1) := dc0 dO_42 (by decide +kernel)
theorem dX4_keepRest_30 : decode cX4_keepRest 30 = .ok (.getfield 36, 3) := dcU2 dO_180 (by decide +kernel)
theorem dX4_keepRest_33 : decode cX4_keepRest 33 = .ok (.aload_n 0, 1) := dc0 dO_42 (by decide +kernel)
theorem dX4_keepRest_34 : decode cX4_keepRest 34 = .ok (.getfield 82, 3) := dcU2 dO_180 (by decide +kernel)
theorem dX4_keepRest_37 : decode cX4_keepRest 37 = .ok (.iload_n 1, 1) := dc0 dO_27 (by decide +kernel)
theorem dX4_keepRest_38 : decode cX4_keepRest 38 = .ok (.iastore, 1) := dc0 dO_79 (by decide +kernel)
theorem dX4_keepRest_39 : decode cX4_keepRest 39 = .ok (.aload_n 0, 1) := dc0 dO_42 (by decide +kernel)
theorem dX4_keepRest_40 : decode cX4_keepRest 40 = .ok (.dup, 1) := dc0 dO_89 (by decide +kernel)
theorem dX4_keepRest_41 : decode cX4_keepRest 41 = .ok (.getfield 82, 3) := dcU2 dO_180 (by decide +kernel)
theorem dX4_keepRest_44 : decode cX4_keepRest 44 = .ok (.iconst 1, 1) := dc0 dO_4 (by decide +kernel)
theorem dX4_keepRest_45 : decode cX4_keepRest 45 = .ok (.iadd, 1) := dc0 dO_96 (by decide +kernel)
theorem dX4_keepRest_46 : decode cX4_keepRest 46 = .ok (.putfield 82, 3) := dcU2 dO_181 (by decide +kernel)
theorem dX4_keepRest_49 : decode cX4_keepRest 49 = .ok (.return_, 1) := dc0 dO_177 (by decide +kernel)
theorem dX4_makeRoom_0 : decode cX4_makeRoom 0 = .ok (.aload_n 0, 1) := dc0 dO_42 (by decide +kernel)
theorem dX4_makeRoom_1 : decode cX4_makeRoom 1 = .ok (.getfield 59, 3) := dcU2 dO_180 (by decide +kernel)
theorem dX4_makeRoom_4 : decode cX4_makeRoom 4 = .ok (.aload_n 0, 1) := dc0 dO_42 (by decide +kernel)
theorem dX4_makeRoom_5 : decode cX4_makeRoom 5 = .ok (.getfield 33, 3) := dcU2 dO_180 (by decide +kernel)
theorem dX4_makeRoom_8 : decode cX4_makeRoom 8 = .ok (.arraylength, 1) := dc0 dO_190 (by decide +kernel)
theorem dX4_makeRoom_9 : decode cX4_makeRoom 9 = .ok (.if_icmp .le 32, 3) := dcS2 dO_164 (by decide +kernel)
theorem dX4_makeRoom_12 : decode cX4_makeRoom 12 = .ok (.aload_n 0, 1) := dc0 dO_42 (by decide +kernel)
theorem dX4_makeRoom_13 : decode cX4_makeRoom 13 = .ok (.getfield 59, 3) := dcU2 dO_180 (by decide +kernel)
theorem dX4_makeRoom_16 : decode cX4_makeRoom 16 = .ok (.iconst 2, 1) := dc0 dO_5 (by decide +kernel)
theorem dX4_makeRoom_17 : decode cX4_makeRoom 17 = .ok (.aload_n 0, 1) := dc0 dO_42 (by decide +kernel)
theorem dX4_makeRoom_18 : decode cX4_makeRoom 18 = .ok (.getfield 33, 3) := dcU2 dO_180 (by decide +kernel)
theorem dX4_makeRoom_21 : decode cX4_makeRoom 21 = .ok (.arraylength, 1) := dc0 dO_190 (by decide +kernel)
theorem dX4_makeRoom_22 : decode cX4_makeRoom 22 = .ok (.imul, 1) := dc0 dO_104 (by decide +kernel)
theorem dX4_makeRoom_23 : decode cX4_makeRoom 23 = .ok (.invokestatic 114, 3) := dcU2 dO_184 (by decide +kernel)
theorem dX4_makeRoom_26 : decode cX4_makeRoom 26 = .ok (.istore_n 1, 1) := dc0 dO_60 (by decide +kernel)
theorem dX4_makeRoom_27 : decode cX4_makeRoom 27 = .ok (.aload_n 0, 1) := dc0 dO_42 (by decide +kernel)
theorem dX4_makeRoom_28 : decode cX4_makeRoom 28 = .ok (.iload_n 1, 1) := dc0 dO_27 (by decide +kernel)
theorem dX4_makeRoom_29 : decode cX4_makeRoom 29 = .ok (.newarray .int, 2) := dN_10 (by decide +kernel)
theorem dX4_makeRoom_31 : decode cX4_makeRoom 31 = .ok (.putfield 33, 3) := dcU2 dO_181 (by decide +kernel)
theorem dX4_makeRoom_34 : decode cX4_makeRoom 34 = .ok (.aload_n 0, 1) := dc0 dO_42 (by decide +kernel)
theorem dX4_makeRoom_35 : decode cX4_makeRoom 35 = .ok (.iload_n 1, 1) := dc0 dO_27 (by decide +kernel)
theorem dX4_makeRoom_36 : decode cX4_makeRoom 36 = .ok (.newarray .byte, 2) := dN_8 (by decide +kernel)
theorem dX4_makeRoom_38 : decode cX4_makeRoom 38 = .ok (.putfield 39, 3) := dcU2 dO_181 (by decide +kernel)
theorem dX4_makeRoom_41 : decode cX4_makeRoom 41 = .ok (.aload_n 0, 1) := dc0 dO_42 (by decide +kernel)
theorem dX4_makeRoom_42 : decode cX4_makeRoom 42 = .ok (.getfield 39, 3) := dcU2 dO_180 (by decide +kernel)
theorem dX4_makeRoom_45 : decode cX4_makeRoom 45 = .ok (.iconst 0, 1) := dc0 dO_3 (by decide +kernel)
theorem dX4_makeRoom_46 : decode cX4_makeRoom 46 = .ok (.invokestatic 119, 3) := dcU2 dO_184 (by decide +kernel)
theorem dX4_makeRoom_49 : decode cX4_makeRoom 49 = .ok (.return_, 1) := dc0 dO_177 (by decide +kernel)
end
section
theorem vc_X4_makeRoom_2 {f_st n_167 n_170 : Int} (h0 : f_st ≤ n_167) (h1 : 1 ≤ f_st) (h2 : n_170 = n_167) (h3 : 1 ≤ f_st ∧ f_st ≤ 46656) (h4 : 0 ≤ n_167 ∧ n_167 ≤ 93312) (h5 : 0 ≤ n_170 ∧ n_170 ≤ 93312) : 1 ≤ n_167 ∧ n_167 ≤ 93312 := by omega
theorem vc_X4_makeRoom_3 {f_st n_167 n_170 : Int} (h0 : 1 ≤ f_st) (h1 : n_170 = n_167) (h2 : f_st ≤ n_167) (h3 : 1 ≤ f_st ∧ f_st ≤ 46656) (h4 : 1 ≤ n_167 ∧ n_167 ≤ 93312) (h5 : 0 ≤ n_170 ∧ n_170 ≤ 93312) : f_st ≤ n_167 := by omega
theorem vc_X4_makeRoom_4 {f_st n_167 n_170 : Int} (h0 : 1 ≤ f_st) (h1 : n_170 = n_167) (h2 : f_st ≤ n_167) (h3 : 1 ≤ f_st ∧ f_st ≤ 46656) (h4 : 1 ≤ n_167 ∧ n_167 ≤ 93312) (h5 : 0 ≤ n_170 ∧ n_170 ≤ 93312) : f_st ≤ n_170 := by omega
theorem vc_X4_makeRoom_5 {f_st n_167 n_170 : Int} (h0 : n_170 = n_167) (h1 : f_st ≤ n_167) (h2 : 1 ≤ f_st) (h3 : 1 ≤ f_st ∧ f_st ≤ 46656) (h4 : 1 ≤ n_167 ∧ n_167 ≤ 93312) (h5 : 0 ≤ n_170 ∧ n_170 ≤ 93312) : n_167 = n_170 := by omega
theorem vc_X4_makeRoom_6 {f_st n_167 n_170 : Int} (h0 : n_167 < f_st) (h1 : 1 ≤ f_st) (h2 : n_170 = n_167) (h3 : 1 ≤ f_st ∧ f_st ≤ 46656) (h4 : 0 ≤ n_167 ∧ n_167 ≤ 93312) (h5 : 0 ≤ n_170 ∧ n_170 ≤ 93312) : 0 ≤ n_167 ∧ n_167 ≤ 46655 := by omega
theorem vc_X4_makeRoom_7 {f_st n_167 n_170 z181 : Int} (h0 : 1 ≤ f_st) (h1 : n_170 = n_167) (h2 : n_167 < f_st) (h3 : ((z181 = f_st ∨ z181 = (2 * n_167)) ∧ f_st ≤ z181 ∧ (2 * n_167) ≤ z181)) (h4 : 1 ≤ f_st ∧ f_st ≤ 46656) (h5 : 0 ≤ n_167 ∧ n_167 ≤ 46655) (h6 : 0 ≤ n_170 ∧ n_170 ≤ 93312) : 1 ≤ z181 ∧ z181 ≤ 93310 := by omega
theorem vc_X4_makeRoom_8 {f_st n_167 n_170 z181 : Int} (h0 : ((z181 = f_st ∨ z181 = (2 * n_167)) ∧ f_st ≤ z181 ∧ (2 * n_167) ≤ z181)) (h1 : 1 ≤ f_st) (h2 : n_170 = n_167) (h3 : n_167 < f_st) (h4 : 1 ≤ f_st ∧ f_st ≤ 46656) (h5 : 0 ≤ n_167 ∧ n_167 ≤ 46655) (h6 : 0 ≤ n_170 ∧ n_170 ≤ 93312) (h7 : 1 ≤ z181 ∧ z181 ≤ 93310) : 0 ≤ z181 ∧ z181 ≤ 93312 := by omega
theorem vc_X4_makeRoom_9 {f_st n_167 n_170 z181 : Int} (h0 : ((z181 = f_st ∨ z181 = (2 * n_167)) ∧ f_st ≤ z181 ∧ (2 * n_167) ≤ z181)) (h1 : 1 ≤ f_st) (h2 : n_170 = n_167) (h3 : n_167 < f_st) (h4 : 1 ≤ f_st ∧ f_st ≤ 46656) (h5 : 0 ≤ n_167 ∧ n_167 ≤ 46655) (h6 : 0 ≤ n_170 ∧ n_170 ≤ 93312) (h7 : 1 ≤ z181 ∧ z181 ≤ 93310) : z181 ≤ 93310 := by omega
theorem vc_X4_makeRoom_10 {f_st n_167 n_170 z181 : Int} (h0 : 1 ≤ f_st) (h1 : n_167 < f_st) (h2 : ((z181 = f_st ∨ z181 = (2 * n_167)) ∧ f_st ≤ z181 ∧ (2 * n_167) ≤ z181)) (h3 : n_170 = n_167) (h4 : 1 ≤ f_st ∧ f_st ≤ 46656) (h5 : 0 ≤ n_167 ∧ n_167 ≤ 46655) (h6 : 0 ≤ n_170 ∧ n_170 ≤ 93312) (h7 : 1 ≤ z181 ∧ z181 ≤ 93310) : f_st ≤ z181 := by omega
theorem vc_X4_makeRoom_11 {f_st n_167 n_170 z181 : Int} (h0 : ((z181 = f_st ∨ z181 = (2 * n_167)) ∧ f_st ≤ z181 ∧ (2 * n_167) ≤ z181)) (h1 : 1 ≤ f_st) (h2 : n_170 = n_167) (h3 : n_167 < f_st) (h4 : 1 ≤ f_st ∧ f_st ≤ 46656) (h5 : 0 ≤ n_167 ∧ n_167 ≤ 46655) (h6 : 0 ≤ n_170 ∧ n_170 ≤ 93312) (h7 : 1 ≤ z181 ∧ z181 ≤ 93310) : z181 = z181 := by omega
theorem vc_X4_makeRoom_12 {f_st n_167 n_170 z181 : Int} (h0 : n_170 = n_167) (h1 : n_167 < f_st) (h2 : ((z181 = f_st ∨ z181 = (2 * n_167)) ∧ f_st ≤ z181 ∧ (2 * n_167) ≤ z181)) (h3 : 1 ≤ f_st) (h4 : 1 ≤ f_st ∧ f_st ≤ 46656) (h5 : 0 ≤ n_167 ∧ n_167 ≤ 46655) (h6 : 0 ≤ n_170 ∧ n_170 ≤ 93312) (h7 : 1 ≤ z181 ∧ z181 ≤ 93310) : 2 * n_167 ≤ z181 ∧ n_167 < z181 := by omega
set_option maxRecDepth 4000 in
set_option maxHeartbeats 4000000 in
theorem c_X4_makeRoom {l : Launch} {D : va_G} {c : Nat → ClassId} {H0 : Heap} {sa : Nat × Nat × (Nat → Int32)} {w_0 : mW} {μ : mM} (hw_0 : mWF w_0) (hT : mT w_0 μ) {f_st : Int} (q_f_st : μ 94 9 = f_st) {bq : Nat} (q_bq : μ 94 6 = (bq : Int)) (hA_bq : mAt w_0 bq 102) {bf : Nat} (q_bf : μ 94 8 = (bf : Int)) (hA_bf : mAt w_0 bf 104) (hq0 : 1 ≤ f_st) (hle : w_0.2.2.1 bq = w_0.2.2.1 bf) : sC (gG l D c H0 sa) mX4_makeRoom 6 2 186624 [.ref 94] (mk w_0 μ) (qVx w_0 [94006, 94008, 104999] μ (fun w1 μ1 => (μ1 94 9 ≤ (w1.2.2.1 (μ1 94 6).toNat : Int)) ∧ (μ1 94 9 ≤ (w1.2.2.1 (μ1 94 8).toNat : Int)) ∧ (w1.2.2.1 (μ1 94 6).toNat = w1.2.2.1 (μ1 94 8).toNat) ∧ (((szW w1 : Int) + 4 * (w_0.2.2.1 bq : Int) ≤ szW w_0 + 4 * (w1.2.2.1 (μ1 94 6).toNat : Int) ∧ (w1.1 : Int) + 2 * (w_0.2.2.1 bq : Int) ≤ (w_0.1 : Int) + 2 * (w1.2.2.1 (μ1 94 6).toNat : Int))) ∧ True)) := by
  refine sC.of rfl (by decide) (le_t rfl) ?_
  have ht_f_st : (0 ≤ f_st ∧ f_st ≤ 46656) := by rw [← q_f_st]; exact hT 94 94 (A_94 hw_0) 9
  have h1 : 1 ≤ f_st ∧ f_st ≤ 46656 := (vc_X12_open_1 hq0 ht_f_st)
  refine mr_lvE (lv' := [(0, .ref 94)]) rfl ?_
  obtain ⟨n_167, q168⟩ : ∃ n : Int, (w_0.2.2.1 bq : Int) = n := ⟨_, rfl⟩
  have h169 : 0 ≤ n_167 ∧ n_167 ≤ 93312 := lnR (m := 93312) q168 hA_bq rfl
  obtain ⟨n_170, q171⟩ : ∃ n : Int, (w_0.2.2.1 bf : Int) = n := ⟨_, rfl⟩
  have h172 : 0 ≤ n_170 ∧ n_170 ≤ 93312 := lnR (m := 93312) q171 hA_bf rfl
  have h173 : n_170 = n_167 := by rw [← q168, ← q171, hle]
  refine sv_aload_n (pc := 0) dX4_makeRoom_0 rfl rfl ?_
  refine gk_X4_9 (pc := 1) dX4_makeRoom_1 wF_X4_59 (A_94 hw_0) q_f_st ?_
  refine sv_aload_n (pc := 4) dX4_makeRoom_4 rfl rfl ?_
  refine gk_X4_6 (pc := 5) dX4_makeRoom_5 wF_X4_33 (A_94 hw_0) q_bq ?_
  refine mr_alen (pc := 8) (kd := 0) dX4_makeRoom_8 rfl hA_bq rfl q168 ?_
  refine mr_icmp_le (pc := 9) (tgt := 41) dX4_makeRoom_9 (by decide) (r32 h1 rfl) (r32 h169 rfl) (fun h174 => ?_) (fun h174 => ?_)
  · have h175 : 1 ≤ n_167 ∧ n_167 ≤ 93312 := (vc_X4_makeRoom_2 h174 hq0 h173 h1 h169 h172)
    refine sv_aload_n (pc := 41) dX4_makeRoom_41 rfl rfl ?_
    refine gk_X4_8 (pc := 42) dX4_makeRoom_42 wF_X4_39 (A_94 hw_0) q_bf ?_
    refine mr_iconst (pc := 45) (z := 0) dX4_makeRoom_45 ?_
    refine mr_fillB (pc := 46) dX4_makeRoom_46 wM_X4_119 hA_bf rfl rfl (Nat.lt_of_le_of_lt hA_bf.2.2.1 (lt_t rfl)) hT (rW (c := (-128)) (d := 127) (rR (x := 0)) rfl) (fun _ => (rW (c := (-128)) (d := 127) (rR (x := 0)) rfl)) ⟨le_t rfl, le_t rfl⟩ ⟨le_t rfl, le_t rfl⟩ (le_t rfl) fun μ176 q177 T178 => ?_
    have F179 : mF [104999] w_0 μ μ176 := mF.cell q177.1 hA_bf rfl
    exact mr_vretX dX4_makeRoom_49 rfl (le_t rfl) (le_t rfl) hw_0 T178 (mX.fr mX.refl F179 rfl) ⟨(lenP (μ := μ176) (F179.f (A_94 hw_0) rfl q_bq) q168 (F179.f (A_94 hw_0) rfl q_f_st) (vc_X4_makeRoom_3 hq0 h173 h174 h1 h175 h172)), (lenP (μ := μ176) (F179.f (A_94 hw_0) rfl q_bf) q171 (F179.f (A_94 hw_0) rfl q_f_st) (vc_X4_makeRoom_4 hq0 h173 h174 h1 h175 h172)), (lenE (F179.f (A_94 hw_0) rfl q_bq) q168 (F179.f (A_94 hw_0) rfl q_bf) q171 (vc_X4_makeRoom_5 h173 h174 hq0 h1 h175 h172)), (potM0 (F179.f (A_94 hw_0) rfl q_bq)), trivial⟩
  have h180 : 0 ≤ n_167 ∧ n_167 ≤ 46655 := (vc_X4_makeRoom_6 h174 hq0 h173 h1 h169 h172)
  refine sv_aload_n (pc := 12) dX4_makeRoom_12 rfl rfl ?_
  refine gk_X4_9 (pc := 13) dX4_makeRoom_13 wF_X4_59 (A_94 hw_0) q_f_st ?_
  refine mr_iconst (pc := 16) (z := 2) dX4_makeRoom_16 ?_
  refine sv_aload_n (pc := 17) dX4_makeRoom_17 rfl rfl ?_
  refine gk_X4_6 (pc := 18) dX4_makeRoom_18 wF_X4_33 (A_94 hw_0) q_bq ?_
  refine mr_alen (pc := 21) (kd := 0) dX4_makeRoom_21 rfl hA_bq rfl q168 ?_
  refine mr_imul (pc := 22) (x := 2) (y := n_167) dX4_makeRoom_22 ?_
  refine mr_max (pc := 23) dX4_makeRoom_23 wM_X4_114 wS_J_max wI_J_math wK_J_max ⟨le_t rfl, le_t rfl⟩ ⟨le_t rfl, le_t rfl⟩ (le_t rfl) (r32 h1 rfl) (r32 (rMulL (n := 2) (e := 0) (f := 93310) h180 rfl) rfl) fun z181 h182 => ?_
  have h183 : 1 ≤ z181 ∧ z181 ≤ 93310 := (vc_X4_makeRoom_7 hq0 h173 h174 h182 h1 h180 h172)
  refine mr_istore_n (pc := 26) (lv' := [(1, iv z181), (0, .ref 94)]) dX4_makeRoom_26 rfl (by decide) rfl ?_
  refine sv_aload_n (pc := 27) dX4_makeRoom_27 rfl rfl ?_
  refine mr_iload_n (pc := 28) (z := z181) dX4_makeRoom_28 rfl rfl ?_
  refine mr_newI (pc := 29) (s := 102) dX4_makeRoom_29 wA_int rfl (fun U => sI_Cond_int U _) rfl (show 0 ≤ z181 ∧ z181 ≤ ((mLen 102 : Nat) : Int) from (vc_X4_makeRoom_8 h182 hq0 h173 h174 h1 h180 h172 h183)) (le_t rfl) rfl hT (fun _ => (show (0 : Int) ≤ 0 ∧ (0 : Int) ≤ 46655 from by decide)) (le_t rfl) (slLe (show z181 ≤ ((93310 : Nat) : Int) from (vc_X4_makeRoom_9 h182 hq0 h173 h174 h1 h180 h172 h183)) rfl) fun w_184 μ186 X187 T188 A189 e190 q191 c192 v193 => ?_
  refine sv_wid (ce' := 1) (sl' := 93310) (le_t rfl) (slLe (show z181 ≤ ((93310 : Nat) : Int) from (vc_X4_makeRoom_9 h182 hq0 h173 h174 h1 h180 h172 h183)) rfl) ?_
  have hw_185 : mWF w_184 := mWF.ext X187.1 hw_0
  have A194 : mAt w_184 bq 102 := (hA_bq).ext X187.1
  have A195 : mAt w_184 bf 104 := (hA_bf).ext X187.1
  have q196 := X187.len hA_bq q168
  have q197 := X187.len hA_bf q171
  refine pf_X4_6 (pc := 31) dX4_makeRoom_31 wF_X4_33 (A_94 hw_185) T188 A189 fun μ198 u199 T200 => ?_
  refine sv_aload_n (pc := 34) dX4_makeRoom_34 rfl rfl ?_
  refine mr_iload_n (pc := 35) (z := z181) dX4_makeRoom_35 rfl rfl ?_
  have q201 : μ198 94 (9) = f_st := (u199.f (Or.inr (by decide)) (X187.f (A_94 hw_0) rfl q_f_st))
  have q202 : μ198 94 (8) = (bf : Int) := (u199.f (Or.inr (by decide)) (X187.f (A_94 hw_0) rfl q_bf))
  refine mr_newB (pc := 36) (s := 104) dX4_makeRoom_36 wA_byte rfl (fun U => sI_Cond_byte U _) rfl (show 0 ≤ z181 ∧ z181 ≤ ((mLen 104 : Nat) : Int) from (vc_X4_makeRoom_8 h182 hq0 h173 h174 h1 h180 h172 h183)) (le_t rfl) rfl T200 (fun _ => (show ((-128) : Int) ≤ 0 ∧ (0 : Int) ≤ 127 from by decide)) (le_t rfl) (slLe (show z181 ≤ ((93310 : Nat) : Int) from (vc_X4_makeRoom_9 h182 hq0 h173 h174 h1 h180 h172 h183)) rfl) fun w_203 μ205 X206 T207 A208 e209 q210 c211 v212 => ?_
  refine sv_wid (ce' := 2) (sl' := 186620) (le_t rfl) (slLe (show z181 ≤ ((93310 : Nat) : Int) from (vc_X4_makeRoom_9 h182 hq0 h173 h174 h1 h180 h172 h183)) rfl) ?_
  have hw_204 : mWF w_203 := mWF.ext X206.1 hw_185
  have A213 : mAt w_203 w_0.1 102 := (A189).ext X206.1
  have A214 : mAt w_203 bf 104 := (A195).ext X206.1
  have q215 := X206.len A195 q197
  have q216 := X206.len A189 q191
  refine pf_X4_8 (pc := 38) dX4_makeRoom_38 wF_X4_39 (A_94 hw_204) T207 A208 fun μ217 u218 T219 => ?_
  refine sv_aload_n (pc := 41) dX4_makeRoom_41 rfl rfl ?_
  refine gk_X4_8 (pc := 42) dX4_makeRoom_42 wF_X4_39 (A_94 hw_204) u218.1 ?_
  refine mr_iconst (pc := 45) (z := 0) dX4_makeRoom_45 ?_
  refine mr_fillB (pc := 46) dX4_makeRoom_46 wM_X4_119 A208 rfl rfl (Nat.lt_of_le_of_lt A208.2.2.1 (lt_t rfl)) T219 (rW (c := (-128)) (d := 127) (rR (x := 0)) rfl) (fun _ => (rW (c := (-128)) (d := 127) (rR (x := 0)) rfl)) ⟨le_t rfl, le_t rfl⟩ ⟨le_t rfl, le_t rfl⟩ (le_t rfl) fun μ220 q221 T222 => ?_
  have F223 : mF [104999] w_203 μ217 μ220 := mF.cell q221.1 A208 rfl
  exact mr_vretX dX4_makeRoom_49 rfl (le_t rfl) (le_t rfl) hw_204 T222 (mX.fr (mX.fr (mX.trans (mX.fr (mX.trans mX.refl X187 rfl) (mF.up mF.refl (A_94 hw_185) u199 rfl : mF [94006] _ _ _) rfl) X206 rfl) (mF.up mF.refl (A_94 hw_204) u218 rfl : mF [94008] _ _ _) rfl) F223 rfl) ⟨(lenP (μ := μ220) (F223.f (A_94 hw_204) rfl (u218.f (Or.inr (by decide)) (X206.f (A_94 hw_185) rfl u199.1))) q216 (F223.f (A_94 hw_204) rfl (u218.f (Or.inr (by decide)) (X206.f (A_94 hw_185) rfl q201))) (vc_X4_makeRoom_10 hq0 h174 h182 h173 h1 h180 h172 h183)), (lenP (μ := μ220) (F223.f (A_94 hw_204) rfl u218.1) q210 (F223.f (A_94 hw_204) rfl (u218.f (Or.inr (by decide)) (X206.f (A_94 hw_185) rfl q201))) (vc_X4_makeRoom_10 hq0 h174 h182 h173 h1 h180 h172 h183)), (lenE (F223.f (A_94 hw_204) rfl (u218.f (Or.inr (by decide)) (X206.f (A_94 hw_185) rfl u199.1))) q216 (F223.f (A_94 hw_204) rfl u218.1) q210 (vc_X4_makeRoom_11 h182 hq0 h173 h174 h1 h180 h172 h183)), (potM X187.1 e190 A189 q191 X206.1 e209 A208 q210 q168 (F223.f (A_94 hw_204) rfl (u218.f (Or.inr (by decide)) (X206.f (A_94 hw_185) rfl u199.1))) (vc_X4_makeRoom_12 h173 h174 h182 hq0 h1 h180 h172 h183)), trivial⟩
set_option maxRecDepth 4000 in
set_option maxHeartbeats 4000000 in
theorem c_X4_explore {l : Launch} {D : va_G} {c : Nat → ClassId} {H0 : Heap} {sa : Nat × Nat × (Nat → Int32)} {w_0 : mW} {μ : mM} (hw_0 : mWF w_0) (hT : mT w_0 μ) {bq : Nat} (q_bq : μ 94 6 = (bq : Int)) (hA_bq : mAt w_0 bq 102) {bf : Nat} (q_bf : μ 94 8 = (bf : Int)) (hA_bf : mAt w_0 bf 104) (hle : w_0.2.2.1 bq = w_0.2.2.1 bf) : sC (gG l D c H0 sa) mX4_explore 12 2 186624 [.ref 94] (mk w_0 μ) (qVx w_0 [94006, 94008, 94009, 94011, 98999, 99999, 100999, 101999, 102999, 104999, 105999] μ (fun w1 μ1 => (w1.2.2.1 (μ1 94 6).toNat = w1.2.2.1 (μ1 94 8).toNat) ∧ (((szW w1 : Int) + 4 * (w_0.2.2.1 bq : Int) ≤ szW w_0 + 4 * (w1.2.2.1 (μ1 94 6).toNat : Int) ∧ (w1.1 : Int) + 2 * (w_0.2.2.1 bq : Int) ≤ (w_0.1 : Int) + 2 * (w1.2.2.1 (μ1 94 6).toNat : Int))) ∧ True)) := by
  refine sC.of rfl (by decide) (le_t rfl) ?_
  refine mr_lvE (lv' := [(0, .ref 94)]) rfl ?_
  refine sv_aload_n (pc := 0) dX4_explore_0 rfl rfl ?_
  refine gf_X4_11 (pc := 1) dX4_explore_1 wF_X4_56 (A_94 hw_0) hT fun z1 q2 h3 => ?_
  refine mr_if_eq (pc := 4) (tgt := 8) dX4_explore_4 (by decide) (r32 h3 rfl) (fun h4 => ?_) (fun h4 => ?_)
  · have h5 : 0 ≤ z1 ∧ z1 ≤ 0 := (vc_X12_ring_22 h4 h3)
    refine sv_aload_n (pc := 8) dX4_explore_8 rfl rfl ?_
    refine mr_cVV (pc := 9) (c_X4_prepare hw_0 hT) (gOk _ _ _ _ _) dX4_explore_9 (tX4_prepare _ _ _ _ _) ⟨wV_X4_prepare, wL_X4_prepare⟩ wM_X4_79 (gCX4 _ _ _ _ _) rfl (A_94 hw_0) rfl ⟨le_t rfl, le_t rfl⟩ ⟨le_t rfl, le_t rfl⟩ rfl (le_t rfl) fun μ6 T7 F8 h9 => ?_
    obtain ⟨z10, q11, h12⟩ := h9
    have h13 : (0 ≤ z10 ∧ z10 ≤ 46656) := by rw [← q11]; exact T7 94 94 (A_94 hw_0) 9
    have h14 : 1 ≤ z10 ∧ z10 ≤ 46656 := (vc_X12_open_1 h12.1 h13)
    refine sv_aload_n (pc := 12) dX4_explore_12 rfl rfl ?_
    have q15 : μ6 94 (6) = (bq : Int) := (F8.f (A_94 hw_0) rfl q_bq)
    have q16 : μ6 94 (8) = (bf : Int) := (F8.f (A_94 hw_0) rfl q_bf)
    have q17 : μ6 94 (11) = z1 := (F8.f (A_94 hw_0) rfl q2)
    refine mr_cVVX (pc := 13) (c_X4_makeRoom hw_0 T7 q11 q15 hA_bq q16 hA_bf (vc_X12_isRest_7 h12.1 h14) hle) (gOk _ _ _ _ _) dX4_explore_13 (tX4_makeRoom _ _ _ _ _) ⟨wV_X4_makeRoom, wL_X4_makeRoom⟩ wM_X4_104 (gCX4 _ _ _ _ _) rfl (A_94 hw_0) rfl ⟨le_t rfl, le_t rfl⟩ ⟨le_t rfl, le_t rfl⟩ rfl (le_t rfl) fun w_22 μ18 hw_23 T19 F20 h21 => ?_
    refine sv_wid (ce' := 2) (sl' := 186624) (le_t rfl) (le_t rfl) ?_
    have A24 : mAt w_22 bq 102 := (hA_bq).ext F20.1
    have A25 : mAt w_22 bf 104 := (hA_bf).ext F20.1
    have R26 := radix.keepX h12.2.1 F20 (A_100 hw_0) (A_95 hw_0) (fun _ => rfl) (fun _ => rfl)
    obtain ⟨b27, q28, A29⟩ := refE (T19 94 94 (A_94 hw_23) 6)
    obtain ⟨b30, q31, A32⟩ := refE (T19 94 94 (A_94 hw_23) 8)
    refine sv_aload_n (pc := 16) dX4_explore_16 rfl rfl ?_
    refine mr_cVI (pc := 17) (c_X4_spread hw_23 T19 (F20.f (A_94 hw_0) rfl q11) q28 A29 q31 A32 (vc_X12_isRest_7 h12.1 h14) (lenQ h21.1 q28) (lenQ h21.2.1 q31) (by have h := R26; rw [q11] at h; exact h)) (gOk _ _ _ _ _) dX4_explore_17 (tX4_spread _ _ _ _ _) ⟨wV_X4_spread, wL_X4_spread⟩ wM_X4_107 (gCX4 _ _ _ _ _) rfl (A_94 hw_23) rfl ⟨le_t rfl, le_t rfl⟩ ⟨le_t rfl, le_t rfl⟩ rfl (le_t rfl) fun z37 μ33 T34 F35 h36 => ?_
    refine mr_istore_n (pc := 20) (lv' := [(1, iv z37), (0, .ref 94)]) dX4_explore_20 rfl (by decide) rfl ?_
    refine sv_aload_n (pc := 21) dX4_explore_21 rfl rfl ?_
    refine mr_cVI (pc := 22) (c_X4_leadBack hw_23 T34 (F35.f (A_94 hw_23) rfl (F20.f (A_94 hw_0) rfl q11)) (F35.f (A_94 hw_23) rfl q28) A29 (F35.f (A_94 hw_23) rfl q31) A32 (vc_X12_isRest_7 h12.1 h14) (by have h := (lenQ h21.1 q28); rw [(F20.f (A_94 hw_0) rfl q11)] at h; rw [(F35.f (A_94 hw_23) rfl (F20.f (A_94 hw_0) rfl q11))]; exact h) (by have h := (lenQ h21.2.1 q31); rw [(F20.f (A_94 hw_0) rfl q11)] at h; rw [(F35.f (A_94 hw_23) rfl (F20.f (A_94 hw_0) rfl q11))]; exact h) (by have h := (radix.keep R26 ((mF.call mF.refl F35 rfl) : mF [101999, 102999, 104999, 105999] w_22 μ18 μ33) (A_100 hw_23) (A_95 hw_23) (fun _ => rfl) (fun _ => rfl)); rw [q11] at h; exact h)) (gOk _ _ _ _ _) dX4_explore_22 (tX4_leadBack _ _ _ _ _) ⟨wV_X4_leadBack, wL_X4_leadBack⟩ wM_X4_111 (gCX4 _ _ _ _ _) rfl (A_94 hw_23) rfl ⟨le_t rfl, le_t rfl⟩ ⟨le_t rfl, le_t rfl⟩ rfl (le_t rfl) fun z42 μ38 T39 F40 h41 => ?_
    refine mr_istore_n (pc := 25) (lv' := [(2, iv z42), (1, iv z37), (0, .ref 94)]) dX4_explore_25 rfl (by decide) rfl ?_
    refine sv_aload_n (pc := 26) dX4_explore_26 rfl rfl ?_
    refine gf_X4_13 (pc := 27) dX4_explore_27 wF_X4_43 (A_94 hw_23) T39 ?_
    refine mr_iconst (pc := 30) (z := 0) dX4_explore_30 ?_
    refine mr_iload_n (pc := 31) (z := z37) dX4_explore_31 rfl rfl ?_
    refine ss_105 (pc := 32) dX4_explore_32 (A_105 hw_23) T39 (rIx (n := 4) (rR (x := 0)) rfl) (rW (c := (-2147483648)) (d := 2147483647) h36.1 rfl) fun μ43 u44 T45 => ?_
    refine sv_aload_n (pc := 33) dX4_explore_33 rfl rfl ?_
    refine gf_X4_13 (pc := 34) dX4_explore_34 wF_X4_43 (A_94 hw_23) T45 ?_
    refine mr_iconst (pc := 37) (z := 2) dX4_explore_37 ?_
    refine mr_iload_n (pc := 38) (z := z37) dX4_explore_38 rfl rfl ?_
    refine mr_iload_n (pc := 39) (z := z42) dX4_explore_39 rfl rfl ?_
    refine mr_isub (pc := 40) (x := z37) (y := z42) dX4_explore_40 ?_
    refine ss_105 (pc := 41) dX4_explore_41 (A_105 hw_23) T45 (rIx (n := 4) (rR (x := 2)) rfl) (rW (c := (-2147483648)) (d := 2147483647) (rSub (e := (-46655)) (f := 46656) h36.1 h41.1 rfl) rfl) fun μ46 u47 T48 => ?_
    refine sv_aload_n (pc := 42) dX4_explore_42 rfl rfl ?_
    refine mr_iconst (pc := 43) (z := 1) dX4_explore_43 ?_
    refine pf_X4_11 (pc := 44) dX4_explore_44 wF_X4_56 (A_94 hw_23) T48 (rW (c := 0) (d := 1) (rR (x := 1)) rfl) fun μ49 u50 T51 => ?_
    exact mr_vretX dX4_explore_47 rfl (le_t rfl) (le_t rfl) hw_23 T51 (mX.fr (mX.fr (mX.fr (mX.fr (mX.fr (mX.trans (mX.fr mX.refl F8 rfl) F20 rfl) F35 rfl) F40 rfl) (mF.up mF.refl (A_105 hw_23) u44 rfl : mF [105999] _ _ _) rfl) (mF.up mF.refl (A_105 hw_23) u47 rfl : mF [105999] _ _ _) rfl) (mF.up mF.refl (A_94 hw_23) u50 rfl : mF [94011] _ _ _) rfl) ⟨(lenQ0 (lenQ2 h21.2.2.1 q28 q31) (u50.f (Or.inr (by decide)) (u47.f (Or.inl (mAt.ne (A_105 hw_23) (A_94 hw_23) rfl)) (u44.f (Or.inl (mAt.ne (A_105 hw_23) (A_94 hw_23) rfl)) (F40.f (A_94 hw_23) rfl (F35.f (A_94 hw_23) rfl q28))))) (u50.f (Or.inr (by decide)) (u47.f (Or.inl (mAt.ne (A_105 hw_23) (A_94 hw_23) rfl)) (u44.f (Or.inl (mAt.ne (A_105 hw_23) (A_94 hw_23) rfl)) (F40.f (A_94 hw_23) rfl (F35.f (A_94 hw_23) rfl q31)))))), (potQ h21.2.2.2.1 q28 (u50.f (Or.inr (by decide)) (u47.f (Or.inl (mAt.ne (A_105 hw_23) (A_94 hw_23) rfl)) (u44.f (Or.inl (mAt.ne (A_105 hw_23) (A_94 hw_23) rfl)) (F40.f (A_94 hw_23) rfl (F35.f (A_94 hw_23) rfl q28)))))), trivial⟩
  have h52 : 1 ≤ z1 ∧ z1 ≤ 1 := (vc_X12_ring_24 h4 h3)
  exact mr_vretX dX4_explore_7 rfl (le_t rfl) (le_t rfl) hw_0 hT mX.refl ⟨(lenQ0 hle q_bq q_bf), (potM0 q_bq), trivial⟩
theorem vc_X11_tries_3 {p1 : Int} (h0 : p1 ≤ 3) (h1 : 0 ≤ p1) (h2 : 0 ≤ p1 ∧ p1 ≤ 2147483647) : 0 ≤ p1 ∧ p1 ≤ 3 := by omega
theorem vc_X11_tries_4 {p1 : Int} (h0 : 3 < p1) (h1 : 0 ≤ p1) (h2 : 0 ≤ p1 ∧ p1 ≤ 2147483647) : 4 ≤ p1 ∧ p1 ≤ 2147483647 := by omega
set_option maxRecDepth 4000 in
set_option maxHeartbeats 4000000 in
theorem c_X11_tries {l : Launch} {D : va_G} {c : Nat → ClassId} {H0 : Heap} {sa : Nat × Nat × (Nat → Int32)} {w_0 : mW} {μ : mM} (hw_0 : mWF w_0) (hT : mT w_0 μ) {p1 : Int} (hp1 : (-2147483648) ≤ p1 ∧ p1 ≤ 2147483647) {bq : Nat} (q_bq : μ 94 6 = (bq : Int)) (hA_bq : mAt w_0 bq 102) {bf : Nat} (q_bf : μ 94 8 = (bf : Int)) (hA_bf : mAt w_0 bf 104) (hle : w_0.2.2.1 bq = w_0.2.2.1 bf) : sC (gG l D c H0 sa) mX11_tries 13 2 186624 [.ref 0, iv p1] (mk w_0 μ) (qIx w_0 [94006, 94008, 94009, 94011, 98999, 99999, 100999, 101999, 102999, 104999, 105999] μ (fun z w1 μ1 => ((-2147483648) ≤ z ∧ z ≤ 2147483647) ∧ (w1.2.2.1 (μ1 94 6).toNat = w1.2.2.1 (μ1 94 8).toNat) ∧ (((szW w1 : Int) + 4 * (w_0.2.2.1 bq : Int) ≤ szW w_0 + 4 * (w1.2.2.1 (μ1 94 6).toNat : Int) ∧ (w1.1 : Int) + 2 * (w_0.2.2.1 bq : Int) ≤ (w_0.1 : Int) + 2 * (w1.2.2.1 (μ1 94 6).toNat : Int))) ∧ True)) := by
  refine sC.of rfl (by decide) (le_t rfl) ?_
  refine mr_lvE (lv' := [(0, .ref 0), (1, iv p1)]) rfl ?_
  refine mr_iload_n (pc := 0) (z := p1) dX11_tries_0 rfl rfl ?_
  refine mr_if_lt (pc := 1) (tgt := 9) dX11_tries_1 (by decide) hp1 (fun h1 => ?_) (fun h1 => ?_)
  · have h2 : (-2147483648) ≤ p1 ∧ p1 ≤ (-1) := (vc_X12_ring_60 h1 hp1)
    refine mr_iconst (pc := 9) (z := (-1)) dX11_tries_9 ?_
    exact mr_iretX dX11_tries_10 rfl (le_t rfl) (le_t rfl) hw_0 hT mX.refl ⟨(rW (c := (-2147483648)) (d := 2147483647) (rR (x := (-1))) rfl), (lenQ0 hle q_bq q_bf), (potM0 q_bq), trivial⟩
  have h3 : 0 ≤ p1 ∧ p1 ≤ 2147483647 := (vc_X12_ring_1 h1 hp1)
  refine mr_iload_n (pc := 4) (z := p1) dX11_tries_4 rfl rfl ?_
  refine mr_iconst (pc := 5) (z := 3) dX11_tries_5 ?_
  refine mr_icmp_le (pc := 6) (tgt := 11) dX11_tries_6 (by decide) (r32 h3 rfl) (r32 (rR (x := 3)) rfl) (fun h4 => ?_) (fun h4 => ?_)
  · have h5 : 0 ≤ p1 ∧ p1 ≤ 3 := (vc_X11_tries_3 h4 h1 h3)
    refine sv_aload_n (pc := 11) dX11_tries_11 rfl rfl ?_
    refine gf_X11_9 (pc := 12) dX11_tries_12 wF_X11_72 (A_0 hw_0) hT ?_
    refine mr_cVVX (pc := 15) (c_X4_explore hw_0 hT q_bq hA_bq q_bf hA_bf hle) (gOk _ _ _ _ _) dX11_tries_15 (tX4_explore _ _ _ _ _) ⟨wV_X4_explore, wL_X4_explore⟩ wM_X11_420 (gCX4 _ _ _ _ _) rfl (A_94 hw_0) rfl ⟨le_t rfl, le_t rfl⟩ ⟨le_t rfl, le_t rfl⟩ rfl (le_t rfl) fun w_10 μ6 hw_11 T7 F8 h9 => ?_
    refine sv_wid (ce' := 2) (sl' := 186624) (le_t rfl) (le_t rfl) ?_
    have A12 : mAt w_10 bq 102 := (hA_bq).ext F8.1
    have A13 : mAt w_10 bf 104 := (hA_bf).ext F8.1
    refine sv_aload_n (pc := 18) dX11_tries_18 rfl rfl ?_
    refine gf_X11_9 (pc := 19) dX11_tries_19 wF_X11_72 (A_0 hw_11) T7 ?_
    refine gf_X4_13 (pc := 22) dX11_tries_22 wF_X11_423 (A_94 hw_11) T7 ?_
    refine mr_iload_n (pc := 25) (z := p1) dX11_tries_25 rfl rfl ?_
    refine la_105 (pc := 26) dX11_tries_26 (A_105 hw_11) T7 (rIx (n := 4) h5 rfl) fun z14 q15 h16 => ?_
    exact mr_iretX dX11_tries_27 rfl (le_t rfl) (le_t rfl) hw_11 T7 (mX.trans mX.refl F8 rfl) ⟨h16, h9.1, h9.2.1, trivial⟩
  have h17 : 4 ≤ p1 ∧ p1 ≤ 2147483647 := (vc_X11_tries_4 h4 h1 h3)
  refine mr_iconst (pc := 9) (z := (-1)) dX11_tries_9 ?_
  exact mr_iretX dX11_tries_10 rfl (le_t rfl) (le_t rfl) hw_0 hT mX.refl ⟨(rW (c := (-2147483648)) (d := 2147483647) (rR (x := (-1))) rfl), (lenQ0 hle q_bq q_bf), (potM0 q_bq), trivial⟩
theorem vc_X4_keepRest_a_1 {f_rc : Int} (h0 : f_rc ≤ 46655) (h1 : 0 ≤ f_rc ∧ f_rc ≤ 46656) : 0 ≤ f_rc ∧ f_rc ≤ 46655 := by omega
theorem vc_X4_keepRest_a_2 {f_rc n_35 : Int} (h0 : n_35 ≤ f_rc) (h1 : f_rc ≤ 46655) (h2 : f_rc < n_35) (h3 : 0 ≤ f_rc ∧ f_rc ≤ 46655) (h4 : 0 ≤ n_35 ∧ n_35 ≤ 93312) : False := by omega
theorem vc_X4_keepRest_a_3 {f_rc n_35 : Int} (h0 : f_rc < n_35) (h1 : f_rc ≤ 46655) (h2 : 0 ≤ f_rc ∧ f_rc ≤ 46655) (h3 : 0 ≤ n_35 ∧ n_35 ≤ 93312) : 1 ≤ n_35 ∧ n_35 ≤ 93312 := by omega
theorem vc_X4_keepRest_a_4 {f_rc n_35 : Int} (h0 : f_rc ≤ 46655) (h1 : f_rc < n_35) (h2 : 0 ≤ f_rc ∧ f_rc ≤ 46655) (h3 : 1 ≤ n_35 ∧ n_35 ≤ 93312) : 0 ≤ f_rc ∧ f_rc < n_35 := by omega
theorem vc_X4_keepRest_a_5 {f_rc n_35 : Int} (h0 : f_rc ≤ 46655) (h1 : f_rc < n_35) (h2 : 0 ≤ f_rc ∧ f_rc ≤ 46655) (h3 : 1 ≤ n_35 ∧ n_35 ≤ 93312) : (f_rc + 1) = f_rc + 1 := by omega
set_option maxRecDepth 4000 in
set_option maxHeartbeats 4000000 in
theorem c_X4_keepRest_a {l : Launch} {D : va_G} {c : Nat → ClassId} {H0 : Heap} {sa : Nat × Nat × (Nat → Int32)} {w : mW} {μ : mM} (hw : mWF w) (hT : mT w μ) {p1 : Int} (hp1 : 0 ≤ p1 ∧ p1 ≤ 46655) {f_rc : Int} (q_f_rc : μ 94 14 = f_rc) {br : Nat} (q_br : μ 94 7 = (br : Int)) (hA_br : mAt w br 103) (hq0 : f_rc ≤ 46655) (hix : f_rc < (w.2.2.1 br : Int)) : sC (gG l D c H0 sa) mX4_keepRest 1 0 0 [.ref 94, iv p1] (mk w μ) (qV w [94014, 103999] μ (fun μ1 => ∃ o_rc : Int, μ1 94 14 = o_rc ∧ (o_rc = f_rc + 1) ∧ True)) := by
  refine sC.of rfl (by decide) (le_t rfl) ?_
  have ht_f_rc : (0 ≤ f_rc ∧ f_rc ≤ 46656) := by rw [← q_f_rc]; exact hT 94 94 (A_94 hw) 14
  have h1 : 0 ≤ f_rc ∧ f_rc ≤ 46655 := (vc_X4_keepRest_a_1 hq0 ht_f_rc)
  refine mr_lvE (lv' := [(0, .ref 94), (1, iv p1)]) rfl ?_
  obtain ⟨n_35, q36⟩ : ∃ n : Int, (w.2.2.1 br : Int) = n := ⟨_, rfl⟩
  have h37 : 0 ≤ n_35 ∧ n_35 ≤ 93312 := lnR (m := 93312) q36 hA_br rfl
  have h38 : f_rc < n_35 := by rw [← q36]; exact hix
  refine sv_aload_n (pc := 0) dX4_keepRest_0 rfl rfl ?_
  refine gk_X4_14 (pc := 1) dX4_keepRest_1 wF_X4_82 (A_94 hw) q_f_rc ?_
  refine sv_aload_n (pc := 4) dX4_keepRest_4 rfl rfl ?_
  refine gk_X4_7 (pc := 5) dX4_keepRest_5 wF_X4_36 (A_94 hw) q_br ?_
  refine mr_alen (pc := 8) (kd := 0) dX4_keepRest_8 rfl hA_br rfl q36 ?_
  refine mr_icmp_lt (pc := 9) (tgt := 29) dX4_keepRest_9 (by decide) (r32 h1 rfl) (r32 h37 rfl) (fun h39 => ?_) (fun h => ((vc_X4_keepRest_a_2 h hq0 h38 h1 h37)).elim)
  have h40 : 1 ≤ n_35 ∧ n_35 ≤ 93312 := (vc_X4_keepRest_a_3 h39 hq0 h1 h37)
  refine sv_aload_n (pc := 29) dX4_keepRest_29 rfl rfl ?_
  refine gk_X4_7 (pc := 30) dX4_keepRest_30 wF_X4_36 (A_94 hw) q_br ?_
  refine sv_aload_n (pc := 33) dX4_keepRest_33 rfl rfl ?_
  refine gk_X4_14 (pc := 34) dX4_keepRest_34 wF_X4_82 (A_94 hw) q_f_rc ?_
  refine mr_iload_n (pc := 37) (z := p1) dX4_keepRest_37 rfl rfl ?_
  refine ss_103 (pc := 38) dX4_keepRest_38 hA_br hT (lnC q36 (vc_X4_keepRest_a_4 hq0 h38 h1 h40)) hp1 fun μ41 u42 T43 => ?_
  refine sv_aload_n (pc := 39) dX4_keepRest_39 rfl rfl ?_
  refine sv_dup (pc := 40) dX4_keepRest_40 rfl ?_
  refine gk_X4_14 (pc := 41) dX4_keepRest_41 wF_X4_82 (A_94 hw) (u42.f (Or.inl (mAt.ne hA_br (A_94 hw) rfl)) q_f_rc) ?_
  refine mr_iconst (pc := 44) (z := 1) dX4_keepRest_44 ?_
  refine mr_iadd (pc := 45) (x := f_rc) (y := 1) dX4_keepRest_45 ?_
  refine pf_X4_14 (pc := 46) dX4_keepRest_46 wF_X4_82 (A_94 hw) T43 (rW (c := 0) (d := 46656) (rAdd (e := 1) (f := 46656) h1 (rR (x := 1)) rfl) rfl) fun μ44 u45 T46 => ?_
  exact mr_vret dX4_keepRest_49 rfl (le_t rfl) (le_t rfl) T46 (mF.up (mF.up mF.refl hA_br u42 rfl) (A_94 hw) u45 rfl) ⟨(f_rc + 1), u45.1, (vc_X4_keepRest_a_5 hq0 h38 h1 h40), trivial⟩
end
section
/-! A row of ints copied into a longer one. -/
section MV27
variable (l : Launch) (D : va_G) (c : Nat → ClassId) (H0 : Heap) (sa : Nat × Nat × (Nat → Int32))
theorem c_copyG {d a n : Nat} {q : Nat → Int32} {x : Int32} {N hn : Nat} {hf : Nat → sE} (hd : 2 ≤ d) (ha : a < hn) (he : hf a = .inl (0, n, sI q)) (hx : x = nI N) (hN : n < N) (hn31 : N < 2 ^ 26) : sC (gG l D c H0 sa) mJ_copyI d 1 N [.ref a, .int x] (hn, hf) (fun r hp' => r = some (.ref hn) ∧ hp' = (hn + 1, sUp (sUp hf hn (.inl (0, N, fun _ => .int 0))) hn (.inl (0, N, sI (va_cpy q (fun _ => 0) 0 0 n))))) := by
  subst hx
  have hcl : (nI N).toNatClampNeg = N := nI_clamp (by omega)
  have hpo : ¬ nI N < 0 := nI_pos (by omega)
  have hcl' : (nI n).toNatClampNeg = n := nI_clamp (by omega)
  have hpo' : ¬ nI n < 0 := nI_pos (by omega)
  refine sC.of rfl (by decide) (le_t rfl) ?_
  refine sv_iload_n (pc := 0) dJ_copyI_0 rfl rfl ?_
  refine sv_aload_n (pc := 1) dJ_copyI_1 rfl rfl ?_
  refine sv_arraylength (pc := 2) (kd := 0) (n := n) (f := sI q) (cA := c 0) (ty := .int) (v := nI n) dJ_copyI_2 rfl ha he rfl ?_
  refine sv_icmp_ne (pc := 3) (tgt := 14) dJ_copyI_3 (by decide) (fun _ => ?_) (fun h => absurd ((nI_eq (by omega) (by omega)).mp h) (by omega))
  refine sv_iload_n (pc := 14) dJ_copyI_14 rfl rfl ?_
  refine sv_newarray (pc := 15) (kd := 0) (cA := c 0) (N := N) (v := .int 0) dJ_copyI_15 rfl wA_int rfl (fun U => sI_Cond_int U _) hpo hcl (by show N * 4 ≤ _; omega) (fun _ => rfl) (Nat.le_refl _) (by show 0 + N ≤ N; omega) ?_
  refine sv_astore_n (pc := 17) dJ_copyI_17 rfl (by decide) ?_
  refine sv_aload_n (pc := 18) dJ_copyI_18 rfl rfl ?_
  refine sv_iconst (pc := 19) (v := 0) dJ_copyI_19 (by decide) ?_
  refine sv_aload_n (pc := 20) dJ_copyI_20 rfl rfl ?_
  refine sv_iconst (pc := 21) (v := 0) dJ_copyI_21 (by decide) ?_
  refine sv_aload_n (pc := 22) dJ_copyI_22 rfl rfl ?_
  have hne : a ≠ hn := by omega
  refine sv_arraylength (pc := 23) (kd := 0) (n := n) (f := sI q) (cA := c 0) (ty := .int) (v := nI n) dJ_copyI_23 rfl (show a < hn + 1 by omega) (by show sUp hf hn _ a = _; rw [sUp_ne _ _ hne]; exact he) rfl ?_
  refine sv_iload_n (pc := 24) dJ_copyI_24 rfl rfl ?_
  refine sv_min (pc := 25) (v := nI n) dJ_copyI_25 wM_J_304 wS_J_min wI_J_math wK_J_min ⟨by show 1 ≤ d; omega, by show 21 ≤ 60 * d; omega⟩ ⟨Nat.le_refl _, by show 0 + N ≤ N; omega⟩ (le_t rfl) (by rw [if_neg (fun h => absurd ((nI_ltI (by omega) (by omega)).mp h) (by omega))]) ?_
  have hnf : nativeFrameWords "java/lang/System" "arraycopy" 5 + 19 ≤ 120 := by decide +kernel
  refine sv_copyI (pc := 28) (cA := c 0) (q := q) (q' := fun _ => 0) (n0 := n) (n1 := N) (a0 := a) (a := hn) dJ_copyI_28 wM_J_150 wN_J_ac wS_J_ac wI_J_sys rfl (by omega) (by omega) (by rw [sUp_ne _ _ hne]; exact he) (sUp_at _ _ _) (by decide) (by decide) hpo' (by rw [hcl']; show 0 + n ≤ n; omega) (by rw [hcl']; show 0 + n ≤ N; omega) (by show 1 ≤ d; omega) (show _ ≤ 60 * d by omega) (le_t rfl) ?_
  rw [hcl']
  refine sv_aload_n (pc := 31) dJ_copyI_31 rfl rfl ?_
  exact sv_aretA (pc := 32) dJ_copyI_32 rfl (Nat.le_refl _) (by show 0 + N ≤ N; omega) ⟨rfl, rfl⟩
end MV27
section MV27b
variable {l : Launch} {D : va_G} {c : Nat → ClassId} {H0 : Heap} {sa : Nat × Nat × (Nat → Int32)} {M : sM} {R : Room} {Z : sZT} {pc : Nat} {lv : List (Nat × Value)} {st : List Value} {w : mW} {μ : mM} {ce sl : Nat}
def mCpN (μ : mM) (a n : Nat) : Nat → Int := fun i => if i < n then μ a i else 0
theorem mr_copyG {index a s : Nat} {x : Int} (ho : sOk (gG l D c H0 sa)) (hd : decode M.2.1 pc = .ok (.invokestatic index, 3)) (hlk : Cond.methodLink M.1.cls index yJ_copyI ∈ sg_ws (gG l D c H0 sa)) (hA : mAt w a s) (hs : mTab s = .inr (0, 0)) (hx : (w.2.2.1 a : Int) < x ∧ x ≤ (mLen s : Int)) (hL : mLen s ≤ 100000) (hvar : mVar s = true) (hT : mT w μ) (hty : ∀ i, tyP (wNew w s x.toNat) w.1 i (mTy s i) 0) (htc : ∀ i, tyP w a i (mTy s i) (μ a i) → tyP (wNew w s x.toNat) w.1 i (mTy s i) (μ a i)) (hR : 3 ≤ R.frames ∧ 142 ≤ R.locals) (hc1 : ce + 1 ≤ R.cells) (hs1 : sl + x.toNat ≤ R.slots) (hr8 : (st.map fun v => v.category).sum ≤ 8)
    (kk : ∀ w1 μ1, mX [] w μ w1 μ1 → mT w1 μ1 → mAt w1 w.1 s → w1.1 = w.1 + 1 → (w1.2.2.1 w.1 : Int) = x → w1.2.2.2 = w.2.2.2 → (∀ i : Nat, (i : Int) < (w.2.2.1 a : Int) → μ1 w.1 i = μ a i) → sV (gG l D c H0 sa) M R Z (pc + 3) lv (.ref w.1 :: st) (mk w1 μ1) (ce + 1) (sl + x.toNat)) : sV (gG l D c H0 sa) M R Z pc lv (iv x :: .ref a :: st) (mk w μ) ce sl := by
  have hn : Int32.ofInt x = nI x.toNat := by
    rw [show x = (x.toNat : Int) by omega]; exact Int32.ofInt_eq_ofNat
  have hct := c_copyG l D c H0 sa (d := 2) (a := a) (hn := (mk w μ).1) (hf := (mk w μ).2) (N := x.toNat) (n := w.2.2.1 a) (q := fun i => Int32.ofInt (μ a i)) (x := Int32.ofInt x) (Nat.le_refl _) hA.2.1 (mk_arr hA hs) hn (by omega) (by omega)
  refine sv_callS (av := [.ref a, .int (Int32.ofInt x)]) hct ho hd (tJ_copyI l D c H0 sa) wS_J_copyI hlk ⟨hR.1, hR.2⟩ ⟨hc1, hs1⟩ rfl hr8 ?_
  rintro r hp' ⟨rfl, rfl⟩
  have hcell : mCell (mTab s) x.toNat (mCpN μ a (w.2.2.1 a)) = .inl (0, x.toNat, sI (va_cpy (fun i => Int32.ofInt (μ a i)) (fun _ => 0) 0 0 (w.2.2.1 a))) := by
    rw [hs]
    show (Sum.inl (0, x.toNat, _) : sE) = _
    congr 3
    funext i
    simp only [sI, va_cpy, mv, iv, mCpN]
    by_cases q : i < w.2.2.1 a
    · rw [if_pos q, if_pos (by omega), show 0 + (i - 0) = i by omega]
    · rw [if_neg q, if_neg (by omega)]; rfl
  refine sv_heap (hp' := mk (wNew w s x.toNat) (mNew μ w.1 (mCpN μ a (w.2.2.1 a)))) rfl (fun j hj => ?_) (kk _ _ (mNew.x (mVar_gt hvar)) (mT.new (mVar_gt hvar) hT fun i => ?_) (wNew.at (by omega) (fun q => by rw [hvar] at q; cases q)) rfl ?_ rfl (fun i hi => ?_))
  · rw [← mkNew (μ := μ) (s := s) j hj, hcell]
    show sUp (sUp (mk w μ).2 w.1 _) w.1 _ j = _
    by_cases h : j = w.1
    · subst h; rw [sUp_at, sUp_at]
    · rw [sUp_ne _ _ h, sUp_ne _ _ h, sUp_ne _ _ h]
  · unfold mCpN
    by_cases q : i < w.2.2.1 a
    · rw [if_pos q]; exact htc i (hT a s hA i)
    · rw [if_neg q]; exact hty i
  · rw [show (wNew w s x.toNat).2.2.1 w.1 = x.toNat from if_pos rfl]; omega
  · rw [show mNew μ w.1 (mCpN μ a (w.2.2.1 a)) w.1 i = mCpN μ a (w.2.2.1 a) i from if_pos rfl]
    exact if_pos (by omega)
end MV27b
theorem lenX {w : mW} {b : Nat} {x y n : Int} (q : x = (b : Int)) (hl : (w.2.2.1 b : Int) = n) (h : n = y) : (w.2.2.1 x.toNat : Int) = y := by
  have e : x.toNat = b := by omega
  rw [e]; omega
end
section
theorem dX4_keepRest_12 : decode cX4_keepRest 12 = .ok (.aload_n 0, 1) := dc0 dO_42 (by decide +kernel)
theorem dX4_keepRest_13 : decode cX4_keepRest 13 = .ok (.aload_n 0, 1) := dc0 dO_42 (by decide +kernel)
theorem dX4_keepRest_14 : decode cX4_keepRest 14 = .ok (.getfield 36, 3) := dcU2 dO_180 (by decide +kernel)
theorem dX4_keepRest_17 : decode cX4_keepRest 17 = .ok (.iconst 2, 1) := dc0 dO_5 (by decide +kernel)
theorem dX4_keepRest_18 : decode cX4_keepRest 18 = .ok (.aload_n 0, 1) := dc0 dO_42 (by decide +kernel)
theorem dX4_keepRest_19 : decode cX4_keepRest 19 = .ok (.getfield 82, 3) := dcU2 dO_180 (by decide +kernel)
theorem dX4_keepRest_22 : decode cX4_keepRest 22 = .ok (.imul, 1) := dc0 dO_104 (by decide +kernel)
theorem dX4_keepRest_23 : decode cX4_keepRest 23 = .ok (.invokestatic 98, 3) := dcU2 dO_184 (by decide +kernel)
theorem dX4_keepRest_26 : decode cX4_keepRest 26 = .ok (.putfield 36, 3) := dcU2 dO_181 (by decide +kernel)
end
