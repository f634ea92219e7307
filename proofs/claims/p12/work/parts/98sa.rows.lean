theorem vc_X10_tieBetween_v_2 {f_n n1 z461 : Int} (h0 : f_n = n1) (h1 : f_n ≤ z461) (h2 : 0 ≤ f_n ∧ f_n ≤ 20) (h3 : 0 ≤ z461 ∧ z461 ≤ 20) : (-1 : Int) < n1 := by omega
theorem vc_X10_tieBetween_v_3 {f_n n1 z461 : Int} (h0 : f_n = n1) (h1 : f_n ≤ z461) (h2 : 0 ≤ f_n ∧ f_n ≤ 20) (h3 : 0 ≤ z461 ∧ z461 ≤ 20) : f_n ≤ z461 := by omega
theorem vc_X10_tieBetween_v_4 {f_n n1 z461 : Int} (h0 : z461 < f_n) (h1 : f_n = n1) (h2 : 0 ≤ f_n ∧ f_n ≤ 20) (h3 : 0 ≤ z461 ∧ z461 ≤ 20) : 0 ≤ z461 ∧ z461 ≤ 19 := by omega
theorem vc_X10_tieBetween_v_5 {f_n n1 z461 : Int} (h0 : z461 < f_n) (h1 : f_n = n1) (h2 : 0 ≤ f_n ∧ f_n ≤ 20) (h3 : 0 ≤ z461 ∧ z461 ≤ 19) : 1 ≤ f_n ∧ f_n ≤ 20 := by omega
theorem vc_X10_tieBetween_v_6 {f_n n1 z461 : Int} (h0 : f_n = n1) (h1 : z461 < f_n) (h2 : 1 ≤ f_n ∧ f_n ≤ 20) (h3 : 0 ≤ z461 ∧ z461 ≤ 19) : z461 < n1 := by omega
theorem vc_X10_tieBetween_v_7 {N f_n n1 z461 : Int} (h0 : (21 - z461) < N + 1) (h1 : z461 < f_n) (h2 : f_n = n1) (h3 : 1 ≤ f_n ∧ f_n ≤ 20) (h4 : 0 ≤ z461 ∧ z461 ≤ 19) : (21 - (z461 + 1)) < N := by omega
theorem vc_X10_tieBetween_v_8 {f_n n1 z461 : Int} (h0 : z461 < f_n) (h1 : f_n = n1) (h2 : 1 ≤ f_n ∧ f_n ≤ 20) (h3 : 0 ≤ z461 ∧ z461 ≤ 19) : 0 ≤ z461 := by omega
theorem vc_X10_tieBetween_v_9 {n0 p1 p2 z476 : Int} (h0 : z476 < n0) (h1 : ¬ z476 = p1) (h2 : ¬ z476 = p2) (h3 : (-2147483648) ≤ p1 ∧ p1 ≤ 2147483647) (h4 : (-2147483648) ≤ p2 ∧ p2 ≤ 2147483647) (h5 : 0 ≤ z476 ∧ z476 ≤ 9) : ¬ z476 = p1 ∧ ¬ z476 = p2 := by omega
theorem vc_X10_tieBetween_v_11 {n0 p1 p2 z476 z483 : Int} (h0 : z476 < n0) (h1 : ¬ z476 = p1) (h2 : z476 = p2) (h3 : z483 < n0) (h4 : ¬ z483 = p1) (h5 : (-2147483648) ≤ p1 ∧ p1 ≤ 2147483647) (h6 : 0 ≤ p2 ∧ p2 ≤ 9) (h7 : 0 ≤ z476 ∧ z476 ≤ 9) (h8 : 0 ≤ z483 ∧ z483 ≤ 9) : ¬ ((z476 = p1 ∧ z483 = p2) ∨ (z476 = p2 ∧ z483 = p1)) := by omega
theorem vc_X10_tieBetween_v_13 {f_n n1 z461 : Int} (h0 : f_n = n1) (h1 : z461 < f_n) (h2 : 1 ≤ f_n ∧ f_n ≤ 20) (h3 : 0 ≤ z461 ∧ z461 ≤ 19) : 0 ≤ z461 ∧ z461 < f_n := by omega
theorem vc_X10_tieBetween_v_14 {n0 p1 p2 z476 z483 : Int} (h0 : z476 < n0) (h1 : ¬ z476 = p1) (h2 : z476 = p2) (h3 : z483 < n0) (h4 : z483 = p1) (h5 : 0 ≤ p1 ∧ p1 ≤ 9) (h6 : 0 ≤ p2 ∧ p2 ≤ 9) (h7 : 0 ≤ z476 ∧ z476 ≤ 9) (h8 : 0 ≤ z483 ∧ z483 ≤ 9) : (z476 = p1 ∧ z483 = p2) ∨ (z476 = p2 ∧ z483 = p1) := by omega
theorem vc_X10_tieBetween_v_17 {n0 p1 p2 z476 z490 : Int} (h0 : z476 < n0) (h1 : z476 = p1) (h2 : z490 < n0) (h3 : z490 = p2) (h4 : 0 ≤ p1 ∧ p1 ≤ 9) (h5 : 0 ≤ p2 ∧ p2 ≤ 9) (h6 : 0 ≤ z476 ∧ z476 ≤ 9) (h7 : 0 ≤ z490 ∧ z490 ≤ 9) : (z476 = p1 ∧ z490 = p2) ∨ (z476 = p2 ∧ z490 = p1) := by omega
theorem vc_X10_tieBetween_v_18 {n0 p1 p2 z476 z490 : Int} (h0 : z476 < n0) (h1 : z476 = p1) (h2 : z490 < n0) (h3 : ¬ z490 = p2) (h4 : ¬ z476 = p2) (h5 : 0 ≤ p1 ∧ p1 ≤ 9) (h6 : (-2147483648) ≤ p2 ∧ p2 ≤ 2147483647) (h7 : 0 ≤ z476 ∧ z476 ≤ 9) (h8 : 0 ≤ z490 ∧ z490 ≤ 9) : ¬ ((z476 = p1 ∧ z490 = p2) ∨ (z476 = p2 ∧ z490 = p1)) := by omega
theorem vc_X10_tieBetween_v_20 {n0 p1 p2 z476 z490 : Int} (h0 : z476 < n0) (h1 : z476 = p1) (h2 : z490 < n0) (h3 : ¬ z490 = p2) (h4 : z476 = p2) (h5 : ¬ z490 = p1) (h6 : 0 ≤ p1 ∧ p1 ≤ 9) (h7 : 0 ≤ p2 ∧ p2 ≤ 9) (h8 : 0 ≤ z476 ∧ z476 ≤ 9) (h9 : 0 ≤ z490 ∧ z490 ≤ 9) : ¬ ((z476 = p1 ∧ z490 = p2) ∨ (z476 = p2 ∧ z490 = p1)) := by omega
theorem vc_X10_tieBetween_v_21 {n0 p1 p2 z476 z490 : Int} (h0 : z476 < n0) (h1 : z476 = p1) (h2 : z490 < n0) (h3 : ¬ z490 = p2) (h4 : z476 = p2) (h5 : z490 = p1) (h6 : 0 ≤ p1 ∧ p1 ≤ 9) (h7 : 0 ≤ p2 ∧ p2 ≤ 9) (h8 : 0 ≤ z476 ∧ z476 ≤ 9) (h9 : 0 ≤ z490 ∧ z490 ≤ 9) : (z476 = p1 ∧ z490 = p2) ∨ (z476 = p2 ∧ z490 = p1) := by omega
theorem vc_X10_tieBetween_v_23  : ((0 : Int) : Int) ≤ (0 : Int) := by omega
set_option maxRecDepth 4000 in
set_option maxHeartbeats 4000000 in
theorem c_X10_tieBetween_v {l : Launch} {D : va_G} {c : Nat → ClassId} {H0 : Heap} {sa : Nat × Nat × (Nat → Int32)} {w : mW} {μ : mM} (hw : mWF w) (hT : mT w μ) {p1 : Int} (hp1 : (-2147483648) ≤ p1 ∧ p1 ≤ 2147483647) {p2 : Int} (hp2 : (-2147483648) ≤ p2 ∧ p2 ≤ 2147483647) {f_n : Int} (q_f_n : μ 6 16 = f_n) : sC (gG l D c H0 sa) mX10_tieBetween 1 0 0 [.ref 6, iv p1, iv p2] (mk w μ) (qP w μ (fun z => ((-1) ≤ z ∧ z ≤ 19) ∧ (z < w.2.2.2 1) ∧ (fndQ (tc μ 0) (tc μ 1) f_n p1 p2 (-1) z) ∧ True)) := by
  refine sC.of rfl (by decide) (le_t rfl) ?_
  have ht_f_n : (f_n = w.2.2.2 1 ∧ 0 ≤ f_n ∧ f_n ≤ 20) := by rw [← q_f_n]; exact hT 6 6 (A_6 hw) 16
  refine mr_lvE (lv' := [(0, .ref 6), (1, iv p1), (2, iv p2)]) rfl ?_
  refine mr_iconst (pc := 0) (z := 0) dX10_tieBetween_0 ?_
  refine mr_istore_n (pc := 1) (lv' := [(3, iv 0), (0, .ref 6), (1, iv p1), (2, iv p2)]) dX10_tieBetween_1 rfl (by decide) rfl ?_
  have L462 : ∀ (nL462 : Nat) (z461 : Int), True → (0 ≤ z461 ∧ z461 ≤ 20) → noneQ (tc μ 0) (tc μ 1) z461 p1 p2 → (21 - z461) < (nL462 : Int) → sV (gG l D c H0 sa) mX10_tieBetween (sRm 1 0 0) (sZ (gG l D c H0 sa) 0 0 (qP w μ (fun z => ((-1) ≤ z ∧ z ≤ 19) ∧ (z < w.2.2.2 1) ∧ (fndQ (tc μ 0) (tc μ 1) f_n p1 p2 (-1) z) ∧ True))) 2 [(0, .ref 6), (1, iv p1), (2, iv p2), (3, iv z461)] [] (mk w μ) 0 0 := by
    intro nL462
    induction nL462 with
    | zero => intro z461 _ h463 R467 h468; exact ((vc_X12_feed_2 h468 h463)).elim
    | succ nL462 ih469 =>
      intro z461 _ h463 R467 h468
      refine mr_iload_n (pc := 2) (z := z461) dX10_tieBetween_2 rfl rfl ?_
      refine sv_aload_n (pc := 3) dX10_tieBetween_3 rfl rfl ?_
      refine gk_X10_16 (pc := 4) dX10_tieBetween_4 wF_X10_72 (A_6 hw) q_f_n ?_
      refine mr_icmp_ge (pc := 7) (tgt := 62) dX10_tieBetween_7 (by decide) (r32 h463 rfl) (r32 ht_f_n.2 rfl) (fun h470 => ?_) (fun h470 => ?_)
      · refine mr_iconst (pc := 62) (z := (-1)) dX10_tieBetween_62 ?_
        exact mr_iretP dX10_tieBetween_63 rfl (le_t rfl) (le_t rfl) ⟨(rW (c := (-1)) (d := 19) (rR (x := (-1))) rfl), (vc_X10_tieBetween_v_2 ht_f_n.1 h470 ht_f_n.2 h463), (fndQ.miss R467 (vc_X10_tieBetween_v_3 ht_f_n.1 h470 ht_f_n.2 h463)), trivial⟩
      have h471 : 0 ≤ z461 ∧ z461 ≤ 19 := (vc_X10_tieBetween_v_4 h470 ht_f_n.1 ht_f_n.2 h463)
      have h472 : 1 ≤ f_n ∧ f_n ≤ 20 := (vc_X10_tieBetween_v_5 h470 ht_f_n.1 ht_f_n.2 h471)
      refine sv_aload_n (pc := 10) dX10_tieBetween_10 rfl rfl ?_
      refine gf_X10_4 (pc := 11) dX10_tieBetween_11 wF_X10_29 (A_6 hw) hT ?_
      refine mr_iload_n (pc := 14) (z := z461) dX10_tieBetween_14 rfl rfl ?_
      refine la_11 (pc := 15) dX10_tieBetween_15 (A_11 hw) hT (rIx (n := 20) h471 rfl) (vc_X10_tieBetween_v_6 ht_f_n.1 h470 h472 h471) fun b473 q474 A475 => ?_
      refine mr_astore (pc := 16) (lv' := [(4, .ref b473), (0, .ref 6), (1, iv p1), (2, iv p2), (3, iv z461)]) dX10_tieBetween_16 (by decide) rfl ?_
      refine sv_aload (pc := 18) dX10_tieBetween_18 rfl ?_
      refine gf_X9_0 (pc := 20) dX10_tieBetween_20 wF_X10_78 A475 hT fun z476 q477 h478 => ?_
      have h479 : 0 ≤ z476 ∧ z476 ≤ 9 := ⟨h478.1, h478.2.1⟩
      refine mr_iload_n (pc := 23) (z := p1) dX10_tieBetween_23 rfl rfl ?_
      refine mr_icmp_ne (pc := 24) (tgt := 36) dX10_tieBetween_24 (by decide) (r32 h479 rfl) hp1 (fun h480 => ?_) (fun h480 => ?_)
      · refine sv_aload (pc := 36) dX10_tieBetween_36 rfl ?_
        refine gk_X9_0 (pc := 38) dX10_tieBetween_38 wF_X10_78 A475 q477 ?_
        refine mr_iload_n (pc := 41) (z := p2) dX10_tieBetween_41 rfl rfl ?_
        refine mr_icmp_ne (pc := 42) (tgt := 56) dX10_tieBetween_42 (by decide) (r32 h479 rfl) hp2 (fun h481 => ?_) (fun h481 => ?_)
        · refine mr_iinc (pc := 56) (lv' := [(3, iv (z461 + 1)), (4, .ref b473), (0, .ref 6), (1, iv p1), (2, iv p2)]) dX10_tieBetween_56 rfl (by decide) rfl ?_
          refine sv_goto (pc := 59) (tgt := 2) dX10_tieBetween_59 (by decide) ?_
          refine mr_lvS (lv' := [(0, .ref 6), (1, iv p1), (2, iv p2), (3, iv (z461 + 1))]) (List.forall_mem_cons.mpr ⟨rfl, List.forall_mem_cons.mpr ⟨rfl, List.forall_mem_cons.mpr ⟨rfl, List.forall_mem_cons.mpr ⟨rfl, fun _ h => absurd h List.not_mem_nil⟩⟩⟩⟩) ?_
          exact ih469 (z461 + 1) trivial (rW (c := 0) (d := 20) (rAdd (e := 1) (f := 20) h471 (rR (x := 1)) rfl) rfl) (noneQ.succ1 R467 (vc_X10_tieBetween_v_8 h470 ht_f_n.1 h472 h471) (tcOf q474 q477) (vc_X10_tieBetween_v_9 h478.2.2 h480 h481 hp1 hp2 h479)) (vc_X10_tieBetween_v_7 (nS h468) h470 ht_f_n.1 h472 h471)
        have h482 : 0 ≤ p2 ∧ p2 ≤ 9 := (vc_X10_tieBetween_end_7 h481 h478.2.2 h480 hp1 hp2 h479)
        refine sv_aload (pc := 45) dX10_tieBetween_45 rfl ?_
        refine gf_X9_1 (pc := 47) dX10_tieBetween_47 wF_X10_81 A475 hT fun z483 q484 h485 => ?_
        have h486 : 0 ≤ z483 ∧ z483 ≤ 9 := ⟨h485.1, h485.2.1⟩
        refine mr_iload_n (pc := 50) (z := p1) dX10_tieBetween_50 rfl rfl ?_
        refine mr_icmp_ne (pc := 51) (tgt := 56) dX10_tieBetween_51 (by decide) (r32 h486 rfl) hp1 (fun h487 => ?_) (fun h487 => ?_)
        · refine mr_iinc (pc := 56) (lv' := [(3, iv (z461 + 1)), (4, .ref b473), (0, .ref 6), (1, iv p1), (2, iv p2)]) dX10_tieBetween_56 rfl (by decide) rfl ?_
          refine sv_goto (pc := 59) (tgt := 2) dX10_tieBetween_59 (by decide) ?_
          refine mr_lvS (lv' := [(0, .ref 6), (1, iv p1), (2, iv p2), (3, iv (z461 + 1))]) (List.forall_mem_cons.mpr ⟨rfl, List.forall_mem_cons.mpr ⟨rfl, List.forall_mem_cons.mpr ⟨rfl, List.forall_mem_cons.mpr ⟨rfl, fun _ h => absurd h List.not_mem_nil⟩⟩⟩⟩) ?_
          exact ih469 (z461 + 1) trivial (rW (c := 0) (d := 20) (rAdd (e := 1) (f := 20) h471 (rR (x := 1)) rfl) rfl) (noneQ.succ R467 (vc_X10_tieBetween_v_8 h470 ht_f_n.1 h472 h471) (tcOf q474 q477) (tcOf q474 q484) (vc_X10_tieBetween_v_11 h478.2.2 h480 h481 h485.2.2 h487 hp1 h482 h479 h486)) (vc_X10_tieBetween_v_7 (nS h468) h470 ht_f_n.1 h472 h471)
        have h488 : 0 ≤ p1 ∧ p1 ≤ 9 := (vc_X10_tieBetween_end_8 h487 h480 h485.2.2 hp1 h479 h486)
        refine mr_iload_n (pc := 54) (z := z461) dX10_tieBetween_54 rfl rfl ?_
        exact mr_iretP dX10_tieBetween_55 rfl (le_t rfl) (le_t rfl) ⟨(rW (c := (-1)) (d := 19) h471 rfl), (vc_X10_tieBetween_v_6 ht_f_n.1 h470 h472 h471), (fndQ.hit (vc_X10_tieBetween_v_13 ht_f_n.1 h470 h472 h471) (tcOf q474 q477) (tcOf q474 q484) (vc_X10_tieBetween_v_14 h478.2.2 h480 h481 h485.2.2 h487 h488 h482 h479 h486) R467), trivial⟩
      have h489 : 0 ≤ p1 ∧ p1 ≤ 9 := (vc_X10_leastCustomer_8 h480 h478.2.2 hp1 h479)
      refine sv_aload (pc := 27) dX10_tieBetween_27 rfl ?_
      refine gf_X9_1 (pc := 29) dX10_tieBetween_29 wF_X10_81 A475 hT fun z490 q491 h492 => ?_
      have h493 : 0 ≤ z490 ∧ z490 ≤ 9 := ⟨h492.1, h492.2.1⟩
      refine mr_iload_n (pc := 32) (z := p2) dX10_tieBetween_32 rfl rfl ?_
      refine mr_icmp_eq (pc := 33) (tgt := 54) dX10_tieBetween_33 (by decide) (r32 h493 rfl) hp2 (fun h494 => ?_) (fun h494 => ?_)
      · have h495 : 0 ≤ p2 ∧ p2 ≤ 9 := (vc_X10_leastCustomer_8 h494 h492.2.2 hp2 h493)
        refine mr_iload_n (pc := 54) (z := z461) dX10_tieBetween_54 rfl rfl ?_
        exact mr_iretP dX10_tieBetween_55 rfl (le_t rfl) (le_t rfl) ⟨(rW (c := (-1)) (d := 19) h471 rfl), (vc_X10_tieBetween_v_6 ht_f_n.1 h470 h472 h471), (fndQ.hit (vc_X10_tieBetween_v_13 ht_f_n.1 h470 h472 h471) (tcOf q474 q477) (tcOf q474 q491) (vc_X10_tieBetween_v_17 h478.2.2 h480 h492.2.2 h494 h489 h495 h479 h493) R467), trivial⟩
      refine sv_aload (pc := 36) dX10_tieBetween_36 rfl ?_
      refine gk_X9_0 (pc := 38) dX10_tieBetween_38 wF_X10_78 A475 q477 ?_
      refine mr_iload_n (pc := 41) (z := p2) dX10_tieBetween_41 rfl rfl ?_
      refine mr_icmp_ne (pc := 42) (tgt := 56) dX10_tieBetween_42 (by decide) (r32 h479 rfl) hp2 (fun h496 => ?_) (fun h496 => ?_)
      · refine mr_iinc (pc := 56) (lv' := [(3, iv (z461 + 1)), (4, .ref b473), (0, .ref 6), (1, iv p1), (2, iv p2)]) dX10_tieBetween_56 rfl (by decide) rfl ?_
        refine sv_goto (pc := 59) (tgt := 2) dX10_tieBetween_59 (by decide) ?_
        refine mr_lvS (lv' := [(0, .ref 6), (1, iv p1), (2, iv p2), (3, iv (z461 + 1))]) (List.forall_mem_cons.mpr ⟨rfl, List.forall_mem_cons.mpr ⟨rfl, List.forall_mem_cons.mpr ⟨rfl, List.forall_mem_cons.mpr ⟨rfl, fun _ h => absurd h List.not_mem_nil⟩⟩⟩⟩) ?_
        exact ih469 (z461 + 1) trivial (rW (c := 0) (d := 20) (rAdd (e := 1) (f := 20) h471 (rR (x := 1)) rfl) rfl) (noneQ.succ R467 (vc_X10_tieBetween_v_8 h470 ht_f_n.1 h472 h471) (tcOf q474 q477) (tcOf q474 q491) (vc_X10_tieBetween_v_18 h478.2.2 h480 h492.2.2 h494 h496 h489 hp2 h479 h493)) (vc_X10_tieBetween_v_7 (nS h468) h470 ht_f_n.1 h472 h471)
      have h497 : 0 ≤ p2 ∧ p2 ≤ 9 := (vc_X10_tieBetween_end_13 h496 h478.2.2 h480 h494 h489 hp2 h479 h493)
      refine sv_aload (pc := 45) dX10_tieBetween_45 rfl ?_
      refine gk_X9_1 (pc := 47) dX10_tieBetween_47 wF_X10_81 A475 q491 ?_
      refine mr_iload_n (pc := 50) (z := p1) dX10_tieBetween_50 rfl rfl ?_
      refine mr_icmp_ne (pc := 51) (tgt := 56) dX10_tieBetween_51 (by decide) (r32 h493 rfl) (r32 h489 rfl) (fun h498 => ?_) (fun h498 => ?_)
      · refine mr_iinc (pc := 56) (lv' := [(3, iv (z461 + 1)), (4, .ref b473), (0, .ref 6), (1, iv p1), (2, iv p2)]) dX10_tieBetween_56 rfl (by decide) rfl ?_
        refine sv_goto (pc := 59) (tgt := 2) dX10_tieBetween_59 (by decide) ?_
        refine mr_lvS (lv' := [(0, .ref 6), (1, iv p1), (2, iv p2), (3, iv (z461 + 1))]) (List.forall_mem_cons.mpr ⟨rfl, List.forall_mem_cons.mpr ⟨rfl, List.forall_mem_cons.mpr ⟨rfl, List.forall_mem_cons.mpr ⟨rfl, fun _ h => absurd h List.not_mem_nil⟩⟩⟩⟩) ?_
        exact ih469 (z461 + 1) trivial (rW (c := 0) (d := 20) (rAdd (e := 1) (f := 20) h471 (rR (x := 1)) rfl) rfl) (noneQ.succ R467 (vc_X10_tieBetween_v_8 h470 ht_f_n.1 h472 h471) (tcOf q474 q477) (tcOf q474 q491) (vc_X10_tieBetween_v_20 h478.2.2 h480 h492.2.2 h494 h496 h498 h489 h497 h479 h493)) (vc_X10_tieBetween_v_7 (nS h468) h470 ht_f_n.1 h472 h471)
      refine mr_iload_n (pc := 54) (z := z461) dX10_tieBetween_54 rfl rfl ?_
      exact mr_iretP dX10_tieBetween_55 rfl (le_t rfl) (le_t rfl) ⟨(rW (c := (-1)) (d := 19) h471 rfl), (vc_X10_tieBetween_v_6 ht_f_n.1 h470 h472 h471), (fndQ.hit (vc_X10_tieBetween_v_13 ht_f_n.1 h470 h472 h471) (tcOf q474 q477) (tcOf q474 q491) (vc_X10_tieBetween_v_21 h478.2.2 h480 h492.2.2 h494 h496 h498 h489 h497 h479 h493) R467), trivial⟩
  refine mr_lvS (lv' := [(0, .ref 6), (1, iv p1), (2, iv p2), (3, iv 0)]) (List.forall_mem_cons.mpr ⟨rfl, List.forall_mem_cons.mpr ⟨rfl, List.forall_mem_cons.mpr ⟨rfl, List.forall_mem_cons.mpr ⟨rfl, fun _ h => absurd h List.not_mem_nil⟩⟩⟩⟩) ?_
  exact L462 22 0 trivial (rW (c := 0) (d := 20) (rR (x := 0)) rfl) (noneQ.zero vc_X10_tieBetween_v_23) vc_X12_feed_15
theorem vc_X12_tieOf_v_3 {f_n z409 : Int} (h0 : f_n ≤ z409) (h1 : 0 ≤ f_n ∧ f_n ≤ 20) (h2 : 0 ≤ z409 ∧ z409 ≤ 20) : f_n ≤ z409 := by omega
theorem vc_X12_tieOf_v_7 {f_n z409 : Int} (h0 : z409 < f_n) (h1 : 1 ≤ f_n ∧ f_n ≤ 20) (h2 : 0 ≤ z409 ∧ z409 ≤ 19) : 0 ≤ z409 := by omega
theorem vc_X12_tieOf_v_8 {f_n z409 : Int} (h0 : z409 < f_n) (h1 : 1 ≤ f_n ∧ f_n ≤ 20) (h2 : 0 ≤ z409 ∧ z409 ≤ 19) : (2 * z409) = 2 * z409 + ((0 : Nat) : Int) := by omega
theorem vc_X12_tieOf_v_9 {p1 p2 z421 : Int} (h0 : ¬ z421 = p1) (h1 : ¬ z421 = p2) (h2 : (-2147483648) ≤ p1 ∧ p1 ≤ 2147483647) (h3 : (-2147483648) ≤ p2 ∧ p2 ≤ 2147483647) (h4 : 0 ≤ z421 ∧ z421 ≤ 9) : ¬ z421 = p1 ∧ ¬ z421 = p2 := by omega
theorem vc_X12_tieOf_v_11 {f_n z409 : Int} (h0 : z409 < f_n) (h1 : 1 ≤ f_n ∧ f_n ≤ 20) (h2 : 0 ≤ z409 ∧ z409 ≤ 19) : ((2 * z409) + 1) = 2 * z409 + ((1 : Nat) : Int) := by omega
theorem vc_X12_tieOf_v_12 {p1 p2 z421 z427 : Int} (h0 : ¬ z421 = p1) (h1 : z421 = p2) (h2 : ¬ z427 = p1) (h3 : (-2147483648) ≤ p1 ∧ p1 ≤ 2147483647) (h4 : 0 ≤ p2 ∧ p2 ≤ 9) (h5 : 0 ≤ z421 ∧ z421 ≤ 9) (h6 : 0 ≤ z427 ∧ z427 ≤ 9) : ¬ ((z421 = p1 ∧ z427 = p2) ∨ (z421 = p2 ∧ z427 = p1)) := by omega
theorem vc_X12_tieOf_v_15 {f_n z409 : Int} (h0 : z409 < f_n) (h1 : 1 ≤ f_n ∧ f_n ≤ 20) (h2 : 0 ≤ z409 ∧ z409 ≤ 19) : 0 ≤ z409 ∧ z409 < f_n := by omega
theorem vc_X12_tieOf_v_16 {p1 p2 z421 z427 : Int} (h0 : ¬ z421 = p1) (h1 : z421 = p2) (h2 : z427 = p1) (h3 : 0 ≤ p1 ∧ p1 ≤ 9) (h4 : 0 ≤ p2 ∧ p2 ≤ 9) (h5 : 0 ≤ z421 ∧ z421 ≤ 9) (h6 : 0 ≤ z427 ∧ z427 ≤ 9) : (z421 = p1 ∧ z427 = p2) ∨ (z421 = p2 ∧ z427 = p1) := by omega
theorem vc_X12_tieOf_v_19 {p1 p2 z421 z433 : Int} (h0 : z421 = p1) (h1 : z433 = p2) (h2 : 0 ≤ p1 ∧ p1 ≤ 9) (h3 : 0 ≤ p2 ∧ p2 ≤ 9) (h4 : 0 ≤ z421 ∧ z421 ≤ 9) (h5 : 0 ≤ z433 ∧ z433 ≤ 9) : (z421 = p1 ∧ z433 = p2) ∨ (z421 = p2 ∧ z433 = p1) := by omega
theorem vc_X12_tieOf_v_20 {p1 p2 z421 z433 : Int} (h0 : z421 = p1) (h1 : ¬ z433 = p2) (h2 : ¬ z421 = p2) (h3 : 0 ≤ p1 ∧ p1 ≤ 9) (h4 : (-2147483648) ≤ p2 ∧ p2 ≤ 2147483647) (h5 : 0 ≤ z421 ∧ z421 ≤ 9) (h6 : 0 ≤ z433 ∧ z433 ≤ 9) : ¬ ((z421 = p1 ∧ z433 = p2) ∨ (z421 = p2 ∧ z433 = p1)) := by omega
theorem vc_X12_tieOf_v_22 {p1 p2 z421 z433 : Int} (h0 : z421 = p1) (h1 : ¬ z433 = p2) (h2 : z421 = p2) (h3 : ¬ z433 = p1) (h4 : 0 ≤ p1 ∧ p1 ≤ 9) (h5 : 0 ≤ p2 ∧ p2 ≤ 9) (h6 : 0 ≤ z421 ∧ z421 ≤ 9) (h7 : 0 ≤ z433 ∧ z433 ≤ 9) : ¬ ((z421 = p1 ∧ z433 = p2) ∨ (z421 = p2 ∧ z433 = p1)) := by omega
theorem vc_X12_tieOf_v_23 {p1 p2 z421 z433 : Int} (h0 : z421 = p1) (h1 : ¬ z433 = p2) (h2 : z421 = p2) (h3 : z433 = p1) (h4 : 0 ≤ p1 ∧ p1 ≤ 9) (h5 : 0 ≤ p2 ∧ p2 ≤ 9) (h6 : 0 ≤ z421 ∧ z421 ≤ 9) (h7 : 0 ≤ z433 ∧ z433 ≤ 9) : (z421 = p1 ∧ z433 = p2) ∨ (z421 = p2 ∧ z433 = p1) := by omega
set_option maxRecDepth 4000 in
set_option maxHeartbeats 4000000 in
theorem c_X12_tieOf_v {l : Launch} {D : va_G} {c : Nat → ClassId} {H0 : Heap} {sa : Nat × Nat × (Nat → Int32)} {w : mW} {μ : mM} (hw : mWF w) (hT : mT w μ) {p1 : Int} (hp1 : (-2147483648) ≤ p1 ∧ p1 ≤ 2147483647) {p2 : Int} (hp2 : (-2147483648) ≤ p2 ∧ p2 ≤ 2147483647) {f_n : Int} (q_f_n : μ 106 6 = f_n) : sC (gG l D c H0 sa) mX12_tieOf 1 0 0 [.ref 106, iv p1, iv p2] (mk w μ) (qP w μ (fun z => ((-99999999) ≤ z ∧ z ≤ 19) ∧ (z = -99999999 ∨ (0 ≤ z ∧ z ≤ 19)) ∧ (fndQ (tr μ 0) (tr μ 1) f_n p1 p2 (-99999999) z) ∧ True)) := by
  refine sC.of rfl (by decide) (le_t rfl) ?_
  have ht_f_n : (0 ≤ f_n ∧ f_n ≤ 20) := by rw [← q_f_n]; exact hT 106 106 (A_106 hw) 6
  refine mr_lvE (lv' := [(0, .ref 106), (1, iv p1), (2, iv p2)]) rfl ?_
  refine mr_iconst (pc := 0) (z := 0) dX12_tieOf_0 ?_
  refine mr_istore_n (pc := 1) (lv' := [(3, iv 0), (0, .ref 106), (1, iv p1), (2, iv p2)]) dX12_tieOf_1 rfl (by decide) rfl ?_
  have L410 : ∀ (nL410 : Nat) (z409 : Int), True → (0 ≤ z409 ∧ z409 ≤ 20) → noneQ (tr μ 0) (tr μ 1) z409 p1 p2 → (21 - z409) < (nL410 : Int) → sV (gG l D c H0 sa) mX12_tieOf (sRm 1 0 0) (sZ (gG l D c H0 sa) 0 0 (qP w μ (fun z => ((-99999999) ≤ z ∧ z ≤ 19) ∧ (z = -99999999 ∨ (0 ≤ z ∧ z ≤ 19)) ∧ (fndQ (tr μ 0) (tr μ 1) f_n p1 p2 (-99999999) z) ∧ True))) 2 [(0, .ref 106), (1, iv p1), (2, iv p2), (3, iv z409)] [] (mk w μ) 0 0 := by
    intro nL410
    induction nL410 with
    | zero => intro z409 _ h411 R415 h416; exact ((vc_X12_feed_2 h416 h411)).elim
    | succ nL410 ih417 =>
      intro z409 _ h411 R415 h416
      refine mr_iload_n (pc := 2) (z := z409) dX12_tieOf_2 rfl rfl ?_
      refine sv_aload_n (pc := 3) dX12_tieOf_3 rfl rfl ?_
      refine gk_X12_6 (pc := 4) dX12_tieOf_4 wF_X12_37 (A_106 hw) q_f_n ?_
      refine mr_icmp_ge (pc := 7) (tgt := 70) dX12_tieOf_7 (by decide) (r32 h411 rfl) (r32 ht_f_n rfl) (fun h418 => ?_) (fun h418 => ?_)
      · refine mr_ldc (pc := 70) (z := (-99999999)) dX12_tieOf_70 wG_X12_29 (by decide) ?_
        exact mr_iretP dX12_tieOf_72 rfl (le_t rfl) (le_t rfl) ⟨(rW (c := (-99999999)) (d := 19) (rR (x := (-99999999))) rfl), vc_X12_tieOf_2, (fndQ.miss R415 (vc_X12_tieOf_v_3 h418 ht_f_n h411)), trivial⟩
      have h419 : 0 ≤ z409 ∧ z409 ≤ 19 := (vc_X3_putAttributes_10 h418 ht_f_n h411)
      have h420 : 1 ≤ f_n ∧ f_n ≤ 20 := (vc_X3_putAttributes_11 h418 ht_f_n h419)
      refine sv_aload_n (pc := 10) dX12_tieOf_10 rfl rfl ?_
      refine gf_X12_7 (pc := 11) dX12_tieOf_11 wF_X12_40 (A_106 hw) hT ?_
      refine mr_iconst (pc := 14) (z := 2) dX12_tieOf_14 ?_
      refine mr_iload_n (pc := 15) (z := z409) dX12_tieOf_15 rfl rfl ?_
      refine mr_imul (pc := 16) (x := 2) (y := z409) dX12_tieOf_16 ?_
      refine la_110 (pc := 17) dX12_tieOf_17 (A_110 hw) hT (rIx (n := 40) (rMulL (n := 2) (e := 0) (f := 38) h419 rfl) rfl) fun z421 q422 h423 => ?_
      refine mr_iload_n (pc := 18) (z := p1) dX12_tieOf_18 rfl rfl ?_
      refine mr_icmp_ne (pc := 19) (tgt := 36) dX12_tieOf_19 (by decide) (r32 h423 rfl) hp1 (fun h424 => ?_) (fun h424 => ?_)
      · refine sv_aload_n (pc := 36) dX12_tieOf_36 rfl rfl ?_
        refine gf_X12_7 (pc := 37) dX12_tieOf_37 wF_X12_40 (A_106 hw) hT ?_
        refine mr_iconst (pc := 40) (z := 2) dX12_tieOf_40 ?_
        refine mr_iload_n (pc := 41) (z := z409) dX12_tieOf_41 rfl rfl ?_
        refine mr_imul (pc := 42) (x := 2) (y := z409) dX12_tieOf_42 ?_
        refine lk_110 (pc := 43) dX12_tieOf_43 (A_110 hw) (rIx (n := 40) (rMulL (n := 2) (e := 0) (f := 38) h419 rfl) rfl) q422 ?_
        refine mr_iload_n (pc := 44) (z := p2) dX12_tieOf_44 rfl rfl ?_
        refine mr_icmp_ne (pc := 45) (tgt := 64) dX12_tieOf_45 (by decide) (r32 h423 rfl) hp2 (fun h425 => ?_) (fun h425 => ?_)
        · refine mr_iinc (pc := 64) (lv' := [(3, iv (z409 + 1)), (0, .ref 106), (1, iv p1), (2, iv p2)]) dX12_tieOf_64 rfl (by decide) rfl ?_
          refine sv_goto (pc := 67) (tgt := 2) dX12_tieOf_67 (by decide) ?_
          refine mr_lvS (lv' := [(0, .ref 106), (1, iv p1), (2, iv p2), (3, iv (z409 + 1))]) (List.forall_mem_cons.mpr ⟨rfl, List.forall_mem_cons.mpr ⟨rfl, List.forall_mem_cons.mpr ⟨rfl, List.forall_mem_cons.mpr ⟨rfl, fun _ h => absurd h List.not_mem_nil⟩⟩⟩⟩) ?_
          exact ih417 (z409 + 1) trivial (rW (c := 0) (d := 20) (rAdd (e := 1) (f := 20) h419 (rR (x := 1)) rfl) rfl) (noneQ.succ1 R415 (vc_X12_tieOf_v_7 h418 h420 h419) (trOf 0 q422 (vc_X12_tieOf_v_8 h418 h420 h419) (vc_X12_tieOf_v_7 h418 h420 h419)) (vc_X12_tieOf_v_9 h424 h425 hp1 hp2 h423)) (vc_X3_putAttributes_12 (nS h416) h418 h420 h419)
        have h426 : 0 ≤ p2 ∧ p2 ≤ 9 := (vc_X12_tieOf_6 h425 h424 hp1 hp2 h423)
        refine sv_aload_n (pc := 48) dX12_tieOf_48 rfl rfl ?_
        refine gf_X12_7 (pc := 49) dX12_tieOf_49 wF_X12_40 (A_106 hw) hT ?_
        refine mr_iconst (pc := 52) (z := 2) dX12_tieOf_52 ?_
        refine mr_iload_n (pc := 53) (z := z409) dX12_tieOf_53 rfl rfl ?_
        refine mr_imul (pc := 54) (x := 2) (y := z409) dX12_tieOf_54 ?_
        refine mr_iconst (pc := 55) (z := 1) dX12_tieOf_55 ?_
        refine mr_iadd (pc := 56) (x := (2 * z409)) (y := 1) dX12_tieOf_56 ?_
        refine la_110 (pc := 57) dX12_tieOf_57 (A_110 hw) hT (rIx (n := 40) (rAdd (e := 1) (f := 39) (rMulL (n := 2) (e := 0) (f := 38) h419 rfl) (rR (x := 1)) rfl) rfl) fun z427 q428 h429 => ?_
        refine mr_iload_n (pc := 58) (z := p1) dX12_tieOf_58 rfl rfl ?_
        refine mr_icmp_ne (pc := 59) (tgt := 64) dX12_tieOf_59 (by decide) (r32 h429 rfl) hp1 (fun h430 => ?_) (fun h430 => ?_)
        · refine mr_iinc (pc := 64) (lv' := [(3, iv (z409 + 1)), (0, .ref 106), (1, iv p1), (2, iv p2)]) dX12_tieOf_64 rfl (by decide) rfl ?_
          refine sv_goto (pc := 67) (tgt := 2) dX12_tieOf_67 (by decide) ?_
          refine mr_lvS (lv' := [(0, .ref 106), (1, iv p1), (2, iv p2), (3, iv (z409 + 1))]) (List.forall_mem_cons.mpr ⟨rfl, List.forall_mem_cons.mpr ⟨rfl, List.forall_mem_cons.mpr ⟨rfl, List.forall_mem_cons.mpr ⟨rfl, fun _ h => absurd h List.not_mem_nil⟩⟩⟩⟩) ?_
          exact ih417 (z409 + 1) trivial (rW (c := 0) (d := 20) (rAdd (e := 1) (f := 20) h419 (rR (x := 1)) rfl) rfl) (noneQ.succ R415 (vc_X12_tieOf_v_7 h418 h420 h419) (trOf 0 q422 (vc_X12_tieOf_v_8 h418 h420 h419) (vc_X12_tieOf_v_7 h418 h420 h419)) (trOf 1 q428 (vc_X12_tieOf_v_11 h418 h420 h419) (vc_X12_tieOf_v_7 h418 h420 h419)) (vc_X12_tieOf_v_12 h424 h425 h430 hp1 h426 h423 h429)) (vc_X3_putAttributes_12 (nS h416) h418 h420 h419)
        have h431 : 0 ≤ p1 ∧ p1 ≤ 9 := (vc_X12_tieOf_7 h430 h424 hp1 h423 h429)
        refine mr_iload_n (pc := 62) (z := z409) dX12_tieOf_62 rfl rfl ?_
        exact mr_iretP dX12_tieOf_63 rfl (le_t rfl) (le_t rfl) ⟨(rW (c := (-99999999)) (d := 19) h419 rfl), (vc_X12_tieOf_end_8 h418 h420 h419), (fndQ.hit (vc_X12_tieOf_v_15 h418 h420 h419) (trOf 0 q422 (vc_X12_tieOf_v_8 h418 h420 h419) (vc_X12_tieOf_v_7 h418 h420 h419)) (trOf 1 q428 (vc_X12_tieOf_v_11 h418 h420 h419) (vc_X12_tieOf_v_7 h418 h420 h419)) (vc_X12_tieOf_v_16 h424 h425 h430 h431 h426 h423 h429) R415), trivial⟩
      have h432 : 0 ≤ p1 ∧ p1 ≤ 9 := (vc_X12_tieOf_9 h424 hp1 h423)
      refine sv_aload_n (pc := 22) dX12_tieOf_22 rfl rfl ?_
      refine gf_X12_7 (pc := 23) dX12_tieOf_23 wF_X12_40 (A_106 hw) hT ?_
      refine mr_iconst (pc := 26) (z := 2) dX12_tieOf_26 ?_
      refine mr_iload_n (pc := 27) (z := z409) dX12_tieOf_27 rfl rfl ?_
      refine mr_imul (pc := 28) (x := 2) (y := z409) dX12_tieOf_28 ?_
      refine mr_iconst (pc := 29) (z := 1) dX12_tieOf_29 ?_
      refine mr_iadd (pc := 30) (x := (2 * z409)) (y := 1) dX12_tieOf_30 ?_
      refine la_110 (pc := 31) dX12_tieOf_31 (A_110 hw) hT (rIx (n := 40) (rAdd (e := 1) (f := 39) (rMulL (n := 2) (e := 0) (f := 38) h419 rfl) (rR (x := 1)) rfl) rfl) fun z433 q434 h435 => ?_
      refine mr_iload_n (pc := 32) (z := p2) dX12_tieOf_32 rfl rfl ?_
      refine mr_icmp_eq (pc := 33) (tgt := 62) dX12_tieOf_33 (by decide) (r32 h435 rfl) hp2 (fun h436 => ?_) (fun h436 => ?_)
      · have h437 : 0 ≤ p2 ∧ p2 ≤ 9 := (vc_X12_tieOf_9 h436 hp2 h435)
        refine mr_iload_n (pc := 62) (z := z409) dX12_tieOf_62 rfl rfl ?_
        exact mr_iretP dX12_tieOf_63 rfl (le_t rfl) (le_t rfl) ⟨(rW (c := (-99999999)) (d := 19) h419 rfl), (vc_X12_tieOf_end_8 h418 h420 h419), (fndQ.hit (vc_X12_tieOf_v_15 h418 h420 h419) (trOf 0 q422 (vc_X12_tieOf_v_8 h418 h420 h419) (vc_X12_tieOf_v_7 h418 h420 h419)) (trOf 1 q434 (vc_X12_tieOf_v_11 h418 h420 h419) (vc_X12_tieOf_v_7 h418 h420 h419)) (vc_X12_tieOf_v_19 h424 h436 h432 h437 h423 h435) R415), trivial⟩
      refine sv_aload_n (pc := 36) dX12_tieOf_36 rfl rfl ?_
      refine gf_X12_7 (pc := 37) dX12_tieOf_37 wF_X12_40 (A_106 hw) hT ?_
      refine mr_iconst (pc := 40) (z := 2) dX12_tieOf_40 ?_
      refine mr_iload_n (pc := 41) (z := z409) dX12_tieOf_41 rfl rfl ?_
      refine mr_imul (pc := 42) (x := 2) (y := z409) dX12_tieOf_42 ?_
      refine lk_110 (pc := 43) dX12_tieOf_43 (A_110 hw) (rIx (n := 40) (rMulL (n := 2) (e := 0) (f := 38) h419 rfl) rfl) q422 ?_
      refine mr_iload_n (pc := 44) (z := p2) dX12_tieOf_44 rfl rfl ?_
      refine mr_icmp_ne (pc := 45) (tgt := 64) dX12_tieOf_45 (by decide) (r32 h423 rfl) hp2 (fun h438 => ?_) (fun h438 => ?_)
      · refine mr_iinc (pc := 64) (lv' := [(3, iv (z409 + 1)), (0, .ref 106), (1, iv p1), (2, iv p2)]) dX12_tieOf_64 rfl (by decide) rfl ?_
        refine sv_goto (pc := 67) (tgt := 2) dX12_tieOf_67 (by decide) ?_
        refine mr_lvS (lv' := [(0, .ref 106), (1, iv p1), (2, iv p2), (3, iv (z409 + 1))]) (List.forall_mem_cons.mpr ⟨rfl, List.forall_mem_cons.mpr ⟨rfl, List.forall_mem_cons.mpr ⟨rfl, List.forall_mem_cons.mpr ⟨rfl, fun _ h => absurd h List.not_mem_nil⟩⟩⟩⟩) ?_
        exact ih417 (z409 + 1) trivial (rW (c := 0) (d := 20) (rAdd (e := 1) (f := 20) h419 (rR (x := 1)) rfl) rfl) (noneQ.succ R415 (vc_X12_tieOf_v_7 h418 h420 h419) (trOf 0 q422 (vc_X12_tieOf_v_8 h418 h420 h419) (vc_X12_tieOf_v_7 h418 h420 h419)) (trOf 1 q434 (vc_X12_tieOf_v_11 h418 h420 h419) (vc_X12_tieOf_v_7 h418 h420 h419)) (vc_X12_tieOf_v_20 h424 h436 h438 h432 hp2 h423 h435)) (vc_X3_putAttributes_12 (nS h416) h418 h420 h419)
      have h439 : 0 ≤ p2 ∧ p2 ≤ 9 := (vc_X12_tieOf_11 h438 h424 h436 h432 hp2 h423 h435)
      refine sv_aload_n (pc := 48) dX12_tieOf_48 rfl rfl ?_
      refine gf_X12_7 (pc := 49) dX12_tieOf_49 wF_X12_40 (A_106 hw) hT ?_
      refine mr_iconst (pc := 52) (z := 2) dX12_tieOf_52 ?_
      refine mr_iload_n (pc := 53) (z := z409) dX12_tieOf_53 rfl rfl ?_
      refine mr_imul (pc := 54) (x := 2) (y := z409) dX12_tieOf_54 ?_
      refine mr_iconst (pc := 55) (z := 1) dX12_tieOf_55 ?_
      refine mr_iadd (pc := 56) (x := (2 * z409)) (y := 1) dX12_tieOf_56 ?_
      refine lk_110 (pc := 57) dX12_tieOf_57 (A_110 hw) (rIx (n := 40) (rAdd (e := 1) (f := 39) (rMulL (n := 2) (e := 0) (f := 38) h419 rfl) (rR (x := 1)) rfl) rfl) q434 ?_
      refine mr_iload_n (pc := 58) (z := p1) dX12_tieOf_58 rfl rfl ?_
      refine mr_icmp_ne (pc := 59) (tgt := 64) dX12_tieOf_59 (by decide) (r32 h435 rfl) (r32 h432 rfl) (fun h440 => ?_) (fun h440 => ?_)
      · refine mr_iinc (pc := 64) (lv' := [(3, iv (z409 + 1)), (0, .ref 106), (1, iv p1), (2, iv p2)]) dX12_tieOf_64 rfl (by decide) rfl ?_
        refine sv_goto (pc := 67) (tgt := 2) dX12_tieOf_67 (by decide) ?_
        refine mr_lvS (lv' := [(0, .ref 106), (1, iv p1), (2, iv p2), (3, iv (z409 + 1))]) (List.forall_mem_cons.mpr ⟨rfl, List.forall_mem_cons.mpr ⟨rfl, List.forall_mem_cons.mpr ⟨rfl, List.forall_mem_cons.mpr ⟨rfl, fun _ h => absurd h List.not_mem_nil⟩⟩⟩⟩) ?_
        exact ih417 (z409 + 1) trivial (rW (c := 0) (d := 20) (rAdd (e := 1) (f := 20) h419 (rR (x := 1)) rfl) rfl) (noneQ.succ R415 (vc_X12_tieOf_v_7 h418 h420 h419) (trOf 0 q422 (vc_X12_tieOf_v_8 h418 h420 h419) (vc_X12_tieOf_v_7 h418 h420 h419)) (trOf 1 q434 (vc_X12_tieOf_v_11 h418 h420 h419) (vc_X12_tieOf_v_7 h418 h420 h419)) (vc_X12_tieOf_v_22 h424 h436 h438 h440 h432 h439 h423 h435)) (vc_X3_putAttributes_12 (nS h416) h418 h420 h419)
      refine mr_iload_n (pc := 62) (z := z409) dX12_tieOf_62 rfl rfl ?_
      exact mr_iretP dX12_tieOf_63 rfl (le_t rfl) (le_t rfl) ⟨(rW (c := (-99999999)) (d := 19) h419 rfl), (vc_X12_tieOf_end_8 h418 h420 h419), (fndQ.hit (vc_X12_tieOf_v_15 h418 h420 h419) (trOf 0 q422 (vc_X12_tieOf_v_8 h418 h420 h419) (vc_X12_tieOf_v_7 h418 h420 h419)) (trOf 1 q434 (vc_X12_tieOf_v_11 h418 h420 h419) (vc_X12_tieOf_v_7 h418 h420 h419)) (vc_X12_tieOf_v_23 h424 h436 h438 h440 h432 h439 h423 h435) R415), trivial⟩
  refine mr_lvS (lv' := [(0, .ref 106), (1, iv p1), (2, iv p2), (3, iv 0)]) (List.forall_mem_cons.mpr ⟨rfl, List.forall_mem_cons.mpr ⟨rfl, List.forall_mem_cons.mpr ⟨rfl, List.forall_mem_cons.mpr ⟨rfl, fun _ h => absurd h List.not_mem_nil⟩⟩⟩⟩) ?_
  exact L410 22 0 trivial (rW (c := 0) (d := 20) (rR (x := 0)) rfl) (noneQ.zero vc_X10_tieBetween_v_23) vc_X12_feed_15
theorem vc_X12_tie_v_1 {f_dm p1 z250 : Int} (h0 : z250 = 0) (h1 : (z250 = 1 → 0 ≤ p1 ∧ p1 < f_dm)) (h2 : (z250 = 0 → p1 < 0 ∨ f_dm ≤ p1)) (h3 : 0 ≤ f_dm ∧ f_dm ≤ 10) (h4 : (-2147483648) ≤ p1 ∧ p1 ≤ 2147483647) (h5 : 0 ≤ z250 ∧ z250 ≤ 1) : 0 ≤ z250 ∧ z250 ≤ 0 := by omega
theorem vc_X12_tie_v_2 {f_dm p1 z250 : Int} (h0 : (z250 = 1 → 0 ≤ p1 ∧ p1 < f_dm)) (h1 : (z250 = 0 → p1 < 0 ∨ f_dm ≤ p1)) (h2 : z250 = 0) (h3 : 0 ≤ f_dm ∧ f_dm ≤ 10) (h4 : (-2147483648) ≤ p1 ∧ p1 ≤ 2147483647) (h5 : 0 ≤ z250 ∧ z250 ≤ 0) : z250 = 0 := by omega
theorem vc_X12_tie_v_3 {f_dm p1 p2 p3 z250 : Int} (h0 : (z250 = 1 → 0 ≤ p1 ∧ p1 < f_dm)) (h1 : (z250 = 0 → p1 < 0 ∨ f_dm ≤ p1)) (h2 : p1 < 0 ∨ f_dm ≤ p1) (h3 : z250 = 0) (h4 : 0 ≤ f_dm ∧ f_dm ≤ 10) (h5 : (-2147483648) ≤ p1 ∧ p1 ≤ 2147483647) (h6 : (-2147483648) ≤ p2 ∧ p2 ≤ 2147483647) (h7 : (-2147483648) ≤ p3 ∧ p3 ≤ 2147483647) (h8 : 0 ≤ z250 ∧ z250 ≤ 0) : p1 < 0 ∨ f_dm ≤ p1 ∨ p2 < 0 ∨ f_dm ≤ p2 ∨ p1 = p2 ∨ p3 < 0 ∨ 2 < p3 := by omega
theorem vc_X12_tie_v_5 {f_dm p1 z250 : Int} (h0 : ¬ z250 = 0) (h1 : (z250 = 1 → 0 ≤ p1 ∧ p1 < f_dm)) (h2 : (z250 = 0 → p1 < 0 ∨ f_dm ≤ p1)) (h3 : 0 ≤ f_dm ∧ f_dm ≤ 10) (h4 : (-2147483648) ≤ p1 ∧ p1 ≤ 2147483647) (h5 : 0 ≤ z250 ∧ z250 ≤ 1) : 1 ≤ z250 ∧ z250 ≤ 1 := by omega
theorem vc_X12_tie_v_6 {f_dm p1 z250 : Int} (h0 : (z250 = 1 → 0 ≤ p1 ∧ p1 < f_dm)) (h1 : (z250 = 0 → p1 < 0 ∨ f_dm ≤ p1)) (h2 : ¬ z250 = 0) (h3 : 0 ≤ f_dm ∧ f_dm ≤ 10) (h4 : (-2147483648) ≤ p1 ∧ p1 ≤ 2147483647) (h5 : 1 ≤ z250 ∧ z250 ≤ 1) : z250 = 1 := by omega
theorem vc_X12_tie_v_7 {f_dm p1 z250 : Int} (h0 : 0 ≤ p1 ∧ p1 < f_dm) (h1 : (z250 = 1 → 0 ≤ p1 ∧ p1 < f_dm)) (h2 : (z250 = 0 → p1 < 0 ∨ f_dm ≤ p1)) (h3 : 0 ≤ f_dm ∧ f_dm ≤ 10) (h4 : (-2147483648) ≤ p1 ∧ p1 ≤ 2147483647) (h5 : 1 ≤ z250 ∧ z250 ≤ 1) : 0 ≤ p1 ∧ p1 ≤ 9 := by omega
theorem vc_X12_tie_v_9 {f_dm p1 p2 z250 z261 : Int} (h0 : (z261 = 1 → 0 ≤ p2 ∧ p2 < f_dm)) (h1 : (z261 = 0 → p2 < 0 ∨ f_dm ≤ p2)) (h2 : z261 = 0) (h3 : (z250 = 1 → 0 ≤ p1 ∧ p1 < f_dm)) (h4 : (z250 = 0 → p1 < 0 ∨ f_dm ≤ p1)) (h5 : 0 ≤ p1 ∧ p1 < f_dm) (h6 : 0 ≤ f_dm ∧ f_dm ≤ 10) (h7 : 0 ≤ p1 ∧ p1 ≤ 9) (h8 : (-2147483648) ≤ p2 ∧ p2 ≤ 2147483647) (h9 : 1 ≤ z250 ∧ z250 ≤ 1) (h10 : 0 ≤ z261 ∧ z261 ≤ 0) : z261 = 0 := by omega
theorem vc_X12_tie_v_10 {f_dm p1 p2 p3 z250 z261 : Int} (h0 : (z250 = 1 → 0 ≤ p1 ∧ p1 < f_dm)) (h1 : (z250 = 0 → p1 < 0 ∨ f_dm ≤ p1)) (h2 : 0 ≤ p1 ∧ p1 < f_dm) (h3 : (z261 = 1 → 0 ≤ p2 ∧ p2 < f_dm)) (h4 : (z261 = 0 → p2 < 0 ∨ f_dm ≤ p2)) (h5 : p2 < 0 ∨ f_dm ≤ p2) (h6 : ¬ z250 = 0) (h7 : z261 = 0) (h8 : 0 ≤ f_dm ∧ f_dm ≤ 10) (h9 : 0 ≤ p1 ∧ p1 ≤ 9) (h10 : (-2147483648) ≤ p2 ∧ p2 ≤ 2147483647) (h11 : (-2147483648) ≤ p3 ∧ p3 ≤ 2147483647) (h12 : 1 ≤ z250 ∧ z250 ≤ 1) (h13 : 0 ≤ z261 ∧ z261 ≤ 0) : p1 < 0 ∨ f_dm ≤ p1 ∨ p2 < 0 ∨ f_dm ≤ p2 ∨ p1 = p2 ∨ p3 < 0 ∨ 2 < p3 := by omega
theorem vc_X12_tie_v_12 {f_dm p1 p2 z250 z261 : Int} (h0 : (z261 = 1 → 0 ≤ p2 ∧ p2 < f_dm)) (h1 : (z261 = 0 → p2 < 0 ∨ f_dm ≤ p2)) (h2 : ¬ z261 = 0) (h3 : (z250 = 1 → 0 ≤ p1 ∧ p1 < f_dm)) (h4 : (z250 = 0 → p1 < 0 ∨ f_dm ≤ p1)) (h5 : 0 ≤ p1 ∧ p1 < f_dm) (h6 : 0 ≤ f_dm ∧ f_dm ≤ 10) (h7 : 0 ≤ p1 ∧ p1 ≤ 9) (h8 : (-2147483648) ≤ p2 ∧ p2 ≤ 2147483647) (h9 : 1 ≤ z250 ∧ z250 ≤ 1) (h10 : 1 ≤ z261 ∧ z261 ≤ 1) : z261 = 1 := by omega
theorem vc_X12_tie_v_13 {f_dm p1 p2 z250 z261 : Int} (h0 : 0 ≤ p2 ∧ p2 < f_dm) (h1 : (z250 = 1 → 0 ≤ p1 ∧ p1 < f_dm)) (h2 : (z250 = 0 → p1 < 0 ∨ f_dm ≤ p1)) (h3 : 0 ≤ p1 ∧ p1 < f_dm) (h4 : (z261 = 1 → 0 ≤ p2 ∧ p2 < f_dm)) (h5 : (z261 = 0 → p2 < 0 ∨ f_dm ≤ p2)) (h6 : 0 ≤ f_dm ∧ f_dm ≤ 10) (h7 : 0 ≤ p1 ∧ p1 ≤ 9) (h8 : (-2147483648) ≤ p2 ∧ p2 ≤ 2147483647) (h9 : 1 ≤ z250 ∧ z250 ≤ 1) (h10 : 1 ≤ z261 ∧ z261 ≤ 1) : 0 ≤ p2 ∧ p2 ≤ 9 := by omega
theorem vc_X12_tie_v_14 {f_dm p1 p2 p3 z250 z261 : Int} (h0 : (z250 = 1 → 0 ≤ p1 ∧ p1 < f_dm)) (h1 : (z250 = 0 → p1 < 0 ∨ f_dm ≤ p1)) (h2 : 0 ≤ p1 ∧ p1 < f_dm) (h3 : (z261 = 1 → 0 ≤ p2 ∧ p2 < f_dm)) (h4 : (z261 = 0 → p2 < 0 ∨ f_dm ≤ p2)) (h5 : 0 ≤ p2 ∧ p2 < f_dm) (h6 : p1 = p2) (h7 : ¬ z250 = 0) (h8 : ¬ z261 = 0) (h9 : 0 ≤ f_dm ∧ f_dm ≤ 10) (h10 : 0 ≤ p1 ∧ p1 ≤ 9) (h11 : 0 ≤ p2 ∧ p2 ≤ 9) (h12 : (-2147483648) ≤ p3 ∧ p3 ≤ 2147483647) (h13 : 1 ≤ z250 ∧ z250 ≤ 1) (h14 : 1 ≤ z261 ∧ z261 ≤ 1) : p1 < 0 ∨ f_dm ≤ p1 ∨ p2 < 0 ∨ f_dm ≤ p2 ∨ p1 = p2 ∨ p3 < 0 ∨ 2 < p3 := by omega
theorem vc_X12_tie_v_22 {f_t : Int} (h0 : ¬ f_t = 20) (h1 : 0 ≤ f_t ∧ f_t ≤ 19) : f_t ≤ (f_t + 1) := by omega
theorem vc_X12_tie_v_23 {f_t : Int} (h0 : ¬ f_t = 20) (h1 : 0 ≤ f_t ∧ f_t ≤ 19) : (f_t + 1) = f_t + 1 := by omega
theorem vc_X12_tie_v_24 {f_t : Int} (h0 : ¬ f_t = 20) (h1 : 0 ≤ f_t ∧ f_t ≤ 19) : 0 ≤ f_t := by omega
theorem vc_X12_tie_v_25 {z345 : Int} (h0 : 4 ≤ z345) (h1 : 4 ≤ z345 ∧ z345 ≤ 4) : z345 = 4 := by omega
theorem vc_X12_tie_v_26 {f_t : Int} (h0 : ¬ f_t = 20) (h1 : 0 ≤ f_t ∧ f_t ≤ 19) : (2 * f_t).toNat ≠ ((2 * f_t) + 1).toNat := by omega
theorem vc_X12_tie_v_27 {f_dm p1 p2 z250 z261 : Int} (h0 : (z250 = 1 → 0 ≤ p1 ∧ p1 < f_dm)) (h1 : (z250 = 0 → p1 < 0 ∨ f_dm ≤ p1)) (h2 : 0 ≤ p1 ∧ p1 < f_dm) (h3 : (z261 = 1 → 0 ≤ p2 ∧ p2 < f_dm)) (h4 : (z261 = 0 → p2 < 0 ∨ f_dm ≤ p2)) (h5 : 0 ≤ p2 ∧ p2 < f_dm) (h6 : ¬ p1 = p2) (h7 : ¬ z250 = 0) (h8 : ¬ z261 = 0) (h9 : 0 ≤ f_dm ∧ f_dm ≤ 10) (h10 : 0 ≤ p1 ∧ p1 ≤ 9) (h11 : 0 ≤ p2 ∧ p2 ≤ 9) (h12 : 1 ≤ z250 ∧ z250 ≤ 1) (h13 : 1 ≤ z261 ∧ z261 ≤ 1) : p1 < f_dm ∧ p2 < f_dm := by omega
theorem vc_X12_tie_v_28 {f_dm p1 p2 p3 z250 z261 z273 : Int} (h0 : (z250 = 1 → 0 ≤ p1 ∧ p1 < f_dm)) (h1 : (z250 = 0 → p1 < 0 ∨ f_dm ≤ p1)) (h2 : 0 ≤ p1 ∧ p1 < f_dm) (h3 : (z261 = 1 → 0 ≤ p2 ∧ p2 < f_dm)) (h4 : (z261 = 0 → p2 < 0 ∨ f_dm ≤ p2)) (h5 : 0 ≤ p2 ∧ p2 < f_dm) (h6 : ¬ p1 = p2) (h7 : (z273 = 1 → (0 : Int) ≤ p3 ∧ p3 ≤ (2 : Int))) (h8 : (z273 = 0 → p3 < (0 : Int) ∨ (2 : Int) < p3)) (h9 : (0 : Int) ≤ p3 ∧ p3 ≤ (2 : Int)) (h10 : ¬ z250 = 0) (h11 : ¬ z261 = 0) (h12 : ¬ z273 = 0) (h13 : 0 ≤ f_dm ∧ f_dm ≤ 10) (h14 : 0 ≤ p1 ∧ p1 ≤ 9) (h15 : 0 ≤ p2 ∧ p2 ≤ 9) (h16 : 0 ≤ p3 ∧ p3 ≤ 2) (h17 : 1 ≤ z250 ∧ z250 ≤ 1) (h18 : 1 ≤ z261 ∧ z261 ≤ 1) (h19 : 1 ≤ z273 ∧ z273 ≤ 1) : ¬ (p1 < 0 ∨ f_dm ≤ p1 ∨ p2 < 0 ∨ f_dm ≤ p2 ∨ p1 = p2 ∨ p3 < 0 ∨ 2 < p3) := by omega
theorem vc_X12_tie_v_29 {z282 : Int} (h0 : z282 = -99999999 ∨ (0 ≤ z282 ∧ z282 ≤ 19)) (h1 : z282 = (-99999999)) (h2 : (-99999999) ≤ z282 ∧ z282 ≤ (-99999999)) : z282 < 0 := by omega
theorem vc_X12_tie_v_30 {f_t : Int} (h0 : ¬ f_t = 20) (h1 : 0 ≤ f_t ∧ f_t ≤ 19) : f_t < 20 := by omega
theorem vc_X12_tie_v_31 {f_t : Int} (h0 : ¬ f_t = 20) (h1 : 0 ≤ f_t ∧ f_t ≤ 19) : ((f_t + 1) - 1) = f_t := by omega
theorem vc_X12_tie_v_32 {f_t : Int} (h0 : ¬ f_t = 20) (h1 : 0 ≤ f_t ∧ f_t ≤ 19) : 0 ≤ ((f_t + 1) - 1) := by omega
theorem vc_X12_tie_v_33 {f_dm f_t p1 p2 p3 z250 z261 z273 : Int} (h0 : (z250 = 1 → 0 ≤ p1 ∧ p1 < f_dm)) (h1 : (z250 = 0 → p1 < 0 ∨ f_dm ≤ p1)) (h2 : 0 ≤ p1 ∧ p1 < f_dm) (h3 : (z261 = 1 → 0 ≤ p2 ∧ p2 < f_dm)) (h4 : (z261 = 0 → p2 < 0 ∨ f_dm ≤ p2)) (h5 : 0 ≤ p2 ∧ p2 < f_dm) (h6 : ¬ p1 = p2) (h7 : (z273 = 1 → (0 : Int) ≤ p3 ∧ p3 ≤ (2 : Int))) (h8 : (z273 = 0 → p3 < (0 : Int) ∨ (2 : Int) < p3)) (h9 : (0 : Int) ≤ p3 ∧ p3 ≤ (2 : Int)) (h10 : ¬ f_t = 20) (h11 : ¬ z250 = 0) (h12 : ¬ z261 = 0) (h13 : ¬ z273 = 0) (h14 : 0 ≤ f_dm ∧ f_dm ≤ 10) (h15 : 0 ≤ f_t ∧ f_t ≤ 19) (h16 : 0 ≤ p1 ∧ p1 ≤ 9) (h17 : 0 ≤ p2 ∧ p2 ≤ 9) (h18 : 0 ≤ p3 ∧ p3 ≤ 2) (h19 : 1 ≤ z250 ∧ z250 ≤ 1) (h20 : 1 ≤ z261 ∧ z261 ≤ 1) (h21 : 1 ≤ z273 ∧ z273 ≤ 1) : (f_t + 1) = f_t + 1 := by omega
theorem vc_X12_tie_v_34 {f_dm f_t p1 p2 p3 z250 z261 z273 : Int} (h0 : (z250 = 1 → 0 ≤ p1 ∧ p1 < f_dm)) (h1 : (z250 = 0 → p1 < 0 ∨ f_dm ≤ p1)) (h2 : 0 ≤ p1 ∧ p1 < f_dm) (h3 : (z261 = 1 → 0 ≤ p2 ∧ p2 < f_dm)) (h4 : (z261 = 0 → p2 < 0 ∨ f_dm ≤ p2)) (h5 : 0 ≤ p2 ∧ p2 < f_dm) (h6 : ¬ p1 = p2) (h7 : (z273 = 1 → (0 : Int) ≤ p3 ∧ p3 ≤ (2 : Int))) (h8 : (z273 = 0 → p3 < (0 : Int) ∨ (2 : Int) < p3)) (h9 : (0 : Int) ≤ p3 ∧ p3 ≤ (2 : Int)) (h10 : ¬ f_t = 20) (h11 : ¬ z250 = 0) (h12 : ¬ z261 = 0) (h13 : ¬ z273 = 0) (h14 : 0 ≤ f_dm ∧ f_dm ≤ 10) (h15 : 0 ≤ f_t ∧ f_t ≤ 19) (h16 : 0 ≤ p1 ∧ p1 ≤ 9) (h17 : 0 ≤ p2 ∧ p2 ≤ 9) (h18 : 0 ≤ p3 ∧ p3 ≤ 2) (h19 : 1 ≤ z250 ∧ z250 ≤ 1) (h20 : 1 ≤ z261 ∧ z261 ≤ 1) (h21 : 1 ≤ z273 ∧ z273 ≤ 1) : 0 ≤ f_t ∧ (2 * f_t) = 2 * f_t ∧ ((2 * f_t) + 1) = 2 * f_t + 1 ∧ p1 = p1 ∧ p2 = p2 ∧ p3 = p3 := by omega
theorem vc_X12_tie_v_36  : ((-99999999) : Int) = -(99999999 : Int) ∨ ((0 : Int) ≤ ((-99999999) : Int) ∧ ((-99999999) : Int) ≤ (11 : Int)) := by omega
theorem vc_X12_tie_v_37 {z380 : Int} (h0 : 0 ≤ z380 ∧ z380 ≤ 12) : ((-99999999) : Int) = -99999999 ∨ (0 ≤ ((-99999999) : Int) ∧ ((-99999999) : Int) < z380) := by omega
theorem vc_X12_tie_v_39 {f_t z345 : Int} (h0 : ¬ f_t = 20) (h1 : z345 < 4) (h2 : 0 ≤ f_t ∧ f_t ≤ 19) (h3 : 0 ≤ z345 ∧ z345 ≤ 3) : ((4 * f_t) + z345) = 4 * f_t + z345 := by omega
theorem vc_X12_tie_v_40 {f_t z345 : Int} (h0 : ¬ f_t = 20) (h1 : z345 < 4) (h2 : 0 ≤ f_t ∧ f_t ≤ 19) (h3 : 0 ≤ z345 ∧ z345 ≤ 3) : 0 ≤ f_t ∧ 0 ≤ z345 := by omega
theorem vc_X12_tie_v_41  : (((-99999999) : Int) : Int) = -(99999999 : Int) := by omega
theorem vc_X12_tie_v_42 {z345 : Int} (h0 : z345 < 4) (h1 : 0 ≤ z345 ∧ z345 ≤ 3) : (z345 + 1) = z345 + 1 := by omega
theorem vc_X12_tie_v_43 {f_t z345 : Int} (h0 : ¬ f_t = 20) (h1 : z345 < 4) (h2 : 0 ≤ f_t ∧ f_t ≤ 19) (h3 : 0 ≤ z345 ∧ z345 ≤ 3) : 4 * f_t ≤ ((4 * f_t) + z345) ∧ 0 ≤ ((4 * f_t) + z345) := by omega
theorem vc_X12_tie_v_46 {f_t : Int} (h0 : ¬ f_t = 20) (h1 : 0 ≤ f_t ∧ f_t ≤ 19) : 2 * f_t ≤ (2 * f_t) ∧ 0 ≤ (2 * f_t) := by omega
theorem vc_X12_tie_v_47 {f_t : Int} (h0 : ¬ f_t = 20) (h1 : 0 ≤ f_t ∧ f_t ≤ 19) : 2 * f_t ≤ ((2 * f_t) + 1) ∧ 0 ≤ ((2 * f_t) + 1) := by omega
theorem vc_X12_tie_v_48 {f_t : Int} (h0 : ¬ f_t = 20) (h1 : 0 ≤ f_t ∧ f_t ≤ 19) : 1 * f_t ≤ f_t ∧ 0 ≤ f_t := by omega
theorem vc_X12_tie_v_50 {f_t : Int} (h0 : f_t = 20) (h1 : 20 ≤ f_t ∧ f_t ≤ 20) : 20 ≤ f_t := by omega
theorem vc_X12_tie_v_51  : (((-3) : Int) : Int) < (0 : Int) := by omega
theorem vc_X12_tie_v_54  : (((-2) : Int) : Int) < (0 : Int) := by omega
theorem vc_X12_tie_v_57 {f_dm p1 p2 p3 z250 z261 z273 : Int} (h0 : (z250 = 1 → 0 ≤ p1 ∧ p1 < f_dm)) (h1 : (z250 = 0 → p1 < 0 ∨ f_dm ≤ p1)) (h2 : 0 ≤ p1 ∧ p1 < f_dm) (h3 : (z261 = 1 → 0 ≤ p2 ∧ p2 < f_dm)) (h4 : (z261 = 0 → p2 < 0 ∨ f_dm ≤ p2)) (h5 : 0 ≤ p2 ∧ p2 < f_dm) (h6 : ¬ p1 = p2) (h7 : (z273 = 1 → (0 : Int) ≤ p3 ∧ p3 ≤ (2 : Int))) (h8 : (z273 = 0 → p3 < (0 : Int) ∨ (2 : Int) < p3)) (h9 : p3 < (0 : Int) ∨ (2 : Int) < p3) (h10 : ¬ z250 = 0) (h11 : ¬ z261 = 0) (h12 : z273 = 0) (h13 : 0 ≤ f_dm ∧ f_dm ≤ 10) (h14 : 0 ≤ p1 ∧ p1 ≤ 9) (h15 : 0 ≤ p2 ∧ p2 ≤ 9) (h16 : (-2147483648) ≤ p3 ∧ p3 ≤ 2147483647) (h17 : 1 ≤ z250 ∧ z250 ≤ 1) (h18 : 1 ≤ z261 ∧ z261 ≤ 1) (h19 : 0 ≤ z273 ∧ z273 ≤ 0) : p1 < 0 ∨ f_dm ≤ p1 ∨ p2 < 0 ∨ f_dm ≤ p2 ∨ p1 = p2 ∨ p3 < 0 ∨ 2 < p3 := by omega
set_option maxRecDepth 4000 in
set_option maxHeartbeats 4000000 in
theorem c_X12_tie_v {l : Launch} {D : va_G} {c : Nat → ClassId} {H0 : Heap} {sa : Nat × Nat × (Nat → Int32)} {w : mW} {μ : mM} (hw : mWF w) (hT : mT w μ) {p1 : Int} (hp1 : (-2147483648) ≤ p1 ∧ p1 ≤ 2147483647) {p2 : Int} (hp2 : (-2147483648) ≤ p2 ∧ p2 ≤ 2147483647) {p3 : Int} (hp3 : (-2147483648) ≤ p3 ∧ p3 ≤ 2147483647) {f_t : Int} (q_f_t : μ 106 6 = f_t) {f_dm : Int} (q_f_dm : μ 106 5 = f_dm) (hIJC : JC l D c H0 sa μ) (hIRP : RP μ) (hIEP : EP μ) (hIHP : HP μ) (hIUP : UP l D c H0 sa μ) (hITE : TE μ) (hIPK : PK μ) (hIEV : EV μ) : sC (gG l D c H0 sa) mX12_tie 3 0 0 [.ref 106, iv p1, iv p2, iv p3] (mk w μ) (qI w [106006, 110999, 111999, 112999, 113999, 114999, 115999] μ (fun z μ1 => ((-2147483648) ≤ z ∧ z ≤ 2147483647) ∧ JC l D c H0 sa μ1 ∧ RP μ1 ∧ EP μ1 ∧ HP μ1 ∧ UP l D c H0 sa μ1 ∧ TE μ1 ∧ PK μ1 ∧ EV μ1 ∧ (tieA (noneQ (tr μ 0) (tr μ 1) f_t p1 p2) f_dm f_t p1 p2 p3 z) ∧ (tgR μ μ1 p1 p2 p3 z) ∧ True)) := by
  refine sC.of rfl (by decide) (le_t rfl) ?_
  have ht_f_t : (0 ≤ f_t ∧ f_t ≤ 20) := by rw [← q_f_t]; exact hT 106 106 (A_106 hw) 6
  have ht_f_dm : (0 ≤ f_dm ∧ f_dm ≤ 10) := by rw [← q_f_dm]; exact hT 106 106 (A_106 hw) 5
  refine mr_lvE (lv' := [(0, .ref 106), (1, iv p1), (2, iv p2), (3, iv p3)]) rfl ?_
  refine sv_aload_n (pc := 0) dX12_tie_0 rfl rfl ?_
  refine mr_iload_n (pc := 1) (z := p1) dX12_tie_1 rfl rfl ?_
  refine mr_cVP (pc := 2) (c_X12_isDomain hw hT hp1 q_f_dm) (gOk _ _ _ _ _) dX12_tie_2 (tX12_isDomain _ _ _ _ _) ⟨wV_X12_isDomain, wL_X12_isDomain⟩ wM_X12_49 (gCX12 _ _ _ _ _) rfl (A_106 hw) rfl ⟨le_t rfl, le_t rfl⟩ ⟨le_t rfl, le_t rfl⟩ rfl (le_t rfl) fun z250 h249 => ?_
  refine mr_if_eq (pc := 5) (tgt := 30) dX12_tie_5 (by decide) (r32 h249.1 rfl) (fun h251 => ?_) (fun h251 => ?_)
  · have h252 : 0 ≤ z250 ∧ z250 ≤ 0 := (vc_X12_tie_v_1 h251 h249.2.1 h249.2.2.1 ht_f_dm hp1 h249.1)
    have h253 : p1 < 0 ∨ f_dm ≤ p1 := (h249.2.2.1 (vc_X12_tie_v_2 h249.2.1 h249.2.2.1 h251 ht_f_dm hp1 h252))
    refine mr_iconst (pc := 30) (z := (-1)) dX12_tie_30 ?_
    exact mr_iret dX12_tie_31 rfl (le_t rfl) (le_t rfl) hT mF.refl ⟨(rW (c := (-2147483648)) (d := 2147483647) (rR (x := (-1))) rfl), hIJC, hIRP, hIEP, hIHP, hIUP, hITE, hIPK, hIEV, (Or.inl ⟨(by unfold tieB; exact (vc_X12_tie_v_3 h249.2.1 h249.2.2.1 h253 h251 ht_f_dm hp1 hp2 hp3 h252)), rfl⟩), (Or.inr ⟨vc_X12_raise_u_49, rfl⟩), trivial⟩
  have h254 : 1 ≤ z250 ∧ z250 ≤ 1 := (vc_X12_tie_v_5 h251 h249.2.1 h249.2.2.1 ht_f_dm hp1 h249.1)
  have h255 : 0 ≤ p1 ∧ p1 < f_dm := (h249.2.1 (vc_X12_tie_v_6 h249.2.1 h249.2.2.1 h251 ht_f_dm hp1 h254))
  have h256 : 0 ≤ p1 ∧ p1 ≤ 9 := (vc_X12_tie_v_7 h255 h249.2.1 h249.2.2.1 ht_f_dm hp1 h254)
  refine sv_aload_n (pc := 8) dX12_tie_8 rfl rfl ?_
  refine mr_iload_n (pc := 9) (z := p2) dX12_tie_9 rfl rfl ?_
  refine mr_cVP (pc := 10) (c_X12_isDomain hw hT hp2 q_f_dm) (gOk _ _ _ _ _) dX12_tie_10 (tX12_isDomain _ _ _ _ _) ⟨wV_X12_isDomain, wL_X12_isDomain⟩ wM_X12_49 (gCX12 _ _ _ _ _) rfl (A_106 hw) rfl ⟨le_t rfl, le_t rfl⟩ ⟨le_t rfl, le_t rfl⟩ rfl (le_t rfl) fun z261 h260 => ?_
  refine mr_if_eq (pc := 13) (tgt := 30) dX12_tie_13 (by decide) (r32 h260.1 rfl) (fun h262 => ?_) (fun h262 => ?_)
  · have h263 : 0 ≤ z261 ∧ z261 ≤ 0 := (vc_X12_tie_v_1 h262 h260.2.1 h260.2.2.1 ht_f_dm hp2 h260.1)
    have h264 : p2 < 0 ∨ f_dm ≤ p2 := (h260.2.2.1 (vc_X12_tie_v_9 h260.2.1 h260.2.2.1 h262 h249.2.1 h249.2.2.1 h255 ht_f_dm h256 hp2 h254 h263))
    refine mr_iconst (pc := 30) (z := (-1)) dX12_tie_30 ?_
    exact mr_iret dX12_tie_31 rfl (le_t rfl) (le_t rfl) hT mF.refl ⟨(rW (c := (-2147483648)) (d := 2147483647) (rR (x := (-1))) rfl), hIJC, hIRP, hIEP, hIHP, hIUP, hITE, hIPK, hIEV, (Or.inl ⟨(by unfold tieB; exact (vc_X12_tie_v_10 h249.2.1 h249.2.2.1 h255 h260.2.1 h260.2.2.1 h264 h251 h262 ht_f_dm h256 hp2 hp3 h254 h263)), rfl⟩), (Or.inr ⟨vc_X12_raise_u_49, rfl⟩), trivial⟩
  have h265 : 1 ≤ z261 ∧ z261 ≤ 1 := (vc_X12_tie_v_5 h262 h260.2.1 h260.2.2.1 ht_f_dm hp2 h260.1)
  have h266 : 0 ≤ p2 ∧ p2 < f_dm := (h260.2.1 (vc_X12_tie_v_12 h260.2.1 h260.2.2.1 h262 h249.2.1 h249.2.2.1 h255 ht_f_dm h256 hp2 h254 h265))
  have h267 : 0 ≤ p2 ∧ p2 ≤ 9 := (vc_X12_tie_v_13 h266 h249.2.1 h249.2.2.1 h255 h260.2.1 h260.2.2.1 ht_f_dm h256 hp2 h254 h265)
  refine mr_iload_n (pc := 16) (z := p1) dX12_tie_16 rfl rfl ?_
  refine mr_iload_n (pc := 17) (z := p2) dX12_tie_17 rfl rfl ?_
  refine mr_icmp_eq (pc := 18) (tgt := 30) dX12_tie_18 (by decide) (r32 h256 rfl) (r32 h267 rfl) (fun h268 => ?_) (fun h268 => ?_)
  · refine mr_iconst (pc := 30) (z := (-1)) dX12_tie_30 ?_
    exact mr_iret dX12_tie_31 rfl (le_t rfl) (le_t rfl) hT mF.refl ⟨(rW (c := (-2147483648)) (d := 2147483647) (rR (x := (-1))) rfl), hIJC, hIRP, hIEP, hIHP, hIUP, hITE, hIPK, hIEV, (Or.inl ⟨(by unfold tieB; exact (vc_X12_tie_v_14 h249.2.1 h249.2.2.1 h255 h260.2.1 h260.2.2.1 h266 h268 h251 h262 ht_f_dm h256 h267 hp3 h254 h265)), rfl⟩), (Or.inr ⟨vc_X12_raise_u_49, rfl⟩), trivial⟩
  refine mr_iload_n (pc := 21) (z := p3) dX12_tie_21 rfl rfl ?_
  refine mr_iconst (pc := 22) (z := 0) dX12_tie_22 ?_
  refine mr_iconst (pc := 23) (z := 2) dX12_tie_23 ?_
  refine mr_cSP (pc := 24) (c_X12_in hw hT hp3 (rW (c := (-2147483648)) (d := 2147483647) (rR (x := 0)) rfl) (rW (c := (-2147483648)) (d := 2147483647) (rR (x := 2)) rfl)) (gOk _ _ _ _ _) dX12_tie_24 (tX12_in _ _ _ _ _) wS_X12_in wM_X12_18 ⟨le_t rfl, le_t rfl⟩ ⟨le_t rfl, le_t rfl⟩ rfl (le_t rfl) fun z273 h272 => ?_
  refine mr_if_ne (pc := 27) (tgt := 32) dX12_tie_27 (by decide) (r32 h272.1 rfl) (fun h274 => ?_) (fun h274 => ?_)
  · have h275 : 1 ≤ z273 ∧ z273 ≤ 1 := (vc_X12_units_1 h274 h272.2.1 h272.2.2.1 hp3 h272.1)
    have h276 : (0 : Int) ≤ p3 ∧ p3 ≤ (2 : Int) := (h272.2.1 (vc_X12_units_2 h272.2.1 h272.2.2.1 h274 hp3 h275))
    have h277 : 0 ≤ p3 ∧ p3 ≤ 2 := (vc_X12_units_3 h276 h272.2.1 h272.2.2.1 hp3 h275)
    refine sv_aload_n (pc := 32) dX12_tie_32 rfl rfl ?_
    refine mr_iload_n (pc := 33) (z := p1) dX12_tie_33 rfl rfl ?_
    refine mr_iload_n (pc := 34) (z := p2) dX12_tie_34 rfl rfl ?_
    refine mr_cVP (pc := 35) (c_X12_tieOf_v hw hT (rW (c := (-2147483648)) (d := 2147483647) h256 rfl) (rW (c := (-2147483648)) (d := 2147483647) h267 rfl) q_f_t) (gOk _ _ _ _ _) dX12_tie_35 (tX12_tieOf _ _ _ _ _) ⟨wV_X12_tieOf, wL_X12_tieOf⟩ wM_X12_43 (gCX12 _ _ _ _ _) rfl (A_106 hw) rfl ⟨le_t rfl, le_t rfl⟩ ⟨le_t rfl, le_t rfl⟩ rfl (le_t rfl) fun z282 h281 => ?_
    refine mr_ldc (pc := 38) (z := (-99999999)) dX12_tie_38 wG_X12_29 (by decide) ?_
    refine mr_icmp_eq (pc := 40) (tgt := 46) dX12_tie_40 (by decide) (r32 h281.1 rfl) (r32 (rR (x := (-99999999))) rfl) (fun h283 => ?_) (fun h283 => ?_)
    · have h284 : (-99999999) ≤ z282 ∧ z282 ≤ (-99999999) := (vc_X12_provides_1 h283 h281.2.1 h281.1)
      refine sv_aload_n (pc := 46) dX12_tie_46 rfl rfl ?_
      refine gk_X12_6 (pc := 47) dX12_tie_47 wF_X12_37 (A_106 hw) q_f_t ?_
      refine mr_bipush (pc := 50) (z := 20) dX12_tie_50 (by decide) ?_
      refine mr_icmp_ne (pc := 52) (tgt := 58) dX12_tie_52 (by decide) (r32 ht_f_t rfl) (r32 (rR (x := 20)) rfl) (fun h285 => ?_) (fun h285 => ?_)
      · have h286 : 0 ≤ f_t ∧ f_t ≤ 19 := (vc_X12_front_2 h285 ht_f_t)
        refine sv_aload_n (pc := 58) dX12_tie_58 rfl rfl ?_
        refine gf_X12_7 (pc := 59) dX12_tie_59 wF_X12_40 (A_106 hw) hT ?_
        refine mr_iconst (pc := 62) (z := 2) dX12_tie_62 ?_
        refine sv_aload_n (pc := 63) dX12_tie_63 rfl rfl ?_
        refine gk_X12_6 (pc := 64) dX12_tie_64 wF_X12_37 (A_106 hw) q_f_t ?_
        refine mr_imul (pc := 67) (x := 2) (y := f_t) dX12_tie_67 ?_
        refine mr_iload_n (pc := 68) (z := p1) dX12_tie_68 rfl rfl ?_
        refine ss_110 (pc := 69) dX12_tie_69 (A_110 hw) hT (rIx (n := 40) (rMulL (n := 2) (e := 0) (f := 38) h286 rfl) rfl) h256 fun μ287 u288 T289 => ?_
        refine sv_aload_n (pc := 70) dX12_tie_70 rfl rfl ?_
        refine gf_X12_7 (pc := 71) dX12_tie_71 wF_X12_40 (A_106 hw) T289 ?_
        refine mr_iconst (pc := 74) (z := 2) dX12_tie_74 ?_
        refine sv_aload_n (pc := 75) dX12_tie_75 rfl rfl ?_
        refine gk_X12_6 (pc := 76) dX12_tie_76 wF_X12_37 (A_106 hw) (u288.f (Or.inl (mAt.ne (A_110 hw) (A_106 hw) rfl)) q_f_t) ?_
        refine mr_imul (pc := 79) (x := 2) (y := f_t) dX12_tie_79 ?_
        refine mr_iconst (pc := 80) (z := 1) dX12_tie_80 ?_
        refine mr_iadd (pc := 81) (x := (2 * f_t)) (y := 1) dX12_tie_81 ?_
        refine mr_iload_n (pc := 82) (z := p2) dX12_tie_82 rfl rfl ?_
        refine ss_110 (pc := 83) dX12_tie_83 (A_110 hw) T289 (rIx (n := 40) (rAdd (e := 1) (f := 39) (rMulL (n := 2) (e := 0) (f := 38) h286 rfl) (rR (x := 1)) rfl) rfl) h267 fun μ290 u291 T292 => ?_
        refine sv_aload_n (pc := 84) dX12_tie_84 rfl rfl ?_
        refine gf_X12_8 (pc := 85) dX12_tie_85 wF_X12_46 (A_106 hw) T292 ?_
        refine sv_aload_n (pc := 88) dX12_tie_88 rfl rfl ?_
        refine gk_X12_6 (pc := 89) dX12_tie_89 wF_X12_37 (A_106 hw) (u291.f (Or.inl (mAt.ne (A_110 hw) (A_106 hw) rfl)) (u288.f (Or.inl (mAt.ne (A_110 hw) (A_106 hw) rfl)) q_f_t)) ?_
        refine mr_iload_n (pc := 92) (z := p3) dX12_tie_92 rfl rfl ?_
        refine ss_111 (pc := 93) dX12_tie_93 (A_111 hw) T292 (rIx (n := 20) h286 rfl) h277 fun μ293 u294 T295 => ?_
        refine sv_aload_n (pc := 94) dX12_tie_94 rfl rfl ?_
        refine gf_X12_9 (pc := 95) dX12_tie_95 wF_X12_53 (A_106 hw) T295 ?_
        refine sv_aload_n (pc := 98) dX12_tie_98 rfl rfl ?_
        refine gk_X12_6 (pc := 99) dX12_tie_99 wF_X12_37 (A_106 hw) (u294.f (Or.inl (mAt.ne (A_111 hw) (A_106 hw) rfl)) (u291.f (Or.inl (mAt.ne (A_110 hw) (A_106 hw) rfl)) (u288.f (Or.inl (mAt.ne (A_110 hw) (A_106 hw) rfl)) q_f_t))) ?_
        refine mr_iconst (pc := 102) (z := 1) dX12_tie_102 ?_
        refine ss_112 (pc := 103) dX12_tie_103 (A_112 hw) T295 (rIx (n := 20) h286 rfl) (rW (c := 0) (d := 1) (rR (x := 1)) rfl) fun μ296 u297 T298 => ?_
        refine sv_aload_n (pc := 104) dX12_tie_104 rfl rfl ?_
        refine gf_X12_10 (pc := 105) dX12_tie_105 wF_X12_57 (A_106 hw) T298 ?_
        refine sv_aload_n (pc := 108) dX12_tie_108 rfl rfl ?_
        refine gk_X12_6 (pc := 109) dX12_tie_109 wF_X12_37 (A_106 hw) (u297.f (Or.inl (mAt.ne (A_112 hw) (A_106 hw) rfl)) (u294.f (Or.inl (mAt.ne (A_111 hw) (A_106 hw) rfl)) (u291.f (Or.inl (mAt.ne (A_110 hw) (A_106 hw) rfl)) (u288.f (Or.inl (mAt.ne (A_110 hw) (A_106 hw) rfl)) q_f_t)))) ?_
        refine mr_iconst (pc := 112) (z := 1) dX12_tie_112 ?_
        refine ss_113 (pc := 113) dX12_tie_113 (A_113 hw) T298 (rIx (n := 20) h286 rfl) (rW (c := 0) (d := 1000) (rR (x := 1)) rfl) fun μ299 u300 T301 => ?_
        refine sv_aload_n (pc := 114) dX12_tie_114 rfl rfl ?_
        refine gf_X12_11 (pc := 115) dX12_tie_115 wF_X12_60 (A_106 hw) T301 ?_
        refine sv_aload_n (pc := 118) dX12_tie_118 rfl rfl ?_
        refine gk_X12_6 (pc := 119) dX12_tie_119 wF_X12_37 (A_106 hw) (u300.f (Or.inl (mAt.ne (A_113 hw) (A_106 hw) rfl)) (u297.f (Or.inl (mAt.ne (A_112 hw) (A_106 hw) rfl)) (u294.f (Or.inl (mAt.ne (A_111 hw) (A_106 hw) rfl)) (u291.f (Or.inl (mAt.ne (A_110 hw) (A_106 hw) rfl)) (u288.f (Or.inl (mAt.ne (A_110 hw) (A_106 hw) rfl)) q_f_t))))) ?_
        refine mr_iconst (pc := 122) (z := 0) dX12_tie_122 ?_
        refine ss_114 (pc := 123) dX12_tie_123 (A_114 hw) T301 (rIx (n := 20) h286 rfl) (rW (c := 0) (d := 1000) (rR (x := 0)) rfl) fun μ302 u303 T304 => ?_
        refine mr_iconst (pc := 124) (z := 0) dX12_tie_124 ?_
        refine mr_istore (pc := 125) (lv' := [(4, iv 0), (0, .ref 106), (1, iv p1), (2, iv p2), (3, iv p3)]) dX12_tie_125 (by decide) rfl ?_
        have L347 : ∀ (nL347 : Nat) (z345 : Int) (μ346 : mM), mT w μ346 → mF [115999] w μ302 μ346 → (0 ≤ z345 ∧ z345 ≤ 4) → JC l D c H0 sa μ346 → RP μ346 → PK μ346 → EV μ346 → pnT μ346 f_t z345 → TI μ μ346 f_t → (5 - z345) < (nL347 : Int) → sV (gG l D c H0 sa) mX12_tie (sRm 3 0 0) (sZ (gG l D c H0 sa) 0 0 (qI w [106006, 110999, 111999, 112999, 113999, 114999, 115999] μ (fun z μ1 => ((-2147483648) ≤ z ∧ z ≤ 2147483647) ∧ JC l D c H0 sa μ1 ∧ RP μ1 ∧ EP μ1 ∧ HP μ1 ∧ UP l D c H0 sa μ1 ∧ TE μ1 ∧ PK μ1 ∧ EV μ1 ∧ (tieA (noneQ (tr μ 0) (tr μ 1) f_t p1 p2) f_dm f_t p1 p2 p3 z) ∧ (tgR μ μ1 p1 p2 p3 z) ∧ True))) 127 [(0, .ref 106), (4, iv z345)] [] (mk w μ346) 0 0 := by
          intro nL347
          induction nL347 with
          | zero => intro z345 μ346 T349 F350 h348 I352 I353 I354 I355 R356 R357 h358; exact ((vc_X3_putPrefix_2 h358 h348)).elim
          | succ nL347 ih359 =>
            intro z345 μ346 T349 F350 h348 I352 I353 I354 I355 R356 R357 h358
            refine mr_iload (pc := 127) (z := z345) dX12_tie_127 rfl ?_
            refine mr_iconst (pc := 129) (z := 4) dX12_tie_129 ?_
            refine mr_icmp_ge (pc := 130) (tgt := 155) dX12_tie_130 (by decide) (r32 h348 rfl) (r32 (rR (x := 4)) rfl) (fun h365 => ?_) (fun h365 => ?_)
            · have h366 : 4 ≤ z345 ∧ z345 ≤ 4 := (vc_X12_addressRead_74 h365 h348)
              refine sv_aload_n (pc := 155) dX12_tie_155 rfl rfl ?_
              refine sv_dup (pc := 156) dX12_tie_156 rfl ?_
              refine gk_X12_6 (pc := 157) dX12_tie_157 wF_X12_37 (A_106 hw) (F350.f (A_106 hw) rfl (u303.f (Or.inl (mAt.ne (A_114 hw) (A_106 hw) rfl)) (u300.f (Or.inl (mAt.ne (A_113 hw) (A_106 hw) rfl)) (u297.f (Or.inl (mAt.ne (A_112 hw) (A_106 hw) rfl)) (u294.f (Or.inl (mAt.ne (A_111 hw) (A_106 hw) rfl)) (u291.f (Or.inl (mAt.ne (A_110 hw) (A_106 hw) rfl)) (u288.f (Or.inl (mAt.ne (A_110 hw) (A_106 hw) rfl)) q_f_t))))))) ?_
              refine mr_iconst (pc := 160) (z := 1) dX12_tie_160 ?_
              refine mr_iadd (pc := 161) (x := f_t) (y := 1) dX12_tie_161 ?_
              refine pf_X12_6 (pc := 162) dX12_tie_162 wF_X12_37 (A_106 hw) T349 (rW (c := 0) (d := 20) (rAdd (e := 1) (f := 20) h286 (rR (x := 1)) rfl) rfl) fun μ367 u368 T369 => ?_
              have I370 : EV μ367 := EV.grow I355 (F350.f (A_106 hw) rfl (u303.f (Or.inl (mAt.ne (A_114 hw) (A_106 hw) rfl)) (u300.f (Or.inl (mAt.ne (A_113 hw) (A_106 hw) rfl)) (u297.f (Or.inl (mAt.ne (A_112 hw) (A_106 hw) rfl)) (u294.f (Or.inl (mAt.ne (A_111 hw) (A_106 hw) rfl)) (u291.f (Or.inl (mAt.ne (A_110 hw) (A_106 hw) rfl)) (u288.f (Or.inl (mAt.ne (A_110 hw) (A_106 hw) rfl)) q_f_t))))))) u368 (vc_X12_tie_v_22 h285 h286)
              have I371 : PK μ367 := PK.grow I354 (F350.f (A_106 hw) rfl (u303.f (Or.inl (mAt.ne (A_114 hw) (A_106 hw) rfl)) (u300.f (Or.inl (mAt.ne (A_113 hw) (A_106 hw) rfl)) (u297.f (Or.inl (mAt.ne (A_112 hw) (A_106 hw) rfl)) (u294.f (Or.inl (mAt.ne (A_111 hw) (A_106 hw) rfl)) (u291.f (Or.inl (mAt.ne (A_110 hw) (A_106 hw) rfl)) (u288.f (Or.inl (mAt.ne (A_110 hw) (A_106 hw) rfl)) q_f_t))))))) u368 (vc_X12_tie_v_23 h285 h286) (vc_X12_tie_v_24 h285 h286) R356 (vc_X12_tie_v_25 h365 h366)
              have I372 : HP μ367 := TI.hp hIHP R357 q_f_t u368 (vc_X12_tie_v_23 h285 h286)
              have I373 : EP μ367 := TI.ep hIEP hIEV R357 q_f_t u368
              have I374 : TE μ367 := TI.te hITE R357 q_f_t (vc_X12_tie_v_24 h285 h286) u368 (vc_X12_tie_v_23 h285 h286) (u368.f (Or.inl (mAt.ne (A_106 hw) (A_110 hw) rfl)) (F350.f (A_110 hw) rfl (u303.f (Or.inl (mAt.ne (A_114 hw) (A_110 hw) rfl)) (u300.f (Or.inl (mAt.ne (A_113 hw) (A_110 hw) rfl)) (u297.f (Or.inl (mAt.ne (A_112 hw) (A_110 hw) rfl)) (u294.f (Or.inl (mAt.ne (A_111 hw) (A_110 hw) rfl)) (u291.f (Or.inr (vc_X12_tie_v_26 h285 h286)) u288.1))))))) (u368.f (Or.inl (mAt.ne (A_106 hw) (A_110 hw) rfl)) (F350.f (A_110 hw) rfl (u303.f (Or.inl (mAt.ne (A_114 hw) (A_110 hw) rfl)) (u300.f (Or.inl (mAt.ne (A_113 hw) (A_110 hw) rfl)) (u297.f (Or.inl (mAt.ne (A_112 hw) (A_110 hw) rfl)) (u294.f (Or.inl (mAt.ne (A_111 hw) (A_110 hw) rfl)) u291.1)))))) (u368.f (Or.inr (by decide)) (F350.f (A_106 hw) rfl (u303.f (Or.inl (mAt.ne (A_114 hw) (A_106 hw) rfl)) (u300.f (Or.inl (mAt.ne (A_113 hw) (A_106 hw) rfl)) (u297.f (Or.inl (mAt.ne (A_112 hw) (A_106 hw) rfl)) (u294.f (Or.inl (mAt.ne (A_111 hw) (A_106 hw) rfl)) (u291.f (Or.inl (mAt.ne (A_110 hw) (A_106 hw) rfl)) (u288.f (Or.inl (mAt.ne (A_110 hw) (A_106 hw) rfl)) q_f_dm)))))))) (vc_X12_tie_v_27 h249.2.1 h249.2.2.1 h255 h260.2.1 h260.2.2.1 h266 h268 h251 h262 ht_f_dm h256 h267 h254 h265)
              have I375 : UP l D c H0 sa μ367 := TI.upx hIUP hIHP R357 hw T369 I371 q_f_t (vc_X12_tie_v_24 h285 h286) u368 (vc_X12_tie_v_23 h285 h286)
              refine sv_aload_n (pc := 165) dX12_tie_165 rfl rfl ?_
              refine gk_X12_6 (pc := 166) dX12_tie_166 wF_X12_37 (A_106 hw) u368.1 ?_
              refine mr_iconst (pc := 169) (z := 1) dX12_tie_169 ?_
              refine mr_isub (pc := 170) (x := (f_t + 1)) (y := 1) dX12_tie_170 ?_
              exact mr_iret dX12_tie_171 rfl (le_t rfl) (le_t rfl) T369 (mF.up (mF.call (mF.up (mF.up (mF.up (mF.up (mF.up (mF.up mF.refl (A_110 hw) u288 rfl) (A_110 hw) u291 rfl) (A_111 hw) u294 rfl) (A_112 hw) u297 rfl) (A_113 hw) u300 rfl) (A_114 hw) u303 rfl) F350 rfl) (A_106 hw) u368 rfl) ⟨(rW (c := (-2147483648)) (d := 2147483647) (rSub (e := 0) (f := 19) (rAdd (e := 1) (f := 20) h286 (rR (x := 1)) rfl) (rR (x := 1)) rfl) rfl), (JC.keepJ I352 hw ((mF.up mF.refl (A_106 hw) u368 rfl) : mF [106006] w μ346 μ367) rfl), (RP.keep I353 hw ((mF.up mF.refl (A_106 hw) u368 rfl) : mF [106006] w μ346 μ367) rfl ((mG.upO mG.refl u368 rfl) : mG [] μ346 μ367) (fun _ h => absurd h List.not_mem_nil)), I373, I372, I375, I374, I371, I370, (Or.inr ⟨(by unfold tieB; exact (vc_X12_tie_v_28 h249.2.1 h249.2.2.1 h255 h260.2.1 h260.2.2.1 h266 h268 h272.2.1 h272.2.2.1 h276 h251 h262 h274 ht_f_dm h256 h267 h277 h254 h265 h275)), Or.inr ⟨((h281.2.2.1).not (by decide) (vc_X12_tie_v_29 h281.2.1 h283 h284)), Or.inr ⟨(vc_X12_tie_v_30 h285 h286), (vc_X12_tie_v_31 h285 h286)⟩⟩⟩), (tgR.add q_f_t (vc_X12_tie_v_32 h285 h286) u368.1 (vc_X12_tie_v_33 h249.2.1 h249.2.2.1 h255 h260.2.1 h260.2.2.1 h266 h268 h272.2.1 h272.2.2.1 h276 h285 h251 h262 h274 ht_f_dm h286 h256 h267 h277 h254 h265 h275) (u368.f (Or.inl (mAt.ne (A_106 hw) (A_110 hw) rfl)) (F350.f (A_110 hw) rfl (u303.f (Or.inl (mAt.ne (A_114 hw) (A_110 hw) rfl)) (u300.f (Or.inl (mAt.ne (A_113 hw) (A_110 hw) rfl)) (u297.f (Or.inl (mAt.ne (A_112 hw) (A_110 hw) rfl)) (u294.f (Or.inl (mAt.ne (A_111 hw) (A_110 hw) rfl)) (u291.f (Or.inr (vc_X12_tie_v_26 h285 h286)) u288.1))))))) (u368.f (Or.inl (mAt.ne (A_106 hw) (A_110 hw) rfl)) (F350.f (A_110 hw) rfl (u303.f (Or.inl (mAt.ne (A_114 hw) (A_110 hw) rfl)) (u300.f (Or.inl (mAt.ne (A_113 hw) (A_110 hw) rfl)) (u297.f (Or.inl (mAt.ne (A_112 hw) (A_110 hw) rfl)) (u294.f (Or.inl (mAt.ne (A_111 hw) (A_110 hw) rfl)) u291.1)))))) (u368.f (Or.inl (mAt.ne (A_106 hw) (A_111 hw) rfl)) (F350.f (A_111 hw) rfl (u303.f (Or.inl (mAt.ne (A_114 hw) (A_111 hw) rfl)) (u300.f (Or.inl (mAt.ne (A_113 hw) (A_111 hw) rfl)) (u297.f (Or.inl (mAt.ne (A_112 hw) (A_111 hw) rfl)) u294.1))))) (vc_X12_tie_v_34 h249.2.1 h249.2.2.1 h255 h260.2.1 h260.2.2.1 h266 h268 h272.2.1 h272.2.2.1 h276 h285 h251 h262 h274 ht_f_dm h286 h256 h267 h277 h254 h265 h275) (TI.trS R357 u368)), trivial⟩
            have h376 : 0 ≤ z345 ∧ z345 ≤ 3 := (vc_X12_addressRead_82 h365 h348)
            refine sv_aload_n (pc := 133) dX12_tie_133 rfl rfl ?_
            refine gf_X12_12 (pc := 134) dX12_tie_134 wF_X12_63 (A_106 hw) T349 ?_
            refine mr_iconst (pc := 137) (z := 4) dX12_tie_137 ?_
            refine sv_aload_n (pc := 138) dX12_tie_138 rfl rfl ?_
            refine gk_X12_6 (pc := 139) dX12_tie_139 wF_X12_37 (A_106 hw) (F350.f (A_106 hw) rfl (u303.f (Or.inl (mAt.ne (A_114 hw) (A_106 hw) rfl)) (u300.f (Or.inl (mAt.ne (A_113 hw) (A_106 hw) rfl)) (u297.f (Or.inl (mAt.ne (A_112 hw) (A_106 hw) rfl)) (u294.f (Or.inl (mAt.ne (A_111 hw) (A_106 hw) rfl)) (u291.f (Or.inl (mAt.ne (A_110 hw) (A_106 hw) rfl)) (u288.f (Or.inl (mAt.ne (A_110 hw) (A_106 hw) rfl)) q_f_t))))))) ?_
            refine mr_imul (pc := 142) (x := 4) (y := f_t) dX12_tie_142 ?_
            refine mr_iload (pc := 143) (z := z345) dX12_tie_143 rfl ?_
            refine mr_iadd (pc := 145) (x := (4 * f_t)) (y := z345) dX12_tie_145 ?_
            refine mr_ldc (pc := 146) (z := (-99999999)) dX12_tie_146 wG_X12_29 (by decide) ?_
            refine ss_115 (pc := 148) dX12_tie_148 (A_115 hw) T349 (rIx (n := 80) (rAdd (e := 0) (f := 79) (rMulL (n := 4) (e := 0) (f := 76) h286 rfl) h376 rfl) rfl) vc_X12_tie_v_36 fun μ377 u378 T379 => ?_
            obtain ⟨z380, q381⟩ : ∃ z, μ377 106 39 = z := ⟨_, rfl⟩
            have h382 : (0 ≤ z380 ∧ z380 ≤ 12) := by rw [← q381]; exact T379 106 106 (A_106 hw) 39
            have I383 : PK μ377 := PK.use I354 u378 (u378.2 106 39 (Or.inl (by decide)) ▸ q381) (vc_X12_tie_v_37 h382)
            refine mr_iinc (pc := 149) (lv' := [(4, iv (z345 + 1)), (0, .ref 106)]) dX12_tie_149 rfl (by decide) rfl ?_
            refine sv_goto (pc := 152) (tgt := 127) dX12_tie_152 (by decide) ?_
            refine mr_lvS (lv' := [(0, .ref 106), (4, iv (z345 + 1))]) (List.forall_mem_cons.mpr ⟨rfl, List.forall_mem_cons.mpr ⟨rfl, fun _ h => absurd h List.not_mem_nil⟩⟩) ?_
            exact ih359 (z345 + 1) μ377 T379 (mF.up (mF.call mF.refl F350 rfl) (A_115 hw) u378 rfl) (rW (c := 0) (d := 4) (rAdd (e := 1) (f := 4) h376 (rR (x := 1)) rfl) rfl) (JC.keepJ I352 hw ((mF.up mF.refl (A_115 hw) u378 rfl) : mF [115999] w μ346 μ377) rfl) (RP.keep I353 hw ((mF.up mF.refl (A_115 hw) u378 rfl) : mF [115999] w μ346 μ377) rfl ((mG.upO mG.refl u378 rfl) : mG [] μ346 μ377) (fun _ h => absurd h List.not_mem_nil)) I383 (EV.keep I355 hw ((mF.up mF.refl (A_115 hw) u378 rfl) : mF [115999] w μ346 μ377) rfl) (pnT.succ R356 u378 (vc_X12_tie_v_39 h285 h365 h286 h376) (vc_X12_tie_v_40 h285 h365 h286 h376) vc_X12_tie_v_41 (vc_X12_tie_v_42 h365 h376)) (TI.up R357 u378 (Or.inr (Or.inr (Or.inr (Or.inr (Or.inr ⟨rfl, (by have h := (vc_X12_tie_v_43 h285 h365 h286 h376); omega)⟩)))))) (vc_X12_message_u_87 (nS h358) h365 h376)
        refine mr_lvS (lv' := [(0, .ref 106), (4, iv 0)]) (List.forall_mem_cons.mpr ⟨rfl, List.forall_mem_cons.mpr ⟨rfl, fun _ h => absurd h List.not_mem_nil⟩⟩) ?_
        exact L347 6 0 μ302 T304 mF.refl (rW (c := 0) (d := 4) (rR (x := 0)) rfl) (JC.keepJ hIJC hw ((mF.up (mF.up (mF.up (mF.up (mF.up (mF.up mF.refl (A_110 hw) u288 rfl) (A_110 hw) u291 rfl) (A_111 hw) u294 rfl) (A_112 hw) u297 rfl) (A_113 hw) u300 rfl) (A_114 hw) u303 rfl) : mF [110999, 111999, 112999, 113999, 114999] w μ μ302) rfl) (RP.keep hIRP hw ((mF.up (mF.up (mF.up (mF.up (mF.up (mF.up mF.refl (A_110 hw) u288 rfl) (A_110 hw) u291 rfl) (A_111 hw) u294 rfl) (A_112 hw) u297 rfl) (A_113 hw) u300 rfl) (A_114 hw) u303 rfl) : mF [110999, 111999, 112999, 113999, 114999] w μ μ302) rfl ((mG.upO (mG.upO (mG.upO (mG.upO (mG.upO (mG.upO mG.refl u288 rfl) u291 rfl) u294 rfl) u297 rfl) u300 rfl) u303 rfl) : mG [] μ μ302) (fun _ h => absurd h List.not_mem_nil)) (PK.keep hIPK hw ((mF.up (mF.up (mF.up (mF.up (mF.up (mF.up mF.refl (A_110 hw) u288 rfl) (A_110 hw) u291 rfl) (A_111 hw) u294 rfl) (A_112 hw) u297 rfl) (A_113 hw) u300 rfl) (A_114 hw) u303 rfl) : mF [110999, 111999, 112999, 113999, 114999] w μ μ302) rfl) (EV.keep hIEV hw ((mF.up (mF.up (mF.up (mF.up (mF.up (mF.up mF.refl (A_110 hw) u288 rfl) (A_110 hw) u291 rfl) (A_111 hw) u294 rfl) (A_112 hw) u297 rfl) (A_113 hw) u300 rfl) (A_114 hw) u303 rfl) : mF [110999, 111999, 112999, 113999, 114999] w μ μ302) rfl) (pnT.zero vc_X3_forget_z_1) (TI.up (TI.up (TI.up (TI.up (TI.up (TI.up TI.refl u288 (Or.inl ⟨rfl, (by have h := (vc_X12_tie_v_46 h285 h286); omega)⟩)) u291 (Or.inl ⟨rfl, (by have h := (vc_X12_tie_v_47 h285 h286); omega)⟩)) u294 (Or.inr (Or.inl ⟨rfl, (by have h := (vc_X12_tie_v_48 h285 h286); omega)⟩))) u297 (Or.inr (Or.inr (Or.inl ⟨rfl, (by have h := (vc_X12_tie_v_48 h285 h286); omega)⟩)))) u300 (Or.inr (Or.inr (Or.inr (Or.inl rfl))))) u303 (Or.inr (Or.inr (Or.inr (Or.inr (Or.inl rfl)))))) vc_X12_prefixOut_14
      have h384 : 20 ≤ f_t ∧ f_t ≤ 20 := (vc_X12_front_21 h285 ht_f_t)
      refine mr_bipush (pc := 55) (z := (-3)) dX12_tie_55 (by decide) ?_
      exact mr_iret dX12_tie_57 rfl (le_t rfl) (le_t rfl) hT mF.refl ⟨(rW (c := (-2147483648)) (d := 2147483647) (rR (x := (-3))) rfl), hIJC, hIRP, hIEP, hIHP, hIUP, hITE, hIPK, hIEV, (Or.inr ⟨(by unfold tieB; exact (vc_X12_tie_v_28 h249.2.1 h249.2.2.1 h255 h260.2.1 h260.2.2.1 h266 h268 h272.2.1 h272.2.2.1 h276 h251 h262 h274 ht_f_dm h256 h267 h277 h254 h265 h275)), Or.inr ⟨((h281.2.2.1).not (by decide) (vc_X12_tie_v_29 h281.2.1 h283 h284)), Or.inl ⟨(vc_X12_tie_v_50 h285 h384), rfl⟩⟩⟩), (Or.inr ⟨vc_X12_tie_v_51, rfl⟩), trivial⟩
    have h385 : 0 ≤ z282 ∧ z282 ≤ 19 := (vc_X12_provides_2 h283 h281.2.1 h281.1)
    refine mr_bipush (pc := 43) (z := (-2)) dX12_tie_43 (by decide) ?_
    exact mr_iret dX12_tie_45 rfl (le_t rfl) (le_t rfl) hT mF.refl ⟨(rW (c := (-2147483648)) (d := 2147483647) (rR (x := (-2))) rfl), hIJC, hIRP, hIEP, hIHP, hIUP, hITE, hIPK, hIEV, (Or.inr ⟨(by unfold tieB; exact (vc_X12_tie_v_28 h249.2.1 h249.2.2.1 h255 h260.2.1 h260.2.2.1 h266 h268 h272.2.1 h272.2.2.1 h276 h251 h262 h274 ht_f_dm h256 h267 h277 h254 h265 h275)), Or.inl ⟨(h281.2.2.1).has (vc_X12_look_u_6 h281.2.1 h283 h385), rfl⟩⟩), (Or.inr ⟨vc_X12_tie_v_54, rfl⟩), trivial⟩
  have h386 : 0 ≤ z273 ∧ z273 ≤ 0 := (vc_X12_units_9 h274 h272.2.1 h272.2.2.1 hp3 h272.1)
  have h387 : p3 < (0 : Int) ∨ (2 : Int) < p3 := (h272.2.2.1 (vc_X12_units_10 h272.2.1 h272.2.2.1 h274 hp3 h386))
  refine mr_iconst (pc := 30) (z := (-1)) dX12_tie_30 ?_
  exact mr_iret dX12_tie_31 rfl (le_t rfl) (le_t rfl) hT mF.refl ⟨(rW (c := (-2147483648)) (d := 2147483647) (rR (x := (-1))) rfl), hIJC, hIRP, hIEP, hIHP, hIUP, hITE, hIPK, hIEV, (Or.inl ⟨(by unfold tieB; exact (vc_X12_tie_v_57 h249.2.1 h249.2.2.1 h255 h260.2.1 h260.2.2.1 h266 h268 h272.2.1 h272.2.2.1 h387 h251 h262 h274 ht_f_dm h256 h267 hp3 h254 h265 h386)), rfl⟩), (Or.inr ⟨vc_X12_raise_u_49, rfl⟩), trivial⟩
theorem vc_X11_walk_w_1 {p1 : Int} (h0 : p1 < (-1)) (h1 : (-2147483648) ≤ p1 ∧ p1 ≤ 2147483647) : (-2147483648) ≤ p1 ∧ p1 ≤ (-2) := by omega
theorem vc_X11_walk_w_2 {f_q p1 : Int} (h0 : p1 < (-1)) (h1 : 0 ≤ f_q ∧ f_q ≤ 20) (h2 : (-2147483648) ≤ p1 ∧ p1 ≤ (-2)) : p1 < -1 ∨ 9 < p1 → (-1 : Int) = -1 ∧ f_q = f_q := by omega
theorem vc_X11_walk_w_3 {f_q p1 : Int} (h0 : p1 < (-1)) (h1 : 0 ≤ f_q ∧ f_q ≤ 20) (h2 : (-2147483648) ≤ p1 ∧ p1 ≤ (-2)) : p1 = -1 → (-1 : Int) = 0 ∧ f_q = 0 := by omega
theorem vc_X11_walk_w_4 {f_q p1 : Int} (h0 : p1 < (-1)) (h1 : 0 ≤ f_q ∧ f_q ≤ 20) (h2 : (-2147483648) ≤ p1 ∧ p1 ≤ (-2)) : 0 ≤ p1 → p1 ≤ 9 → f_q = 20 → (-1 : Int) = -3 ∧ f_q = f_q := by omega
theorem vc_X11_walk_w_5 {f_q p1 : Int} (h0 : p1 < (-1)) (h1 : 0 ≤ f_q ∧ f_q ≤ 20) (h2 : (-2147483648) ≤ p1 ∧ p1 ≤ (-2)) : 0 ≤ p1 → p1 ≤ 9 → f_q < 20 → (-1 : Int) = f_q + 1 ∧ f_q = f_q + 1 := by omega
theorem vc_X11_walk_w_6 {f_q : Int} (h0 : 0 ≤ f_q ∧ f_q ≤ 20) : ¬ f_q = f_q + 1 := by omega
theorem vc_X11_walk_w_7 {p1 : Int} (h0 : (-1) ≤ p1) (h1 : (-2147483648) ≤ p1 ∧ p1 ≤ 2147483647) : (-1) ≤ p1 ∧ p1 ≤ 2147483647 := by omega
theorem vc_X11_walk_w_8 {p1 : Int} (h0 : p1 < 10) (h1 : (-1) ≤ p1) (h2 : (-1) ≤ p1 ∧ p1 ≤ 2147483647) : (-1) ≤ p1 ∧ p1 ≤ 9 := by omega
theorem vc_X11_walk_w_9 {p1 : Int} (h0 : ¬ p1 = (-1)) (h1 : (-1) ≤ p1) (h2 : p1 < 10) (h3 : (-1) ≤ p1 ∧ p1 ≤ 9) : 0 ≤ p1 ∧ p1 ≤ 9 := by omega
theorem vc_X11_walk_w_11 {f_q p1 : Int} (h0 : (-1) ≤ p1) (h1 : p1 < 10) (h2 : ¬ p1 = (-1)) (h3 : f_q < 20) (h4 : 0 ≤ f_q ∧ f_q ≤ 19) (h5 : 0 ≤ p1 ∧ p1 ≤ 9) : p1 < -1 ∨ 9 < p1 → (f_q + 1) = -1 ∧ (f_q + 1) = f_q := by omega
theorem vc_X11_walk_w_12 {f_q p1 : Int} (h0 : (-1) ≤ p1) (h1 : p1 < 10) (h2 : ¬ p1 = (-1)) (h3 : f_q < 20) (h4 : 0 ≤ f_q ∧ f_q ≤ 19) (h5 : 0 ≤ p1 ∧ p1 ≤ 9) : p1 = -1 → (f_q + 1) = 0 ∧ (f_q + 1) = 0 := by omega
theorem vc_X11_walk_w_13 {f_q p1 : Int} (h0 : (-1) ≤ p1) (h1 : p1 < 10) (h2 : ¬ p1 = (-1)) (h3 : f_q < 20) (h4 : 0 ≤ f_q ∧ f_q ≤ 19) (h5 : 0 ≤ p1 ∧ p1 ≤ 9) : 0 ≤ p1 → p1 ≤ 9 → f_q = 20 → (f_q + 1) = -3 ∧ (f_q + 1) = f_q := by omega
theorem vc_X11_walk_w_14 {f_q p1 : Int} (h0 : (-1) ≤ p1) (h1 : p1 < 10) (h2 : ¬ p1 = (-1)) (h3 : f_q < 20) (h4 : 0 ≤ f_q ∧ f_q ≤ 19) (h5 : 0 ≤ p1 ∧ p1 ≤ 9) : 0 ≤ p1 → p1 ≤ 9 → f_q < 20 → (f_q + 1) = f_q + 1 ∧ (f_q + 1) = f_q + 1 := by omega
theorem vc_X11_walk_w_15 {f_q : Int} (h0 : f_q < 20) (h1 : 0 ≤ f_q ∧ f_q ≤ 19) : f_q ≤ f_q := by omega
theorem vc_X11_walk_w_16 {p1 : Int} (h0 : (-1) ≤ p1) (h1 : p1 < 10) (h2 : ¬ p1 = (-1)) (h3 : 0 ≤ p1 ∧ p1 ≤ 9) : p1 = p1 := by omega
theorem vc_X11_walk_w_18 {f_q p1 : Int} (h0 : (-1) ≤ p1) (h1 : p1 < 10) (h2 : ¬ p1 = (-1)) (h3 : 20 ≤ f_q) (h4 : 20 ≤ f_q ∧ f_q ≤ 20) (h5 : 0 ≤ p1 ∧ p1 ≤ 9) : p1 < -1 ∨ 9 < p1 → (-3 : Int) = -1 ∧ f_q = f_q := by omega
theorem vc_X11_walk_w_19 {f_q p1 : Int} (h0 : (-1) ≤ p1) (h1 : p1 < 10) (h2 : ¬ p1 = (-1)) (h3 : 20 ≤ f_q) (h4 : 20 ≤ f_q ∧ f_q ≤ 20) (h5 : 0 ≤ p1 ∧ p1 ≤ 9) : p1 = -1 → (-3 : Int) = 0 ∧ f_q = 0 := by omega
theorem vc_X11_walk_w_20 {f_q p1 : Int} (h0 : (-1) ≤ p1) (h1 : p1 < 10) (h2 : ¬ p1 = (-1)) (h3 : 20 ≤ f_q) (h4 : 20 ≤ f_q ∧ f_q ≤ 20) (h5 : 0 ≤ p1 ∧ p1 ≤ 9) : 0 ≤ p1 → p1 ≤ 9 → f_q = 20 → (-3 : Int) = -3 ∧ f_q = f_q := by omega
theorem vc_X11_walk_w_21 {f_q p1 : Int} (h0 : (-1) ≤ p1) (h1 : p1 < 10) (h2 : ¬ p1 = (-1)) (h3 : 20 ≤ f_q) (h4 : 20 ≤ f_q ∧ f_q ≤ 20) (h5 : 0 ≤ p1 ∧ p1 ≤ 9) : 0 ≤ p1 → p1 ≤ 9 → f_q < 20 → (-3 : Int) = f_q + 1 ∧ f_q = f_q + 1 := by omega
theorem vc_X11_walk_w_22 {f_q : Int} (h0 : 20 ≤ f_q) (h1 : 20 ≤ f_q ∧ f_q ≤ 20) : ¬ f_q = f_q + 1 := by omega
theorem vc_X11_walk_w_23 {p1 : Int} (h0 : p1 = (-1)) (h1 : (-1) ≤ p1) (h2 : p1 < 10) (h3 : (-1) ≤ p1 ∧ p1 ≤ 9) : (-1) ≤ p1 ∧ p1 ≤ (-1) := by omega
theorem vc_X11_walk_w_24 {f_q p1 : Int} (h0 : (-1) ≤ p1) (h1 : p1 < 10) (h2 : p1 = (-1)) (h3 : 0 ≤ f_q ∧ f_q ≤ 20) (h4 : (-1) ≤ p1 ∧ p1 ≤ (-1)) : p1 < -1 ∨ 9 < p1 → (0 : Int) = -1 ∧ (0 : Int) = f_q := by omega
theorem vc_X11_walk_w_25 {p1 : Int} (h0 : (-1) ≤ p1) (h1 : p1 < 10) (h2 : p1 = (-1)) (h3 : (-1) ≤ p1 ∧ p1 ≤ (-1)) : p1 = -1 → (0 : Int) = 0 ∧ (0 : Int) = 0 := by omega
theorem vc_X11_walk_w_26 {f_q p1 : Int} (h0 : (-1) ≤ p1) (h1 : p1 < 10) (h2 : p1 = (-1)) (h3 : 0 ≤ f_q ∧ f_q ≤ 20) (h4 : (-1) ≤ p1 ∧ p1 ≤ (-1)) : 0 ≤ p1 → p1 ≤ 9 → f_q = 20 → (0 : Int) = -3 ∧ (0 : Int) = f_q := by omega
theorem vc_X11_walk_w_27 {f_q p1 : Int} (h0 : (-1) ≤ p1) (h1 : p1 < 10) (h2 : p1 = (-1)) (h3 : 0 ≤ f_q ∧ f_q ≤ 20) (h4 : (-1) ≤ p1 ∧ p1 ≤ (-1)) : 0 ≤ p1 → p1 ≤ 9 → f_q < 20 → (0 : Int) = f_q + 1 ∧ (0 : Int) = f_q + 1 := by omega
theorem vc_X11_walk_w_28 {f_q : Int} (h0 : 0 ≤ f_q ∧ f_q ≤ 20) : ¬ (0 : Int) = f_q + 1 := by omega
theorem vc_X11_walk_w_29 {p1 : Int} (h0 : 10 ≤ p1) (h1 : (-1) ≤ p1) (h2 : (-1) ≤ p1 ∧ p1 ≤ 2147483647) : 10 ≤ p1 ∧ p1 ≤ 2147483647 := by omega
theorem vc_X11_walk_w_30 {f_q p1 : Int} (h0 : (-1) ≤ p1) (h1 : 10 ≤ p1) (h2 : 0 ≤ f_q ∧ f_q ≤ 20) (h3 : 10 ≤ p1 ∧ p1 ≤ 2147483647) : p1 < -1 ∨ 9 < p1 → (-1 : Int) = -1 ∧ f_q = f_q := by omega
theorem vc_X11_walk_w_31 {f_q p1 : Int} (h0 : (-1) ≤ p1) (h1 : 10 ≤ p1) (h2 : 0 ≤ f_q ∧ f_q ≤ 20) (h3 : 10 ≤ p1 ∧ p1 ≤ 2147483647) : p1 = -1 → (-1 : Int) = 0 ∧ f_q = 0 := by omega
theorem vc_X11_walk_w_32 {f_q p1 : Int} (h0 : (-1) ≤ p1) (h1 : 10 ≤ p1) (h2 : 0 ≤ f_q ∧ f_q ≤ 20) (h3 : 10 ≤ p1 ∧ p1 ≤ 2147483647) : 0 ≤ p1 → p1 ≤ 9 → f_q = 20 → (-1 : Int) = -3 ∧ f_q = f_q := by omega
theorem vc_X11_walk_w_33 {f_q p1 : Int} (h0 : (-1) ≤ p1) (h1 : 10 ≤ p1) (h2 : 0 ≤ f_q ∧ f_q ≤ 20) (h3 : 10 ≤ p1 ∧ p1 ≤ 2147483647) : 0 ≤ p1 → p1 ≤ 9 → f_q < 20 → (-1 : Int) = f_q + 1 ∧ f_q = f_q + 1 := by omega
set_option maxRecDepth 4000 in
set_option maxHeartbeats 4000000 in
theorem c_X11_walk_w {l : Launch} {D : va_G} {c : Nat → ClassId} {H0 : Heap} {sa : Nat × Nat × (Nat → Int32)} {w : mW} {μ : mM} (hw : mWF w) (hT : mT w μ) {p1 : Int} (hp1 : (-2147483648) ≤ p1 ∧ p1 ≤ 2147483647) {f_q : Int} (q_f_q : μ 0 11 = f_q) : sC (gG l D c H0 sa) mX11_walk 1 0 0 [.ref 0, iv p1] (mk w μ) (qI w [11, 2999] μ (fun z μ1 => ∃ o_q : Int, μ1 0 11 = o_q ∧ ((-2147483648) ≤ z ∧ z ≤ 2147483647) ∧ (p1 < -1 ∨ 9 < p1 → z = -1 ∧ o_q = f_q) ∧ (p1 = -1 → z = 0 ∧ o_q = 0) ∧ (0 ≤ p1 → p1 ≤ 9 → f_q = 20 → z = -3 ∧ o_q = f_q) ∧ (0 ≤ p1 → p1 ≤ 9 → f_q < 20 → z = f_q + 1 ∧ o_q = f_q + 1) ∧ (wkT μ μ1 2 f_q o_q p1) ∧ True)) := by
  refine sC.of rfl (by decide) (le_t rfl) ?_
  have ht_f_q : (0 ≤ f_q ∧ f_q ≤ 20) := by rw [← q_f_q]; exact hT 0 0 (A_0 hw) 11
  refine mr_lvE (lv' := [(0, .ref 0), (1, iv p1)]) rfl ?_
  refine mr_iload_n (pc := 0) (z := p1) dX11_walk_0 rfl rfl ?_
  refine mr_iconst (pc := 1) (z := (-1)) dX11_walk_1 ?_
  refine mr_icmp_lt (pc := 2) (tgt := 11) dX11_walk_2 (by decide) hp1 (r32 (rR (x := (-1))) rfl) (fun h52 => ?_) (fun h52 => ?_)
  · have h53 : (-2147483648) ≤ p1 ∧ p1 ≤ (-2) := (vc_X11_walk_w_1 h52 hp1)
    refine mr_iconst (pc := 11) (z := (-1)) dX11_walk_11 ?_
    exact mr_iret dX11_walk_12 rfl (le_t rfl) (le_t rfl) hT mF.refl ⟨f_q, q_f_q, (rW (c := (-2147483648)) (d := 2147483647) (rR (x := (-1))) rfl), (vc_X11_walk_w_2 h52 ht_f_q h53), (vc_X11_walk_w_3 h52 ht_f_q h53), (vc_X11_walk_w_4 h52 ht_f_q h53), (vc_X11_walk_w_5 h52 ht_f_q h53), ⟨tabS.refl, fun h => absurd h (vc_X11_walk_w_6 ht_f_q)⟩, trivial⟩
  have h54 : (-1) ≤ p1 ∧ p1 ≤ 2147483647 := (vc_X11_walk_w_7 h52 hp1)
  refine mr_iload_n (pc := 5) (z := p1) dX11_walk_5 rfl rfl ?_
  refine mr_bipush (pc := 6) (z := 10) dX11_walk_6 (by decide) ?_
  refine mr_icmp_lt (pc := 8) (tgt := 13) dX11_walk_8 (by decide) (r32 h54 rfl) (r32 (rR (x := 10)) rfl) (fun h55 => ?_) (fun h55 => ?_)
  · have h56 : (-1) ≤ p1 ∧ p1 ≤ 9 := (vc_X11_walk_w_8 h55 h52 h54)
    refine mr_iload_n (pc := 13) (z := p1) dX11_walk_13 rfl rfl ?_
    refine mr_iconst (pc := 14) (z := (-1)) dX11_walk_14 ?_
    refine mr_icmp_ne (pc := 15) (tgt := 25) dX11_walk_15 (by decide) (r32 h56 rfl) (r32 (rR (x := (-1))) rfl) (fun h57 => ?_) (fun h57 => ?_)
    · have h58 : 0 ≤ p1 ∧ p1 ≤ 9 := (vc_X11_walk_w_9 h57 h52 h55 h56)
      refine sv_aload_n (pc := 25) dX11_walk_25 rfl rfl ?_
      refine gk_X11_11 (pc := 26) dX11_walk_26 wF_X11_169 (A_0 hw) q_f_q ?_
      refine mr_bipush (pc := 29) (z := 20) dX11_walk_29 (by decide) ?_
      refine mr_icmp_lt (pc := 31) (tgt := 37) dX11_walk_31 (by decide) (r32 ht_f_q rfl) (r32 (rR (x := 20)) rfl) (fun h59 => ?_) (fun h59 => ?_)
      · have h60 : 0 ≤ f_q ∧ f_q ≤ 19 := (vc_X12_feed_4 h59 ht_f_q)
        refine sv_aload_n (pc := 37) dX11_walk_37 rfl rfl ?_
        refine gf_X11_1 (pc := 38) dX11_walk_38 wF_X11_13 (A_0 hw) hT ?_
        refine sv_aload_n (pc := 41) dX11_walk_41 rfl rfl ?_
        refine gk_X11_11 (pc := 42) dX11_walk_42 wF_X11_169 (A_0 hw) q_f_q ?_
        refine mr_iload_n (pc := 45) (z := p1) dX11_walk_45 rfl rfl ?_
        refine ss_2 (pc := 46) dX11_walk_46 (A_2 hw) hT (rIx (n := 20) h60 rfl) h58 fun μ61 u62 T63 => ?_
        refine sv_aload_n (pc := 47) dX11_walk_47 rfl rfl ?_
        refine sv_dup (pc := 48) dX11_walk_48 rfl ?_
        refine gk_X11_11 (pc := 49) dX11_walk_49 wF_X11_169 (A_0 hw) (u62.f (Or.inl (mAt.ne (A_2 hw) (A_0 hw) rfl)) q_f_q) ?_
        refine mr_iconst (pc := 52) (z := 1) dX11_walk_52 ?_
        refine mr_iadd (pc := 53) (x := f_q) (y := 1) dX11_walk_53 ?_
        refine pf_X11_11 (pc := 54) dX11_walk_54 wF_X11_169 (A_0 hw) T63 (rW (c := 0) (d := 20) (rAdd (e := 1) (f := 20) h60 (rR (x := 1)) rfl) rfl) fun μ64 u65 T66 => ?_
        refine sv_aload_n (pc := 57) dX11_walk_57 rfl rfl ?_
        refine gk_X11_11 (pc := 58) dX11_walk_58 wF_X11_169 (A_0 hw) u65.1 ?_
        exact mr_iret dX11_walk_61 rfl (le_t rfl) (le_t rfl) T66 (mF.up (mF.up mF.refl (A_2 hw) u62 rfl) (A_0 hw) u65 rfl) ⟨(f_q + 1), u65.1, (rW (c := (-2147483648)) (d := 2147483647) (rAdd (e := 1) (f := 20) h60 (rR (x := 1)) rfl) rfl), (vc_X11_walk_w_11 h52 h55 h57 h59 h60 h58), (vc_X11_walk_w_12 h52 h55 h57 h59 h60 h58), (vc_X11_walk_w_13 h52 h55 h57 h59 h60 h58), (vc_X11_walk_w_14 h52 h55 h57 h59 h60 h58), ⟨(tabS.oth (tabS.up tabS.refl u62 (vc_X11_walk_w_15 h59 h60)) u65 rfl), fun _ => (u65.f (Or.inl (mAt.ne (A_0 hw) (A_2 hw) rfl)) u62.1).trans (vc_X11_walk_w_16 h52 h55 h57 h58)⟩, trivial⟩
      have h67 : 20 ≤ f_q ∧ f_q ≤ 20 := (vc_X12_feed_3 h59 ht_f_q)
      refine mr_bipush (pc := 34) (z := (-3)) dX11_walk_34 (by decide) ?_
      exact mr_iret dX11_walk_36 rfl (le_t rfl) (le_t rfl) hT mF.refl ⟨f_q, q_f_q, (rW (c := (-2147483648)) (d := 2147483647) (rR (x := (-3))) rfl), (vc_X11_walk_w_18 h52 h55 h57 h59 h67 h58), (vc_X11_walk_w_19 h52 h55 h57 h59 h67 h58), (vc_X11_walk_w_20 h52 h55 h57 h59 h67 h58), (vc_X11_walk_w_21 h52 h55 h57 h59 h67 h58), ⟨tabS.refl, fun h => absurd h (vc_X11_walk_w_22 h59 h67)⟩, trivial⟩
    have h68 : (-1) ≤ p1 ∧ p1 ≤ (-1) := (vc_X11_walk_w_23 h57 h52 h55 h56)
    refine sv_aload_n (pc := 18) dX11_walk_18 rfl rfl ?_
    refine mr_iconst (pc := 19) (z := 0) dX11_walk_19 ?_
    refine pf_X11_11 (pc := 20) dX11_walk_20 wF_X11_169 (A_0 hw) hT (rW (c := 0) (d := 20) (rR (x := 0)) rfl) fun μ69 u70 T71 => ?_
    refine mr_iconst (pc := 23) (z := 0) dX11_walk_23 ?_
    exact mr_iret dX11_walk_24 rfl (le_t rfl) (le_t rfl) T71 (mF.up mF.refl (A_0 hw) u70 rfl) ⟨0, u70.1, (rW (c := (-2147483648)) (d := 2147483647) (rR (x := 0)) rfl), (vc_X11_walk_w_24 h52 h55 h57 ht_f_q h68), (vc_X11_walk_w_25 h52 h55 h57 h68), (vc_X11_walk_w_26 h52 h55 h57 ht_f_q h68), (vc_X11_walk_w_27 h52 h55 h57 ht_f_q h68), ⟨(tabS.oth tabS.refl u70 rfl), fun h => absurd h (vc_X11_walk_w_28 ht_f_q)⟩, trivial⟩
  have h72 : 10 ≤ p1 ∧ p1 ≤ 2147483647 := (vc_X11_walk_w_29 h55 h52 h54)
  refine mr_iconst (pc := 11) (z := (-1)) dX11_walk_11 ?_
  exact mr_iret dX11_walk_12 rfl (le_t rfl) (le_t rfl) hT mF.refl ⟨f_q, q_f_q, (rW (c := (-2147483648)) (d := 2147483647) (rR (x := (-1))) rfl), (vc_X11_walk_w_30 h52 h55 ht_f_q h72), (vc_X11_walk_w_31 h52 h55 ht_f_q h72), (vc_X11_walk_w_32 h52 h55 ht_f_q h72), (vc_X11_walk_w_33 h52 h55 ht_f_q h72), ⟨tabS.refl, fun h => absurd h (vc_X11_walk_w_6 ht_f_q)⟩, trivial⟩
theorem vc_X12_walk_w_1 {p1 z74 : Int} (h0 : ¬ z74 = 0) (h1 : (z74 = 1 → ((-1) : Int) ≤ p1 ∧ p1 ≤ (9 : Int))) (h2 : (z74 = 0 → p1 < ((-1) : Int) ∨ (9 : Int) < p1)) (h3 : (-2147483648) ≤ p1 ∧ p1 ≤ 2147483647) (h4 : 0 ≤ z74 ∧ z74 ≤ 1) : 1 ≤ z74 ∧ z74 ≤ 1 := by omega
theorem vc_X12_walk_w_2 {p1 z74 : Int} (h0 : (z74 = 1 → ((-1) : Int) ≤ p1 ∧ p1 ≤ (9 : Int))) (h1 : (z74 = 0 → p1 < ((-1) : Int) ∨ (9 : Int) < p1)) (h2 : ¬ z74 = 0) (h3 : (-2147483648) ≤ p1 ∧ p1 ≤ 2147483647) (h4 : 1 ≤ z74 ∧ z74 ≤ 1) : z74 = 1 := by omega
theorem vc_X12_walk_w_3 {p1 z74 : Int} (h0 : ((-1) : Int) ≤ p1 ∧ p1 ≤ (9 : Int)) (h1 : (z74 = 1 → ((-1) : Int) ≤ p1 ∧ p1 ≤ (9 : Int))) (h2 : (z74 = 0 → p1 < ((-1) : Int) ∨ (9 : Int) < p1)) (h3 : (-2147483648) ≤ p1 ∧ p1 ≤ 2147483647) (h4 : 1 ≤ z74 ∧ z74 ≤ 1) : (-1) ≤ p1 ∧ p1 ≤ 9 := by omega
theorem vc_X12_walk_w_4 {p1 z74 : Int} (h0 : ¬ p1 = (-1)) (h1 : (z74 = 1 → ((-1) : Int) ≤ p1 ∧ p1 ≤ (9 : Int))) (h2 : (z74 = 0 → p1 < ((-1) : Int) ∨ (9 : Int) < p1)) (h3 : ((-1) : Int) ≤ p1 ∧ p1 ≤ (9 : Int)) (h4 : (-1) ≤ p1 ∧ p1 ≤ 9) (h5 : 1 ≤ z74 ∧ z74 ≤ 1) : 0 ≤ p1 ∧ p1 ≤ 9 := by omega
theorem vc_X12_walk_w_6 {f_q p1 z74 : Int} (h0 : (z74 = 1 → ((-1) : Int) ≤ p1 ∧ p1 ≤ (9 : Int))) (h1 : (z74 = 0 → p1 < ((-1) : Int) ∨ (9 : Int) < p1)) (h2 : ((-1) : Int) ≤ p1 ∧ p1 ≤ (9 : Int)) (h3 : ¬ p1 = (-1)) (h4 : ¬ f_q = 20) (h5 : ¬ z74 = 0) (h6 : 0 ≤ f_q ∧ f_q ≤ 19) (h7 : 0 ≤ p1 ∧ p1 ≤ 9) (h8 : 1 ≤ z74 ∧ z74 ≤ 1) : p1 < -1 ∨ 9 < p1 → (f_q + 1) = -1 ∧ (f_q + 1) = f_q := by omega
theorem vc_X12_walk_w_7 {f_q p1 z74 : Int} (h0 : (z74 = 1 → ((-1) : Int) ≤ p1 ∧ p1 ≤ (9 : Int))) (h1 : (z74 = 0 → p1 < ((-1) : Int) ∨ (9 : Int) < p1)) (h2 : ((-1) : Int) ≤ p1 ∧ p1 ≤ (9 : Int)) (h3 : ¬ p1 = (-1)) (h4 : ¬ f_q = 20) (h5 : ¬ z74 = 0) (h6 : 0 ≤ f_q ∧ f_q ≤ 19) (h7 : 0 ≤ p1 ∧ p1 ≤ 9) (h8 : 1 ≤ z74 ∧ z74 ≤ 1) : p1 = -1 → (f_q + 1) = 0 ∧ (f_q + 1) = 0 := by omega
theorem vc_X12_walk_w_8 {f_q p1 z74 : Int} (h0 : (z74 = 1 → ((-1) : Int) ≤ p1 ∧ p1 ≤ (9 : Int))) (h1 : (z74 = 0 → p1 < ((-1) : Int) ∨ (9 : Int) < p1)) (h2 : ((-1) : Int) ≤ p1 ∧ p1 ≤ (9 : Int)) (h3 : ¬ p1 = (-1)) (h4 : ¬ f_q = 20) (h5 : ¬ z74 = 0) (h6 : 0 ≤ f_q ∧ f_q ≤ 19) (h7 : 0 ≤ p1 ∧ p1 ≤ 9) (h8 : 1 ≤ z74 ∧ z74 ≤ 1) : 0 ≤ p1 → p1 ≤ 9 → f_q = 20 → (f_q + 1) = -3 ∧ (f_q + 1) = f_q := by omega
theorem vc_X12_walk_w_9 {f_q p1 z74 : Int} (h0 : (z74 = 1 → ((-1) : Int) ≤ p1 ∧ p1 ≤ (9 : Int))) (h1 : (z74 = 0 → p1 < ((-1) : Int) ∨ (9 : Int) < p1)) (h2 : ((-1) : Int) ≤ p1 ∧ p1 ≤ (9 : Int)) (h3 : ¬ p1 = (-1)) (h4 : ¬ f_q = 20) (h5 : ¬ z74 = 0) (h6 : 0 ≤ f_q ∧ f_q ≤ 19) (h7 : 0 ≤ p1 ∧ p1 ≤ 9) (h8 : 1 ≤ z74 ∧ z74 ≤ 1) : 0 ≤ p1 → p1 ≤ 9 → f_q < 20 → (f_q + 1) = f_q + 1 ∧ (f_q + 1) = f_q + 1 := by omega
theorem vc_X12_walk_w_10 {f_q : Int} (h0 : ¬ f_q = 20) (h1 : 0 ≤ f_q ∧ f_q ≤ 19) : f_q ≤ f_q := by omega
theorem vc_X12_walk_w_11 {p1 z74 : Int} (h0 : (z74 = 1 → ((-1) : Int) ≤ p1 ∧ p1 ≤ (9 : Int))) (h1 : (z74 = 0 → p1 < ((-1) : Int) ∨ (9 : Int) < p1)) (h2 : ((-1) : Int) ≤ p1 ∧ p1 ≤ (9 : Int)) (h3 : ¬ p1 = (-1)) (h4 : ¬ z74 = 0) (h5 : 0 ≤ p1 ∧ p1 ≤ 9) (h6 : 1 ≤ z74 ∧ z74 ≤ 1) : p1 = p1 := by omega
theorem vc_X12_walk_w_13 {f_q p1 z74 : Int} (h0 : (z74 = 1 → ((-1) : Int) ≤ p1 ∧ p1 ≤ (9 : Int))) (h1 : (z74 = 0 → p1 < ((-1) : Int) ∨ (9 : Int) < p1)) (h2 : ((-1) : Int) ≤ p1 ∧ p1 ≤ (9 : Int)) (h3 : ¬ p1 = (-1)) (h4 : f_q = 20) (h5 : ¬ z74 = 0) (h6 : 20 ≤ f_q ∧ f_q ≤ 20) (h7 : 0 ≤ p1 ∧ p1 ≤ 9) (h8 : 1 ≤ z74 ∧ z74 ≤ 1) : p1 < -1 ∨ 9 < p1 → (-3 : Int) = -1 ∧ f_q = f_q := by omega
theorem vc_X12_walk_w_14 {f_q p1 z74 : Int} (h0 : (z74 = 1 → ((-1) : Int) ≤ p1 ∧ p1 ≤ (9 : Int))) (h1 : (z74 = 0 → p1 < ((-1) : Int) ∨ (9 : Int) < p1)) (h2 : ((-1) : Int) ≤ p1 ∧ p1 ≤ (9 : Int)) (h3 : ¬ p1 = (-1)) (h4 : f_q = 20) (h5 : ¬ z74 = 0) (h6 : 20 ≤ f_q ∧ f_q ≤ 20) (h7 : 0 ≤ p1 ∧ p1 ≤ 9) (h8 : 1 ≤ z74 ∧ z74 ≤ 1) : p1 = -1 → (-3 : Int) = 0 ∧ f_q = 0 := by omega
theorem vc_X12_walk_w_15 {f_q p1 z74 : Int} (h0 : (z74 = 1 → ((-1) : Int) ≤ p1 ∧ p1 ≤ (9 : Int))) (h1 : (z74 = 0 → p1 < ((-1) : Int) ∨ (9 : Int) < p1)) (h2 : ((-1) : Int) ≤ p1 ∧ p1 ≤ (9 : Int)) (h3 : ¬ p1 = (-1)) (h4 : f_q = 20) (h5 : ¬ z74 = 0) (h6 : 20 ≤ f_q ∧ f_q ≤ 20) (h7 : 0 ≤ p1 ∧ p1 ≤ 9) (h8 : 1 ≤ z74 ∧ z74 ≤ 1) : 0 ≤ p1 → p1 ≤ 9 → f_q = 20 → (-3 : Int) = -3 ∧ f_q = f_q := by omega
theorem vc_X12_walk_w_16 {f_q p1 z74 : Int} (h0 : (z74 = 1 → ((-1) : Int) ≤ p1 ∧ p1 ≤ (9 : Int))) (h1 : (z74 = 0 → p1 < ((-1) : Int) ∨ (9 : Int) < p1)) (h2 : ((-1) : Int) ≤ p1 ∧ p1 ≤ (9 : Int)) (h3 : ¬ p1 = (-1)) (h4 : f_q = 20) (h5 : ¬ z74 = 0) (h6 : 20 ≤ f_q ∧ f_q ≤ 20) (h7 : 0 ≤ p1 ∧ p1 ≤ 9) (h8 : 1 ≤ z74 ∧ z74 ≤ 1) : 0 ≤ p1 → p1 ≤ 9 → f_q < 20 → (-3 : Int) = f_q + 1 ∧ f_q = f_q + 1 := by omega
theorem vc_X12_walk_w_17 {f_q : Int} (h0 : f_q = 20) (h1 : 20 ≤ f_q ∧ f_q ≤ 20) : ¬ f_q = f_q + 1 := by omega
theorem vc_X12_walk_w_18 {p1 z74 : Int} (h0 : p1 = (-1)) (h1 : (z74 = 1 → ((-1) : Int) ≤ p1 ∧ p1 ≤ (9 : Int))) (h2 : (z74 = 0 → p1 < ((-1) : Int) ∨ (9 : Int) < p1)) (h3 : ((-1) : Int) ≤ p1 ∧ p1 ≤ (9 : Int)) (h4 : (-1) ≤ p1 ∧ p1 ≤ 9) (h5 : 1 ≤ z74 ∧ z74 ≤ 1) : (-1) ≤ p1 ∧ p1 ≤ (-1) := by omega
theorem vc_X12_walk_w_19 {f_q p1 z74 : Int} (h0 : (z74 = 1 → ((-1) : Int) ≤ p1 ∧ p1 ≤ (9 : Int))) (h1 : (z74 = 0 → p1 < ((-1) : Int) ∨ (9 : Int) < p1)) (h2 : ((-1) : Int) ≤ p1 ∧ p1 ≤ (9 : Int)) (h3 : p1 = (-1)) (h4 : ¬ z74 = 0) (h5 : 0 ≤ f_q ∧ f_q ≤ 20) (h6 : (-1) ≤ p1 ∧ p1 ≤ (-1)) (h7 : 1 ≤ z74 ∧ z74 ≤ 1) : p1 < -1 ∨ 9 < p1 → (0 : Int) = -1 ∧ (0 : Int) = f_q := by omega
theorem vc_X12_walk_w_20 {p1 z74 : Int} (h0 : (z74 = 1 → ((-1) : Int) ≤ p1 ∧ p1 ≤ (9 : Int))) (h1 : (z74 = 0 → p1 < ((-1) : Int) ∨ (9 : Int) < p1)) (h2 : ((-1) : Int) ≤ p1 ∧ p1 ≤ (9 : Int)) (h3 : p1 = (-1)) (h4 : ¬ z74 = 0) (h5 : (-1) ≤ p1 ∧ p1 ≤ (-1)) (h6 : 1 ≤ z74 ∧ z74 ≤ 1) : p1 = -1 → (0 : Int) = 0 ∧ (0 : Int) = 0 := by omega
theorem vc_X12_walk_w_21 {f_q p1 z74 : Int} (h0 : (z74 = 1 → ((-1) : Int) ≤ p1 ∧ p1 ≤ (9 : Int))) (h1 : (z74 = 0 → p1 < ((-1) : Int) ∨ (9 : Int) < p1)) (h2 : ((-1) : Int) ≤ p1 ∧ p1 ≤ (9 : Int)) (h3 : p1 = (-1)) (h4 : ¬ z74 = 0) (h5 : 0 ≤ f_q ∧ f_q ≤ 20) (h6 : (-1) ≤ p1 ∧ p1 ≤ (-1)) (h7 : 1 ≤ z74 ∧ z74 ≤ 1) : 0 ≤ p1 → p1 ≤ 9 → f_q = 20 → (0 : Int) = -3 ∧ (0 : Int) = f_q := by omega
theorem vc_X12_walk_w_22 {f_q p1 z74 : Int} (h0 : (z74 = 1 → ((-1) : Int) ≤ p1 ∧ p1 ≤ (9 : Int))) (h1 : (z74 = 0 → p1 < ((-1) : Int) ∨ (9 : Int) < p1)) (h2 : ((-1) : Int) ≤ p1 ∧ p1 ≤ (9 : Int)) (h3 : p1 = (-1)) (h4 : ¬ z74 = 0) (h5 : 0 ≤ f_q ∧ f_q ≤ 20) (h6 : (-1) ≤ p1 ∧ p1 ≤ (-1)) (h7 : 1 ≤ z74 ∧ z74 ≤ 1) : 0 ≤ p1 → p1 ≤ 9 → f_q < 20 → (0 : Int) = f_q + 1 ∧ (0 : Int) = f_q + 1 := by omega
theorem vc_X12_walk_w_24 {p1 z74 : Int} (h0 : z74 = 0) (h1 : (z74 = 1 → ((-1) : Int) ≤ p1 ∧ p1 ≤ (9 : Int))) (h2 : (z74 = 0 → p1 < ((-1) : Int) ∨ (9 : Int) < p1)) (h3 : (-2147483648) ≤ p1 ∧ p1 ≤ 2147483647) (h4 : 0 ≤ z74 ∧ z74 ≤ 1) : 0 ≤ z74 ∧ z74 ≤ 0 := by omega
theorem vc_X12_walk_w_25 {p1 z74 : Int} (h0 : (z74 = 1 → ((-1) : Int) ≤ p1 ∧ p1 ≤ (9 : Int))) (h1 : (z74 = 0 → p1 < ((-1) : Int) ∨ (9 : Int) < p1)) (h2 : z74 = 0) (h3 : (-2147483648) ≤ p1 ∧ p1 ≤ 2147483647) (h4 : 0 ≤ z74 ∧ z74 ≤ 0) : z74 = 0 := by omega
theorem vc_X12_walk_w_26 {f_q p1 z74 : Int} (h0 : (z74 = 1 → ((-1) : Int) ≤ p1 ∧ p1 ≤ (9 : Int))) (h1 : (z74 = 0 → p1 < ((-1) : Int) ∨ (9 : Int) < p1)) (h2 : p1 < ((-1) : Int) ∨ (9 : Int) < p1) (h3 : z74 = 0) (h4 : 0 ≤ f_q ∧ f_q ≤ 20) (h5 : (-2147483648) ≤ p1 ∧ p1 ≤ 2147483647) (h6 : 0 ≤ z74 ∧ z74 ≤ 0) : p1 < -1 ∨ 9 < p1 → (-1 : Int) = -1 ∧ f_q = f_q := by omega
theorem vc_X12_walk_w_27 {f_q p1 z74 : Int} (h0 : (z74 = 1 → ((-1) : Int) ≤ p1 ∧ p1 ≤ (9 : Int))) (h1 : (z74 = 0 → p1 < ((-1) : Int) ∨ (9 : Int) < p1)) (h2 : p1 < ((-1) : Int) ∨ (9 : Int) < p1) (h3 : z74 = 0) (h4 : 0 ≤ f_q ∧ f_q ≤ 20) (h5 : (-2147483648) ≤ p1 ∧ p1 ≤ 2147483647) (h6 : 0 ≤ z74 ∧ z74 ≤ 0) : p1 = -1 → (-1 : Int) = 0 ∧ f_q = 0 := by omega
theorem vc_X12_walk_w_28 {f_q p1 z74 : Int} (h0 : (z74 = 1 → ((-1) : Int) ≤ p1 ∧ p1 ≤ (9 : Int))) (h1 : (z74 = 0 → p1 < ((-1) : Int) ∨ (9 : Int) < p1)) (h2 : p1 < ((-1) : Int) ∨ (9 : Int) < p1) (h3 : z74 = 0) (h4 : 0 ≤ f_q ∧ f_q ≤ 20) (h5 : (-2147483648) ≤ p1 ∧ p1 ≤ 2147483647) (h6 : 0 ≤ z74 ∧ z74 ≤ 0) : 0 ≤ p1 → p1 ≤ 9 → f_q = 20 → (-1 : Int) = -3 ∧ f_q = f_q := by omega
theorem vc_X12_walk_w_29 {f_q p1 z74 : Int} (h0 : (z74 = 1 → ((-1) : Int) ≤ p1 ∧ p1 ≤ (9 : Int))) (h1 : (z74 = 0 → p1 < ((-1) : Int) ∨ (9 : Int) < p1)) (h2 : p1 < ((-1) : Int) ∨ (9 : Int) < p1) (h3 : z74 = 0) (h4 : 0 ≤ f_q ∧ f_q ≤ 20) (h5 : (-2147483648) ≤ p1 ∧ p1 ≤ 2147483647) (h6 : 0 ≤ z74 ∧ z74 ≤ 0) : 0 ≤ p1 → p1 ≤ 9 → f_q < 20 → (-1 : Int) = f_q + 1 ∧ f_q = f_q + 1 := by omega
set_option maxRecDepth 4000 in
set_option maxHeartbeats 4000000 in
theorem c_X12_walk_w {l : Launch} {D : va_G} {c : Nat → ClassId} {H0 : Heap} {sa : Nat × Nat × (Nat → Int32)} {w : mW} {μ : mM} (hw : mWF w) (hT : mT w μ) {p1 : Int} (hp1 : (-2147483648) ≤ p1 ∧ p1 ≤ 2147483647) {f_q : Int} (q_f_q : μ 106 15 = f_q) : sC (gG l D c H0 sa) mX12_walk 2 0 0 [.ref 106, iv p1] (mk w μ) (qI w [106015, 118999] μ (fun z μ1 => ∃ o_q : Int, μ1 106 15 = o_q ∧ ((-2147483648) ≤ z ∧ z ≤ 2147483647) ∧ (p1 < -1 ∨ 9 < p1 → z = -1 ∧ o_q = f_q) ∧ (p1 = -1 → z = 0 ∧ o_q = 0) ∧ (0 ≤ p1 → p1 ≤ 9 → f_q = 20 → z = -3 ∧ o_q = f_q) ∧ (0 ≤ p1 → p1 ≤ 9 → f_q < 20 → z = f_q + 1 ∧ o_q = f_q + 1) ∧ (wkT μ μ1 118 f_q o_q p1) ∧ True)) := by
  refine sC.of rfl (by decide) (le_t rfl) ?_
  have ht_f_q : (0 ≤ f_q ∧ f_q ≤ 20) := by rw [← q_f_q]; exact hT 106 106 (A_106 hw) 15
  refine mr_lvE (lv' := [(0, .ref 106), (1, iv p1)]) rfl ?_
  refine mr_iload_n (pc := 0) (z := p1) dX12_walk_0 rfl rfl ?_
  refine mr_iconst (pc := 1) (z := (-1)) dX12_walk_1 ?_
  refine mr_bipush (pc := 2) (z := 9) dX12_walk_2 (by decide) ?_
  refine mr_cSP (pc := 4) (c_X12_in hw hT hp1 (rW (c := (-2147483648)) (d := 2147483647) (rR (x := (-1))) rfl) (rW (c := (-2147483648)) (d := 2147483647) (rR (x := 9)) rfl)) (gOk _ _ _ _ _) dX12_walk_4 (tX12_in _ _ _ _ _) wS_X12_in wM_X12_18 ⟨le_t rfl, le_t rfl⟩ ⟨le_t rfl, le_t rfl⟩ rfl (le_t rfl) fun z74 h73 => ?_
  refine mr_if_ne (pc := 7) (tgt := 12) dX12_walk_7 (by decide) (r32 h73.1 rfl) (fun h75 => ?_) (fun h75 => ?_)
  · have h76 : 1 ≤ z74 ∧ z74 ≤ 1 := (vc_X12_walk_w_1 h75 h73.2.1 h73.2.2.1 hp1 h73.1)
    have h77 : ((-1) : Int) ≤ p1 ∧ p1 ≤ (9 : Int) := (h73.2.1 (vc_X12_walk_w_2 h73.2.1 h73.2.2.1 h75 hp1 h76))
    have h78 : (-1) ≤ p1 ∧ p1 ≤ 9 := (vc_X12_walk_w_3 h77 h73.2.1 h73.2.2.1 hp1 h76)
    refine mr_iload_n (pc := 12) (z := p1) dX12_walk_12 rfl rfl ?_
    refine mr_iconst (pc := 13) (z := (-1)) dX12_walk_13 ?_
    refine mr_icmp_ne (pc := 14) (tgt := 24) dX12_walk_14 (by decide) (r32 h78 rfl) (r32 (rR (x := (-1))) rfl) (fun h79 => ?_) (fun h79 => ?_)
    · have h80 : 0 ≤ p1 ∧ p1 ≤ 9 := (vc_X12_walk_w_4 h79 h73.2.1 h73.2.2.1 h77 h78 h76)
      refine sv_aload_n (pc := 24) dX12_walk_24 rfl rfl ?_
      refine gk_X12_15 (pc := 25) dX12_walk_25 wF_X12_79 (A_106 hw) q_f_q ?_
      refine mr_bipush (pc := 28) (z := 20) dX12_walk_28 (by decide) ?_
      refine mr_icmp_ne (pc := 30) (tgt := 36) dX12_walk_30 (by decide) (r32 ht_f_q rfl) (r32 (rR (x := 20)) rfl) (fun h81 => ?_) (fun h81 => ?_)
      · have h82 : 0 ≤ f_q ∧ f_q ≤ 19 := (vc_X12_front_2 h81 ht_f_q)
        refine sv_aload_n (pc := 36) dX12_walk_36 rfl rfl ?_
        refine gf_X12_16 (pc := 37) dX12_walk_37 wF_X12_82 (A_106 hw) hT ?_
        refine sv_aload_n (pc := 40) dX12_walk_40 rfl rfl ?_
        refine gk_X12_15 (pc := 41) dX12_walk_41 wF_X12_79 (A_106 hw) q_f_q ?_
        refine mr_iload_n (pc := 44) (z := p1) dX12_walk_44 rfl rfl ?_
        refine ss_118 (pc := 45) dX12_walk_45 (A_118 hw) hT (rIx (n := 20) h82 rfl) h80 fun μ83 u84 T85 => ?_
        refine sv_aload_n (pc := 46) dX12_walk_46 rfl rfl ?_
        refine sv_dup (pc := 47) dX12_walk_47 rfl ?_
        refine gk_X12_15 (pc := 48) dX12_walk_48 wF_X12_79 (A_106 hw) (u84.f (Or.inl (mAt.ne (A_118 hw) (A_106 hw) rfl)) q_f_q) ?_
        refine mr_iconst (pc := 51) (z := 1) dX12_walk_51 ?_
        refine mr_iadd (pc := 52) (x := f_q) (y := 1) dX12_walk_52 ?_
        refine pf_X12_15 (pc := 53) dX12_walk_53 wF_X12_79 (A_106 hw) T85 (rW (c := 0) (d := 20) (rAdd (e := 1) (f := 20) h82 (rR (x := 1)) rfl) rfl) fun μ86 u87 T88 => ?_
        refine sv_aload_n (pc := 56) dX12_walk_56 rfl rfl ?_
        refine gk_X12_15 (pc := 57) dX12_walk_57 wF_X12_79 (A_106 hw) u87.1 ?_
        exact mr_iret dX12_walk_60 rfl (le_t rfl) (le_t rfl) T88 (mF.up (mF.up mF.refl (A_118 hw) u84 rfl) (A_106 hw) u87 rfl) ⟨(f_q + 1), u87.1, (rW (c := (-2147483648)) (d := 2147483647) (rAdd (e := 1) (f := 20) h82 (rR (x := 1)) rfl) rfl), (vc_X12_walk_w_6 h73.2.1 h73.2.2.1 h77 h79 h81 h75 h82 h80 h76), (vc_X12_walk_w_7 h73.2.1 h73.2.2.1 h77 h79 h81 h75 h82 h80 h76), (vc_X12_walk_w_8 h73.2.1 h73.2.2.1 h77 h79 h81 h75 h82 h80 h76), (vc_X12_walk_w_9 h73.2.1 h73.2.2.1 h77 h79 h81 h75 h82 h80 h76), ⟨(tabS.oth (tabS.up tabS.refl u84 (vc_X12_walk_w_10 h81 h82)) u87 rfl), fun _ => (u87.f (Or.inl (mAt.ne (A_106 hw) (A_118 hw) rfl)) u84.1).trans (vc_X12_walk_w_11 h73.2.1 h73.2.2.1 h77 h79 h75 h80 h76)⟩, trivial⟩
      have h89 : 20 ≤ f_q ∧ f_q ≤ 20 := (vc_X12_front_21 h81 ht_f_q)
      refine mr_bipush (pc := 33) (z := (-3)) dX12_walk_33 (by decide) ?_
      exact mr_iret dX12_walk_35 rfl (le_t rfl) (le_t rfl) hT mF.refl ⟨f_q, q_f_q, (rW (c := (-2147483648)) (d := 2147483647) (rR (x := (-3))) rfl), (vc_X12_walk_w_13 h73.2.1 h73.2.2.1 h77 h79 h81 h75 h89 h80 h76), (vc_X12_walk_w_14 h73.2.1 h73.2.2.1 h77 h79 h81 h75 h89 h80 h76), (vc_X12_walk_w_15 h73.2.1 h73.2.2.1 h77 h79 h81 h75 h89 h80 h76), (vc_X12_walk_w_16 h73.2.1 h73.2.2.1 h77 h79 h81 h75 h89 h80 h76), ⟨tabS.refl, fun h => absurd h (vc_X12_walk_w_17 h81 h89)⟩, trivial⟩
    have h90 : (-1) ≤ p1 ∧ p1 ≤ (-1) := (vc_X12_walk_w_18 h79 h73.2.1 h73.2.2.1 h77 h78 h76)
    refine sv_aload_n (pc := 17) dX12_walk_17 rfl rfl ?_
    refine mr_iconst (pc := 18) (z := 0) dX12_walk_18 ?_
    refine pf_X12_15 (pc := 19) dX12_walk_19 wF_X12_79 (A_106 hw) hT (rW (c := 0) (d := 20) (rR (x := 0)) rfl) fun μ91 u92 T93 => ?_
    refine mr_iconst (pc := 22) (z := 0) dX12_walk_22 ?_
    exact mr_iret dX12_walk_23 rfl (le_t rfl) (le_t rfl) T93 (mF.up mF.refl (A_106 hw) u92 rfl) ⟨0, u92.1, (rW (c := (-2147483648)) (d := 2147483647) (rR (x := 0)) rfl), (vc_X12_walk_w_19 h73.2.1 h73.2.2.1 h77 h79 h75 ht_f_q h90 h76), (vc_X12_walk_w_20 h73.2.1 h73.2.2.1 h77 h79 h75 h90 h76), (vc_X12_walk_w_21 h73.2.1 h73.2.2.1 h77 h79 h75 ht_f_q h90 h76), (vc_X12_walk_w_22 h73.2.1 h73.2.2.1 h77 h79 h75 ht_f_q h90 h76), ⟨(tabS.oth tabS.refl u92 rfl), fun h => absurd h (vc_X11_walk_w_28 ht_f_q)⟩, trivial⟩
  have h94 : 0 ≤ z74 ∧ z74 ≤ 0 := (vc_X12_walk_w_24 h75 h73.2.1 h73.2.2.1 hp1 h73.1)
  have h95 : p1 < ((-1) : Int) ∨ (9 : Int) < p1 := (h73.2.2.1 (vc_X12_walk_w_25 h73.2.1 h73.2.2.1 h75 hp1 h94))
  refine mr_iconst (pc := 10) (z := (-1)) dX12_walk_10 ?_
  exact mr_iret dX12_walk_11 rfl (le_t rfl) (le_t rfl) hT mF.refl ⟨f_q, q_f_q, (rW (c := (-2147483648)) (d := 2147483647) (rR (x := (-1))) rfl), (vc_X12_walk_w_26 h73.2.1 h73.2.2.1 h95 h75 ht_f_q hp1 h94), (vc_X12_walk_w_27 h73.2.1 h73.2.2.1 h95 h75 ht_f_q hp1 h94), (vc_X12_walk_w_28 h73.2.1 h73.2.2.1 h95 h75 ht_f_q hp1 h94), (vc_X12_walk_w_29 h73.2.1 h73.2.2.1 h95 h75 ht_f_q hp1 h94), ⟨tabS.refl, fun h => absurd h (vc_X11_walk_w_6 ht_f_q)⟩, trivial⟩
theorem vc_X9_sideOf_v_1 {n0 p1 z1 z6 : Int} (h0 : z1 < n0) (h1 : ¬ p1 = z1) (h2 : ¬ p1 = z6) (h3 : z6 < n0) (h4 : (-2147483648) ≤ p1 ∧ p1 ≤ 2147483647) (h5 : 0 ≤ z1 ∧ z1 ≤ 9) (h6 : 0 ≤ z6 ∧ z6 ≤ 9) : (z1 = p1 → ((-1) : Int) = 0) ∧ (¬ z1 = p1 → ¬ ((-1) : Int) = 0) := by omega
theorem vc_X9_sideOf_v_3 {n0 p1 z1 z6 : Int} (h0 : z1 < n0) (h1 : ¬ p1 = z1) (h2 : p1 = z6) (h3 : z6 < n0) (h4 : 0 ≤ p1 ∧ p1 ≤ 9) (h5 : 0 ≤ z1 ∧ z1 ≤ 9) (h6 : 0 ≤ z6 ∧ z6 ≤ 9) : (z1 = p1 → (1 : Int) = 0) ∧ (¬ z1 = p1 → ¬ (1 : Int) = 0) := by omega
theorem vc_X9_sideOf_v_5 {n0 p1 z1 : Int} (h0 : z1 < n0) (h1 : p1 = z1) (h2 : 0 ≤ p1 ∧ p1 ≤ 9) (h3 : 0 ≤ z1 ∧ z1 ≤ 9) : (z1 = p1 → (0 : Int) = 0) ∧ (¬ z1 = p1 → ¬ (0 : Int) = 0) := by omega
set_option maxRecDepth 4000 in
set_option maxHeartbeats 4000000 in
theorem c_X9_sideOf_v {l : Launch} {D : va_G} {c : Nat → ClassId} {H0 : Heap} {sa : Nat × Nat × (Nat → Int32)} {w : mW} {μ : mM} (hw : mWF w) (hT : mT w μ) {a0 : Nat} (hA0 : mAt w a0 220) {p1 : Int} (hp1 : (-2147483648) ≤ p1 ∧ p1 ≤ 2147483647) : sC (gG l D c H0 sa) mX9_sideOf 1 0 0 [.ref a0, iv p1] (mk w μ) (qP w μ (fun z => ((-1) ≤ z ∧ z ≤ 1) ∧ ((μ a0 0 = p1 → z = 0) ∧ (¬ μ a0 0 = p1 → ¬ z = 0)) ∧ True)) := by
  refine sC.of rfl (by decide) (le_t rfl) ?_
  refine mr_lvE (lv' := [(0, .ref a0), (1, iv p1)]) rfl ?_
  refine mr_iload_n (pc := 0) (z := p1) dX9_sideOf_0 rfl rfl ?_
  refine sv_aload_n (pc := 1) dX9_sideOf_1 rfl rfl ?_
  refine gf_X9_0 (pc := 2) dX9_sideOf_2 wF_X9_9 hA0 hT fun z1 q2 h3 => ?_
  have h4 : 0 ≤ z1 ∧ z1 ≤ 9 := ⟨h3.1, h3.2.1⟩
  refine mr_icmp_ne (pc := 5) (tgt := 10) dX9_sideOf_5 (by decide) hp1 (r32 h4 rfl) (fun h5 => ?_) (fun h5 => ?_)
  · refine mr_iload_n (pc := 10) (z := p1) dX9_sideOf_10 rfl rfl ?_
    refine sv_aload_n (pc := 11) dX9_sideOf_11 rfl rfl ?_
    refine gf_X9_1 (pc := 12) dX9_sideOf_12 wF_X9_15 hA0 hT fun z6 q7 h8 => ?_
    have h9 : 0 ≤ z6 ∧ z6 ≤ 9 := ⟨h8.1, h8.2.1⟩
    refine mr_icmp_ne (pc := 15) (tgt := 22) dX9_sideOf_15 (by decide) hp1 (r32 h9 rfl) (fun h10 => ?_) (fun h10 => ?_)
    · refine mr_iconst (pc := 22) (z := (-1)) dX9_sideOf_22 ?_
      exact mr_iretP dX9_sideOf_23 rfl (le_t rfl) (le_t rfl) ⟨(rW (c := (-1)) (d := 1) (rR (x := (-1))) rfl), (by rw [q2]; exact (vc_X9_sideOf_v_1 h3.2.2 h5 h10 h8.2.2 hp1 h4 h9)), trivial⟩
    have h11 : 0 ≤ p1 ∧ p1 ≤ 9 := (vc_X9_sideOf_1 h10 h5 h8.2.2 hp1 h4 h9)
    refine mr_iconst (pc := 18) (z := 1) dX9_sideOf_18 ?_
    refine sv_goto (pc := 19) (tgt := 23) dX9_sideOf_19 (by decide) ?_
    exact mr_iretP dX9_sideOf_23 rfl (le_t rfl) (le_t rfl) ⟨(rW (c := (-1)) (d := 1) (rR (x := 1)) rfl), (by rw [q2]; exact (vc_X9_sideOf_v_3 h3.2.2 h5 h10 h8.2.2 h11 h4 h9)), trivial⟩
  have h12 : 0 ≤ p1 ∧ p1 ≤ 9 := (vc_X9_sideOf_2 h5 h3.2.2 hp1 h4)
  refine mr_iconst (pc := 8) (z := 0) dX9_sideOf_8 ?_
  exact mr_iretP dX9_sideOf_9 rfl (le_t rfl) (le_t rfl) ⟨(rW (c := (-1)) (d := 1) (rR (x := 0)) rfl), (by rw [q2]; exact (vc_X9_sideOf_v_5 h3.2.2 h5 h12 h4)), trivial⟩
theorem vc_X9_partnerRole_v_2 {p1 z1 : Int} (h0 : ¬ z1 = 1) (h1 : ¬ z1 = 2) (h2 : ¬ p1 = 0) (h3 : (-2147483648) ≤ p1 ∧ p1 ≤ 2147483647) (h4 : 0 ≤ z1 ∧ z1 ≤ 1) : (z1 = 1 → (1 : Int) = 2) ∧ (z1 = 2 → (1 : Int) = 3) ∧ (¬ z1 = 1 → ¬ z1 = 2 → p1 = 0 → (1 : Int) = 0) ∧ (¬ z1 = 1 → ¬ z1 = 2 → ¬ p1 = 0 → (1 : Int) = 1) := by omega
theorem vc_X9_partnerRole_v_4 {p1 z1 : Int} (h0 : ¬ z1 = 1) (h1 : ¬ z1 = 2) (h2 : p1 = 0) (h3 : 0 ≤ p1 ∧ p1 ≤ 0) (h4 : 0 ≤ z1 ∧ z1 ≤ 1) : (z1 = 1 → (0 : Int) = 2) ∧ (z1 = 2 → (0 : Int) = 3) ∧ (¬ z1 = 1 → ¬ z1 = 2 → p1 = 0 → (0 : Int) = 0) ∧ (¬ z1 = 1 → ¬ z1 = 2 → ¬ p1 = 0 → (0 : Int) = 1) := by omega
theorem vc_X9_partnerRole_v_6 {p1 z1 : Int} (h0 : ¬ z1 = 1) (h1 : z1 = 2) (h2 : (-2147483648) ≤ p1 ∧ p1 ≤ 2147483647) (h3 : 2 ≤ z1 ∧ z1 ≤ 2) : (z1 = 1 → (3 : Int) = 2) ∧ (z1 = 2 → (3 : Int) = 3) ∧ (¬ z1 = 1 → ¬ z1 = 2 → p1 = 0 → (3 : Int) = 0) ∧ (¬ z1 = 1 → ¬ z1 = 2 → ¬ p1 = 0 → (3 : Int) = 1) := by omega
theorem vc_X9_partnerRole_v_8 {p1 z1 : Int} (h0 : z1 = 1) (h1 : (-2147483648) ≤ p1 ∧ p1 ≤ 2147483647) (h2 : 1 ≤ z1 ∧ z1 ≤ 1) : (z1 = 1 → (2 : Int) = 2) ∧ (z1 = 2 → (2 : Int) = 3) ∧ (¬ z1 = 1 → ¬ z1 = 2 → p1 = 0 → (2 : Int) = 0) ∧ (¬ z1 = 1 → ¬ z1 = 2 → ¬ p1 = 0 → (2 : Int) = 1) := by omega
set_option maxRecDepth 4000 in
set_option maxHeartbeats 4000000 in
theorem c_X9_partnerRole_v {l : Launch} {D : va_G} {c : Nat → ClassId} {H0 : Heap} {sa : Nat × Nat × (Nat → Int32)} {w : mW} {μ : mM} (hw : mWF w) (hT : mT w μ) {a0 : Nat} (hA0 : mAt w a0 220) {p1 : Int} (hp1 : (-2147483648) ≤ p1 ∧ p1 ≤ 2147483647) : sC (gG l D c H0 sa) mX9_partnerRole 1 0 0 [.ref a0, iv p1] (mk w μ) (qP w μ (fun z => (0 ≤ z ∧ z ≤ 3) ∧ ((μ a0 2 = 1 → z = 2) ∧ (μ a0 2 = 2 → z = 3) ∧ (¬ μ a0 2 = 1 → ¬ μ a0 2 = 2 → p1 = 0 → z = 0) ∧ (¬ μ a0 2 = 1 → ¬ μ a0 2 = 2 → ¬ p1 = 0 → z = 1)) ∧ True)) := by
  refine sC.of rfl (by decide) (le_t rfl) ?_
  refine mr_lvE (lv' := [(0, .ref a0), (1, iv p1)]) rfl ?_
  refine sv_aload_n (pc := 0) dX9_partnerRole_0 rfl rfl ?_
  refine gf_X9_2 (pc := 1) dX9_partnerRole_1 wF_X9_18 hA0 hT fun z1 q2 h3 => ?_
  refine mr_iconst (pc := 4) (z := 1) dX9_partnerRole_4 ?_
  refine mr_icmp_ne (pc := 5) (tgt := 10) dX9_partnerRole_5 (by decide) (r32 h3 rfl) (r32 (rR (x := 1)) rfl) (fun h4 => ?_) (fun h4 => ?_)
  · refine sv_aload_n (pc := 10) dX9_partnerRole_10 rfl rfl ?_
    refine gk_X9_2 (pc := 11) dX9_partnerRole_11 wF_X9_18 hA0 q2 ?_
    refine mr_iconst (pc := 14) (z := 2) dX9_partnerRole_14 ?_
    refine mr_icmp_ne (pc := 15) (tgt := 20) dX9_partnerRole_15 (by decide) (r32 h3 rfl) (r32 (rR (x := 2)) rfl) (fun h5 => ?_) (fun h5 => ?_)
    · have h6 : 0 ≤ z1 ∧ z1 ≤ 1 := (vc_X9_partnerRole_1 h5 h4 h3)
      refine mr_iload_n (pc := 20) (z := p1) dX9_partnerRole_20 rfl rfl ?_
      refine mr_if_ne (pc := 21) (tgt := 28) dX9_partnerRole_21 (by decide) hp1 (fun h7 => ?_) (fun h7 => ?_)
      · refine mr_iconst (pc := 28) (z := 1) dX9_partnerRole_28 ?_
        exact mr_iretP dX9_partnerRole_29 rfl (le_t rfl) (le_t rfl) ⟨(rW (c := 0) (d := 3) (rR (x := 1)) rfl), (by rw [q2]; exact (vc_X9_partnerRole_v_2 h4 h5 h7 hp1 h6)), trivial⟩
      have h8 : 0 ≤ p1 ∧ p1 ≤ 0 := (vc_X12_mask_1 h7 hp1)
      refine mr_iconst (pc := 24) (z := 0) dX9_partnerRole_24 ?_
      refine sv_goto (pc := 25) (tgt := 29) dX9_partnerRole_25 (by decide) ?_
      exact mr_iretP dX9_partnerRole_29 rfl (le_t rfl) (le_t rfl) ⟨(rW (c := 0) (d := 3) (rR (x := 0)) rfl), (by rw [q2]; exact (vc_X9_partnerRole_v_4 h4 h5 h7 h8 h6)), trivial⟩
    have h9 : 2 ≤ z1 ∧ z1 ≤ 2 := (vc_X9_partnerRole_3 h5 h4 h3)
    refine mr_iconst (pc := 18) (z := 3) dX9_partnerRole_18 ?_
    exact mr_iretP dX9_partnerRole_19 rfl (le_t rfl) (le_t rfl) ⟨(rW (c := 0) (d := 3) (rR (x := 3)) rfl), (by rw [q2]; exact (vc_X9_partnerRole_v_6 h4 h5 hp1 h9)), trivial⟩
  have h10 : 1 ≤ z1 ∧ z1 ≤ 1 := (vc_X9_partnerRole_4 h4 h3)
  refine mr_iconst (pc := 8) (z := 2) dX9_partnerRole_8 ?_
  exact mr_iretP dX9_partnerRole_9 rfl (le_t rfl) (le_t rfl) ⟨(rW (c := 0) (d := 3) (rR (x := 2)) rfl), (by rw [q2]; exact (vc_X9_partnerRole_v_8 h4 hp1 h10)), trivial⟩
theorem vc_X10_firstWrongStep_v_2 {p2 z1133 : Int} (h0 : p2 ≤ (z1133 + 1)) (h1 : 0 ≤ p2 ∧ p2 ≤ 20) (h2 : 0 ≤ z1133 ∧ z1133 ≤ 19) : p2 ≤ z1133 + 1 := by omega
theorem vc_X10_firstWrongStep_v_3 {p2 z1133 : Int} (h0 : (z1133 + 1) < p2) (h1 : 0 ≤ p2 ∧ p2 ≤ 20) (h2 : 0 ≤ z1133 ∧ z1133 ≤ 19) : 0 ≤ z1133 ∧ z1133 ≤ 18 := by omega
theorem vc_X10_firstWrongStep_v_4 {p2 z1133 : Int} (h0 : (z1133 + 1) < p2) (h1 : 0 ≤ p2 ∧ p2 ≤ 20) (h2 : 0 ≤ z1133 ∧ z1133 ≤ 18) : 2 ≤ p2 ∧ p2 ≤ 20 := by omega
theorem vc_X10_firstWrongStep_v_6 {f_n n1 z1157 : Int} (h0 : f_n = n1) (h1 : z1157 < n1) (h2 : 0 ≤ z1157) (h3 : 0 ≤ f_n ∧ f_n ≤ 20) (h4 : 0 ≤ z1157 ∧ z1157 ≤ 19) : z1157 < n1 := by omega
theorem vc_X10_firstWrongStep_v_7 {f_n n1 z1157 : Int} (h0 : z1157 < n1) (h1 : 0 ≤ z1157) (h2 : f_n = n1) (h3 : 0 ≤ f_n ∧ f_n ≤ 20) (h4 : 0 ≤ z1157 ∧ z1157 ≤ 19) : 0 ≤ z1157 := by omega
theorem vc_X10_firstWrongStep_v_8 {z1147 z1167 z1172 z1173 z1176 : Int} (h0 : z1172 = 1) (h1 : (z1176 = z1147 → z1167 = 0) ∧ (¬ z1176 = z1147 → ¬ z1167 = 0)) (h2 : (z1173 = 1 → z1172 = 2) ∧ (z1173 = 2 → z1172 = 3) ∧ (¬ z1173 = 1 → ¬ z1173 = 2 → z1167 = 0 → z1172 = 0) ∧ (¬ z1173 = 1 → ¬ z1173 = 2 → ¬ z1167 = 0 → z1172 = 1)) (h3 : 0 ≤ z1147 ∧ z1147 ≤ 9) (h4 : (-1) ≤ z1167 ∧ z1167 ≤ 1) (h5 : 0 ≤ z1172 ∧ z1172 ≤ 3) (h6 : 0 ≤ z1173 ∧ z1173 ≤ 2) (h7 : 0 ≤ z1176 ∧ z1176 ≤ 9) : 1 ≤ z1172 ∧ z1172 ≤ 1 := by omega
theorem vc_X10_firstWrongStep_v_13 {N p2 z1133 : Int} (h0 : (20 - z1133) < N + 1) (h1 : (z1133 + 1) < p2) (h2 : 2 ≤ p2 ∧ p2 ≤ 20) (h3 : 0 ≤ z1133 ∧ z1133 ≤ 18) : (20 - (z1133 + 1)) < N := by omega
theorem vc_X10_firstWrongStep_v_14 {n0 p2 z1133 z1134 z1147 z1167 z1172 z1173 z1176 z1182 : Int} (h0 : (z1133 + 1) < p2) (h1 : z1176 < n0) (h2 : (z1176 = z1147 → z1167 = 0) ∧ (¬ z1176 = z1147 → ¬ z1167 = 0)) (h3 : (z1173 = 1 → z1172 = 2) ∧ (z1173 = 2 → z1172 = 3) ∧ (¬ z1173 = 1 → ¬ z1173 = 2 → z1167 = 0 → z1172 = 0) ∧ (¬ z1173 = 1 → ¬ z1173 = 2 → ¬ z1167 = 0 → z1172 = 1)) (h4 : ((z1173 = 2 ∧ z1182 = 0) ∨ (z1173 = 1 ∧ z1182 = 1) ∨ (¬ z1173 = 2 ∧ ¬ z1173 = 1 ∧ z1176 = z1147 ∧ z1182 = 2) ∨ (¬ z1173 = 2 ∧ ¬ z1173 = 1 ∧ ¬ z1176 = z1147 ∧ z1182 = 3))) (h5 : z1172 = 1) (h6 : z1134 = 0) (h7 : 2 ≤ p2 ∧ p2 ≤ 20) (h8 : 0 ≤ z1133 ∧ z1133 ≤ 18) (h9 : 0 ≤ z1134 ∧ z1134 ≤ 0) (h10 : 0 ≤ z1147 ∧ z1147 ≤ 9) (h11 : (-1) ≤ z1167 ∧ z1167 ≤ 1) (h12 : 1 ≤ z1172 ∧ z1172 ≤ 1) (h13 : 0 ≤ z1173 ∧ z1173 ≤ 2) (h14 : 0 ≤ z1176 ∧ z1176 ≤ 9) (h15 : 0 ≤ z1182 ∧ z1182 ≤ 3) : 0 ≤ z1133 ∧ z1133 + 1 < p2 := by omega
theorem vc_X10_firstWrongStep_v_15 {p2 z1133 : Int} (h0 : (z1133 + 1) < p2) (h1 : 2 ≤ p2 ∧ p2 ≤ 20) (h2 : 0 ≤ z1133 ∧ z1133 ≤ 18) : 0 ≤ z1133 ∧ (z1133 + 1) = z1133 + 1 := by omega
theorem vc_X10_firstWrongStep_v_16 {n0 p2 z1133 z1134 z1147 z1167 z1172 z1173 z1176 z1182 : Int} (h0 : (z1133 + 1) < p2) (h1 : z1176 < n0) (h2 : (z1176 = z1147 → z1167 = 0) ∧ (¬ z1176 = z1147 → ¬ z1167 = 0)) (h3 : (z1173 = 1 → z1172 = 2) ∧ (z1173 = 2 → z1172 = 3) ∧ (¬ z1173 = 1 → ¬ z1173 = 2 → z1167 = 0 → z1172 = 0) ∧ (¬ z1173 = 1 → ¬ z1173 = 2 → ¬ z1167 = 0 → z1172 = 1)) (h4 : ((z1173 = 2 ∧ z1182 = 0) ∨ (z1173 = 1 ∧ z1182 = 1) ∨ (¬ z1173 = 2 ∧ ¬ z1173 = 1 ∧ z1176 = z1147 ∧ z1182 = 2) ∨ (¬ z1173 = 2 ∧ ¬ z1173 = 1 ∧ ¬ z1176 = z1147 ∧ z1182 = 3))) (h5 : z1172 = 1) (h6 : z1134 = 0) (h7 : 2 ≤ p2 ∧ p2 ≤ 20) (h8 : 0 ≤ z1133 ∧ z1133 ≤ 18) (h9 : 0 ≤ z1134 ∧ z1134 ≤ 0) (h10 : 0 ≤ z1147 ∧ z1147 ≤ 9) (h11 : (-1) ≤ z1167 ∧ z1167 ≤ 1) (h12 : 1 ≤ z1172 ∧ z1172 ≤ 1) (h13 : 0 ≤ z1173 ∧ z1173 ≤ 2) (h14 : 0 ≤ z1176 ∧ z1176 ≤ 9) (h15 : 0 ≤ z1182 ∧ z1182 ≤ 3) : (z1182 = 0 ∧ (0 : Int) = z1134) ∨ (z1182 = 3 ∧ z1134 = 0 ∧ (0 : Int) = z1134) ∨ (z1182 = 1 ∧ z1134 = 0 ∧ (0 : Int) = 1) ∨ (z1182 = 2 ∧ (0 : Int) = 1) := by omega
theorem vc_X10_firstWrongStep_v_19 {p2 z1133 z1134 : Int} (h0 : (z1133 + 1) < p2) (h1 : ¬ z1134 = 0) (h2 : 2 ≤ p2 ∧ p2 ≤ 20) (h3 : 0 ≤ z1133 ∧ z1133 ≤ 18) (h4 : 1 ≤ z1134 ∧ z1134 ≤ 1) : 0 ≤ z1133 ∧ z1133 + 1 < p2 := by omega
theorem vc_X10_firstWrongStep_v_20 {n0 p2 z1133 z1134 z1147 z1167 z1172 z1173 z1176 z1182 : Int} (h0 : (z1133 + 1) < p2) (h1 : z1176 < n0) (h2 : (z1176 = z1147 → z1167 = 0) ∧ (¬ z1176 = z1147 → ¬ z1167 = 0)) (h3 : (z1173 = 1 → z1172 = 2) ∧ (z1173 = 2 → z1172 = 3) ∧ (¬ z1173 = 1 → ¬ z1173 = 2 → z1167 = 0 → z1172 = 0) ∧ (¬ z1173 = 1 → ¬ z1173 = 2 → ¬ z1167 = 0 → z1172 = 1)) (h4 : ((z1173 = 2 ∧ z1182 = 0) ∨ (z1173 = 1 ∧ z1182 = 1) ∨ (¬ z1173 = 2 ∧ ¬ z1173 = 1 ∧ z1176 = z1147 ∧ z1182 = 2) ∨ (¬ z1173 = 2 ∧ ¬ z1173 = 1 ∧ ¬ z1176 = z1147 ∧ z1182 = 3))) (h5 : z1172 = 1) (h6 : ¬ z1134 = 0) (h7 : 2 ≤ p2 ∧ p2 ≤ 20) (h8 : 0 ≤ z1133 ∧ z1133 ≤ 18) (h9 : 1 ≤ z1134 ∧ z1134 ≤ 1) (h10 : 0 ≤ z1147 ∧ z1147 ≤ 9) (h11 : (-1) ≤ z1167 ∧ z1167 ≤ 1) (h12 : 1 ≤ z1172 ∧ z1172 ≤ 1) (h13 : 0 ≤ z1173 ∧ z1173 ≤ 2) (h14 : 0 ≤ z1176 ∧ z1176 ≤ 9) (h15 : 0 ≤ z1182 ∧ z1182 ≤ 3) : z1182 = -1 ∨ (z1134 = 1 ∧ (z1182 = 1 ∨ z1182 = 3)) := by omega
theorem vc_X10_firstWrongStep_v_21 {z1147 z1167 z1172 z1173 z1176 : Int} (h0 : z1172 = 2) (h1 : (z1176 = z1147 → z1167 = 0) ∧ (¬ z1176 = z1147 → ¬ z1167 = 0)) (h2 : (z1173 = 1 → z1172 = 2) ∧ (z1173 = 2 → z1172 = 3) ∧ (¬ z1173 = 1 → ¬ z1173 = 2 → z1167 = 0 → z1172 = 0) ∧ (¬ z1173 = 1 → ¬ z1173 = 2 → ¬ z1167 = 0 → z1172 = 1)) (h3 : ¬ z1172 = 1) (h4 : ¬ z1172 = 2) (h5 : 0 ≤ z1147 ∧ z1147 ≤ 9) (h6 : (-1) ≤ z1167 ∧ z1167 ≤ 1) (h7 : 0 ≤ z1172 ∧ z1172 ≤ 3) (h8 : 0 ≤ z1173 ∧ z1173 ≤ 2) (h9 : 0 ≤ z1176 ∧ z1176 ≤ 9) : 2 ≤ z1172 ∧ z1172 ≤ 2 := by omega
theorem vc_X10_firstWrongStep_v_22 {n0 p2 z1133 z1134 z1147 z1167 z1172 z1173 z1176 z1182 : Int} (h0 : (z1133 + 1) < p2) (h1 : z1176 < n0) (h2 : (z1176 = z1147 → z1167 = 0) ∧ (¬ z1176 = z1147 → ¬ z1167 = 0)) (h3 : (z1173 = 1 → z1172 = 2) ∧ (z1173 = 2 → z1172 = 3) ∧ (¬ z1173 = 1 → ¬ z1173 = 2 → z1167 = 0 → z1172 = 0) ∧ (¬ z1173 = 1 → ¬ z1173 = 2 → ¬ z1167 = 0 → z1172 = 1)) (h4 : ((z1173 = 2 ∧ z1182 = 0) ∨ (z1173 = 1 ∧ z1182 = 1) ∨ (¬ z1173 = 2 ∧ ¬ z1173 = 1 ∧ z1176 = z1147 ∧ z1182 = 2) ∨ (¬ z1173 = 2 ∧ ¬ z1173 = 1 ∧ ¬ z1176 = z1147 ∧ z1182 = 3))) (h5 : ¬ z1172 = 1) (h6 : ¬ z1172 = 2) (h7 : z1134 = 0) (h8 : z1172 = 2) (h9 : 2 ≤ p2 ∧ p2 ≤ 20) (h10 : 0 ≤ z1133 ∧ z1133 ≤ 18) (h11 : 0 ≤ z1134 ∧ z1134 ≤ 0) (h12 : 0 ≤ z1147 ∧ z1147 ≤ 9) (h13 : (-1) ≤ z1167 ∧ z1167 ≤ 1) (h14 : 2 ≤ z1172 ∧ z1172 ≤ 2) (h15 : 0 ≤ z1173 ∧ z1173 ≤ 2) (h16 : 0 ≤ z1176 ∧ z1176 ≤ 9) (h17 : 0 ≤ z1182 ∧ z1182 ≤ 3) : 0 ≤ z1133 ∧ z1133 + 1 < p2 := by omega
theorem vc_X10_firstWrongStep_v_23 {n0 p2 z1133 z1134 z1147 z1167 z1172 z1173 z1176 z1182 : Int} (h0 : (z1133 + 1) < p2) (h1 : z1176 < n0) (h2 : (z1176 = z1147 → z1167 = 0) ∧ (¬ z1176 = z1147 → ¬ z1167 = 0)) (h3 : (z1173 = 1 → z1172 = 2) ∧ (z1173 = 2 → z1172 = 3) ∧ (¬ z1173 = 1 → ¬ z1173 = 2 → z1167 = 0 → z1172 = 0) ∧ (¬ z1173 = 1 → ¬ z1173 = 2 → ¬ z1167 = 0 → z1172 = 1)) (h4 : ((z1173 = 2 ∧ z1182 = 0) ∨ (z1173 = 1 ∧ z1182 = 1) ∨ (¬ z1173 = 2 ∧ ¬ z1173 = 1 ∧ z1176 = z1147 ∧ z1182 = 2) ∨ (¬ z1173 = 2 ∧ ¬ z1173 = 1 ∧ ¬ z1176 = z1147 ∧ z1182 = 3))) (h5 : ¬ z1172 = 1) (h6 : ¬ z1172 = 2) (h7 : z1134 = 0) (h8 : z1172 = 2) (h9 : 2 ≤ p2 ∧ p2 ≤ 20) (h10 : 0 ≤ z1133 ∧ z1133 ≤ 18) (h11 : 0 ≤ z1134 ∧ z1134 ≤ 0) (h12 : 0 ≤ z1147 ∧ z1147 ≤ 9) (h13 : (-1) ≤ z1167 ∧ z1167 ≤ 1) (h14 : 2 ≤ z1172 ∧ z1172 ≤ 2) (h15 : 0 ≤ z1173 ∧ z1173 ≤ 2) (h16 : 0 ≤ z1176 ∧ z1176 ≤ 9) (h17 : 0 ≤ z1182 ∧ z1182 ≤ 3) : (z1182 = 0 ∧ (1 : Int) = z1134) ∨ (z1182 = 3 ∧ z1134 = 0 ∧ (1 : Int) = z1134) ∨ (z1182 = 1 ∧ z1134 = 0 ∧ (1 : Int) = 1) ∨ (z1182 = 2 ∧ (1 : Int) = 1) := by omega
theorem vc_X10_firstWrongStep_v_24 {z1147 z1167 z1172 z1173 z1176 : Int} (h0 : ¬ z1172 = 0) (h1 : (z1176 = z1147 → z1167 = 0) ∧ (¬ z1176 = z1147 → ¬ z1167 = 0)) (h2 : (z1173 = 1 → z1172 = 2) ∧ (z1173 = 2 → z1172 = 3) ∧ (¬ z1173 = 1 → ¬ z1173 = 2 → z1167 = 0 → z1172 = 0) ∧ (¬ z1173 = 1 → ¬ z1173 = 2 → ¬ z1167 = 0 → z1172 = 1)) (h3 : ¬ z1172 = 1) (h4 : ¬ z1172 = 2) (h5 : 0 ≤ z1147 ∧ z1147 ≤ 9) (h6 : (-1) ≤ z1167 ∧ z1167 ≤ 1) (h7 : 0 ≤ z1172 ∧ z1172 ≤ 3) (h8 : 0 ≤ z1173 ∧ z1173 ≤ 2) (h9 : 0 ≤ z1176 ∧ z1176 ≤ 9) : 1 ≤ z1172 ∧ z1172 ≤ 3 := by omega
theorem vc_X10_firstWrongStep_v_25 {n0 p2 z1133 z1134 z1147 z1167 z1172 z1173 z1176 z1182 : Int} (h0 : (z1133 + 1) < p2) (h1 : z1176 < n0) (h2 : (z1176 = z1147 → z1167 = 0) ∧ (¬ z1176 = z1147 → ¬ z1167 = 0)) (h3 : (z1173 = 1 → z1172 = 2) ∧ (z1173 = 2 → z1172 = 3) ∧ (¬ z1173 = 1 → ¬ z1173 = 2 → z1167 = 0 → z1172 = 0) ∧ (¬ z1173 = 1 → ¬ z1173 = 2 → ¬ z1167 = 0 → z1172 = 1)) (h4 : ((z1173 = 2 ∧ z1182 = 0) ∨ (z1173 = 1 ∧ z1182 = 1) ∨ (¬ z1173 = 2 ∧ ¬ z1173 = 1 ∧ z1176 = z1147 ∧ z1182 = 2) ∨ (¬ z1173 = 2 ∧ ¬ z1173 = 1 ∧ ¬ z1176 = z1147 ∧ z1182 = 3))) (h5 : ¬ z1172 = 1) (h6 : ¬ z1172 = 2) (h7 : z1134 = 0) (h8 : ¬ z1172 = 0) (h9 : 2 ≤ p2 ∧ p2 ≤ 20) (h10 : 0 ≤ z1133 ∧ z1133 ≤ 18) (h11 : 0 ≤ z1134 ∧ z1134 ≤ 0) (h12 : 0 ≤ z1147 ∧ z1147 ≤ 9) (h13 : (-1) ≤ z1167 ∧ z1167 ≤ 1) (h14 : 1 ≤ z1172 ∧ z1172 ≤ 3) (h15 : 0 ≤ z1173 ∧ z1173 ≤ 2) (h16 : 0 ≤ z1176 ∧ z1176 ≤ 9) (h17 : 0 ≤ z1182 ∧ z1182 ≤ 3) : 0 ≤ z1133 ∧ z1133 + 1 < p2 := by omega
theorem vc_X10_firstWrongStep_v_26 {n0 p2 z1133 z1134 z1147 z1167 z1172 z1173 z1176 z1182 : Int} (h0 : (z1133 + 1) < p2) (h1 : z1176 < n0) (h2 : (z1176 = z1147 → z1167 = 0) ∧ (¬ z1176 = z1147 → ¬ z1167 = 0)) (h3 : (z1173 = 1 → z1172 = 2) ∧ (z1173 = 2 → z1172 = 3) ∧ (¬ z1173 = 1 → ¬ z1173 = 2 → z1167 = 0 → z1172 = 0) ∧ (¬ z1173 = 1 → ¬ z1173 = 2 → ¬ z1167 = 0 → z1172 = 1)) (h4 : ((z1173 = 2 ∧ z1182 = 0) ∨ (z1173 = 1 ∧ z1182 = 1) ∨ (¬ z1173 = 2 ∧ ¬ z1173 = 1 ∧ z1176 = z1147 ∧ z1182 = 2) ∨ (¬ z1173 = 2 ∧ ¬ z1173 = 1 ∧ ¬ z1176 = z1147 ∧ z1182 = 3))) (h5 : ¬ z1172 = 1) (h6 : ¬ z1172 = 2) (h7 : z1134 = 0) (h8 : ¬ z1172 = 0) (h9 : 2 ≤ p2 ∧ p2 ≤ 20) (h10 : 0 ≤ z1133 ∧ z1133 ≤ 18) (h11 : 0 ≤ z1134 ∧ z1134 ≤ 0) (h12 : 0 ≤ z1147 ∧ z1147 ≤ 9) (h13 : (-1) ≤ z1167 ∧ z1167 ≤ 1) (h14 : 1 ≤ z1172 ∧ z1172 ≤ 3) (h15 : 0 ≤ z1173 ∧ z1173 ≤ 2) (h16 : 0 ≤ z1176 ∧ z1176 ≤ 9) (h17 : 0 ≤ z1182 ∧ z1182 ≤ 3) : (z1182 = 0 ∧ (0 : Int) = z1134) ∨ (z1182 = 3 ∧ z1134 = 0 ∧ (0 : Int) = z1134) ∨ (z1182 = 1 ∧ z1134 = 0 ∧ (0 : Int) = 1) ∨ (z1182 = 2 ∧ (0 : Int) = 1) := by omega
theorem vc_X10_firstWrongStep_v_27 {z1147 z1167 z1172 z1173 z1176 : Int} (h0 : z1172 = 0) (h1 : (z1176 = z1147 → z1167 = 0) ∧ (¬ z1176 = z1147 → ¬ z1167 = 0)) (h2 : (z1173 = 1 → z1172 = 2) ∧ (z1173 = 2 → z1172 = 3) ∧ (¬ z1173 = 1 → ¬ z1173 = 2 → z1167 = 0 → z1172 = 0) ∧ (¬ z1173 = 1 → ¬ z1173 = 2 → ¬ z1167 = 0 → z1172 = 1)) (h3 : ¬ z1172 = 1) (h4 : ¬ z1172 = 2) (h5 : 0 ≤ z1147 ∧ z1147 ≤ 9) (h6 : (-1) ≤ z1167 ∧ z1167 ≤ 1) (h7 : 0 ≤ z1172 ∧ z1172 ≤ 3) (h8 : 0 ≤ z1173 ∧ z1173 ≤ 2) (h9 : 0 ≤ z1176 ∧ z1176 ≤ 9) : 0 ≤ z1172 ∧ z1172 ≤ 0 := by omega
theorem vc_X10_firstWrongStep_v_28 {n0 p2 z1133 z1134 z1147 z1167 z1172 z1173 z1176 z1182 : Int} (h0 : (z1133 + 1) < p2) (h1 : z1176 < n0) (h2 : (z1176 = z1147 → z1167 = 0) ∧ (¬ z1176 = z1147 → ¬ z1167 = 0)) (h3 : (z1173 = 1 → z1172 = 2) ∧ (z1173 = 2 → z1172 = 3) ∧ (¬ z1173 = 1 → ¬ z1173 = 2 → z1167 = 0 → z1172 = 0) ∧ (¬ z1173 = 1 → ¬ z1173 = 2 → ¬ z1167 = 0 → z1172 = 1)) (h4 : ((z1173 = 2 ∧ z1182 = 0) ∨ (z1173 = 1 ∧ z1182 = 1) ∨ (¬ z1173 = 2 ∧ ¬ z1173 = 1 ∧ z1176 = z1147 ∧ z1182 = 2) ∨ (¬ z1173 = 2 ∧ ¬ z1173 = 1 ∧ ¬ z1176 = z1147 ∧ z1182 = 3))) (h5 : ¬ z1172 = 1) (h6 : ¬ z1172 = 2) (h7 : z1134 = 0) (h8 : z1172 = 0) (h9 : 2 ≤ p2 ∧ p2 ≤ 20) (h10 : 0 ≤ z1133 ∧ z1133 ≤ 18) (h11 : 0 ≤ z1134 ∧ z1134 ≤ 0) (h12 : 0 ≤ z1147 ∧ z1147 ≤ 9) (h13 : (-1) ≤ z1167 ∧ z1167 ≤ 1) (h14 : 0 ≤ z1172 ∧ z1172 ≤ 0) (h15 : 0 ≤ z1173 ∧ z1173 ≤ 2) (h16 : 0 ≤ z1176 ∧ z1176 ≤ 9) (h17 : 0 ≤ z1182 ∧ z1182 ≤ 3) : 0 ≤ z1133 ∧ z1133 + 1 < p2 := by omega
theorem vc_X10_firstWrongStep_v_29 {n0 p2 z1133 z1134 z1147 z1167 z1172 z1173 z1176 z1182 : Int} (h0 : (z1133 + 1) < p2) (h1 : z1176 < n0) (h2 : (z1176 = z1147 → z1167 = 0) ∧ (¬ z1176 = z1147 → ¬ z1167 = 0)) (h3 : (z1173 = 1 → z1172 = 2) ∧ (z1173 = 2 → z1172 = 3) ∧ (¬ z1173 = 1 → ¬ z1173 = 2 → z1167 = 0 → z1172 = 0) ∧ (¬ z1173 = 1 → ¬ z1173 = 2 → ¬ z1167 = 0 → z1172 = 1)) (h4 : ((z1173 = 2 ∧ z1182 = 0) ∨ (z1173 = 1 ∧ z1182 = 1) ∨ (¬ z1173 = 2 ∧ ¬ z1173 = 1 ∧ z1176 = z1147 ∧ z1182 = 2) ∨ (¬ z1173 = 2 ∧ ¬ z1173 = 1 ∧ ¬ z1176 = z1147 ∧ z1182 = 3))) (h5 : ¬ z1172 = 1) (h6 : ¬ z1172 = 2) (h7 : z1134 = 0) (h8 : z1172 = 0) (h9 : 2 ≤ p2 ∧ p2 ≤ 20) (h10 : 0 ≤ z1133 ∧ z1133 ≤ 18) (h11 : 0 ≤ z1134 ∧ z1134 ≤ 0) (h12 : 0 ≤ z1147 ∧ z1147 ≤ 9) (h13 : (-1) ≤ z1167 ∧ z1167 ≤ 1) (h14 : 0 ≤ z1172 ∧ z1172 ≤ 0) (h15 : 0 ≤ z1173 ∧ z1173 ≤ 2) (h16 : 0 ≤ z1176 ∧ z1176 ≤ 9) (h17 : 0 ≤ z1182 ∧ z1182 ≤ 3) : (z1182 = 0 ∧ (1 : Int) = z1134) ∨ (z1182 = 3 ∧ z1134 = 0 ∧ (1 : Int) = z1134) ∨ (z1182 = 1 ∧ z1134 = 0 ∧ (1 : Int) = 1) ∨ (z1182 = 2 ∧ (1 : Int) = 1) := by omega
theorem vc_X10_firstWrongStep_v_32 {n0 p2 z1133 z1134 z1147 z1167 z1172 z1173 z1176 z1182 : Int} (h0 : (z1133 + 1) < p2) (h1 : z1176 < n0) (h2 : (z1176 = z1147 → z1167 = 0) ∧ (¬ z1176 = z1147 → ¬ z1167 = 0)) (h3 : (z1173 = 1 → z1172 = 2) ∧ (z1173 = 2 → z1172 = 3) ∧ (¬ z1173 = 1 → ¬ z1173 = 2 → z1167 = 0 → z1172 = 0) ∧ (¬ z1173 = 1 → ¬ z1173 = 2 → ¬ z1167 = 0 → z1172 = 1)) (h4 : ((z1173 = 2 ∧ z1182 = 0) ∨ (z1173 = 1 ∧ z1182 = 1) ∨ (¬ z1173 = 2 ∧ ¬ z1173 = 1 ∧ z1176 = z1147 ∧ z1182 = 2) ∨ (¬ z1173 = 2 ∧ ¬ z1173 = 1 ∧ ¬ z1176 = z1147 ∧ z1182 = 3))) (h5 : ¬ z1172 = 1) (h6 : ¬ z1172 = 2) (h7 : ¬ z1134 = 0) (h8 : 2 ≤ p2 ∧ p2 ≤ 20) (h9 : 0 ≤ z1133 ∧ z1133 ≤ 18) (h10 : 1 ≤ z1134 ∧ z1134 ≤ 1) (h11 : 0 ≤ z1147 ∧ z1147 ≤ 9) (h12 : (-1) ≤ z1167 ∧ z1167 ≤ 1) (h13 : 0 ≤ z1172 ∧ z1172 ≤ 3) (h14 : 0 ≤ z1173 ∧ z1173 ≤ 2) (h15 : 0 ≤ z1176 ∧ z1176 ≤ 9) (h16 : 0 ≤ z1182 ∧ z1182 ≤ 3) : 0 ≤ z1133 ∧ z1133 + 1 < p2 := by omega
theorem vc_X10_firstWrongStep_v_33 {n0 p2 z1133 z1134 z1147 z1167 z1172 z1173 z1176 z1182 : Int} (h0 : (z1133 + 1) < p2) (h1 : z1176 < n0) (h2 : (z1176 = z1147 → z1167 = 0) ∧ (¬ z1176 = z1147 → ¬ z1167 = 0)) (h3 : (z1173 = 1 → z1172 = 2) ∧ (z1173 = 2 → z1172 = 3) ∧ (¬ z1173 = 1 → ¬ z1173 = 2 → z1167 = 0 → z1172 = 0) ∧ (¬ z1173 = 1 → ¬ z1173 = 2 → ¬ z1167 = 0 → z1172 = 1)) (h4 : ((z1173 = 2 ∧ z1182 = 0) ∨ (z1173 = 1 ∧ z1182 = 1) ∨ (¬ z1173 = 2 ∧ ¬ z1173 = 1 ∧ z1176 = z1147 ∧ z1182 = 2) ∨ (¬ z1173 = 2 ∧ ¬ z1173 = 1 ∧ ¬ z1176 = z1147 ∧ z1182 = 3))) (h5 : ¬ z1172 = 1) (h6 : ¬ z1172 = 2) (h7 : ¬ z1134 = 0) (h8 : 2 ≤ p2 ∧ p2 ≤ 20) (h9 : 0 ≤ z1133 ∧ z1133 ≤ 18) (h10 : 1 ≤ z1134 ∧ z1134 ≤ 1) (h11 : 0 ≤ z1147 ∧ z1147 ≤ 9) (h12 : (-1) ≤ z1167 ∧ z1167 ≤ 1) (h13 : 0 ≤ z1172 ∧ z1172 ≤ 3) (h14 : 0 ≤ z1173 ∧ z1173 ≤ 2) (h15 : 0 ≤ z1176 ∧ z1176 ≤ 9) (h16 : 0 ≤ z1182 ∧ z1182 ≤ 3) : (z1182 = 0 ∧ (1 : Int) = z1134) ∨ (z1182 = 3 ∧ z1134 = 0 ∧ (1 : Int) = z1134) ∨ (z1182 = 1 ∧ z1134 = 0 ∧ (1 : Int) = 1) ∨ (z1182 = 2 ∧ (1 : Int) = 1) := by omega
theorem vc_X10_firstWrongStep_v_34 {z1147 z1167 z1172 z1173 z1176 : Int} (h0 : z1172 = 2) (h1 : (z1176 = z1147 → z1167 = 0) ∧ (¬ z1176 = z1147 → ¬ z1167 = 0)) (h2 : (z1173 = 1 → z1172 = 2) ∧ (z1173 = 2 → z1172 = 3) ∧ (¬ z1173 = 1 → ¬ z1173 = 2 → z1167 = 0 → z1172 = 0) ∧ (¬ z1173 = 1 → ¬ z1173 = 2 → ¬ z1167 = 0 → z1172 = 1)) (h3 : ¬ z1172 = 1) (h4 : 0 ≤ z1147 ∧ z1147 ≤ 9) (h5 : (-1) ≤ z1167 ∧ z1167 ≤ 1) (h6 : 0 ≤ z1172 ∧ z1172 ≤ 3) (h7 : 0 ≤ z1173 ∧ z1173 ≤ 2) (h8 : 0 ≤ z1176 ∧ z1176 ≤ 9) : 2 ≤ z1172 ∧ z1172 ≤ 2 := by omega
theorem vc_X10_firstWrongStep_v_36 {n0 p2 z1133 z1134 z1147 z1167 z1172 z1173 z1176 z1182 : Int} (h0 : (z1133 + 1) < p2) (h1 : z1176 < n0) (h2 : (z1176 = z1147 → z1167 = 0) ∧ (¬ z1176 = z1147 → ¬ z1167 = 0)) (h3 : (z1173 = 1 → z1172 = 2) ∧ (z1173 = 2 → z1172 = 3) ∧ (¬ z1173 = 1 → ¬ z1173 = 2 → z1167 = 0 → z1172 = 0) ∧ (¬ z1173 = 1 → ¬ z1173 = 2 → ¬ z1167 = 0 → z1172 = 1)) (h4 : ((z1173 = 2 ∧ z1182 = 0) ∨ (z1173 = 1 ∧ z1182 = 1) ∨ (¬ z1173 = 2 ∧ ¬ z1173 = 1 ∧ z1176 = z1147 ∧ z1182 = 2) ∨ (¬ z1173 = 2 ∧ ¬ z1173 = 1 ∧ ¬ z1176 = z1147 ∧ z1182 = 3))) (h5 : ¬ z1172 = 1) (h6 : z1172 = 2) (h7 : z1134 = 0) (h8 : 2 ≤ p2 ∧ p2 ≤ 20) (h9 : 0 ≤ z1133 ∧ z1133 ≤ 18) (h10 : 0 ≤ z1134 ∧ z1134 ≤ 0) (h11 : 0 ≤ z1147 ∧ z1147 ≤ 9) (h12 : (-1) ≤ z1167 ∧ z1167 ≤ 1) (h13 : 2 ≤ z1172 ∧ z1172 ≤ 2) (h14 : 0 ≤ z1173 ∧ z1173 ≤ 2) (h15 : 0 ≤ z1176 ∧ z1176 ≤ 9) (h16 : 0 ≤ z1182 ∧ z1182 ≤ 3) : 0 ≤ z1133 ∧ z1133 + 1 < p2 := by omega
theorem vc_X10_firstWrongStep_v_37 {n0 p2 z1133 z1134 z1147 z1167 z1172 z1173 z1176 z1182 : Int} (h0 : (z1133 + 1) < p2) (h1 : z1176 < n0) (h2 : (z1176 = z1147 → z1167 = 0) ∧ (¬ z1176 = z1147 → ¬ z1167 = 0)) (h3 : (z1173 = 1 → z1172 = 2) ∧ (z1173 = 2 → z1172 = 3) ∧ (¬ z1173 = 1 → ¬ z1173 = 2 → z1167 = 0 → z1172 = 0) ∧ (¬ z1173 = 1 → ¬ z1173 = 2 → ¬ z1167 = 0 → z1172 = 1)) (h4 : ((z1173 = 2 ∧ z1182 = 0) ∨ (z1173 = 1 ∧ z1182 = 1) ∨ (¬ z1173 = 2 ∧ ¬ z1173 = 1 ∧ z1176 = z1147 ∧ z1182 = 2) ∨ (¬ z1173 = 2 ∧ ¬ z1173 = 1 ∧ ¬ z1176 = z1147 ∧ z1182 = 3))) (h5 : ¬ z1172 = 1) (h6 : z1172 = 2) (h7 : z1134 = 0) (h8 : 2 ≤ p2 ∧ p2 ≤ 20) (h9 : 0 ≤ z1133 ∧ z1133 ≤ 18) (h10 : 0 ≤ z1134 ∧ z1134 ≤ 0) (h11 : 0 ≤ z1147 ∧ z1147 ≤ 9) (h12 : (-1) ≤ z1167 ∧ z1167 ≤ 1) (h13 : 2 ≤ z1172 ∧ z1172 ≤ 2) (h14 : 0 ≤ z1173 ∧ z1173 ≤ 2) (h15 : 0 ≤ z1176 ∧ z1176 ≤ 9) (h16 : 0 ≤ z1182 ∧ z1182 ≤ 3) : (z1182 = 0 ∧ (1 : Int) = z1134) ∨ (z1182 = 3 ∧ z1134 = 0 ∧ (1 : Int) = z1134) ∨ (z1182 = 1 ∧ z1134 = 0 ∧ (1 : Int) = 1) ∨ (z1182 = 2 ∧ (1 : Int) = 1) := by omega
theorem vc_X10_firstWrongStep_v_38 {n0 p2 z1133 z1134 z1147 z1167 z1172 z1173 z1176 z1182 : Int} (h0 : (z1133 + 1) < p2) (h1 : z1176 < n0) (h2 : (z1176 = z1147 → z1167 = 0) ∧ (¬ z1176 = z1147 → ¬ z1167 = 0)) (h3 : (z1173 = 1 → z1172 = 2) ∧ (z1173 = 2 → z1172 = 3) ∧ (¬ z1173 = 1 → ¬ z1173 = 2 → z1167 = 0 → z1172 = 0) ∧ (¬ z1173 = 1 → ¬ z1173 = 2 → ¬ z1167 = 0 → z1172 = 1)) (h4 : ((z1173 = 2 ∧ z1182 = 0) ∨ (z1173 = 1 ∧ z1182 = 1) ∨ (¬ z1173 = 2 ∧ ¬ z1173 = 1 ∧ z1176 = z1147 ∧ z1182 = 2) ∨ (¬ z1173 = 2 ∧ ¬ z1173 = 1 ∧ ¬ z1176 = z1147 ∧ z1182 = 3))) (h5 : ¬ z1172 = 1) (h6 : z1172 = 2) (h7 : ¬ z1134 = 0) (h8 : 2 ≤ p2 ∧ p2 ≤ 20) (h9 : 0 ≤ z1133 ∧ z1133 ≤ 18) (h10 : 1 ≤ z1134 ∧ z1134 ≤ 1) (h11 : 0 ≤ z1147 ∧ z1147 ≤ 9) (h12 : (-1) ≤ z1167 ∧ z1167 ≤ 1) (h13 : 2 ≤ z1172 ∧ z1172 ≤ 2) (h14 : 0 ≤ z1173 ∧ z1173 ≤ 2) (h15 : 0 ≤ z1176 ∧ z1176 ≤ 9) (h16 : 0 ≤ z1182 ∧ z1182 ≤ 3) : z1182 = -1 ∨ (z1134 = 1 ∧ (z1182 = 1 ∨ z1182 = 3)) := by omega
theorem vc_X10_firstWrongStep_v_40 {p2 z1133 z1134 : Int} (h0 : (z1133 + 1) < p2) (h1 : 2 ≤ p2 ∧ p2 ≤ 20) (h2 : 0 ≤ z1133 ∧ z1133 ≤ 18) (h3 : 0 ≤ z1134 ∧ z1134 ≤ 1) : 0 ≤ z1133 ∧ z1133 + 1 < p2 := by omega
theorem vc_X10_firstWrongStep_v_41 {f_n n1 z1157 : Int} (h0 : z1157 < n1) (h1 : z1157 < 0) (h2 : f_n = n1) (h3 : 0 ≤ f_n ∧ f_n ≤ 20) (h4 : (-1) ≤ z1157 ∧ z1157 ≤ (-1)) : z1157 < 0 := by omega
set_option maxRecDepth 4000 in
set_option maxHeartbeats 4000000 in
theorem c_X10_firstWrongStep_v {l : Launch} {D : va_G} {c : Nat → ClassId} {H0 : Heap} {sa : Nat × Nat × (Nat → Int32)} {w : mW} {μ : mM} (hw : mWF w) (hT : mT w μ) (hA1 : mAt w 2 2) {p2 : Int} (hp2 : 0 ≤ p2 ∧ p2 ≤ 20) {f_n : Int} (q_f_n : μ 6 16 = f_n) : sC (gG l D c H0 sa) mX10_firstWrongStep 2 0 0 [.ref 6, .ref 2, iv p2] (mk w μ) (qP w μ (fun z => ((-1) ≤ z ∧ z ≤ 19) ∧ (z + 1 = lwI (swC μ) p2 0 0) ∧ True)) := by
  refine sC.of rfl (by decide) (le_t rfl) ?_
  have ht_f_n : (f_n = w.2.2.2 1 ∧ 0 ≤ f_n ∧ f_n ≤ 20) := by rw [← q_f_n]; exact hT 6 6 (A_6 hw) 16
  refine mr_lvE (lv' := [(0, .ref 6), (1, .ref 2), (2, iv p2)]) rfl ?_
  refine mr_iconst (pc := 0) (z := 0) dX10_firstWrongStep_0 ?_
  refine mr_istore_n (pc := 1) (lv' := [(3, iv 0), (0, .ref 6), (1, .ref 2), (2, iv p2)]) dX10_firstWrongStep_1 rfl (by decide) rfl ?_
  refine mr_iconst (pc := 2) (z := 0) dX10_firstWrongStep_2 ?_
  refine mr_istore (pc := 3) (lv' := [(4, iv 0), (3, iv 0), (0, .ref 6), (1, .ref 2), (2, iv p2)]) dX10_firstWrongStep_3 (by decide) rfl ?_
  have L1135 : ∀ (nL1135 : Nat) (z1134 z1133 : Int), True → (0 ≤ z1134 ∧ z1134 ≤ 1) → (0 ≤ z1133 ∧ z1133 ≤ 19) → lwI (swC μ) p2 0 0 = lwI (swC μ) p2 z1133 z1134 → (20 - z1133) < (nL1135 : Int) → sV (gG l D c H0 sa) mX10_firstWrongStep (sRm 2 0 0) (sZ (gG l D c H0 sa) 0 0 (qP w μ (fun z => ((-1) ≤ z ∧ z ≤ 19) ∧ (z + 1 = lwI (swC μ) p2 0 0) ∧ True))) 5 [(0, .ref 6), (1, .ref 2), (2, iv p2), (3, iv z1134), (4, iv z1133)] [] (mk w μ) 0 0 := by
    intro nL1135
    induction nL1135 with
    | zero => intro z1134 z1133 _ h1136 h1137 R1141 h1142; exact ((vc_X2_unlikeAddresses_1 h1142 h1137)).elim
    | succ nL1135 ih1143 =>
      intro z1134 z1133 _ h1136 h1137 R1141 h1142
      refine mr_iload (pc := 5) (z := z1133) dX10_firstWrongStep_5 rfl ?_
      refine mr_iconst (pc := 7) (z := 1) dX10_firstWrongStep_7 ?_
      refine mr_iadd (pc := 8) (x := z1133) (y := 1) dX10_firstWrongStep_8 ?_
      refine mr_iload_n (pc := 9) (z := p2) dX10_firstWrongStep_9 rfl rfl ?_
      refine mr_icmp_ge (pc := 10) (tgt := 121) dX10_firstWrongStep_10 (by decide) (r32 (rAdd (e := 1) (f := 20) h1137 (rR (x := 1)) rfl) rfl) (r32 hp2 rfl) (fun h1144 => ?_) (fun h1144 => ?_)
      · refine mr_iconst (pc := 121) (z := (-1)) dX10_firstWrongStep_121 ?_
        exact mr_iretP dX10_firstWrongStep_122 rfl (le_t rfl) (le_t rfl) ⟨(rW (c := (-1)) (d := 19) (rR (x := (-1))) rfl), (by have h := R1141.trans (lwI.done (vc_X10_firstWrongStep_v_2 h1144 hp2 h1137)); omega), trivial⟩
      have h1145 : 0 ≤ z1133 ∧ z1133 ≤ 18 := (vc_X10_firstWrongStep_v_3 h1144 hp2 h1137)
      have h1146 : 2 ≤ p2 ∧ p2 ≤ 20 := (vc_X10_firstWrongStep_v_4 h1144 hp2 h1145)
      refine sv_aload_n (pc := 13) dX10_firstWrongStep_13 rfl rfl ?_
      refine sv_aload_n (pc := 14) dX10_firstWrongStep_14 rfl rfl ?_
      refine mr_iload (pc := 15) (z := z1133) dX10_firstWrongStep_15 rfl ?_
      refine la_2 (pc := 17) dX10_firstWrongStep_17 (A_2 hw) hT (rIx (n := 20) h1145 rfl) fun z1147 q1148 h1149 => ?_
      refine sv_aload_n (pc := 18) dX10_firstWrongStep_18 rfl rfl ?_
      refine mr_iload (pc := 19) (z := z1133) dX10_firstWrongStep_19 rfl ?_
      refine mr_iconst (pc := 21) (z := 1) dX10_firstWrongStep_21 ?_
      refine mr_iadd (pc := 22) (x := z1133) (y := 1) dX10_firstWrongStep_22 ?_
      refine la_2 (pc := 23) dX10_firstWrongStep_23 (A_2 hw) hT (rIx (n := 20) (rAdd (e := 1) (f := 19) h1145 (rR (x := 1)) rfl) rfl) fun z1150 q1151 h1152 => ?_
      refine mr_cVP (pc := 24) (c_X10_tieBetween_v hw hT (rW (c := (-2147483648)) (d := 2147483647) h1149 rfl) (rW (c := (-2147483648)) (d := 2147483647) h1152 rfl) q_f_n) (gOk _ _ _ _ _) dX10_firstWrongStep_24 (tX10_tieBetween _ _ _ _ _) ⟨wV_X10_tieBetween, wL_X10_tieBetween⟩ wM_X10_109 (gCX10 _ _ _ _ _) rfl (A_6 hw) rfl ⟨le_t rfl, le_t rfl⟩ ⟨le_t rfl, le_t rfl⟩ rfl (le_t rfl) fun z1157 h1156 => ?_
      refine mr_istore (pc := 27) (lv' := [(5, iv z1157), (0, .ref 6), (1, .ref 2), (2, iv p2), (3, iv z1134), (4, iv z1133)]) dX10_firstWrongStep_27 (by decide) rfl ?_
      refine mr_iload (pc := 29) (z := z1157) dX10_firstWrongStep_29 rfl ?_
      refine mr_if_ge (pc := 31) (tgt := 37) dX10_firstWrongStep_31 (by decide) (r32 h1156.1 rfl) (fun h1158 => ?_) (fun h1158 => ?_)
      · have h1159 : 0 ≤ z1157 ∧ z1157 ≤ 19 := (vc_X11_judge_14 h1158 h1156.2.1 h1156.1)
        refine sv_aload_n (pc := 37) dX10_firstWrongStep_37 rfl rfl ?_
        refine gf_X10_4 (pc := 38) dX10_firstWrongStep_38 wF_X10_29 (A_6 hw) hT ?_
        refine mr_iload (pc := 41) (z := z1157) dX10_firstWrongStep_41 rfl ?_
        refine la_11 (pc := 43) dX10_firstWrongStep_43 (A_11 hw) hT (rIx (n := 20) h1159 rfl) (vc_X10_firstWrongStep_v_6 ht_f_n.1 h1156.2.1 h1158 ht_f_n.2 h1159) fun b1160 q1161 A1162 => ?_
        refine sv_aload_n (pc := 44) dX10_firstWrongStep_44 rfl rfl ?_
        refine gf_X10_4 (pc := 45) dX10_firstWrongStep_45 wF_X10_29 (A_6 hw) hT ?_
        refine mr_iload (pc := 48) (z := z1157) dX10_firstWrongStep_48 rfl ?_
        refine lk_11 (pc := 50) dX10_firstWrongStep_50 (A_11 hw) (rIx (n := 20) h1159 rfl) q1161 ?_
        refine sv_aload_n (pc := 51) dX10_firstWrongStep_51 rfl rfl ?_
        refine mr_iload (pc := 52) (z := z1133) dX10_firstWrongStep_52 rfl ?_
        refine lk_2 (pc := 54) dX10_firstWrongStep_54 (A_2 hw) (rIx (n := 20) h1145 rfl) q1148 ?_
        refine mr_cVP (pc := 55) (c_X9_sideOf_v hw hT A1162 (rW (c := (-2147483648)) (d := 2147483647) h1149 rfl)) (gOk _ _ _ _ _) dX10_firstWrongStep_55 (tX9_sideOf _ _ _ _ _) ⟨wV_X9_sideOf, wL_X9_sideOf⟩ wM_X10_112 (gCX9 _ _ _ _ _) rfl A1162 rfl ⟨le_t rfl, le_t rfl⟩ ⟨le_t rfl, le_t rfl⟩ rfl (le_t rfl) fun z1167 h1166 => ?_
        refine mr_cVP (pc := 58) (c_X9_partnerRole_v hw hT A1162 (rW (c := (-2147483648)) (d := 2147483647) h1166.1 rfl)) (gOk _ _ _ _ _) dX10_firstWrongStep_58 (tX9_partnerRole _ _ _ _ _) ⟨wV_X9_partnerRole, wL_X9_partnerRole⟩ wM_X10_115 (gCX9 _ _ _ _ _) rfl A1162 rfl ⟨le_t rfl, le_t rfl⟩ ⟨le_t rfl, le_t rfl⟩ rfl (le_t rfl) fun z1172 h1171 => ?_
        obtain ⟨z1173, q1174⟩ : ∃ z, μ b1160 2 = z := ⟨_, rfl⟩
        have h1175 : (0 ≤ z1173 ∧ z1173 ≤ 2) := by rw [← q1174]; exact hT b1160 220 A1162 2
        obtain ⟨z1176, q1177⟩ : ∃ z, μ b1160 0 = z := ⟨_, rfl⟩
        have h1178 : (0 ≤ z1176 ∧ z1176 ≤ 9 ∧ z1176 < w.2.2.2 0) := by rw [← q1177]; exact hT b1160 220 A1162 0
        have h1179 : 0 ≤ z1176 ∧ z1176 ≤ 9 := ⟨h1178.1, h1178.2.1⟩
        have h1180 : (z1176 = z1147 → z1167 = 0) ∧ (¬ z1176 = z1147 → ¬ z1167 = 0) := by have h := h1166.2.1; rw [q1177] at h; exact h
        have h1181 : (z1173 = 1 → z1172 = 2) ∧ (z1173 = 2 → z1172 = 3) ∧ (¬ z1173 = 1 → ¬ z1173 = 2 → z1167 = 0 → z1172 = 0) ∧ (¬ z1173 = 1 → ¬ z1173 = 2 → ¬ z1167 = 0 → z1172 = 1) := by have h := h1171.2.1; rw [q1174] at h; exact h
        obtain ⟨z1182, q1183, h1184, h1185⟩ := stF.ex (kd := tc μ 2) (h1156.2.2.1) (by decide) (vc_X10_firstWrongStep_v_7 h1156.2.1 h1158 ht_f_n.1 ht_f_n.2 h1159) (tcOf q1161 q1174) (tcOf q1161 q1177)
        refine mr_istore (pc := 61) (lv' := [(6, iv z1172), (5, iv z1157), (0, .ref 6), (1, .ref 2), (2, iv p2), (3, iv z1134), (4, iv z1133)]) dX10_firstWrongStep_61 (by decide) rfl ?_
        refine mr_iload (pc := 63) (z := z1172) dX10_firstWrongStep_63 rfl ?_
        refine mr_iconst (pc := 65) (z := 1) dX10_firstWrongStep_65 ?_
        refine mr_icmp_eq (pc := 66) (tgt := 75) dX10_firstWrongStep_66 (by decide) (r32 h1171.1 rfl) (r32 (rR (x := 1)) rfl) (fun h1186 => ?_) (fun h1186 => ?_)
        · have h1187 : 1 ≤ z1172 ∧ z1172 ≤ 1 := (vc_X10_firstWrongStep_v_8 h1186 h1180 h1181 h1149 h1166.1 h1171.1 h1175 h1179)
          refine mr_iconst (pc := 75) (z := 1) dX10_firstWrongStep_75 ?_
          refine sv_goto (pc := 76) (tgt := 80) dX10_firstWrongStep_76 (by decide) ?_
          refine mr_istore (pc := 80) (lv' := [(7, iv 1), (6, iv z1172), (5, iv z1157), (0, .ref 6), (1, .ref 2), (2, iv p2), (3, iv z1134), (4, iv z1133)]) dX10_firstWrongStep_80 (by decide) rfl ?_
          refine mr_iload_n (pc := 82) (z := z1134) dX10_firstWrongStep_82 rfl rfl ?_
          refine mr_if_eq (pc := 83) (tgt := 94) dX10_firstWrongStep_83 (by decide) (r32 h1136 rfl) (fun h1188 => ?_) (fun h1188 => ?_)
          · have h1189 : 0 ≤ z1134 ∧ z1134 ≤ 0 := (vc_X12_ring_22 h1188 h1136)
            refine mr_iload_n (pc := 94) (z := z1134) dX10_firstWrongStep_94 rfl rfl ?_
            refine mr_if_ne (pc := 95) (tgt := 109) dX10_firstWrongStep_95 (by decide) (r32 h1189 rfl) (fun h => ((vc_X12_through_50 h h1189)).elim) (fun _ => ?_)
            refine mr_iload (pc := 98) (z := z1172) dX10_firstWrongStep_98 rfl ?_
            refine mr_iconst (pc := 100) (z := 2) dX10_firstWrongStep_100 ?_
            refine mr_icmp_eq (pc := 101) (tgt := 109) dX10_firstWrongStep_101 (by decide) (r32 h1187 rfl) (r32 (rR (x := 2)) rfl) (fun h => ((vc_X12_wayTest_u_254 h h1187)).elim) (fun _ => ?_)
            refine mr_iload (pc := 104) (z := z1172) dX10_firstWrongStep_104 rfl ?_
            refine mr_if_ne (pc := 106) (tgt := 113) dX10_firstWrongStep_106 (by decide) (r32 h1187 rfl) (fun _ => ?_) (fun h => ((vc_X6_readPlace_g_19 h h1187)).elim)
            refine mr_iconst (pc := 113) (z := 0) dX10_firstWrongStep_113 ?_
            refine mr_istore_n (pc := 114) (lv' := [(3, iv 0), (7, iv 1), (6, iv z1172), (5, iv z1157), (0, .ref 6), (1, .ref 2), (2, iv p2), (4, iv z1133)]) dX10_firstWrongStep_114 rfl (by decide) rfl ?_
            refine mr_iinc (pc := 115) (lv' := [(4, iv (z1133 + 1)), (3, iv 0), (7, iv 1), (6, iv z1172), (5, iv z1157), (0, .ref 6), (1, .ref 2), (2, iv p2)]) dX10_firstWrongStep_115 rfl (by decide) rfl ?_
            refine sv_goto (pc := 118) (tgt := 5) dX10_firstWrongStep_118 (by decide) ?_
            refine mr_lvS (lv' := [(0, .ref 6), (1, .ref 2), (2, iv p2), (3, iv 0), (4, iv (z1133 + 1))]) (List.forall_mem_cons.mpr ⟨rfl, List.forall_mem_cons.mpr ⟨rfl, List.forall_mem_cons.mpr ⟨rfl, List.forall_mem_cons.mpr ⟨rfl, List.forall_mem_cons.mpr ⟨rfl, fun _ h => absurd h List.not_mem_nil⟩⟩⟩⟩⟩) ?_
            exact ih1143 0 (z1133 + 1) trivial (rW (c := 0) (d := 1) (rR (x := 0)) rfl) (rW (c := 0) (d := 19) (rAdd (e := 1) (f := 19) h1145 (rR (x := 1)) rfl) rfl) (R1141.trans (lwI.next (vc_X10_firstWrongStep_v_14 h1144 h1178.2.2 h1180 h1181 h1185 h1186 h1188 h1146 h1145 h1189 h1149 h1166.1 h1187 h1175 h1179 h1184) (swC.of q1148 q1151 (vc_X10_firstWrongStep_v_15 h1144 h1146 h1145) q_f_n q1183) (vc_X10_firstWrongStep_v_16 h1144 h1178.2.2 h1180 h1181 h1185 h1186 h1188 h1146 h1145 h1189 h1149 h1166.1 h1187 h1175 h1179 h1184))) (vc_X10_firstWrongStep_v_13 (nS h1142) h1144 h1146 h1145)
          have h1190 : 1 ≤ z1134 ∧ z1134 ≤ 1 := (vc_X12_ring_24 h1188 h1136)
          refine mr_iload (pc := 86) (z := 1) dX10_firstWrongStep_86 rfl ?_
          refine mr_if_eq (pc := 88) (tgt := 94) dX10_firstWrongStep_88 (by decide) (r32 (rR (x := 1)) rfl) (fun h => ((vc_X12_next_203 h)).elim) (fun _ => ?_)
          refine mr_iload (pc := 91) (z := z1133) dX10_firstWrongStep_91 rfl ?_
          exact mr_iretP dX10_firstWrongStep_93 rfl (le_t rfl) (le_t rfl) ⟨(rW (c := (-1)) (d := 19) h1145 rfl), (by have h := R1141.trans (lwI.stop (vc_X10_firstWrongStep_v_19 h1144 h1188 h1146 h1145 h1190) (swC.of q1148 q1151 (vc_X10_firstWrongStep_v_15 h1144 h1146 h1145) q_f_n q1183) (vc_X10_firstWrongStep_v_20 h1144 h1178.2.2 h1180 h1181 h1185 h1186 h1188 h1146 h1145 h1190 h1149 h1166.1 h1187 h1175 h1179 h1184)); omega), trivial⟩
        refine mr_iload (pc := 69) (z := z1172) dX10_firstWrongStep_69 rfl ?_
        refine mr_iconst (pc := 71) (z := 2) dX10_firstWrongStep_71 ?_
        refine mr_icmp_ne (pc := 72) (tgt := 79) dX10_firstWrongStep_72 (by decide) (r32 h1171.1 rfl) (r32 (rR (x := 2)) rfl) (fun h1191 => ?_) (fun h1191 => ?_)
        · refine mr_iconst (pc := 79) (z := 0) dX10_firstWrongStep_79 ?_
          refine mr_istore (pc := 80) (lv' := [(7, iv 0), (6, iv z1172), (5, iv z1157), (0, .ref 6), (1, .ref 2), (2, iv p2), (3, iv z1134), (4, iv z1133)]) dX10_firstWrongStep_80 (by decide) rfl ?_
          refine mr_iload_n (pc := 82) (z := z1134) dX10_firstWrongStep_82 rfl rfl ?_
          refine mr_if_eq (pc := 83) (tgt := 94) dX10_firstWrongStep_83 (by decide) (r32 h1136 rfl) (fun h1192 => ?_) (fun h1192 => ?_)
          · have h1193 : 0 ≤ z1134 ∧ z1134 ≤ 0 := (vc_X12_ring_22 h1192 h1136)
            refine mr_iload_n (pc := 94) (z := z1134) dX10_firstWrongStep_94 rfl rfl ?_
            refine mr_if_ne (pc := 95) (tgt := 109) dX10_firstWrongStep_95 (by decide) (r32 h1193 rfl) (fun h => ((vc_X12_through_50 h h1193)).elim) (fun _ => ?_)
            refine mr_iload (pc := 98) (z := z1172) dX10_firstWrongStep_98 rfl ?_
            refine mr_iconst (pc := 100) (z := 2) dX10_firstWrongStep_100 ?_
            refine mr_icmp_eq (pc := 101) (tgt := 109) dX10_firstWrongStep_101 (by decide) (r32 h1171.1 rfl) (r32 (rR (x := 2)) rfl) (fun h1194 => ?_) (fun h1194 => ?_)
            · have h1195 : 2 ≤ z1172 ∧ z1172 ≤ 2 := (vc_X10_firstWrongStep_v_21 h1194 h1180 h1181 h1186 h1191 h1149 h1166.1 h1171.1 h1175 h1179)
              refine mr_iconst (pc := 109) (z := 1) dX10_firstWrongStep_109 ?_
              refine sv_goto (pc := 110) (tgt := 114) dX10_firstWrongStep_110 (by decide) ?_
              refine mr_istore_n (pc := 114) (lv' := [(3, iv 1), (7, iv 0), (6, iv z1172), (5, iv z1157), (0, .ref 6), (1, .ref 2), (2, iv p2), (4, iv z1133)]) dX10_firstWrongStep_114 rfl (by decide) rfl ?_
              refine mr_iinc (pc := 115) (lv' := [(4, iv (z1133 + 1)), (3, iv 1), (7, iv 0), (6, iv z1172), (5, iv z1157), (0, .ref 6), (1, .ref 2), (2, iv p2)]) dX10_firstWrongStep_115 rfl (by decide) rfl ?_
              refine sv_goto (pc := 118) (tgt := 5) dX10_firstWrongStep_118 (by decide) ?_
              refine mr_lvS (lv' := [(0, .ref 6), (1, .ref 2), (2, iv p2), (3, iv 1), (4, iv (z1133 + 1))]) (List.forall_mem_cons.mpr ⟨rfl, List.forall_mem_cons.mpr ⟨rfl, List.forall_mem_cons.mpr ⟨rfl, List.forall_mem_cons.mpr ⟨rfl, List.forall_mem_cons.mpr ⟨rfl, fun _ h => absurd h List.not_mem_nil⟩⟩⟩⟩⟩) ?_
              exact ih1143 1 (z1133 + 1) trivial (rW (c := 0) (d := 1) (rR (x := 1)) rfl) (rW (c := 0) (d := 19) (rAdd (e := 1) (f := 19) h1145 (rR (x := 1)) rfl) rfl) (R1141.trans (lwI.next (vc_X10_firstWrongStep_v_22 h1144 h1178.2.2 h1180 h1181 h1185 h1186 h1191 h1192 h1194 h1146 h1145 h1193 h1149 h1166.1 h1195 h1175 h1179 h1184) (swC.of q1148 q1151 (vc_X10_firstWrongStep_v_15 h1144 h1146 h1145) q_f_n q1183) (vc_X10_firstWrongStep_v_23 h1144 h1178.2.2 h1180 h1181 h1185 h1186 h1191 h1192 h1194 h1146 h1145 h1193 h1149 h1166.1 h1195 h1175 h1179 h1184))) (vc_X10_firstWrongStep_v_13 (nS h1142) h1144 h1146 h1145)
            refine mr_iload (pc := 104) (z := z1172) dX10_firstWrongStep_104 rfl ?_
            refine mr_if_ne (pc := 106) (tgt := 113) dX10_firstWrongStep_106 (by decide) (r32 h1171.1 rfl) (fun h1196 => ?_) (fun h1196 => ?_)
            · have h1197 : 1 ≤ z1172 ∧ z1172 ≤ 3 := (vc_X10_firstWrongStep_v_24 h1196 h1180 h1181 h1186 h1191 h1149 h1166.1 h1171.1 h1175 h1179)
              refine mr_iconst (pc := 113) (z := 0) dX10_firstWrongStep_113 ?_
              refine mr_istore_n (pc := 114) (lv' := [(3, iv 0), (7, iv 0), (6, iv z1172), (5, iv z1157), (0, .ref 6), (1, .ref 2), (2, iv p2), (4, iv z1133)]) dX10_firstWrongStep_114 rfl (by decide) rfl ?_
              refine mr_iinc (pc := 115) (lv' := [(4, iv (z1133 + 1)), (3, iv 0), (7, iv 0), (6, iv z1172), (5, iv z1157), (0, .ref 6), (1, .ref 2), (2, iv p2)]) dX10_firstWrongStep_115 rfl (by decide) rfl ?_
              refine sv_goto (pc := 118) (tgt := 5) dX10_firstWrongStep_118 (by decide) ?_
              refine mr_lvS (lv' := [(0, .ref 6), (1, .ref 2), (2, iv p2), (3, iv 0), (4, iv (z1133 + 1))]) (List.forall_mem_cons.mpr ⟨rfl, List.forall_mem_cons.mpr ⟨rfl, List.forall_mem_cons.mpr ⟨rfl, List.forall_mem_cons.mpr ⟨rfl, List.forall_mem_cons.mpr ⟨rfl, fun _ h => absurd h List.not_mem_nil⟩⟩⟩⟩⟩) ?_
              exact ih1143 0 (z1133 + 1) trivial (rW (c := 0) (d := 1) (rR (x := 0)) rfl) (rW (c := 0) (d := 19) (rAdd (e := 1) (f := 19) h1145 (rR (x := 1)) rfl) rfl) (R1141.trans (lwI.next (vc_X10_firstWrongStep_v_25 h1144 h1178.2.2 h1180 h1181 h1185 h1186 h1191 h1192 h1196 h1146 h1145 h1193 h1149 h1166.1 h1197 h1175 h1179 h1184) (swC.of q1148 q1151 (vc_X10_firstWrongStep_v_15 h1144 h1146 h1145) q_f_n q1183) (vc_X10_firstWrongStep_v_26 h1144 h1178.2.2 h1180 h1181 h1185 h1186 h1191 h1192 h1196 h1146 h1145 h1193 h1149 h1166.1 h1197 h1175 h1179 h1184))) (vc_X10_firstWrongStep_v_13 (nS h1142) h1144 h1146 h1145)
            have h1198 : 0 ≤ z1172 ∧ z1172 ≤ 0 := (vc_X10_firstWrongStep_v_27 h1196 h1180 h1181 h1186 h1191 h1149 h1166.1 h1171.1 h1175 h1179)
            refine mr_iconst (pc := 109) (z := 1) dX10_firstWrongStep_109 ?_
            refine sv_goto (pc := 110) (tgt := 114) dX10_firstWrongStep_110 (by decide) ?_
            refine mr_istore_n (pc := 114) (lv' := [(3, iv 1), (7, iv 0), (6, iv z1172), (5, iv z1157), (0, .ref 6), (1, .ref 2), (2, iv p2), (4, iv z1133)]) dX10_firstWrongStep_114 rfl (by decide) rfl ?_
            refine mr_iinc (pc := 115) (lv' := [(4, iv (z1133 + 1)), (3, iv 1), (7, iv 0), (6, iv z1172), (5, iv z1157), (0, .ref 6), (1, .ref 2), (2, iv p2)]) dX10_firstWrongStep_115 rfl (by decide) rfl ?_
            refine sv_goto (pc := 118) (tgt := 5) dX10_firstWrongStep_118 (by decide) ?_
            refine mr_lvS (lv' := [(0, .ref 6), (1, .ref 2), (2, iv p2), (3, iv 1), (4, iv (z1133 + 1))]) (List.forall_mem_cons.mpr ⟨rfl, List.forall_mem_cons.mpr ⟨rfl, List.forall_mem_cons.mpr ⟨rfl, List.forall_mem_cons.mpr ⟨rfl, List.forall_mem_cons.mpr ⟨rfl, fun _ h => absurd h List.not_mem_nil⟩⟩⟩⟩⟩) ?_
            exact ih1143 1 (z1133 + 1) trivial (rW (c := 0) (d := 1) (rR (x := 1)) rfl) (rW (c := 0) (d := 19) (rAdd (e := 1) (f := 19) h1145 (rR (x := 1)) rfl) rfl) (R1141.trans (lwI.next (vc_X10_firstWrongStep_v_28 h1144 h1178.2.2 h1180 h1181 h1185 h1186 h1191 h1192 h1196 h1146 h1145 h1193 h1149 h1166.1 h1198 h1175 h1179 h1184) (swC.of q1148 q1151 (vc_X10_firstWrongStep_v_15 h1144 h1146 h1145) q_f_n q1183) (vc_X10_firstWrongStep_v_29 h1144 h1178.2.2 h1180 h1181 h1185 h1186 h1191 h1192 h1196 h1146 h1145 h1193 h1149 h1166.1 h1198 h1175 h1179 h1184))) (vc_X10_firstWrongStep_v_13 (nS h1142) h1144 h1146 h1145)
          have h1199 : 1 ≤ z1134 ∧ z1134 ≤ 1 := (vc_X12_ring_24 h1192 h1136)
          refine mr_iload (pc := 86) (z := 0) dX10_firstWrongStep_86 rfl ?_
          refine mr_if_eq (pc := 88) (tgt := 94) dX10_firstWrongStep_88 (by decide) (r32 (rR (x := 0)) rfl) (fun _ => ?_) (fun h => ((vc_X12_next_469 h)).elim)
          refine mr_iload_n (pc := 94) (z := z1134) dX10_firstWrongStep_94 rfl rfl ?_
          refine mr_if_ne (pc := 95) (tgt := 109) dX10_firstWrongStep_95 (by decide) (r32 h1199 rfl) (fun _ => ?_) (fun h => ((vc_X6_readPlace_g_19 h h1199)).elim)
          refine mr_iconst (pc := 109) (z := 1) dX10_firstWrongStep_109 ?_
          refine sv_goto (pc := 110) (tgt := 114) dX10_firstWrongStep_110 (by decide) ?_
          refine mr_istore_n (pc := 114) (lv' := [(3, iv 1), (7, iv 0), (6, iv z1172), (5, iv z1157), (0, .ref 6), (1, .ref 2), (2, iv p2), (4, iv z1133)]) dX10_firstWrongStep_114 rfl (by decide) rfl ?_
          refine mr_iinc (pc := 115) (lv' := [(4, iv (z1133 + 1)), (3, iv 1), (7, iv 0), (6, iv z1172), (5, iv z1157), (0, .ref 6), (1, .ref 2), (2, iv p2)]) dX10_firstWrongStep_115 rfl (by decide) rfl ?_
          refine sv_goto (pc := 118) (tgt := 5) dX10_firstWrongStep_118 (by decide) ?_
          refine mr_lvS (lv' := [(0, .ref 6), (1, .ref 2), (2, iv p2), (3, iv 1), (4, iv (z1133 + 1))]) (List.forall_mem_cons.mpr ⟨rfl, List.forall_mem_cons.mpr ⟨rfl, List.forall_mem_cons.mpr ⟨rfl, List.forall_mem_cons.mpr ⟨rfl, List.forall_mem_cons.mpr ⟨rfl, fun _ h => absurd h List.not_mem_nil⟩⟩⟩⟩⟩) ?_
          exact ih1143 1 (z1133 + 1) trivial (rW (c := 0) (d := 1) (rR (x := 1)) rfl) (rW (c := 0) (d := 19) (rAdd (e := 1) (f := 19) h1145 (rR (x := 1)) rfl) rfl) (R1141.trans (lwI.next (vc_X10_firstWrongStep_v_32 h1144 h1178.2.2 h1180 h1181 h1185 h1186 h1191 h1192 h1146 h1145 h1199 h1149 h1166.1 h1171.1 h1175 h1179 h1184) (swC.of q1148 q1151 (vc_X10_firstWrongStep_v_15 h1144 h1146 h1145) q_f_n q1183) (vc_X10_firstWrongStep_v_33 h1144 h1178.2.2 h1180 h1181 h1185 h1186 h1191 h1192 h1146 h1145 h1199 h1149 h1166.1 h1171.1 h1175 h1179 h1184))) (vc_X10_firstWrongStep_v_13 (nS h1142) h1144 h1146 h1145)
        have h1200 : 2 ≤ z1172 ∧ z1172 ≤ 2 := (vc_X10_firstWrongStep_v_34 h1191 h1180 h1181 h1186 h1149 h1166.1 h1171.1 h1175 h1179)
        refine mr_iconst (pc := 75) (z := 1) dX10_firstWrongStep_75 ?_
        refine sv_goto (pc := 76) (tgt := 80) dX10_firstWrongStep_76 (by decide) ?_
        refine mr_istore (pc := 80) (lv' := [(7, iv 1), (6, iv z1172), (5, iv z1157), (0, .ref 6), (1, .ref 2), (2, iv p2), (3, iv z1134), (4, iv z1133)]) dX10_firstWrongStep_80 (by decide) rfl ?_
        refine mr_iload_n (pc := 82) (z := z1134) dX10_firstWrongStep_82 rfl rfl ?_
        refine mr_if_eq (pc := 83) (tgt := 94) dX10_firstWrongStep_83 (by decide) (r32 h1136 rfl) (fun h1201 => ?_) (fun h1201 => ?_)
        · have h1202 : 0 ≤ z1134 ∧ z1134 ≤ 0 := (vc_X12_ring_22 h1201 h1136)
          refine mr_iload_n (pc := 94) (z := z1134) dX10_firstWrongStep_94 rfl rfl ?_
          refine mr_if_ne (pc := 95) (tgt := 109) dX10_firstWrongStep_95 (by decide) (r32 h1202 rfl) (fun h => ((vc_X12_through_50 h h1202)).elim) (fun _ => ?_)
          refine mr_iload (pc := 98) (z := z1172) dX10_firstWrongStep_98 rfl ?_
          refine mr_iconst (pc := 100) (z := 2) dX10_firstWrongStep_100 ?_
          refine mr_icmp_eq (pc := 101) (tgt := 109) dX10_firstWrongStep_101 (by decide) (r32 h1200 rfl) (r32 (rR (x := 2)) rfl) (fun _ => ?_) (fun h => ((vc_X12_wayTest_u_33 h h1200)).elim)
          refine mr_iconst (pc := 109) (z := 1) dX10_firstWrongStep_109 ?_
          refine sv_goto (pc := 110) (tgt := 114) dX10_firstWrongStep_110 (by decide) ?_
          refine mr_istore_n (pc := 114) (lv' := [(3, iv 1), (7, iv 1), (6, iv z1172), (5, iv z1157), (0, .ref 6), (1, .ref 2), (2, iv p2), (4, iv z1133)]) dX10_firstWrongStep_114 rfl (by decide) rfl ?_
          refine mr_iinc (pc := 115) (lv' := [(4, iv (z1133 + 1)), (3, iv 1), (7, iv 1), (6, iv z1172), (5, iv z1157), (0, .ref 6), (1, .ref 2), (2, iv p2)]) dX10_firstWrongStep_115 rfl (by decide) rfl ?_
          refine sv_goto (pc := 118) (tgt := 5) dX10_firstWrongStep_118 (by decide) ?_
          refine mr_lvS (lv' := [(0, .ref 6), (1, .ref 2), (2, iv p2), (3, iv 1), (4, iv (z1133 + 1))]) (List.forall_mem_cons.mpr ⟨rfl, List.forall_mem_cons.mpr ⟨rfl, List.forall_mem_cons.mpr ⟨rfl, List.forall_mem_cons.mpr ⟨rfl, List.forall_mem_cons.mpr ⟨rfl, fun _ h => absurd h List.not_mem_nil⟩⟩⟩⟩⟩) ?_
          exact ih1143 1 (z1133 + 1) trivial (rW (c := 0) (d := 1) (rR (x := 1)) rfl) (rW (c := 0) (d := 19) (rAdd (e := 1) (f := 19) h1145 (rR (x := 1)) rfl) rfl) (R1141.trans (lwI.next (vc_X10_firstWrongStep_v_36 h1144 h1178.2.2 h1180 h1181 h1185 h1186 h1191 h1201 h1146 h1145 h1202 h1149 h1166.1 h1200 h1175 h1179 h1184) (swC.of q1148 q1151 (vc_X10_firstWrongStep_v_15 h1144 h1146 h1145) q_f_n q1183) (vc_X10_firstWrongStep_v_37 h1144 h1178.2.2 h1180 h1181 h1185 h1186 h1191 h1201 h1146 h1145 h1202 h1149 h1166.1 h1200 h1175 h1179 h1184))) (vc_X10_firstWrongStep_v_13 (nS h1142) h1144 h1146 h1145)
        have h1203 : 1 ≤ z1134 ∧ z1134 ≤ 1 := (vc_X12_ring_24 h1201 h1136)
        refine mr_iload (pc := 86) (z := 1) dX10_firstWrongStep_86 rfl ?_
        refine mr_if_eq (pc := 88) (tgt := 94) dX10_firstWrongStep_88 (by decide) (r32 (rR (x := 1)) rfl) (fun h => ((vc_X12_next_203 h)).elim) (fun _ => ?_)
        refine mr_iload (pc := 91) (z := z1133) dX10_firstWrongStep_91 rfl ?_
        exact mr_iretP dX10_firstWrongStep_93 rfl (le_t rfl) (le_t rfl) ⟨(rW (c := (-1)) (d := 19) h1145 rfl), (by have h := R1141.trans (lwI.stop (vc_X10_firstWrongStep_v_19 h1144 h1201 h1146 h1145 h1203) (swC.of q1148 q1151 (vc_X10_firstWrongStep_v_15 h1144 h1146 h1145) q_f_n q1183) (vc_X10_firstWrongStep_v_38 h1144 h1178.2.2 h1180 h1181 h1185 h1186 h1191 h1201 h1146 h1145 h1203 h1149 h1166.1 h1200 h1175 h1179 h1184)); omega), trivial⟩
      have h1204 : (-1) ≤ z1157 ∧ z1157 ≤ (-1) := (vc_X11_judge_21 h1158 h1156.2.1 h1156.1)
      refine mr_iload (pc := 34) (z := z1133) dX10_firstWrongStep_34 rfl ?_
      exact mr_iretP dX10_firstWrongStep_36 rfl (le_t rfl) (le_t rfl) ⟨(rW (c := (-1)) (d := 19) h1145 rfl), (by have h := R1141.trans (lwI.stop (v := -1) (vc_X10_firstWrongStep_v_40 h1144 h1146 h1145 h1136) (swC.of q1148 q1151 (vc_X10_firstWrongStep_v_15 h1144 h1146 h1145) q_f_n (stF.no (h1156.2.2.1) (by decide) (vc_X10_firstWrongStep_v_41 h1156.2.1 h1158 ht_f_n.1 ht_f_n.2 h1204))) (Or.inl rfl)); omega), trivial⟩
  refine mr_lvS (lv' := [(0, .ref 6), (1, .ref 2), (2, iv p2), (3, iv 0), (4, iv 0)]) (List.forall_mem_cons.mpr ⟨rfl, List.forall_mem_cons.mpr ⟨rfl, List.forall_mem_cons.mpr ⟨rfl, List.forall_mem_cons.mpr ⟨rfl, List.forall_mem_cons.mpr ⟨rfl, fun _ h => absurd h List.not_mem_nil⟩⟩⟩⟩⟩) ?_
  exact L1135 21 0 0 trivial (rW (c := 0) (d := 1) (rR (x := 0)) rfl) (rW (c := 0) (d := 19) (rR (x := 0)) rfl) rfl vc_X2_unlikeAddresses_7
set_option maxRecDepth 4000 in
set_option maxHeartbeats 4000000 in
theorem c_X11_letWay_v {l : Launch} {D : va_G} {c : Nat → ClassId} {H0 : Heap} {sa : Nat × Nat × (Nat → Int32)} {w : mW} {μ : mM} (hw : mWF w) (hT : mT w μ) {f_q : Int} (q_f_q : μ 0 11 = f_q) {f_n : Int} (q_f_n : μ 6 16 = f_n) : sC (gG l D c H0 sa) mX11_letWay 3 0 0 [.ref 0] (mk w μ) (qP w μ (fun z => ((-2147483648) ≤ z ∧ z ≤ 2147483647) ∧ (z = lwI (swC μ) f_q 0 0) ∧ True)) := by
  refine sC.of rfl (by decide) (le_t rfl) ?_
  have ht_f_q : (0 ≤ f_q ∧ f_q ≤ 20) := by rw [← q_f_q]; exact hT 0 0 (A_0 hw) 11
  have ht_f_n : (f_n = w.2.2.2 1 ∧ 0 ≤ f_n ∧ f_n ≤ 20) := by rw [← q_f_n]; exact hT 6 6 (A_6 hw) 16
  refine mr_lvE (lv' := [(0, .ref 0)]) rfl ?_
  refine sv_aload_n (pc := 0) dX11_letWay_0 rfl rfl ?_
  refine gf_X11_3 (pc := 1) dX11_letWay_1 wF_X11_26 (A_0 hw) hT ?_
  refine sv_aload_n (pc := 4) dX11_letWay_4 rfl rfl ?_
  refine gf_X11_1 (pc := 5) dX11_letWay_5 wF_X11_13 (A_0 hw) hT ?_
  refine sv_aload_n (pc := 8) dX11_letWay_8 rfl rfl ?_
  refine gk_X11_11 (pc := 9) dX11_letWay_9 wF_X11_169 (A_0 hw) q_f_q ?_
  refine mr_cVP (pc := 12) (c_X10_firstWrongStep_v hw hT (A_2 hw) ht_f_q q_f_n) (gOk _ _ _ _ _) dX11_letWay_12 (tX10_firstWrongStep _ _ _ _ _) ⟨wV_X10_firstWrongStep, wL_X10_firstWrongStep⟩ wM_X11_172 (gCX10 _ _ _ _ _) rfl (A_6 hw) rfl ⟨le_t rfl, le_t rfl⟩ ⟨le_t rfl, le_t rfl⟩ rfl (le_t rfl) fun z20 h19 => ?_
  refine mr_iconst (pc := 15) (z := 1) dX11_letWay_15 ?_
  refine mr_iadd (pc := 16) (x := z20) (y := 1) dX11_letWay_16 ?_
  exact mr_iretP dX11_letWay_17 rfl (le_t rfl) (le_t rfl) ⟨(rW (c := (-2147483648)) (d := 2147483647) (rAdd (e := 0) (f := 20) h19.1 (rR (x := 1)) rfl) rfl), h19.2.1, trivial⟩
theorem vc_X12_letWay_v_6 {z827 : Int} (h0 : z827 = -99999999 ∨ (0 ≤ z827 ∧ z827 ≤ 19)) (h1 : ¬ z827 = (-99999999)) (h2 : 0 ≤ z827 ∧ z827 ≤ 19) : (2 * z827) = 2 * z827 + ((0 : Nat) : Int) := by omega
theorem vc_X12_letWay_v_7 {z827 : Int} (h0 : z827 = -99999999 ∨ (0 ≤ z827 ∧ z827 ≤ 19)) (h1 : ¬ z827 = (-99999999)) (h2 : 0 ≤ z827 ∧ z827 ≤ 19) : 0 ≤ z827 := by omega
theorem vc_X12_letWay_v_8 {z817 z830 z833 z836 : Int} (h0 : ¬ z830 = 2) (h1 : ((z830 = 2 ∧ z836 = 0) ∨ (z830 = 1 ∧ z836 = 1) ∨ (¬ z830 = 2 ∧ ¬ z830 = 1 ∧ z833 = z817 ∧ z836 = 2) ∨ (¬ z830 = 2 ∧ ¬ z830 = 1 ∧ ¬ z833 = z817 ∧ z836 = 3))) (h2 : 0 ≤ z817 ∧ z817 ≤ 9) (h3 : 0 ≤ z830 ∧ z830 ≤ 2) (h4 : 0 ≤ z833 ∧ z833 ≤ 9) (h5 : 0 ≤ z836 ∧ z836 ≤ 3) : 0 ≤ z830 ∧ z830 ≤ 1 := by omega
theorem vc_X12_letWay_v_9 {z817 z830 z833 z836 : Int} (h0 : ¬ z830 = 0) (h1 : ((z830 = 2 ∧ z836 = 0) ∨ (z830 = 1 ∧ z836 = 1) ∨ (¬ z830 = 2 ∧ ¬ z830 = 1 ∧ z833 = z817 ∧ z836 = 2) ∨ (¬ z830 = 2 ∧ ¬ z830 = 1 ∧ ¬ z833 = z817 ∧ z836 = 3))) (h2 : ¬ z830 = 2) (h3 : 0 ≤ z817 ∧ z817 ≤ 9) (h4 : 0 ≤ z830 ∧ z830 ≤ 1) (h5 : 0 ≤ z833 ∧ z833 ≤ 9) (h6 : 0 ≤ z836 ∧ z836 ≤ 3) : 1 ≤ z830 ∧ z830 ≤ 1 := by omega
theorem vc_X12_letWay_v_13 {f_q z803 z804 z817 z830 z833 z836 : Int} (h0 : (z803 + 1) < f_q) (h1 : ((z830 = 2 ∧ z836 = 0) ∨ (z830 = 1 ∧ z836 = 1) ∨ (¬ z830 = 2 ∧ ¬ z830 = 1 ∧ z833 = z817 ∧ z836 = 2) ∨ (¬ z830 = 2 ∧ ¬ z830 = 1 ∧ ¬ z833 = z817 ∧ z836 = 3))) (h2 : ¬ z830 = 2) (h3 : ¬ z830 = 0) (h4 : z804 = 0) (h5 : 2 ≤ f_q ∧ f_q ≤ 20) (h6 : 0 ≤ z803 ∧ z803 ≤ 18) (h7 : 0 ≤ z804 ∧ z804 ≤ 0) (h8 : 0 ≤ z817 ∧ z817 ≤ 9) (h9 : 1 ≤ z830 ∧ z830 ≤ 1) (h10 : 0 ≤ z833 ∧ z833 ≤ 9) (h11 : 0 ≤ z836 ∧ z836 ≤ 3) : 0 ≤ z803 ∧ z803 + 1 < f_q := by omega
theorem vc_X12_letWay_v_15 {f_q z803 z804 z817 z830 z833 z836 : Int} (h0 : (z803 + 1) < f_q) (h1 : ((z830 = 2 ∧ z836 = 0) ∨ (z830 = 1 ∧ z836 = 1) ∨ (¬ z830 = 2 ∧ ¬ z830 = 1 ∧ z833 = z817 ∧ z836 = 2) ∨ (¬ z830 = 2 ∧ ¬ z830 = 1 ∧ ¬ z833 = z817 ∧ z836 = 3))) (h2 : ¬ z830 = 2) (h3 : ¬ z830 = 0) (h4 : z804 = 0) (h5 : 2 ≤ f_q ∧ f_q ≤ 20) (h6 : 0 ≤ z803 ∧ z803 ≤ 18) (h7 : 0 ≤ z804 ∧ z804 ≤ 0) (h8 : 0 ≤ z817 ∧ z817 ≤ 9) (h9 : 1 ≤ z830 ∧ z830 ≤ 1) (h10 : 0 ≤ z833 ∧ z833 ≤ 9) (h11 : 0 ≤ z836 ∧ z836 ≤ 3) : (z836 = 0 ∧ (1 : Int) = z804) ∨ (z836 = 3 ∧ z804 = 0 ∧ (1 : Int) = z804) ∨ (z836 = 1 ∧ z804 = 0 ∧ (1 : Int) = 1) ∨ (z836 = 2 ∧ (1 : Int) = 1) := by omega
theorem vc_X12_letWay_v_19 {f_q z803 z804 z817 z830 z833 z836 : Int} (h0 : (z803 + 1) < f_q) (h1 : ((z830 = 2 ∧ z836 = 0) ∨ (z830 = 1 ∧ z836 = 1) ∨ (¬ z830 = 2 ∧ ¬ z830 = 1 ∧ z833 = z817 ∧ z836 = 2) ∨ (¬ z830 = 2 ∧ ¬ z830 = 1 ∧ ¬ z833 = z817 ∧ z836 = 3))) (h2 : ¬ z830 = 2) (h3 : ¬ z830 = 0) (h4 : ¬ z804 = 0) (h5 : 2 ≤ f_q ∧ f_q ≤ 20) (h6 : 0 ≤ z803 ∧ z803 ≤ 18) (h7 : 1 ≤ z804 ∧ z804 ≤ 1) (h8 : 0 ≤ z817 ∧ z817 ≤ 9) (h9 : 1 ≤ z830 ∧ z830 ≤ 1) (h10 : 0 ≤ z833 ∧ z833 ≤ 9) (h11 : 0 ≤ z836 ∧ z836 ≤ 3) : z836 = -1 ∨ (z804 = 1 ∧ (z836 = 1 ∨ z836 = 3)) := by omega
theorem vc_X12_letWay_v_20 {z817 z830 z833 z836 : Int} (h0 : z830 = 0) (h1 : ((z830 = 2 ∧ z836 = 0) ∨ (z830 = 1 ∧ z836 = 1) ∨ (¬ z830 = 2 ∧ ¬ z830 = 1 ∧ z833 = z817 ∧ z836 = 2) ∨ (¬ z830 = 2 ∧ ¬ z830 = 1 ∧ ¬ z833 = z817 ∧ z836 = 3))) (h2 : ¬ z830 = 2) (h3 : 0 ≤ z817 ∧ z817 ≤ 9) (h4 : 0 ≤ z830 ∧ z830 ≤ 1) (h5 : 0 ≤ z833 ∧ z833 ≤ 9) (h6 : 0 ≤ z836 ∧ z836 ≤ 3) : 0 ≤ z830 ∧ z830 ≤ 0 := by omega
theorem vc_X12_letWay_v_21 {z830 : Int} (h0 : z830 = 1) (h1 : 0 ≤ z830 ∧ z830 ≤ 0) : False := by omega
theorem vc_X12_letWay_v_22 {f_q z803 z804 z817 z830 z833 z836 : Int} (h0 : (z803 + 1) < f_q) (h1 : ((z830 = 2 ∧ z836 = 0) ∨ (z830 = 1 ∧ z836 = 1) ∨ (¬ z830 = 2 ∧ ¬ z830 = 1 ∧ z833 = z817 ∧ z836 = 2) ∨ (¬ z830 = 2 ∧ ¬ z830 = 1 ∧ ¬ z833 = z817 ∧ z836 = 3))) (h2 : ¬ z830 = 2) (h3 : z830 = 0) (h4 : ¬ z833 = z817) (h5 : z804 = 0) (h6 : 2 ≤ f_q ∧ f_q ≤ 20) (h7 : 0 ≤ z803 ∧ z803 ≤ 18) (h8 : 0 ≤ z804 ∧ z804 ≤ 0) (h9 : 0 ≤ z817 ∧ z817 ≤ 9) (h10 : 0 ≤ z830 ∧ z830 ≤ 0) (h11 : 0 ≤ z833 ∧ z833 ≤ 9) (h12 : 0 ≤ z836 ∧ z836 ≤ 3) : 0 ≤ z803 ∧ z803 + 1 < f_q := by omega
theorem vc_X12_letWay_v_23 {f_q z803 z804 z817 z830 z833 z836 : Int} (h0 : (z803 + 1) < f_q) (h1 : ((z830 = 2 ∧ z836 = 0) ∨ (z830 = 1 ∧ z836 = 1) ∨ (¬ z830 = 2 ∧ ¬ z830 = 1 ∧ z833 = z817 ∧ z836 = 2) ∨ (¬ z830 = 2 ∧ ¬ z830 = 1 ∧ ¬ z833 = z817 ∧ z836 = 3))) (h2 : ¬ z830 = 2) (h3 : z830 = 0) (h4 : ¬ z833 = z817) (h5 : z804 = 0) (h6 : 2 ≤ f_q ∧ f_q ≤ 20) (h7 : 0 ≤ z803 ∧ z803 ≤ 18) (h8 : 0 ≤ z804 ∧ z804 ≤ 0) (h9 : 0 ≤ z817 ∧ z817 ≤ 9) (h10 : 0 ≤ z830 ∧ z830 ≤ 0) (h11 : 0 ≤ z833 ∧ z833 ≤ 9) (h12 : 0 ≤ z836 ∧ z836 ≤ 3) : (z836 = 0 ∧ z804 = z804) ∨ (z836 = 3 ∧ z804 = 0 ∧ z804 = z804) ∨ (z836 = 1 ∧ z804 = 0 ∧ z804 = 1) ∨ (z836 = 2 ∧ z804 = 1) := by omega
theorem vc_X12_letWay_v_24 {f_q z803 z804 z817 z830 z833 z836 : Int} (h0 : (z803 + 1) < f_q) (h1 : ((z830 = 2 ∧ z836 = 0) ∨ (z830 = 1 ∧ z836 = 1) ∨ (¬ z830 = 2 ∧ ¬ z830 = 1 ∧ z833 = z817 ∧ z836 = 2) ∨ (¬ z830 = 2 ∧ ¬ z830 = 1 ∧ ¬ z833 = z817 ∧ z836 = 3))) (h2 : ¬ z830 = 2) (h3 : z830 = 0) (h4 : ¬ z833 = z817) (h5 : ¬ z804 = 0) (h6 : 2 ≤ f_q ∧ f_q ≤ 20) (h7 : 0 ≤ z803 ∧ z803 ≤ 18) (h8 : 1 ≤ z804 ∧ z804 ≤ 1) (h9 : 0 ≤ z817 ∧ z817 ≤ 9) (h10 : 0 ≤ z830 ∧ z830 ≤ 0) (h11 : 0 ≤ z833 ∧ z833 ≤ 9) (h12 : 0 ≤ z836 ∧ z836 ≤ 3) : z836 = -1 ∨ (z804 = 1 ∧ (z836 = 1 ∨ z836 = 3)) := by omega
theorem vc_X12_letWay_v_26 {f_q z803 z804 z817 z830 z833 z836 : Int} (h0 : (z803 + 1) < f_q) (h1 : ((z830 = 2 ∧ z836 = 0) ∨ (z830 = 1 ∧ z836 = 1) ∨ (¬ z830 = 2 ∧ ¬ z830 = 1 ∧ z833 = z817 ∧ z836 = 2) ∨ (¬ z830 = 2 ∧ ¬ z830 = 1 ∧ ¬ z833 = z817 ∧ z836 = 3))) (h2 : ¬ z830 = 2) (h3 : z830 = 0) (h4 : z833 = z817) (h5 : z804 = 0) (h6 : 2 ≤ f_q ∧ f_q ≤ 20) (h7 : 0 ≤ z803 ∧ z803 ≤ 18) (h8 : 0 ≤ z804 ∧ z804 ≤ 0) (h9 : 0 ≤ z817 ∧ z817 ≤ 9) (h10 : 0 ≤ z830 ∧ z830 ≤ 0) (h11 : 0 ≤ z833 ∧ z833 ≤ 9) (h12 : 0 ≤ z836 ∧ z836 ≤ 3) : 0 ≤ z803 ∧ z803 + 1 < f_q := by omega
theorem vc_X12_letWay_v_27 {f_q z803 z804 z817 z830 z833 z836 : Int} (h0 : (z803 + 1) < f_q) (h1 : ((z830 = 2 ∧ z836 = 0) ∨ (z830 = 1 ∧ z836 = 1) ∨ (¬ z830 = 2 ∧ ¬ z830 = 1 ∧ z833 = z817 ∧ z836 = 2) ∨ (¬ z830 = 2 ∧ ¬ z830 = 1 ∧ ¬ z833 = z817 ∧ z836 = 3))) (h2 : ¬ z830 = 2) (h3 : z830 = 0) (h4 : z833 = z817) (h5 : z804 = 0) (h6 : 2 ≤ f_q ∧ f_q ≤ 20) (h7 : 0 ≤ z803 ∧ z803 ≤ 18) (h8 : 0 ≤ z804 ∧ z804 ≤ 0) (h9 : 0 ≤ z817 ∧ z817 ≤ 9) (h10 : 0 ≤ z830 ∧ z830 ≤ 0) (h11 : 0 ≤ z833 ∧ z833 ≤ 9) (h12 : 0 ≤ z836 ∧ z836 ≤ 3) : (z836 = 0 ∧ (1 : Int) = z804) ∨ (z836 = 3 ∧ z804 = 0 ∧ (1 : Int) = z804) ∨ (z836 = 1 ∧ z804 = 0 ∧ (1 : Int) = 1) ∨ (z836 = 2 ∧ (1 : Int) = 1) := by omega
theorem vc_X12_letWay_v_28 {f_q z803 z804 z817 z830 z833 z836 : Int} (h0 : (z803 + 1) < f_q) (h1 : ((z830 = 2 ∧ z836 = 0) ∨ (z830 = 1 ∧ z836 = 1) ∨ (¬ z830 = 2 ∧ ¬ z830 = 1 ∧ z833 = z817 ∧ z836 = 2) ∨ (¬ z830 = 2 ∧ ¬ z830 = 1 ∧ ¬ z833 = z817 ∧ z836 = 3))) (h2 : ¬ z830 = 2) (h3 : z830 = 0) (h4 : z833 = z817) (h5 : ¬ z804 = 0) (h6 : 2 ≤ f_q ∧ f_q ≤ 20) (h7 : 0 ≤ z803 ∧ z803 ≤ 18) (h8 : 1 ≤ z804 ∧ z804 ≤ 1) (h9 : 0 ≤ z817 ∧ z817 ≤ 9) (h10 : 0 ≤ z830 ∧ z830 ≤ 0) (h11 : 0 ≤ z833 ∧ z833 ≤ 9) (h12 : 0 ≤ z836 ∧ z836 ≤ 3) : 0 ≤ z803 ∧ z803 + 1 < f_q := by omega
theorem vc_X12_letWay_v_29 {f_q z803 z804 z817 z830 z833 z836 : Int} (h0 : (z803 + 1) < f_q) (h1 : ((z830 = 2 ∧ z836 = 0) ∨ (z830 = 1 ∧ z836 = 1) ∨ (¬ z830 = 2 ∧ ¬ z830 = 1 ∧ z833 = z817 ∧ z836 = 2) ∨ (¬ z830 = 2 ∧ ¬ z830 = 1 ∧ ¬ z833 = z817 ∧ z836 = 3))) (h2 : ¬ z830 = 2) (h3 : z830 = 0) (h4 : z833 = z817) (h5 : ¬ z804 = 0) (h6 : 2 ≤ f_q ∧ f_q ≤ 20) (h7 : 0 ≤ z803 ∧ z803 ≤ 18) (h8 : 1 ≤ z804 ∧ z804 ≤ 1) (h9 : 0 ≤ z817 ∧ z817 ≤ 9) (h10 : 0 ≤ z830 ∧ z830 ≤ 0) (h11 : 0 ≤ z833 ∧ z833 ≤ 9) (h12 : 0 ≤ z836 ∧ z836 ≤ 3) : (z836 = 0 ∧ (1 : Int) = z804) ∨ (z836 = 3 ∧ z804 = 0 ∧ (1 : Int) = z804) ∨ (z836 = 1 ∧ z804 = 0 ∧ (1 : Int) = 1) ∨ (z836 = 2 ∧ (1 : Int) = 1) := by omega
theorem vc_X12_letWay_v_30 {z817 z830 z833 z836 : Int} (h0 : z830 = 2) (h1 : ((z830 = 2 ∧ z836 = 0) ∨ (z830 = 1 ∧ z836 = 1) ∨ (¬ z830 = 2 ∧ ¬ z830 = 1 ∧ z833 = z817 ∧ z836 = 2) ∨ (¬ z830 = 2 ∧ ¬ z830 = 1 ∧ ¬ z833 = z817 ∧ z836 = 3))) (h2 : 0 ≤ z817 ∧ z817 ≤ 9) (h3 : 0 ≤ z830 ∧ z830 ≤ 2) (h4 : 0 ≤ z833 ∧ z833 ≤ 9) (h5 : 0 ≤ z836 ∧ z836 ≤ 3) : 2 ≤ z830 ∧ z830 ≤ 2 := by omega
theorem vc_X12_letWay_v_31 {f_q z803 z804 z817 z830 z833 z836 : Int} (h0 : (z803 + 1) < f_q) (h1 : ((z830 = 2 ∧ z836 = 0) ∨ (z830 = 1 ∧ z836 = 1) ∨ (¬ z830 = 2 ∧ ¬ z830 = 1 ∧ z833 = z817 ∧ z836 = 2) ∨ (¬ z830 = 2 ∧ ¬ z830 = 1 ∧ ¬ z833 = z817 ∧ z836 = 3))) (h2 : z830 = 2) (h3 : 2 ≤ f_q ∧ f_q ≤ 20) (h4 : 0 ≤ z803 ∧ z803 ≤ 18) (h5 : 0 ≤ z804 ∧ z804 ≤ 1) (h6 : 0 ≤ z817 ∧ z817 ≤ 9) (h7 : 2 ≤ z830 ∧ z830 ≤ 2) (h8 : 0 ≤ z833 ∧ z833 ≤ 9) (h9 : 0 ≤ z836 ∧ z836 ≤ 3) : 0 ≤ z803 ∧ z803 + 1 < f_q := by omega
theorem vc_X12_letWay_v_32 {f_q z803 z804 z817 z830 z833 z836 : Int} (h0 : (z803 + 1) < f_q) (h1 : ((z830 = 2 ∧ z836 = 0) ∨ (z830 = 1 ∧ z836 = 1) ∨ (¬ z830 = 2 ∧ ¬ z830 = 1 ∧ z833 = z817 ∧ z836 = 2) ∨ (¬ z830 = 2 ∧ ¬ z830 = 1 ∧ ¬ z833 = z817 ∧ z836 = 3))) (h2 : z830 = 2) (h3 : 2 ≤ f_q ∧ f_q ≤ 20) (h4 : 0 ≤ z803 ∧ z803 ≤ 18) (h5 : 0 ≤ z804 ∧ z804 ≤ 1) (h6 : 0 ≤ z817 ∧ z817 ≤ 9) (h7 : 2 ≤ z830 ∧ z830 ≤ 2) (h8 : 0 ≤ z833 ∧ z833 ≤ 9) (h9 : 0 ≤ z836 ∧ z836 ≤ 3) : (z836 = 0 ∧ z804 = z804) ∨ (z836 = 3 ∧ z804 = 0 ∧ z804 = z804) ∨ (z836 = 1 ∧ z804 = 0 ∧ z804 = 1) ∨ (z836 = 2 ∧ z804 = 1) := by omega
set_option maxRecDepth 4000 in
set_option maxHeartbeats 4000000 in
theorem c_X12_letWay_v {l : Launch} {D : va_G} {c : Nat → ClassId} {H0 : Heap} {sa : Nat × Nat × (Nat → Int32)} {w : mW} {μ : mM} (hw : mWF w) (hT : mT w μ) {f_q : Int} (q_f_q : μ 106 15 = f_q) {f_n : Int} (q_f_n : μ 106 6 = f_n) : sC (gG l D c H0 sa) mX12_letWay 2 0 0 [.ref 106] (mk w μ) (qP w μ (fun z => ((-2147483648) ≤ z ∧ z ≤ 2147483647) ∧ (z = lwI (swR μ) f_q 0 0) ∧ True)) := by
  refine sC.of rfl (by decide) (le_t rfl) ?_
  have ht_f_q : (0 ≤ f_q ∧ f_q ≤ 20) := by rw [← q_f_q]; exact hT 106 106 (A_106 hw) 15
  have ht_f_n : (0 ≤ f_n ∧ f_n ≤ 20) := by rw [← q_f_n]; exact hT 106 106 (A_106 hw) 6
  refine mr_lvE (lv' := [(0, .ref 106)]) rfl ?_
  refine mr_iconst (pc := 0) (z := 0) dX12_letWay_0 ?_
  refine mr_istore_n (pc := 1) (lv' := [(1, iv 0), (0, .ref 106)]) dX12_letWay_1 rfl (by decide) rfl ?_
  refine mr_iconst (pc := 2) (z := 0) dX12_letWay_2 ?_
  refine mr_istore_n (pc := 3) (lv' := [(2, iv 0), (1, iv 0), (0, .ref 106)]) dX12_letWay_3 rfl (by decide) rfl ?_
  have L805 : ∀ (nL805 : Nat) (z804 z803 : Int), True → (0 ≤ z804 ∧ z804 ≤ 1) → (0 ≤ z803 ∧ z803 ≤ 19) → lwI (swR μ) f_q 0 0 = lwI (swR μ) f_q z803 z804 → (20 - z803) < (nL805 : Int) → sV (gG l D c H0 sa) mX12_letWay (sRm 2 0 0) (sZ (gG l D c H0 sa) 0 0 (qP w μ (fun z => ((-2147483648) ≤ z ∧ z ≤ 2147483647) ∧ (z = lwI (swR μ) f_q 0 0) ∧ True))) 4 [(0, .ref 106), (1, iv z804), (2, iv z803)] [] (mk w μ) 0 0 := by
    intro nL805
    induction nL805 with
    | zero => intro z804 z803 _ h806 h807 R811 h812; exact ((vc_X2_unlikeAddresses_1 h812 h807)).elim
    | succ nL805 ih813 =>
      intro z804 z803 _ h806 h807 R811 h812
      refine mr_iload_n (pc := 4) (z := z803) dX12_letWay_4 rfl rfl ?_
      refine mr_iconst (pc := 5) (z := 1) dX12_letWay_5 ?_
      refine mr_iadd (pc := 6) (x := z803) (y := 1) dX12_letWay_6 ?_
      refine sv_aload_n (pc := 7) dX12_letWay_7 rfl rfl ?_
      refine gk_X12_15 (pc := 8) dX12_letWay_8 wF_X12_79 (A_106 hw) q_f_q ?_
      refine mr_icmp_ge (pc := 11) (tgt := 125) dX12_letWay_11 (by decide) (r32 (rAdd (e := 1) (f := 20) h807 (rR (x := 1)) rfl) rfl) (r32 ht_f_q rfl) (fun h814 => ?_) (fun h814 => ?_)
      · refine mr_iconst (pc := 125) (z := 0) dX12_letWay_125 ?_
        exact mr_iretP dX12_letWay_126 rfl (le_t rfl) (le_t rfl) ⟨(rW (c := (-2147483648)) (d := 2147483647) (rR (x := 0)) rfl), (R811.trans (lwI.done (vc_X10_firstWrongStep_v_2 h814 ht_f_q h807))).symm, trivial⟩
      have h815 : 0 ≤ z803 ∧ z803 ≤ 18 := (vc_X10_firstWrongStep_v_3 h814 ht_f_q h807)
      have h816 : 2 ≤ f_q ∧ f_q ≤ 20 := (vc_X10_firstWrongStep_v_4 h814 ht_f_q h815)
      refine sv_aload_n (pc := 14) dX12_letWay_14 rfl rfl ?_
      refine sv_aload_n (pc := 15) dX12_letWay_15 rfl rfl ?_
      refine gf_X12_16 (pc := 16) dX12_letWay_16 wF_X12_82 (A_106 hw) hT ?_
      refine mr_iload_n (pc := 19) (z := z803) dX12_letWay_19 rfl rfl ?_
      refine la_118 (pc := 20) dX12_letWay_20 (A_118 hw) hT (rIx (n := 20) h815 rfl) fun z817 q818 h819 => ?_
      refine sv_aload_n (pc := 21) dX12_letWay_21 rfl rfl ?_
      refine gf_X12_16 (pc := 22) dX12_letWay_22 wF_X12_82 (A_106 hw) hT ?_
      refine mr_iload_n (pc := 25) (z := z803) dX12_letWay_25 rfl rfl ?_
      refine mr_iconst (pc := 26) (z := 1) dX12_letWay_26 ?_
      refine mr_iadd (pc := 27) (x := z803) (y := 1) dX12_letWay_27 ?_
      refine la_118 (pc := 28) dX12_letWay_28 (A_118 hw) hT (rIx (n := 20) (rAdd (e := 1) (f := 19) h815 (rR (x := 1)) rfl) rfl) fun z820 q821 h822 => ?_
      refine mr_cVP (pc := 29) (c_X12_tieOf_v hw hT (rW (c := (-2147483648)) (d := 2147483647) h819 rfl) (rW (c := (-2147483648)) (d := 2147483647) h822 rfl) q_f_n) (gOk _ _ _ _ _) dX12_letWay_29 (tX12_tieOf _ _ _ _ _) ⟨wV_X12_tieOf, wL_X12_tieOf⟩ wM_X12_43 (gCX12 _ _ _ _ _) rfl (A_106 hw) rfl ⟨le_t rfl, le_t rfl⟩ ⟨le_t rfl, le_t rfl⟩ rfl (le_t rfl) fun z827 h826 => ?_
      refine mr_istore_n (pc := 32) (lv' := [(3, iv z827), (0, .ref 106), (1, iv z804), (2, iv z803)]) dX12_letWay_32 rfl (by decide) rfl ?_
      refine mr_iload_n (pc := 33) (z := z827) dX12_letWay_33 rfl rfl ?_
      refine mr_ldc (pc := 34) (z := (-99999999)) dX12_letWay_34 wG_X12_29 (by decide) ?_
      refine mr_icmp_ne (pc := 36) (tgt := 43) dX12_letWay_36 (by decide) (r32 h826.1 rfl) (r32 (rR (x := (-99999999))) rfl) (fun h828 => ?_) (fun h828 => ?_)
      · have h829 : 0 ≤ z827 ∧ z827 ≤ 19 := (vc_X12_provides_2 h828 h826.2.1 h826.1)
        refine sv_aload_n (pc := 43) dX12_letWay_43 rfl rfl ?_
        refine gf_X12_8 (pc := 44) dX12_letWay_44 wF_X12_46 (A_106 hw) hT ?_
        refine mr_iload_n (pc := 47) (z := z827) dX12_letWay_47 rfl rfl ?_
        refine la_111 (pc := 48) dX12_letWay_48 (A_111 hw) hT (rIx (n := 20) h829 rfl) fun z830 q831 h832 => ?_
        obtain ⟨z833, q834⟩ : ∃ z, μ 110 ((2 * z827).toNat) = z := ⟨_, rfl⟩
        have h835 : (0 ≤ z833 ∧ z833 ≤ 9) := by rw [← q834]; exact hT 110 110 (A_110 hw) ((2 * z827).toNat)
        obtain ⟨z836, q837, h838, h839⟩ := stF.ex (kd := μ 111) (h826.2.2.1) (by decide) (vc_X12_letWay_v_7 h826.2.1 h828 h829) q831 (trOf 0 q834 (vc_X12_letWay_v_6 h826.2.1 h828 h829) (vc_X12_letWay_v_7 h826.2.1 h828 h829))
        refine mr_iconst (pc := 49) (z := 2) dX12_letWay_49 ?_
        refine mr_icmp_ne (pc := 50) (tgt := 56) dX12_letWay_50 (by decide) (r32 h832 rfl) (r32 (rR (x := 2)) rfl) (fun h840 => ?_) (fun h840 => ?_)
        · have h841 : 0 ≤ z830 ∧ z830 ≤ 1 := (vc_X12_letWay_v_8 h840 h839 h819 h832 h835 h838)
          refine sv_aload_n (pc := 56) dX12_letWay_56 rfl rfl ?_
          refine gf_X12_8 (pc := 57) dX12_letWay_57 wF_X12_46 (A_106 hw) hT ?_
          refine mr_iload_n (pc := 60) (z := z827) dX12_letWay_60 rfl rfl ?_
          refine lk_111 (pc := 61) dX12_letWay_61 (A_111 hw) (rIx (n := 20) h829 rfl) q831 ?_
          refine mr_if_ne (pc := 62) (tgt := 86) dX12_letWay_62 (by decide) (r32 h841 rfl) (fun h842 => ?_) (fun h842 => ?_)
          · have h843 : 1 ≤ z830 ∧ z830 ≤ 1 := (vc_X12_letWay_v_9 h842 h839 h840 h819 h841 h835 h838)
            refine mr_iconst (pc := 86) (z := 0) dX12_letWay_86 ?_
            refine mr_istore (pc := 87) (lv' := [(4, iv 0), (3, iv z827), (0, .ref 106), (1, iv z804), (2, iv z803)]) dX12_letWay_87 (by decide) rfl ?_
            refine mr_iload_n (pc := 89) (z := z804) dX12_letWay_89 rfl rfl ?_
            refine mr_if_eq (pc := 90) (tgt := 102) dX12_letWay_90 (by decide) (r32 h806 rfl) (fun h844 => ?_) (fun h844 => ?_)
            · have h845 : 0 ≤ z804 ∧ z804 ≤ 0 := (vc_X12_ring_22 h844 h806)
              refine sv_aload_n (pc := 102) dX12_letWay_102 rfl rfl ?_
              refine gf_X12_8 (pc := 103) dX12_letWay_103 wF_X12_46 (A_106 hw) hT ?_
              refine mr_iload_n (pc := 106) (z := z827) dX12_letWay_106 rfl rfl ?_
              refine lk_111 (pc := 107) dX12_letWay_107 (A_111 hw) (rIx (n := 20) h829 rfl) q831 ?_
              refine mr_iconst (pc := 108) (z := 1) dX12_letWay_108 ?_
              refine mr_icmp_eq (pc := 109) (tgt := 117) dX12_letWay_109 (by decide) (r32 h843 rfl) (r32 (rR (x := 1)) rfl) (fun _ => ?_) (fun h => ((vc_X12_part_9 h h843)).elim)
              refine mr_iconst (pc := 117) (z := 1) dX12_letWay_117 ?_
              refine mr_istore_n (pc := 118) (lv' := [(1, iv 1), (4, iv 0), (3, iv z827), (0, .ref 106), (2, iv z803)]) dX12_letWay_118 rfl (by decide) rfl ?_
              refine mr_iinc (pc := 119) (lv' := [(2, iv (z803 + 1)), (1, iv 1), (4, iv 0), (3, iv z827), (0, .ref 106)]) dX12_letWay_119 rfl (by decide) rfl ?_
              refine sv_goto (pc := 122) (tgt := 4) dX12_letWay_122 (by decide) ?_
              refine mr_lvS (lv' := [(0, .ref 106), (1, iv 1), (2, iv (z803 + 1))]) (List.forall_mem_cons.mpr ⟨rfl, List.forall_mem_cons.mpr ⟨rfl, List.forall_mem_cons.mpr ⟨rfl, fun _ h => absurd h List.not_mem_nil⟩⟩⟩) ?_
              exact ih813 1 (z803 + 1) trivial (rW (c := 0) (d := 1) (rR (x := 1)) rfl) (rW (c := 0) (d := 19) (rAdd (e := 1) (f := 19) h815 (rR (x := 1)) rfl) rfl) (R811.trans (lwI.next (vc_X12_letWay_v_13 h814 h839 h840 h842 h844 h816 h815 h845 h819 h843 h835 h838) (swR.of q818 q821 (vc_X10_firstWrongStep_v_15 h814 h816 h815) q_f_n q837) (vc_X12_letWay_v_15 h814 h839 h840 h842 h844 h816 h815 h845 h819 h843 h835 h838))) (vc_X10_firstWrongStep_v_13 (nS h812) h814 h816 h815)
            have h846 : 1 ≤ z804 ∧ z804 ≤ 1 := (vc_X12_ring_24 h844 h806)
            refine mr_iload (pc := 93) (z := 0) dX12_letWay_93 rfl ?_
            refine mr_if_ne (pc := 95) (tgt := 102) dX12_letWay_95 (by decide) (r32 (rR (x := 0)) rfl) (fun h => ((vc_X12_next_469 h)).elim) (fun _ => ?_)
            refine mr_iload_n (pc := 98) (z := z803) dX12_letWay_98 rfl rfl ?_
            refine mr_iconst (pc := 99) (z := 1) dX12_letWay_99 ?_
            refine mr_iadd (pc := 100) (x := z803) (y := 1) dX12_letWay_100 ?_
            exact mr_iretP dX12_letWay_101 rfl (le_t rfl) (le_t rfl) ⟨(rW (c := (-2147483648)) (d := 2147483647) (rAdd (e := 1) (f := 19) h815 (rR (x := 1)) rfl) rfl), (R811.trans (lwI.stop (vc_X10_firstWrongStep_v_19 h814 h844 h816 h815 h846) (swR.of q818 q821 (vc_X10_firstWrongStep_v_15 h814 h816 h815) q_f_n q837) (vc_X12_letWay_v_19 h814 h839 h840 h842 h844 h816 h815 h846 h819 h843 h835 h838))).symm, trivial⟩
          have h847 : 0 ≤ z830 ∧ z830 ≤ 0 := (vc_X12_letWay_v_20 h842 h839 h840 h819 h841 h835 h838)
          refine sv_aload_n (pc := 65) dX12_letWay_65 rfl rfl ?_
          refine gf_X12_7 (pc := 66) dX12_letWay_66 wF_X12_40 (A_106 hw) hT ?_
          refine mr_iconst (pc := 69) (z := 2) dX12_letWay_69 ?_
          refine mr_iload_n (pc := 70) (z := z827) dX12_letWay_70 rfl rfl ?_
          refine mr_imul (pc := 71) (x := 2) (y := z827) dX12_letWay_71 ?_
          refine lk_110 (pc := 72) dX12_letWay_72 (A_110 hw) (rIx (n := 40) (rMulL (n := 2) (e := 0) (f := 38) h829 rfl) rfl) q834 ?_
          refine sv_aload_n (pc := 73) dX12_letWay_73 rfl rfl ?_
          refine gf_X12_16 (pc := 74) dX12_letWay_74 wF_X12_82 (A_106 hw) hT ?_
          refine mr_iload_n (pc := 77) (z := z803) dX12_letWay_77 rfl rfl ?_
          refine lk_118 (pc := 78) dX12_letWay_78 (A_118 hw) (rIx (n := 20) h815 rfl) q818 ?_
          refine mr_icmp_ne (pc := 79) (tgt := 86) dX12_letWay_79 (by decide) (r32 h835 rfl) (r32 h819 rfl) (fun h848 => ?_) (fun h848 => ?_)
          · refine mr_iconst (pc := 86) (z := 0) dX12_letWay_86 ?_
            refine mr_istore (pc := 87) (lv' := [(4, iv 0), (3, iv z827), (0, .ref 106), (1, iv z804), (2, iv z803)]) dX12_letWay_87 (by decide) rfl ?_
            refine mr_iload_n (pc := 89) (z := z804) dX12_letWay_89 rfl rfl ?_
            refine mr_if_eq (pc := 90) (tgt := 102) dX12_letWay_90 (by decide) (r32 h806 rfl) (fun h849 => ?_) (fun h849 => ?_)
            · have h850 : 0 ≤ z804 ∧ z804 ≤ 0 := (vc_X12_ring_22 h849 h806)
              refine sv_aload_n (pc := 102) dX12_letWay_102 rfl rfl ?_
              refine gf_X12_8 (pc := 103) dX12_letWay_103 wF_X12_46 (A_106 hw) hT ?_
              refine mr_iload_n (pc := 106) (z := z827) dX12_letWay_106 rfl rfl ?_
              refine lk_111 (pc := 107) dX12_letWay_107 (A_111 hw) (rIx (n := 20) h829 rfl) q831 ?_
              refine mr_iconst (pc := 108) (z := 1) dX12_letWay_108 ?_
              refine mr_icmp_eq (pc := 109) (tgt := 117) dX12_letWay_109 (by decide) (r32 h847 rfl) (r32 (rR (x := 1)) rfl) (fun h => ((vc_X12_letWay_v_21 h h847)).elim) (fun _ => ?_)
              refine mr_iload (pc := 112) (z := 0) dX12_letWay_112 rfl ?_
              refine mr_if_eq (pc := 114) (tgt := 119) dX12_letWay_114 (by decide) (r32 (rR (x := 0)) rfl) (fun _ => ?_) (fun h => ((vc_X12_next_469 h)).elim)
              refine mr_iinc (pc := 119) (lv' := [(2, iv (z803 + 1)), (4, iv 0), (3, iv z827), (0, .ref 106), (1, iv z804)]) dX12_letWay_119 rfl (by decide) rfl ?_
              refine sv_goto (pc := 122) (tgt := 4) dX12_letWay_122 (by decide) ?_
              refine mr_lvS (lv' := [(0, .ref 106), (1, iv z804), (2, iv (z803 + 1))]) (List.forall_mem_cons.mpr ⟨rfl, List.forall_mem_cons.mpr ⟨rfl, List.forall_mem_cons.mpr ⟨rfl, fun _ h => absurd h List.not_mem_nil⟩⟩⟩) ?_
              exact ih813 z804 (z803 + 1) trivial (rW (c := 0) (d := 1) h850 rfl) (rW (c := 0) (d := 19) (rAdd (e := 1) (f := 19) h815 (rR (x := 1)) rfl) rfl) (R811.trans (lwI.next (vc_X12_letWay_v_22 h814 h839 h840 h842 h848 h849 h816 h815 h850 h819 h847 h835 h838) (swR.of q818 q821 (vc_X10_firstWrongStep_v_15 h814 h816 h815) q_f_n q837) (vc_X12_letWay_v_23 h814 h839 h840 h842 h848 h849 h816 h815 h850 h819 h847 h835 h838))) (vc_X10_firstWrongStep_v_13 (nS h812) h814 h816 h815)
            have h851 : 1 ≤ z804 ∧ z804 ≤ 1 := (vc_X12_ring_24 h849 h806)
            refine mr_iload (pc := 93) (z := 0) dX12_letWay_93 rfl ?_
            refine mr_if_ne (pc := 95) (tgt := 102) dX12_letWay_95 (by decide) (r32 (rR (x := 0)) rfl) (fun h => ((vc_X12_next_469 h)).elim) (fun _ => ?_)
            refine mr_iload_n (pc := 98) (z := z803) dX12_letWay_98 rfl rfl ?_
            refine mr_iconst (pc := 99) (z := 1) dX12_letWay_99 ?_
            refine mr_iadd (pc := 100) (x := z803) (y := 1) dX12_letWay_100 ?_
            exact mr_iretP dX12_letWay_101 rfl (le_t rfl) (le_t rfl) ⟨(rW (c := (-2147483648)) (d := 2147483647) (rAdd (e := 1) (f := 19) h815 (rR (x := 1)) rfl) rfl), (R811.trans (lwI.stop (vc_X10_firstWrongStep_v_19 h814 h849 h816 h815 h851) (swR.of q818 q821 (vc_X10_firstWrongStep_v_15 h814 h816 h815) q_f_n q837) (vc_X12_letWay_v_24 h814 h839 h840 h842 h848 h849 h816 h815 h851 h819 h847 h835 h838))).symm, trivial⟩
          refine mr_iconst (pc := 82) (z := 1) dX12_letWay_82 ?_
          refine sv_goto (pc := 83) (tgt := 87) dX12_letWay_83 (by decide) ?_
          refine mr_istore (pc := 87) (lv' := [(4, iv 1), (3, iv z827), (0, .ref 106), (1, iv z804), (2, iv z803)]) dX12_letWay_87 (by decide) rfl ?_
          refine mr_iload_n (pc := 89) (z := z804) dX12_letWay_89 rfl rfl ?_
          refine mr_if_eq (pc := 90) (tgt := 102) dX12_letWay_90 (by decide) (r32 h806 rfl) (fun h852 => ?_) (fun h852 => ?_)
          · have h853 : 0 ≤ z804 ∧ z804 ≤ 0 := (vc_X12_ring_22 h852 h806)
            refine sv_aload_n (pc := 102) dX12_letWay_102 rfl rfl ?_
            refine gf_X12_8 (pc := 103) dX12_letWay_103 wF_X12_46 (A_106 hw) hT ?_
            refine mr_iload_n (pc := 106) (z := z827) dX12_letWay_106 rfl rfl ?_
            refine lk_111 (pc := 107) dX12_letWay_107 (A_111 hw) (rIx (n := 20) h829 rfl) q831 ?_
            refine mr_iconst (pc := 108) (z := 1) dX12_letWay_108 ?_
            refine mr_icmp_eq (pc := 109) (tgt := 117) dX12_letWay_109 (by decide) (r32 h847 rfl) (r32 (rR (x := 1)) rfl) (fun h => ((vc_X12_letWay_v_21 h h847)).elim) (fun _ => ?_)
            refine mr_iload (pc := 112) (z := 1) dX12_letWay_112 rfl ?_
            refine mr_if_eq (pc := 114) (tgt := 119) dX12_letWay_114 (by decide) (r32 (rR (x := 1)) rfl) (fun h => ((vc_X12_next_203 h)).elim) (fun _ => ?_)
            refine mr_iconst (pc := 117) (z := 1) dX12_letWay_117 ?_
            refine mr_istore_n (pc := 118) (lv' := [(1, iv 1), (4, iv 1), (3, iv z827), (0, .ref 106), (2, iv z803)]) dX12_letWay_118 rfl (by decide) rfl ?_
            refine mr_iinc (pc := 119) (lv' := [(2, iv (z803 + 1)), (1, iv 1), (4, iv 1), (3, iv z827), (0, .ref 106)]) dX12_letWay_119 rfl (by decide) rfl ?_
            refine sv_goto (pc := 122) (tgt := 4) dX12_letWay_122 (by decide) ?_
            refine mr_lvS (lv' := [(0, .ref 106), (1, iv 1), (2, iv (z803 + 1))]) (List.forall_mem_cons.mpr ⟨rfl, List.forall_mem_cons.mpr ⟨rfl, List.forall_mem_cons.mpr ⟨rfl, fun _ h => absurd h List.not_mem_nil⟩⟩⟩) ?_
            exact ih813 1 (z803 + 1) trivial (rW (c := 0) (d := 1) (rR (x := 1)) rfl) (rW (c := 0) (d := 19) (rAdd (e := 1) (f := 19) h815 (rR (x := 1)) rfl) rfl) (R811.trans (lwI.next (vc_X12_letWay_v_26 h814 h839 h840 h842 h848 h852 h816 h815 h853 h819 h847 h835 h838) (swR.of q818 q821 (vc_X10_firstWrongStep_v_15 h814 h816 h815) q_f_n q837) (vc_X12_letWay_v_27 h814 h839 h840 h842 h848 h852 h816 h815 h853 h819 h847 h835 h838))) (vc_X10_firstWrongStep_v_13 (nS h812) h814 h816 h815)
          have h854 : 1 ≤ z804 ∧ z804 ≤ 1 := (vc_X12_ring_24 h852 h806)
          refine mr_iload (pc := 93) (z := 1) dX12_letWay_93 rfl ?_
          refine mr_if_ne (pc := 95) (tgt := 102) dX12_letWay_95 (by decide) (r32 (rR (x := 1)) rfl) (fun _ => ?_) (fun h => ((vc_X12_next_203 h)).elim)
          refine sv_aload_n (pc := 102) dX12_letWay_102 rfl rfl ?_
          refine gf_X12_8 (pc := 103) dX12_letWay_103 wF_X12_46 (A_106 hw) hT ?_
          refine mr_iload_n (pc := 106) (z := z827) dX12_letWay_106 rfl rfl ?_
          refine lk_111 (pc := 107) dX12_letWay_107 (A_111 hw) (rIx (n := 20) h829 rfl) q831 ?_
          refine mr_iconst (pc := 108) (z := 1) dX12_letWay_108 ?_
          refine mr_icmp_eq (pc := 109) (tgt := 117) dX12_letWay_109 (by decide) (r32 h847 rfl) (r32 (rR (x := 1)) rfl) (fun h => ((vc_X12_letWay_v_21 h h847)).elim) (fun _ => ?_)
          refine mr_iload (pc := 112) (z := 1) dX12_letWay_112 rfl ?_
          refine mr_if_eq (pc := 114) (tgt := 119) dX12_letWay_114 (by decide) (r32 (rR (x := 1)) rfl) (fun h => ((vc_X12_next_203 h)).elim) (fun _ => ?_)
          refine mr_iconst (pc := 117) (z := 1) dX12_letWay_117 ?_
          refine mr_istore_n (pc := 118) (lv' := [(1, iv 1), (4, iv 1), (3, iv z827), (0, .ref 106), (2, iv z803)]) dX12_letWay_118 rfl (by decide) rfl ?_
          refine mr_iinc (pc := 119) (lv' := [(2, iv (z803 + 1)), (1, iv 1), (4, iv 1), (3, iv z827), (0, .ref 106)]) dX12_letWay_119 rfl (by decide) rfl ?_
          refine sv_goto (pc := 122) (tgt := 4) dX12_letWay_122 (by decide) ?_
          refine mr_lvS (lv' := [(0, .ref 106), (1, iv 1), (2, iv (z803 + 1))]) (List.forall_mem_cons.mpr ⟨rfl, List.forall_mem_cons.mpr ⟨rfl, List.forall_mem_cons.mpr ⟨rfl, fun _ h => absurd h List.not_mem_nil⟩⟩⟩) ?_
          exact ih813 1 (z803 + 1) trivial (rW (c := 0) (d := 1) (rR (x := 1)) rfl) (rW (c := 0) (d := 19) (rAdd (e := 1) (f := 19) h815 (rR (x := 1)) rfl) rfl) (R811.trans (lwI.next (vc_X12_letWay_v_28 h814 h839 h840 h842 h848 h852 h816 h815 h854 h819 h847 h835 h838) (swR.of q818 q821 (vc_X10_firstWrongStep_v_15 h814 h816 h815) q_f_n q837) (vc_X12_letWay_v_29 h814 h839 h840 h842 h848 h852 h816 h815 h854 h819 h847 h835 h838))) (vc_X10_firstWrongStep_v_13 (nS h812) h814 h816 h815)
        have h855 : 2 ≤ z830 ∧ z830 ≤ 2 := (vc_X12_letWay_v_30 h840 h839 h819 h832 h835 h838)
        refine sv_goto (pc := 53) (tgt := 119) dX12_letWay_53 (by decide) ?_
        refine mr_iinc (pc := 119) (lv' := [(2, iv (z803 + 1)), (3, iv z827), (0, .ref 106), (1, iv z804)]) dX12_letWay_119 rfl (by decide) rfl ?_
        refine sv_goto (pc := 122) (tgt := 4) dX12_letWay_122 (by decide) ?_
        refine mr_lvS (lv' := [(0, .ref 106), (1, iv z804), (2, iv (z803 + 1))]) (List.forall_mem_cons.mpr ⟨rfl, List.forall_mem_cons.mpr ⟨rfl, List.forall_mem_cons.mpr ⟨rfl, fun _ h => absurd h List.not_mem_nil⟩⟩⟩) ?_
        exact ih813 z804 (z803 + 1) trivial h806 (rW (c := 0) (d := 19) (rAdd (e := 1) (f := 19) h815 (rR (x := 1)) rfl) rfl) (R811.trans (lwI.next (vc_X12_letWay_v_31 h814 h839 h840 h816 h815 h806 h819 h855 h835 h838) (swR.of q818 q821 (vc_X10_firstWrongStep_v_15 h814 h816 h815) q_f_n q837) (vc_X12_letWay_v_32 h814 h839 h840 h816 h815 h806 h819 h855 h835 h838))) (vc_X10_firstWrongStep_v_13 (nS h812) h814 h816 h815)
      have h856 : (-99999999) ≤ z827 ∧ z827 ≤ (-99999999) := (vc_X12_provides_1 h828 h826.2.1 h826.1)
      refine mr_iload_n (pc := 39) (z := z803) dX12_letWay_39 rfl rfl ?_
      refine mr_iconst (pc := 40) (z := 1) dX12_letWay_40 ?_
      refine mr_iadd (pc := 41) (x := z803) (y := 1) dX12_letWay_41 ?_
      exact mr_iretP dX12_letWay_42 rfl (le_t rfl) (le_t rfl) ⟨(rW (c := (-2147483648)) (d := 2147483647) (rAdd (e := 1) (f := 19) h815 (rR (x := 1)) rfl) rfl), (R811.trans (lwI.stop (v := -1) (vc_X10_firstWrongStep_v_40 h814 h816 h815 h806) (swR.of q818 q821 (vc_X10_firstWrongStep_v_15 h814 h816 h815) q_f_n (stF.no (h826.2.2.1) (by decide) (vc_X12_tie_v_29 h826.2.1 h828 h856))) (Or.inl rfl))).symm, trivial⟩
  refine mr_lvS (lv' := [(0, .ref 106), (1, iv 0), (2, iv 0)]) (List.forall_mem_cons.mpr ⟨rfl, List.forall_mem_cons.mpr ⟨rfl, List.forall_mem_cons.mpr ⟨rfl, fun _ h => absurd h List.not_mem_nil⟩⟩⟩) ?_
  exact L805 21 0 0 trivial (rW (c := 0) (d := 1) (rR (x := 0)) rfl) (rW (c := 0) (d := 19) (rR (x := 0)) rfl) rfl vc_X2_unlikeAddresses_7
