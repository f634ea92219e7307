theorem vc_X10_tieBetween_v_2 {f_n n1 z461 : Int} (h0 : f_n = n1) (h1 : f_n ≤ z461) (h2 : 0 ≤ f_n ∧ f_n ≤ 20) (h3 : 0 ≤ z461 ∧ z461 ≤ 20) : (-1 : Int) < n1 := by omega
theorem vc_X10_tieBetween_v_3 {f_n n1 z461 : Int} (h0 : f_n = n1) (h1 : f_n ≤ z461) (h2 : 0 ≤ f_n ∧ f_n ≤ 20) (h3 : 0 ≤ z461 ∧ z461 ≤ 20) : f_n ≤ z461 := by omega
theorem vc_X10_tieBetween_v_4 {f_n n1 z461 : Int} (h0 : z461 < f_n) (h1 : f_n = n1) (h2 : 0 ≤ f_n ∧ f_n ≤ 20) (h3 : 0 ≤ z461 ∧ z461 ≤ 20) : 0 ≤ z461 ∧ z461 ≤ 19 := by omega
theorem vc_X10_tieBetween_v_5 {f_n n1 z461 : Int} (h0 : z461 < f_n) (h1 : f_n = n1) (h2 : 0 ≤ f_n ∧ f_n ≤ 20) (h3 : 0 ≤ z461 ∧ z461 ≤ 19) : 1 ≤ f_n ∧ f_n ≤ 20 := by omega
theorem vc_X10_tieBetween_v_6 {f_n n1 z461 : Int} (h0 : f_n = n1) (h1 : z461 < f_n) (h2 : 1 ≤ f_n ∧ f_n ≤ 20) (h3 : 0 ≤ z461 ∧ z461 ≤ 19) : z461 < n1 := by omega
theorem vc_X10_tieBetween_v_7 {N f_n n1 z461 : Int} (h0 : (21 - z461) < N + 1) (h1 : z461 < f_n) (h2 : f_n = n1) (h3 : 1 ≤ f_n ∧ f_n ≤ 20) (h4 : 0 ≤ z461 ∧ z461 ≤ 19) : (21 - (z461 + 1)) < N := by omega
theorem vc_X10_tieBetween_v_8 {f_n n1 z461 : Int} (h0 : z461 < f_n) (h1 : f_n = n1) (h2 : 1 ≤ f_n ∧ f_n ≤ 20) (h3 : 0 ≤ z461 ∧ z461 ≤ 19) : 0 ≤ z461 := by omega
theorem vc_X10_tieBetween_v_9 {n0 p1 p2 z476 : Int} (h0 : z476 < n0) (h1 : ¬ z476 = p1) (h2 : ¬ z476 = p2) (h3 : (-2147483648) ≤ p1 ∧ p1 ≤ 2147483647) (h4 : (-2147483648) ≤ p2 ∧ p2 ≤ 2147483647) (h5 : 0 ≤ z476 ∧ z476 ≤ 9) : ¬ z476 = p1 ∧ ¬ z476 = p2 := by omega
theorem vc_X10_tieBetween_v_11 {n0 p1 p2 z476 z483 : Int} (h0 : z476 < n0) (h1 : ¬ z476 = p1) (h2 : z476 = p2) (h3 : z483 < n0) (h4 : ¬ z483 = p1) (h5 : (-2147483648) ≤ p1 ∧ p1 ≤ 2147483647) (h6 : 0 ≤ p2 ∧ p2 ≤ 9) (h7 : 0 ≤ z476 ∧ z476 ≤ 9) (h8 : 0 ≤ z483 ∧ z483 ≤ 9) : ¬ ((z476 = p1 ∧ z483 = p2) ∨ (z476 = p2 ∧ z483 = p1)) := by omega
theorem vc_X10_tieBetween_v_13 {f_n n1 z461 : Int} (h0 : f_n = n1) (h1 : z461 < f_n) (h2 : 1 ≤ f_n ∧ f_n ≤ 20) (h3 : 0 ≤ z461 ∧ z461 ≤ 19) : 0 ≤ z461 ∧ z461 < f_n := by omega
theorem vc_X10_tieBetween_v_14 {n0 p1 p2 z476 z483 : Int} (h0 : z476 < n0) (h1 : ¬ z476 = p1) (h2 : z476 = p2) (h3 : z483 < n0) (h4 : z483 = p1) (h5 : 0 ≤ p1 ∧ p1 ≤ 9) (h6 : 0 ≤ p2 ∧ p2 ≤ 9) (h7 : 0 ≤ z476 ∧ z476 ≤ 9) (h8 : 0 ≤ z483 ∧ z483 ≤ 9) : (z476 = p1 ∧ z483 = p2) ∨ (z476 = p2 ∧ z483 = p1) := by omega
theorem vc_X10_tieBetween_v_17 {n0 p1 p2 z476 z490 : Int} (h0 : z476 < n0) (h1 : z476 = p1) (h2 : z490 < n0) (h3 : z490 = p2) (h4 : 0 ≤ p1 ∧ p1 ≤ 9) (h5 : 0 ≤ p2 ∧ p2 ≤ 9) (h6 : 0 ≤ z476 ∧ z476 ≤ 9) (h7 : 0 ≤ z490 ∧ z490 ≤ 9) : (z476 = p1 ∧ z490 = p2) ∨ (z476 = p2 ∧ z490 = p1) := by omega
theorem vc_X10_tieBetween_v_18 {n0 p1 p2 z476 z490 : Int} (h0 : z476 < n0) (h1 : z476 = p1) (h2 : z490 < n0) (h3 : ¬ z490 = p2) (h4 : ¬ z476 = p2) (h5 : 0 ≤ p1 ∧ p1 ≤ 9) (h6 : (-2147483648) ≤ p2 ∧ p2 ≤ 2147483647) (h7 : 0 ≤ z476 ∧ z476 ≤ 9) (h8 : 0 ≤ z490 ∧ z490 ≤ 9) : ¬ ((z476 = p1 ∧ z490 = p2) ∨ (z476 = p2 ∧ z490 = p1)) := by omega
theorem vc_X10_tieBetween_v_20 {n0 p1 p2 z476 z490 : Int} (h0 : z476 < n0) (h1 : z476 = p1) (h2 : z490 < n0) (h3 : ¬ z490 = p2) (h4 : z476 = p2) (h5 : ¬ z490 = p1) (h6 : 0 ≤ p1 ∧ p1 ≤ 9) (h7 : 0 ≤ p2 ∧ p2 ≤ 9) (h8 : 0 ≤ z476 ∧ z476 ≤ 9) (h9 : 0 ≤ z490 ∧ z490 ≤ 9) : ¬ ((z476 = p1 ∧ z490 = p2) ∨ (z476 = p2 ∧ z490 = p1)) := by omega
theorem vc_X10_tieBetween_v_21 {n0 p1 p2 z476 z490 : Int} (h0 : z476 < n0) (h1 : z476 = p1) (h2 : z490 < n0) (h3 : ¬ z490 = p2) (h4 : z476 = p2) (h5 : z490 = p1) (h6 : 0 ≤ p1 ∧ p1 ≤ 9) (h7 : 0 ≤ p2 ∧ p2 ≤ 9) (h8 : 0 ≤ z476 ∧ z476 ≤ 9) (h9 : 0 ≤ z490 ∧ z490 ≤ 9) : (z476 = p1 ∧ z490 = p2) ∨ (z476 = p2 ∧ z490 = p1) := by omega
theorem vc_X10_tieBetween_v_23  : ((0 : Int) : Int) ≤ (0 : Int) := by omega
set_option maxRecDepth 4000 in
set_option maxHeartbeats 4000000 in
theorem c_X10_tieBetween_v {l : Launch} {D : va_G} {c : Nat → ClassId} {H0 : Heap} {sa : Nat × Nat × (Nat → Int32)} {w : mW} {μ : mM} (hw : mWF w) (hT : mT w μ) {p1 : Int} (hp1 : (-2147483648) ≤ p1 ∧ p1 ≤ 2147483647) {p2 : Int} (hp2 : (-2147483648) ≤ p2 ∧ p2 ≤ 2147483647) {f_n : Int} (q_f_n : μ 6 16 = f_n) : sC (gG l D c H0 sa) mX10_tieBetween 1 0 0 [.ref 6, iv p1, iv p2] (mk w μ) (qP w μ (fun z => ((-1) ≤ z ∧ z ≤ 19) ∧ (z < w.2.2.2 1) ∧ (fndQ (tc μ 0) (tc μ 1) f_n p1 p2 (-1) z) ∧ True)) := by
  refine sC.of rfl (by decide) (le_t rfl) ?_
  have ht_f_n : (f_n = w.2.2.2 1 ∧ 0 ≤ f_n ∧ f_n ≤ 20) := by rw [← q_f_n]; exact hT 6 6 (A_6 hw) 16
  refine mr_lvE (lv' := [(0, .ref 6), (1, iv p1), (2, iv p2)]) rfl ?_
  refine mr_iconst (pc := 0) (z := 0) dX10_tieBetween_0 ?_
  refine mr_istore_n (pc := 1) (lv' := [(3, iv 0), (0, .ref 6), (1, iv p1), (2, iv p2)]) dX10_tieBetween_1 rfl (by decide) rfl ?_
  have L462 : ∀ (nL462 : Nat) (z461 : Int), True → (0 ≤ z461 ∧ z461 ≤ 20) → noneQ (tc μ 0) (tc μ 1) z461 p1 p2 → (21 - z461) < (nL462 : Int) → sV (gG l D c H0 sa) mX10_tieBetween (sRm 1 0 0) (sZ (gG l D c H0 sa) 0 0 (qP w μ (fun z => ((-1) ≤ z ∧ z ≤ 19) ∧ (z < w.2.2.2 1) ∧ (fndQ (tc μ 0) (tc μ 1) f_n p1 p2 (-1) z) ∧ True))) 2 [(0, .ref 6), (1, iv p1), (2, iv p2), (3, iv z461)] [] (mk w μ) 0 0 := by
    intro nL462
    induction nL462 with
    | zero => intro z461 _ h463 R467 h468; exact ((vc_X12_feed_2 h468 h463)).elim
    | succ nL462 ih469 =>
      intro z461 _ h463 R467 h468
      refine mr_iload_n (pc := 2) (z := z461) dX10_tieBetween_2 rfl rfl ?_
      refine sv_aload_n (pc := 3) dX10_tieBetween_3 rfl rfl ?_
      refine gk_X10_16 (pc := 4) dX10_tieBetween_4 wF_X10_72 (A_6 hw) q_f_n ?_
      refine mr_icmp_ge (pc := 7) (tgt := 62) dX10_tieBetween_7 (by decide) (r32 h463 rfl) (r32 ht_f_n.2 rfl) (fun h470 => ?_) (fun h470 => ?_)
      · refine mr_iconst (pc := 62) (z := (-1)) dX10_tieBetween_62 ?_
        exact mr_iretP dX10_tieBetween_63 rfl (le_t rfl) (le_t rfl) ⟨(rW (c := (-1)) (d := 19) (rR (x := (-1))) rfl), (vc_X10_tieBetween_v_2 ht_f_n.1 h470 ht_f_n.2 h463), (fndQ.miss R467 (vc_X10_tieBetween_v_3 ht_f_n.1 h470 ht_f_n.2 h463)), trivial⟩
      have h471 : 0 ≤ z461 ∧ z461 ≤ 19 := (vc_X10_tieBetween_v_4 h470 ht_f_n.1 ht_f_n.2 h463)
      have h472 : 1 ≤ f_n ∧ f_n ≤ 20 := (vc_X10_tieBetween_v_5 h470 ht_f_n.1 ht_f_n.2 h471)
      refine sv_aload_n (pc := 10) dX10_tieBetween_10 rfl rfl ?_
      refine gf_X10_4 (pc := 11) dX10_tieBetween_11 wF_X10_29 (A_6 hw) hT ?_
      refine mr_iload_n (pc := 14) (z := z461) dX10_tieBetween_14 rfl rfl ?_
      refine la_11 (pc := 15) dX10_tieBetween_15 (A_11 hw) hT (rIx (n := 20) h471 rfl) (vc_X10_tieBetween_v_6 ht_f_n.1 h470 h472 h471) fun b473 q474 A475 => ?_
      refine mr_astore (pc := 16) (lv' := [(4, .ref b473), (0, .ref 6), (1, iv p1), (2, iv p2), (3, iv z461)]) dX10_tieBetween_16 (by decide) rfl ?_
      refine sv_aload (pc := 18) dX10_tieBetween_18 rfl ?_
      refine gf_X9_0 (pc := 20) dX10_tieBetween_20 wF_X10_78 A475 hT fun z476 q477 h478 => ?_
      have h479 : 0 ≤ z476 ∧ z476 ≤ 9 := ⟨h478.1, h478.2.1⟩
      refine mr_iload_n (pc := 23) (z := p1) dX10_tieBetween_23 rfl rfl ?_
      refine mr_icmp_ne (pc := 24) (tgt := 36) dX10_tieBetween_24 (by decide) (r32 h479 rfl) hp1 (fun h480 => ?_) (fun h480 => ?_)
      · refine sv_aload (pc := 36) dX10_tieBetween_36 rfl ?_
        refine gk_X9_0 (pc := 38) dX10_tieBetween_38 wF_X10_78 A475 q477 ?_
        refine mr_iload_n (pc := 41) (z := p2) dX10_tieBetween_41 rfl rfl ?_
        refine mr_icmp_ne (pc := 42) (tgt := 56) dX10_tieBetween_42 (by decide) (r32 h479 rfl) hp2 (fun h481 => ?_) (fun h481 => ?_)
        · refine mr_iinc (pc := 56) (lv' := [(3, iv (z461 + 1)), (4, .ref b473), (0, .ref 6), (1, iv p1), (2, iv p2)]) dX10_tieBetween_56 rfl (by decide) rfl ?_
          refine sv_goto (pc := 59) (tgt := 2) dX10_tieBetween_59 (by decide) ?_
          refine mr_lvS (lv' := [(0, .ref 6), (1, iv p1), (2, iv p2), (3, iv (z461 + 1))]) (List.forall_mem_cons.mpr ⟨rfl, List.forall_mem_cons.mpr ⟨rfl, List.forall_mem_cons.mpr ⟨rfl, List.forall_mem_cons.mpr ⟨rfl, fun _ h => absurd h List.not_mem_nil⟩⟩⟩⟩) ?_
          exact ih469 (z461 + 1) trivial (rW (c := 0) (d := 20) (rAdd (e := 1) (f := 20) h471 (rR (x := 1)) rfl) rfl) (noneQ.succ1 R467 (vc_X10_tieBetween_v_8 h470 ht_f_n.1 h472 h471) (tcOf q474 q477) (vc_X10_tieBetween_v_9 h478.2.2 h480 h481 hp1 hp2 h479)) (vc_X10_tieBetween_v_7 (nS h468) h470 ht_f_n.1 h472 h471)
        have h482 : 0 ≤ p2 ∧ p2 ≤ 9 := (vc_X10_tieBetween_7 h481 h478.2.2 h480 hp1 hp2 h479)
        refine sv_aload (pc := 45) dX10_tieBetween_45 rfl ?_
        refine gf_X9_1 (pc := 47) dX10_tieBetween_47 wF_X10_81 A475 hT fun z483 q484 h485 => ?_
        have h486 : 0 ≤ z483 ∧ z483 ≤ 9 := ⟨h485.1, h485.2.1⟩
        refine mr_iload_n (pc := 50) (z := p1) dX10_tieBetween_50 rfl rfl ?_
        refine mr_icmp_ne (pc := 51) (tgt := 56) dX10_tieBetween_51 (by decide) (r32 h486 rfl) hp1 (fun h487 => ?_) (fun h487 => ?_)
        · refine mr_iinc (pc := 56) (lv' := [(3, iv (z461 + 1)), (4, .ref b473), (0, .ref 6), (1, iv p1), (2, iv p2)]) dX10_tieBetween_56 rfl (by decide) rfl ?_
          refine sv_goto (pc := 59) (tgt := 2) dX10_tieBetween_59 (by decide) ?_
          refine mr_lvS (lv' := [(0, .ref 6), (1, iv p1), (2, iv p2), (3, iv (z461 + 1))]) (List.forall_mem_cons.mpr ⟨rfl, List.forall_mem_cons.mpr ⟨rfl, List.forall_mem_cons.mpr ⟨rfl, List.forall_mem_cons.mpr ⟨rfl, fun _ h => absurd h List.not_mem_nil⟩⟩⟩⟩) ?_
          exact ih469 (z461 + 1) trivial (rW (c := 0) (d := 20) (rAdd (e := 1) (f := 20) h471 (rR (x := 1)) rfl) rfl) (noneQ.succ R467 (vc_X10_tieBetween_v_8 h470 ht_f_n.1 h472 h471) (tcOf q474 q477) (tcOf q474 q484) (vc_X10_tieBetween_v_11 h478.2.2 h480 h481 h485.2.2 h487 hp1 h482 h479 h486)) (vc_X10_tieBetween_v_7 (nS h468) h470 ht_f_n.1 h472 h471)
        have h488 : 0 ≤ p1 ∧ p1 ≤ 9 := (vc_X10_tieBetween_8 h487 h480 h485.2.2 hp1 h479 h486)
        refine mr_iload_n (pc := 54) (z := z461) dX10_tieBetween_54 rfl rfl ?_
        exact mr_iretP dX10_tieBetween_55 rfl (le_t rfl) (le_t rfl) ⟨(rW (c := (-1)) (d := 19) h471 rfl), (vc_X10_tieBetween_v_6 ht_f_n.1 h470 h472 h471), (fndQ.hit (vc_X10_tieBetween_v_13 ht_f_n.1 h470 h472 h471) (tcOf q474 q477) (tcOf q474 q484) (vc_X10_tieBetween_v_14 h478.2.2 h480 h481 h485.2.2 h487 h488 h482 h479 h486) R467), trivial⟩
      have h489 : 0 ≤ p1 ∧ p1 ≤ 9 := (vc_X10_tieBetween_9 h480 h478.2.2 hp1 h479)
      refine sv_aload (pc := 27) dX10_tieBetween_27 rfl ?_
      refine gf_X9_1 (pc := 29) dX10_tieBetween_29 wF_X10_81 A475 hT fun z490 q491 h492 => ?_
      have h493 : 0 ≤ z490 ∧ z490 ≤ 9 := ⟨h492.1, h492.2.1⟩
      refine mr_iload_n (pc := 32) (z := p2) dX10_tieBetween_32 rfl rfl ?_
      refine mr_icmp_eq (pc := 33) (tgt := 54) dX10_tieBetween_33 (by decide) (r32 h493 rfl) hp2 (fun h494 => ?_) (fun h494 => ?_)
      · have h495 : 0 ≤ p2 ∧ p2 ≤ 9 := (vc_X10_tieBetween_9 h494 h492.2.2 hp2 h493)
        refine mr_iload_n (pc := 54) (z := z461) dX10_tieBetween_54 rfl rfl ?_
        exact mr_iretP dX10_tieBetween_55 rfl (le_t rfl) (le_t rfl) ⟨(rW (c := (-1)) (d := 19) h471 rfl), (vc_X10_tieBetween_v_6 ht_f_n.1 h470 h472 h471), (fndQ.hit (vc_X10_tieBetween_v_13 ht_f_n.1 h470 h472 h471) (tcOf q474 q477) (tcOf q474 q491) (vc_X10_tieBetween_v_17 h478.2.2 h480 h492.2.2 h494 h489 h495 h479 h493) R467), trivial⟩
      refine sv_aload (pc := 36) dX10_tieBetween_36 rfl ?_
      refine gk_X9_0 (pc := 38) dX10_tieBetween_38 wF_X10_78 A475 q477 ?_
      refine mr_iload_n (pc := 41) (z := p2) dX10_tieBetween_41 rfl rfl ?_
      refine mr_icmp_ne (pc := 42) (tgt := 56) dX10_tieBetween_42 (by decide) (r32 h479 rfl) hp2 (fun h496 => ?_) (fun h496 => ?_)
      · refine mr_iinc (pc := 56) (lv' := [(3, iv (z461 + 1)), (4, .ref b473), (0, .ref 6), (1, iv p1), (2, iv p2)]) dX10_tieBetween_56 rfl (by decide) rfl ?_
        refine sv_goto (pc := 59) (tgt := 2) dX10_tieBetween_59 (by decide) ?_
        refine mr_lvS (lv' := [(0, .ref 6), (1, iv p1), (2, iv p2), (3, iv (z461 + 1))]) (List.forall_mem_cons.mpr ⟨rfl, List.forall_mem_cons.mpr ⟨rfl, List.forall_mem_cons.mpr ⟨rfl, List.forall_mem_cons.mpr ⟨rfl, fun _ h => absurd h List.not_mem_nil⟩⟩⟩⟩) ?_
        exact ih469 (z461 + 1) trivial (rW (c := 0) (d := 20) (rAdd (e := 1) (f := 20) h471 (rR (x := 1)) rfl) rfl) (noneQ.succ R467 (vc_X10_tieBetween_v_8 h470 ht_f_n.1 h472 h471) (tcOf q474 q477) (tcOf q474 q491) (vc_X10_tieBetween_v_18 h478.2.2 h480 h492.2.2 h494 h496 h489 hp2 h479 h493)) (vc_X10_tieBetween_v_7 (nS h468) h470 ht_f_n.1 h472 h471)
      have h497 : 0 ≤ p2 ∧ p2 ≤ 9 := (vc_X10_tieBetween_11 h496 h478.2.2 h480 h494 h489 hp2 h479 h493)
      refine sv_aload (pc := 45) dX10_tieBetween_45 rfl ?_
      refine gk_X9_1 (pc := 47) dX10_tieBetween_47 wF_X10_81 A475 q491 ?_
      refine mr_iload_n (pc := 50) (z := p1) dX10_tieBetween_50 rfl rfl ?_
      refine mr_icmp_ne (pc := 51) (tgt := 56) dX10_tieBetween_51 (by decide) (r32 h493 rfl) (r32 h489 rfl) (fun h498 => ?_) (fun h498 => ?_)
      · refine mr_iinc (pc := 56) (lv' := [(3, iv (z461 + 1)), (4, .ref b473), (0, .ref 6), (1, iv p1), (2, iv p2)]) dX10_tieBetween_56 rfl (by decide) rfl ?_
        refine sv_goto (pc := 59) (tgt := 2) dX10_tieBetween_59 (by decide) ?_
        refine mr_lvS (lv' := [(0, .ref 6), (1, iv p1), (2, iv p2), (3, iv (z461 + 1))]) (List.forall_mem_cons.mpr ⟨rfl, List.forall_mem_cons.mpr ⟨rfl, List.forall_mem_cons.mpr ⟨rfl, List.forall_mem_cons.mpr ⟨rfl, fun _ h => absurd h List.not_mem_nil⟩⟩⟩⟩) ?_
        exact ih469 (z461 + 1) trivial (rW (c := 0) (d := 20) (rAdd (e := 1) (f := 20) h471 (rR (x := 1)) rfl) rfl) (noneQ.succ R467 (vc_X10_tieBetween_v_8 h470 ht_f_n.1 h472 h471) (tcOf q474 q477) (tcOf q474 q491) (vc_X10_tieBetween_v_20 h478.2.2 h480 h492.2.2 h494 h496 h498 h489 h497 h479 h493)) (vc_X10_tieBetween_v_7 (nS h468) h470 ht_f_n.1 h472 h471)
      refine mr_iload_n (pc := 54) (z := z461) dX10_tieBetween_54 rfl rfl ?_
      exact mr_iretP dX10_tieBetween_55 rfl (le_t rfl) (le_t rfl) ⟨(rW (c := (-1)) (d := 19) h471 rfl), (vc_X10_tieBetween_v_6 ht_f_n.1 h470 h472 h471), (fndQ.hit (vc_X10_tieBetween_v_13 ht_f_n.1 h470 h472 h471) (tcOf q474 q477) (tcOf q474 q491) (vc_X10_tieBetween_v_21 h478.2.2 h480 h492.2.2 h494 h496 h498 h489 h497 h479 h493) R467), trivial⟩
  refine mr_lvS (lv' := [(0, .ref 6), (1, iv p1), (2, iv p2), (3, iv 0)]) (List.forall_mem_cons.mpr ⟨rfl, List.forall_mem_cons.mpr ⟨rfl, List.forall_mem_cons.mpr ⟨rfl, List.forall_mem_cons.mpr ⟨rfl, fun _ h => absurd h List.not_mem_nil⟩⟩⟩⟩) ?_
  exact L462 22 0 trivial (rW (c := 0) (d := 20) (rR (x := 0)) rfl) (noneQ.zero vc_X10_tieBetween_v_23) vc_X12_feed_15
theorem vc_X12_tieOf_v_3 {f_n z409 : Int} (h0 : f_n ≤ z409) (h1 : 0 ≤ f_n ∧ f_n ≤ 20) (h2 : 0 ≤ z409 ∧ z409 ≤ 20) : f_n ≤ z409 := by omega
theorem vc_X12_tieOf_v_7 {f_n z409 : Int} (h0 : z409 < f_n) (h1 : 1 ≤ f_n ∧ f_n ≤ 20) (h2 : 0 ≤ z409 ∧ z409 ≤ 19) : 0 ≤ z409 := by omega
theorem vc_X12_tieOf_v_8 {f_n z409 : Int} (h0 : z409 < f_n) (h1 : 1 ≤ f_n ∧ f_n ≤ 20) (h2 : 0 ≤ z409 ∧ z409 ≤ 19) : (2 * z409) = 2 * z409 + ((0 : Nat) : Int) := by omega
theorem vc_X12_tieOf_v_9 {p1 p2 z421 : Int} (h0 : ¬ z421 = p1) (h1 : ¬ z421 = p2) (h2 : (-2147483648) ≤ p1 ∧ p1 ≤ 2147483647) (h3 : (-2147483648) ≤ p2 ∧ p2 ≤ 2147483647) (h4 : 0 ≤ z421 ∧ z421 ≤ 9) : ¬ z421 = p1 ∧ ¬ z421 = p2 := by omega
theorem vc_X12_tieOf_v_11 {f_n z409 : Int} (h0 : z409 < f_n) (h1 : 1 ≤ f_n ∧ f_n ≤ 20) (h2 : 0 ≤ z409 ∧ z409 ≤ 19) : ((2 * z409) + 1) = 2 * z409 + ((1 : Nat) : Int) := by omega
theorem vc_X12_tieOf_v_12 {p1 p2 z421 z427 : Int} (h0 : ¬ z421 = p1) (h1 : z421 = p2) (h2 : ¬ z427 = p1) (h3 : (-2147483648) ≤ p1 ∧ p1 ≤ 2147483647) (h4 : 0 ≤ p2 ∧ p2 ≤ 9) (h5 : 0 ≤ z421 ∧ z421 ≤ 9) (h6 : 0 ≤ z427 ∧ z427 ≤ 9) : ¬ ((z421 = p1 ∧ z427 = p2) ∨ (z421 = p2 ∧ z427 = p1)) := by omega
theorem vc_X12_tieOf_v_15 {f_n z409 : Int} (h0 : z409 < f_n) (h1 : 1 ≤ f_n ∧ f_n ≤ 20) (h2 : 0 ≤ z409 ∧ z409 ≤ 19) : 0 ≤ z409 ∧ z409 < f_n := by omega
theorem vc_X12_tieOf_v_16 {p1 p2 z421 z427 : Int} (h0 : ¬ z421 = p1) (h1 : z421 = p2) (h2 : z427 = p1) (h3 : 0 ≤ p1 ∧ p1 ≤ 9) (h4 : 0 ≤ p2 ∧ p2 ≤ 9) (h5 : 0 ≤ z421 ∧ z421 ≤ 9) (h6 : 0 ≤ z427 ∧ z427 ≤ 9) : (z421 = p1 ∧ z427 = p2) ∨ (z421 = p2 ∧ z427 = p1) := by omega
theorem vc_X12_tieOf_v_19 {p1 p2 z421 z433 : Int} (h0 : z421 = p1) (h1 : z433 = p2) (h2 : 0 ≤ p1 ∧ p1 ≤ 9) (h3 : 0 ≤ p2 ∧ p2 ≤ 9) (h4 : 0 ≤ z421 ∧ z421 ≤ 9) (h5 : 0 ≤ z433 ∧ z433 ≤ 9) : (z421 = p1 ∧ z433 = p2) ∨ (z421 = p2 ∧ z433 = p1) := by omega
theorem vc_X12_tieOf_v_20 {p1 p2 z421 z433 : Int} (h0 : z421 = p1) (h1 : ¬ z433 = p2) (h2 : ¬ z421 = p2) (h3 : 0 ≤ p1 ∧ p1 ≤ 9) (h4 : (-2147483648) ≤ p2 ∧ p2 ≤ 2147483647) (h5 : 0 ≤ z421 ∧ z421 ≤ 9) (h6 : 0 ≤ z433 ∧ z433 ≤ 9) : ¬ ((z421 = p1 ∧ z433 = p2) ∨ (z421 = p2 ∧ z433 = p1)) := by omega
theorem vc_X12_tieOf_v_22 {p1 p2 z421 z433 : Int} (h0 : z421 = p1) (h1 : ¬ z433 = p2) (h2 : z421 = p2) (h3 : ¬ z433 = p1) (h4 : 0 ≤ p1 ∧ p1 ≤ 9) (h5 : 0 ≤ p2 ∧ p2 ≤ 9) (h6 : 0 ≤ z421 ∧ z421 ≤ 9) (h7 : 0 ≤ z433 ∧ z433 ≤ 9) : ¬ ((z421 = p1 ∧ z433 = p2) ∨ (z421 = p2 ∧ z433 = p1)) := by omega
theorem vc_X12_tieOf_v_23 {p1 p2 z421 z433 : Int} (h0 : z421 = p1) (h1 : ¬ z433 = p2) (h2 : z421 = p2) (h3 : z433 = p1) (h4 : 0 ≤ p1 ∧ p1 ≤ 9) (h5 : 0 ≤ p2 ∧ p2 ≤ 9) (h6 : 0 ≤ z421 ∧ z421 ≤ 9) (h7 : 0 ≤ z433 ∧ z433 ≤ 9) : (z421 = p1 ∧ z433 = p2) ∨ (z421 = p2 ∧ z433 = p1) := by omega
set_option maxRecDepth 4000 in
set_option maxHeartbeats 4000000 in
theorem c_X12_tieOf_v {l : Launch} {D : va_G} {c : Nat → ClassId} {H0 : Heap} {sa : Nat × Nat × (Nat → Int32)} {w : mW} {μ : mM} (hw : mWF w) (hT : mT w μ) {p1 : Int} (hp1 : (-2147483648) ≤ p1 ∧ p1 ≤ 2147483647) {p2 : Int} (hp2 : (-2147483648) ≤ p2 ∧ p2 ≤ 2147483647) {f_n : Int} (q_f_n : μ 106 6 = f_n) : sC (gG l D c H0 sa) mX12_tieOf 1 0 0 [.ref 106, iv p1, iv p2] (mk w μ) (qP w μ (fun z => ((-99999999) ≤ z ∧ z ≤ 19) ∧ (z = -99999999 ∨ (0 ≤ z ∧ z ≤ 19)) ∧ (fndQ (tr μ 0) (tr μ 1) f_n p1 p2 (-99999999) z) ∧ True)) := by
  refine sC.of rfl (by decide) (le_t rfl) ?_
  have ht_f_n : (0 ≤ f_n ∧ f_n ≤ 20) := by rw [← q_f_n]; exact hT 106 106 (A_106 hw) 6
  refine mr_lvE (lv' := [(0, .ref 106), (1, iv p1), (2, iv p2)]) rfl ?_
  refine mr_iconst (pc := 0) (z := 0) dX12_tieOf_0 ?_
  refine mr_istore_n (pc := 1) (lv' := [(3, iv 0), (0, .ref 106), (1, iv p1), (2, iv p2)]) dX12_tieOf_1 rfl (by decide) rfl ?_
  have L410 : ∀ (nL410 : Nat) (z409 : Int), True → (0 ≤ z409 ∧ z409 ≤ 20) → noneQ (tr μ 0) (tr μ 1) z409 p1 p2 → (21 - z409) < (nL410 : Int) → sV (gG l D c H0 sa) mX12_tieOf (sRm 1 0 0) (sZ (gG l D c H0 sa) 0 0 (qP w μ (fun z => ((-99999999) ≤ z ∧ z ≤ 19) ∧ (z = -99999999 ∨ (0 ≤ z ∧ z ≤ 19)) ∧ (fndQ (tr μ 0) (tr μ 1) f_n p1 p2 (-99999999) z) ∧ True))) 2 [(0, .ref 106), (1, iv p1), (2, iv p2), (3, iv z409)] [] (mk w μ) 0 0 := by
    intro nL410
    induction nL410 with
    | zero => intro z409 _ h411 R415 h416; exact ((vc_X12_feed_2 h416 h411)).elim
    | succ nL410 ih417 =>
      intro z409 _ h411 R415 h416
      refine mr_iload_n (pc := 2) (z := z409) dX12_tieOf_2 rfl rfl ?_
      refine sv_aload_n (pc := 3) dX12_tieOf_3 rfl rfl ?_
      refine gk_X12_6 (pc := 4) dX12_tieOf_4 wF_X12_37 (A_106 hw) q_f_n ?_
      refine mr_icmp_ge (pc := 7) (tgt := 70) dX12_tieOf_7 (by decide) (r32 h411 rfl) (r32 ht_f_n rfl) (fun h418 => ?_) (fun h418 => ?_)
      · refine mr_ldc (pc := 70) (z := (-99999999)) dX12_tieOf_70 wG_X12_29 (by decide) ?_
        exact mr_iretP dX12_tieOf_72 rfl (le_t rfl) (le_t rfl) ⟨(rW (c := (-99999999)) (d := 19) (rR (x := (-99999999))) rfl), vc_X12_tieOf_2, (fndQ.miss R415 (vc_X12_tieOf_v_3 h418 ht_f_n h411)), trivial⟩
      have h419 : 0 ≤ z409 ∧ z409 ≤ 19 := (vc_X3_putAttributes_10 h418 ht_f_n h411)
      have h420 : 1 ≤ f_n ∧ f_n ≤ 20 := (vc_X3_putAttributes_11 h418 ht_f_n h419)
      refine sv_aload_n (pc := 10) dX12_tieOf_10 rfl rfl ?_
      refine gf_X12_7 (pc := 11) dX12_tieOf_11 wF_X12_40 (A_106 hw) hT ?_
      refine mr_iconst (pc := 14) (z := 2) dX12_tieOf_14 ?_
      refine mr_iload_n (pc := 15) (z := z409) dX12_tieOf_15 rfl rfl ?_
      refine mr_imul (pc := 16) (x := 2) (y := z409) dX12_tieOf_16 ?_
      refine la_110 (pc := 17) dX12_tieOf_17 (A_110 hw) hT (rIx (n := 40) (rMulL (n := 2) (e := 0) (f := 38) h419 rfl) rfl) fun z421 q422 h423 => ?_
      refine mr_iload_n (pc := 18) (z := p1) dX12_tieOf_18 rfl rfl ?_
      refine mr_icmp_ne (pc := 19) (tgt := 36) dX12_tieOf_19 (by decide) (r32 h423 rfl) hp1 (fun h424 => ?_) (fun h424 => ?_)
      · refine sv_aload_n (pc := 36) dX12_tieOf_36 rfl rfl ?_
        refine gf_X12_7 (pc := 37) dX12_tieOf_37 wF_X12_40 (A_106 hw) hT ?_
        refine mr_iconst (pc := 40) (z := 2) dX12_tieOf_40 ?_
        refine mr_iload_n (pc := 41) (z := z409) dX12_tieOf_41 rfl rfl ?_
        refine mr_imul (pc := 42) (x := 2) (y := z409) dX12_tieOf_42 ?_
        refine lk_110 (pc := 43) dX12_tieOf_43 (A_110 hw) (rIx (n := 40) (rMulL (n := 2) (e := 0) (f := 38) h419 rfl) rfl) q422 ?_
        refine mr_iload_n (pc := 44) (z := p2) dX12_tieOf_44 rfl rfl ?_
        refine mr_icmp_ne (pc := 45) (tgt := 64) dX12_tieOf_45 (by decide) (r32 h423 rfl) hp2 (fun h425 => ?_) (fun h425 => ?_)
        · refine mr_iinc (pc := 64) (lv' := [(3, iv (z409 + 1)), (0, .ref 106), (1, iv p1), (2, iv p2)]) dX12_tieOf_64 rfl (by decide) rfl ?_
          refine sv_goto (pc := 67) (tgt := 2) dX12_tieOf_67 (by decide) ?_
          refine mr_lvS (lv' := [(0, .ref 106), (1, iv p1), (2, iv p2), (3, iv (z409 + 1))]) (List.forall_mem_cons.mpr ⟨rfl, List.forall_mem_cons.mpr ⟨rfl, List.forall_mem_cons.mpr ⟨rfl, List.forall_mem_cons.mpr ⟨rfl, fun _ h => absurd h List.not_mem_nil⟩⟩⟩⟩) ?_
          exact ih417 (z409 + 1) trivial (rW (c := 0) (d := 20) (rAdd (e := 1) (f := 20) h419 (rR (x := 1)) rfl) rfl) (noneQ.succ1 R415 (vc_X12_tieOf_v_7 h418 h420 h419) (trOf 0 q422 (vc_X12_tieOf_v_8 h418 h420 h419) (vc_X12_tieOf_v_7 h418 h420 h419)) (vc_X12_tieOf_v_9 h424 h425 hp1 hp2 h423)) (vc_X3_putAttributes_12 (nS h416) h418 h420 h419)
        have h426 : 0 ≤ p2 ∧ p2 ≤ 9 := (vc_X12_tieOf_6 h425 h424 hp1 hp2 h423)
        refine sv_aload_n (pc := 48) dX12_tieOf_48 rfl rfl ?_
        refine gf_X12_7 (pc := 49) dX12_tieOf_49 wF_X12_40 (A_106 hw) hT ?_
        refine mr_iconst (pc := 52) (z := 2) dX12_tieOf_52 ?_
        refine mr_iload_n (pc := 53) (z := z409) dX12_tieOf_53 rfl rfl ?_
        refine mr_imul (pc := 54) (x := 2) (y := z409) dX12_tieOf_54 ?_
        refine mr_iconst (pc := 55) (z := 1) dX12_tieOf_55 ?_
        refine mr_iadd (pc := 56) (x := (2 * z409)) (y := 1) dX12_tieOf_56 ?_
        refine la_110 (pc := 57) dX12_tieOf_57 (A_110 hw) hT (rIx (n := 40) (rAdd (e := 1) (f := 39) (rMulL (n := 2) (e := 0) (f := 38) h419 rfl) (rR (x := 1)) rfl) rfl) fun z427 q428 h429 => ?_
        refine mr_iload_n (pc := 58) (z := p1) dX12_tieOf_58 rfl rfl ?_
        refine mr_icmp_ne (pc := 59) (tgt := 64) dX12_tieOf_59 (by decide) (r32 h429 rfl) hp1 (fun h430 => ?_) (fun h430 => ?_)
        · refine mr_iinc (pc := 64) (lv' := [(3, iv (z409 + 1)), (0, .ref 106), (1, iv p1), (2, iv p2)]) dX12_tieOf_64 rfl (by decide) rfl ?_
          refine sv_goto (pc := 67) (tgt := 2) dX12_tieOf_67 (by decide) ?_
          refine mr_lvS (lv' := [(0, .ref 106), (1, iv p1), (2, iv p2), (3, iv (z409 + 1))]) (List.forall_mem_cons.mpr ⟨rfl, List.forall_mem_cons.mpr ⟨rfl, List.forall_mem_cons.mpr ⟨rfl, List.forall_mem_cons.mpr ⟨rfl, fun _ h => absurd h List.not_mem_nil⟩⟩⟩⟩) ?_
          exact ih417 (z409 + 1) trivial (rW (c := 0) (d := 20) (rAdd (e := 1) (f := 20) h419 (rR (x := 1)) rfl) rfl) (noneQ.succ R415 (vc_X12_tieOf_v_7 h418 h420 h419) (trOf 0 q422 (vc_X12_tieOf_v_8 h418 h420 h419) (vc_X12_tieOf_v_7 h418 h420 h419)) (trOf 1 q428 (vc_X12_tieOf_v_11 h418 h420 h419) (vc_X12_tieOf_v_7 h418 h420 h419)) (vc_X12_tieOf_v_12 h424 h425 h430 hp1 h426 h423 h429)) (vc_X3_putAttributes_12 (nS h416) h418 h420 h419)
        have h431 : 0 ≤ p1 ∧ p1 ≤ 9 := (vc_X12_tieOf_7 h430 h424 hp1 h423 h429)
        refine mr_iload_n (pc := 62) (z := z409) dX12_tieOf_62 rfl rfl ?_
        exact mr_iretP dX12_tieOf_63 rfl (le_t rfl) (le_t rfl) ⟨(rW (c := (-99999999)) (d := 19) h419 rfl), (vc_X12_tieOf_end_8 h418 h420 h419), (fndQ.hit (vc_X12_tieOf_v_15 h418 h420 h419) (trOf 0 q422 (vc_X12_tieOf_v_8 h418 h420 h419) (vc_X12_tieOf_v_7 h418 h420 h419)) (trOf 1 q428 (vc_X12_tieOf_v_11 h418 h420 h419) (vc_X12_tieOf_v_7 h418 h420 h419)) (vc_X12_tieOf_v_16 h424 h425 h430 h431 h426 h423 h429) R415), trivial⟩
      have h432 : 0 ≤ p1 ∧ p1 ≤ 9 := (vc_X12_tieOf_9 h424 hp1 h423)
      refine sv_aload_n (pc := 22) dX12_tieOf_22 rfl rfl ?_
      refine gf_X12_7 (pc := 23) dX12_tieOf_23 wF_X12_40 (A_106 hw) hT ?_
      refine mr_iconst (pc := 26) (z := 2) dX12_tieOf_26 ?_
      refine mr_iload_n (pc := 27) (z := z409) dX12_tieOf_27 rfl rfl ?_
      refine mr_imul (pc := 28) (x := 2) (y := z409) dX12_tieOf_28 ?_
      refine mr_iconst (pc := 29) (z := 1) dX12_tieOf_29 ?_
      refine mr_iadd (pc := 30) (x := (2 * z409)) (y := 1) dX12_tieOf_30 ?_
      refine la_110 (pc := 31) dX12_tieOf_31 (A_110 hw) hT (rIx (n := 40) (rAdd (e := 1) (f := 39) (rMulL (n := 2) (e := 0) (f := 38) h419 rfl) (rR (x := 1)) rfl) rfl) fun z433 q434 h435 => ?_
      refine mr_iload_n (pc := 32) (z := p2) dX12_tieOf_32 rfl rfl ?_
      refine mr_icmp_eq (pc := 33) (tgt := 62) dX12_tieOf_33 (by decide) (r32 h435 rfl) hp2 (fun h436 => ?_) (fun h436 => ?_)
      · have h437 : 0 ≤ p2 ∧ p2 ≤ 9 := (vc_X12_tieOf_9 h436 hp2 h435)
        refine mr_iload_n (pc := 62) (z := z409) dX12_tieOf_62 rfl rfl ?_
        exact mr_iretP dX12_tieOf_63 rfl (le_t rfl) (le_t rfl) ⟨(rW (c := (-99999999)) (d := 19) h419 rfl), (vc_X12_tieOf_end_8 h418 h420 h419), (fndQ.hit (vc_X12_tieOf_v_15 h418 h420 h419) (trOf 0 q422 (vc_X12_tieOf_v_8 h418 h420 h419) (vc_X12_tieOf_v_7 h418 h420 h419)) (trOf 1 q434 (vc_X12_tieOf_v_11 h418 h420 h419) (vc_X12_tieOf_v_7 h418 h420 h419)) (vc_X12_tieOf_v_19 h424 h436 h432 h437 h423 h435) R415), trivial⟩
      refine sv_aload_n (pc := 36) dX12_tieOf_36 rfl rfl ?_
      refine gf_X12_7 (pc := 37) dX12_tieOf_37 wF_X12_40 (A_106 hw) hT ?_
      refine mr_iconst (pc := 40) (z := 2) dX12_tieOf_40 ?_
      refine mr_iload_n (pc := 41) (z := z409) dX12_tieOf_41 rfl rfl ?_
      refine mr_imul (pc := 42) (x := 2) (y := z409) dX12_tieOf_42 ?_
      refine lk_110 (pc := 43) dX12_tieOf_43 (A_110 hw) (rIx (n := 40) (rMulL (n := 2) (e := 0) (f := 38) h419 rfl) rfl) q422 ?_
      refine mr_iload_n (pc := 44) (z := p2) dX12_tieOf_44 rfl rfl ?_
      refine mr_icmp_ne (pc := 45) (tgt := 64) dX12_tieOf_45 (by decide) (r32 h423 rfl) hp2 (fun h438 => ?_) (fun h438 => ?_)
      · refine mr_iinc (pc := 64) (lv' := [(3, iv (z409 + 1)), (0, .ref 106), (1, iv p1), (2, iv p2)]) dX12_tieOf_64 rfl (by decide) rfl ?_
        refine sv_goto (pc := 67) (tgt := 2) dX12_tieOf_67 (by decide) ?_
        refine mr_lvS (lv' := [(0, .ref 106), (1, iv p1), (2, iv p2), (3, iv (z409 + 1))]) (List.forall_mem_cons.mpr ⟨rfl, List.forall_mem_cons.mpr ⟨rfl, List.forall_mem_cons.mpr ⟨rfl, List.forall_mem_cons.mpr ⟨rfl, fun _ h => absurd h List.not_mem_nil⟩⟩⟩⟩) ?_
        exact ih417 (z409 + 1) trivial (rW (c := 0) (d := 20) (rAdd (e := 1) (f := 20) h419 (rR (x := 1)) rfl) rfl) (noneQ.succ R415 (vc_X12_tieOf_v_7 h418 h420 h419) (trOf 0 q422 (vc_X12_tieOf_v_8 h418 h420 h419) (vc_X12_tieOf_v_7 h418 h420 h419)) (trOf 1 q434 (vc_X12_tieOf_v_11 h418 h420 h419) (vc_X12_tieOf_v_7 h418 h420 h419)) (vc_X12_tieOf_v_20 h424 h436 h438 h432 hp2 h423 h435)) (vc_X3_putAttributes_12 (nS h416) h418 h420 h419)
      have h439 : 0 ≤ p2 ∧ p2 ≤ 9 := (vc_X12_tieOf_11 h438 h424 h436 h432 hp2 h423 h435)
      refine sv_aload_n (pc := 48) dX12_tieOf_48 rfl rfl ?_
      refine gf_X12_7 (pc := 49) dX12_tieOf_49 wF_X12_40 (A_106 hw) hT ?_
      refine mr_iconst (pc := 52) (z := 2) dX12_tieOf_52 ?_
      refine mr_iload_n (pc := 53) (z := z409) dX12_tieOf_53 rfl rfl ?_
      refine mr_imul (pc := 54) (x := 2) (y := z409) dX12_tieOf_54 ?_
      refine mr_iconst (pc := 55) (z := 1) dX12_tieOf_55 ?_
      refine mr_iadd (pc := 56) (x := (2 * z409)) (y := 1) dX12_tieOf_56 ?_
      refine lk_110 (pc := 57) dX12_tieOf_57 (A_110 hw) (rIx (n := 40) (rAdd (e := 1) (f := 39) (rMulL (n := 2) (e := 0) (f := 38) h419 rfl) (rR (x := 1)) rfl) rfl) q434 ?_
      refine mr_iload_n (pc := 58) (z := p1) dX12_tieOf_58 rfl rfl ?_
      refine mr_icmp_ne (pc := 59) (tgt := 64) dX12_tieOf_59 (by decide) (r32 h435 rfl) (r32 h432 rfl) (fun h440 => ?_) (fun h440 => ?_)
      · refine mr_iinc (pc := 64) (lv' := [(3, iv (z409 + 1)), (0, .ref 106), (1, iv p1), (2, iv p2)]) dX12_tieOf_64 rfl (by decide) rfl ?_
        refine sv_goto (pc := 67) (tgt := 2) dX12_tieOf_67 (by decide) ?_
        refine mr_lvS (lv' := [(0, .ref 106), (1, iv p1), (2, iv p2), (3, iv (z409 + 1))]) (List.forall_mem_cons.mpr ⟨rfl, List.forall_mem_cons.mpr ⟨rfl, List.forall_mem_cons.mpr ⟨rfl, List.forall_mem_cons.mpr ⟨rfl, fun _ h => absurd h List.not_mem_nil⟩⟩⟩⟩) ?_
        exact ih417 (z409 + 1) trivial (rW (c := 0) (d := 20) (rAdd (e := 1) (f := 20) h419 (rR (x := 1)) rfl) rfl) (noneQ.succ R415 (vc_X12_tieOf_v_7 h418 h420 h419) (trOf 0 q422 (vc_X12_tieOf_v_8 h418 h420 h419) (vc_X12_tieOf_v_7 h418 h420 h419)) (trOf 1 q434 (vc_X12_tieOf_v_11 h418 h420 h419) (vc_X12_tieOf_v_7 h418 h420 h419)) (vc_X12_tieOf_v_22 h424 h436 h438 h440 h432 h439 h423 h435)) (vc_X3_putAttributes_12 (nS h416) h418 h420 h419)
      refine mr_iload_n (pc := 62) (z := z409) dX12_tieOf_62 rfl rfl ?_
      exact mr_iretP dX12_tieOf_63 rfl (le_t rfl) (le_t rfl) ⟨(rW (c := (-99999999)) (d := 19) h419 rfl), (vc_X12_tieOf_end_8 h418 h420 h419), (fndQ.hit (vc_X12_tieOf_v_15 h418 h420 h419) (trOf 0 q422 (vc_X12_tieOf_v_8 h418 h420 h419) (vc_X12_tieOf_v_7 h418 h420 h419)) (trOf 1 q434 (vc_X12_tieOf_v_11 h418 h420 h419) (vc_X12_tieOf_v_7 h418 h420 h419)) (vc_X12_tieOf_v_23 h424 h436 h438 h440 h432 h439 h423 h435) R415), trivial⟩
  refine mr_lvS (lv' := [(0, .ref 106), (1, iv p1), (2, iv p2), (3, iv 0)]) (List.forall_mem_cons.mpr ⟨rfl, List.forall_mem_cons.mpr ⟨rfl, List.forall_mem_cons.mpr ⟨rfl, List.forall_mem_cons.mpr ⟨rfl, fun _ h => absurd h List.not_mem_nil⟩⟩⟩⟩) ?_
  exact L410 22 0 trivial (rW (c := 0) (d := 20) (rR (x := 0)) rfl) (noneQ.zero vc_X10_tieBetween_v_23) vc_X12_feed_15
theorem vc_X12_tie_v_1 {f_dm p1 z250 : Int} (h0 : z250 = 0) (h1 : (z250 = 1 → 0 ≤ p1 ∧ p1 < f_dm)) (h2 : (z250 = 0 → p1 < 0 ∨ f_dm ≤ p1)) (h3 : 0 ≤ f_dm ∧ f_dm ≤ 10) (h4 : (-2147483648) ≤ p1 ∧ p1 ≤ 2147483647) (h5 : 0 ≤ z250 ∧ z250 ≤ 1) : 0 ≤ z250 ∧ z250 ≤ 0 := by omega
theorem vc_X12_tie_v_2 {f_dm p1 z250 : Int} (h0 : (z250 = 1 → 0 ≤ p1 ∧ p1 < f_dm)) (h1 : (z250 = 0 → p1 < 0 ∨ f_dm ≤ p1)) (h2 : z250 = 0) (h3 : 0 ≤ f_dm ∧ f_dm ≤ 10) (h4 : (-2147483648) ≤ p1 ∧ p1 ≤ 2147483647) (h5 : 0 ≤ z250 ∧ z250 ≤ 0) : z250 = 0 := by omega
theorem vc_X12_tie_v_3 {f_dm p1 p2 p3 z250 : Int} (h0 : (z250 = 1 → 0 ≤ p1 ∧ p1 < f_dm)) (h1 : (z250 = 0 → p1 < 0 ∨ f_dm ≤ p1)) (h2 : p1 < 0 ∨ f_dm ≤ p1) (h3 : z250 = 0) (h4 : 0 ≤ f_dm ∧ f_dm ≤ 10) (h5 : (-2147483648) ≤ p1 ∧ p1 ≤ 2147483647) (h6 : (-2147483648) ≤ p2 ∧ p2 ≤ 2147483647) (h7 : (-2147483648) ≤ p3 ∧ p3 ≤ 2147483647) (h8 : 0 ≤ z250 ∧ z250 ≤ 0) : p1 < 0 ∨ f_dm ≤ p1 ∨ p2 < 0 ∨ f_dm ≤ p2 ∨ p1 = p2 ∨ p3 < 0 ∨ 2 < p3 := by omega
theorem vc_X12_tie_v_5 {f_dm p1 z250 : Int} (h0 : ¬ z250 = 0) (h1 : (z250 = 1 → 0 ≤ p1 ∧ p1 < f_dm)) (h2 : (z250 = 0 → p1 < 0 ∨ f_dm ≤ p1)) (h3 : 0 ≤ f_dm ∧ f_dm ≤ 10) (h4 : (-2147483648) ≤ p1 ∧ p1 ≤ 2147483647) (h5 : 0 ≤ z250 ∧ z250 ≤ 1) : 1 ≤ z250 ∧ z250 ≤ 1 := by omega
theorem vc_X12_tie_v_6 {f_dm p1 z250 : Int} (h0 : (z250 = 1 → 0 ≤ p1 ∧ p1 < f_dm)) (h1 : (z250 = 0 → p1 < 0 ∨ f_dm ≤ p1)) (h2 : ¬ z250 = 0) (h3 : 0 ≤ f_dm ∧ f_dm ≤ 10) (h4 : (-2147483648) ≤ p1 ∧ p1 ≤ 2147483647) (h5 : 1 ≤ z250 ∧ z250 ≤ 1) : z250 = 1 := by omega
theorem vc_X12_tie_v_7 {f_dm p1 z250 : Int} (h0 : 0 ≤ p1 ∧ p1 < f_dm) (h1 : (z250 = 1 → 0 ≤ p1 ∧ p1 < f_dm)) (h2 : (z250 = 0 → p1 < 0 ∨ f_dm ≤ p1)) (h3 : 0 ≤ f_dm ∧ f_dm ≤ 10) (h4 : (-2147483648) ≤ p1 ∧ p1 ≤ 2147483647) (h5 : 1 ≤ z250 ∧ z250 ≤ 1) : 0 ≤ p1 ∧ p1 ≤ 9 := by omega
theorem vc_X12_tie_v_9 {f_dm p1 p2 z250 z261 : Int} (h0 : (z261 = 1 → 0 ≤ p2 ∧ p2 < f_dm)) (h1 : (z261 = 0 → p2 < 0 ∨ f_dm ≤ p2)) (h2 : z261 = 0) (h3 : (z250 = 1 → 0 ≤ p1 ∧ p1 < f_dm)) (h4 : (z250 = 0 → p1 < 0 ∨ f_dm ≤ p1)) (h5 : 0 ≤ p1 ∧ p1 < f_dm) (h6 : 0 ≤ f_dm ∧ f_dm ≤ 10) (h7 : 0 ≤ p1 ∧ p1 ≤ 9) (h8 : (-2147483648) ≤ p2 ∧ p2 ≤ 2147483647) (h9 : 1 ≤ z250 ∧ z250 ≤ 1) (h10 : 0 ≤ z261 ∧ z261 ≤ 0) : z261 = 0 := by omega
theorem vc_X12_tie_v_10 {f_dm p1 p2 p3 z250 z261 : Int} (h0 : (z250 = 1 → 0 ≤ p1 ∧ p1 < f_dm)) (h1 : (z250 = 0 → p1 < 0 ∨ f_dm ≤ p1)) (h2 : 0 ≤ p1 ∧ p1 < f_dm) (h3 : (z261 = 1 → 0 ≤ p2 ∧ p2 < f_dm)) (h4 : (z261 = 0 → p2 < 0 ∨ f_dm ≤ p2)) (h5 : p2 < 0 ∨ f_dm ≤ p2) (h6 : ¬ z250 = 0) (h7 : z261 = 0) (h8 : 0 ≤ f_dm ∧ f_dm ≤ 10) (h9 : 0 ≤ p1 ∧ p1 ≤ 9) (h10 : (-2147483648) ≤ p2 ∧ p2 ≤ 2147483647) (h11 : (-2147483648) ≤ p3 ∧ p3 ≤ 2147483647) (h12 : 1 ≤ z250 ∧ z250 ≤ 1) (h13 : 0 ≤ z261 ∧ z261 ≤ 0) : p1 < 0 ∨ f_dm ≤ p1 ∨ p2 < 0 ∨ f_dm ≤ p2 ∨ p1 = p2 ∨ p3 < 0 ∨ 2 < p3 := by omega
theorem vc_X12_tie_v_12 {f_dm p1 p2 z250 z261 : Int} (h0 : (z261 = 1 → 0 ≤ p2 ∧ p2 < f_dm)) (h1 : (z261 = 0 → p2 < 0 ∨ f_dm ≤ p2)) (h2 : ¬ z261 = 0) (h3 : (z250 = 1 → 0 ≤ p1 ∧ p1 < f_dm)) (h4 : (z250 = 0 → p1 < 0 ∨ f_dm ≤ p1)) (h5 : 0 ≤ p1 ∧ p1 < f_dm) (h6 : 0 ≤ f_dm ∧ f_dm ≤ 10) (h7 : 0 ≤ p1 ∧ p1 ≤ 9) (h8 : (-2147483648) ≤ p2 ∧ p2 ≤ 2147483647) (h9 : 1 ≤ z250 ∧ z250 ≤ 1) (h10 : 1 ≤ z261 ∧ z261 ≤ 1) : z261 = 1 := by omega
theorem vc_X12_tie_v_13 {f_dm p1 p2 z250 z261 : Int} (h0 : 0 ≤ p2 ∧ p2 < f_dm) (h1 : (z250 = 1 → 0 ≤ p1 ∧ p1 < f_dm)) (h2 : (z250 = 0 → p1 < 0 ∨ f_dm ≤ p1)) (h3 : 0 ≤ p1 ∧ p1 < f_dm) (h4 : (z261 = 1 → 0 ≤ p2 ∧ p2 < f_dm)) (h5 : (z261 = 0 → p2 < 0 ∨ f_dm ≤ p2)) (h6 : 0 ≤ f_dm ∧ f_dm ≤ 10) (h7 : 0 ≤ p1 ∧ p1 ≤ 9) (h8 : (-2147483648) ≤ p2 ∧ p2 ≤ 2147483647) (h9 : 1 ≤ z250 ∧ z250 ≤ 1) (h10 : 1 ≤ z261 ∧ z261 ≤ 1) : 0 ≤ p2 ∧ p2 ≤ 9 := by omega
theorem vc_X12_tie_v_14 {f_dm p1 p2 p3 z250 z261 : Int} (h0 : (z250 = 1 → 0 ≤ p1 ∧ p1 < f_dm)) (h1 : (z250 = 0 → p1 < 0 ∨ f_dm ≤ p1)) (h2 : 0 ≤ p1 ∧ p1 < f_dm) (h3 : (z261 = 1 → 0 ≤ p2 ∧ p2 < f_dm)) (h4 : (z261 = 0 → p2 < 0 ∨ f_dm ≤ p2)) (h5 : 0 ≤ p2 ∧ p2 < f_dm) (h6 : p1 = p2) (h7 : ¬ z250 = 0) (h8 : ¬ z261 = 0) (h9 : 0 ≤ f_dm ∧ f_dm ≤ 10) (h10 : 0 ≤ p1 ∧ p1 ≤ 9) (h11 : 0 ≤ p2 ∧ p2 ≤ 9) (h12 : (-2147483648) ≤ p3 ∧ p3 ≤ 2147483647) (h13 : 1 ≤ z250 ∧ z250 ≤ 1) (h14 : 1 ≤ z261 ∧ z261 ≤ 1) : p1 < 0 ∨ f_dm ≤ p1 ∨ p2 < 0 ∨ f_dm ≤ p2 ∨ p1 = p2 ∨ p3 < 0 ∨ 2 < p3 := by omega
theorem vc_X12_tie_v_22 {f_t : Int} (h0 : ¬ f_t = 20) (h1 : 0 ≤ f_t ∧ f_t ≤ 19) : f_t ≤ (f_t + 1) := by omega
theorem vc_X12_tie_v_23 {f_t : Int} (h0 : ¬ f_t = 20) (h1 : 0 ≤ f_t ∧ f_t ≤ 19) : (f_t + 1) = f_t + 1 := by omega
theorem vc_X12_tie_v_24 {f_t : Int} (h0 : ¬ f_t = 20) (h1 : 0 ≤ f_t ∧ f_t ≤ 19) : 0 ≤ f_t := by omega
theorem vc_X12_tie_v_25 {z345 : Int} (h0 : 4 ≤ z345) (h1 : 4 ≤ z345 ∧ z345 ≤ 4) : z345 = 4 := by omega
theorem vc_X12_tie_v_26 {f_t : Int} (h0 : ¬ f_t = 20) (h1 : 0 ≤ f_t ∧ f_t ≤ 19) : (2 * f_t).toNat ≠ ((2 * f_t) + 1).toNat := by omega
theorem vc_X12_tie_v_27 {f_dm p1 p2 z250 z261 : Int} (h0 : (z250 = 1 → 0 ≤ p1 ∧ p1 < f_dm)) (h1 : (z250 = 0 → p1 < 0 ∨ f_dm ≤ p1)) (h2 : 0 ≤ p1 ∧ p1 < f_dm) (h3 : (z261 = 1 → 0 ≤ p2 ∧ p2 < f_dm)) (h4 : (z261 = 0 → p2 < 0 ∨ f_dm ≤ p2)) (h5 : 0 ≤ p2 ∧ p2 < f_dm) (h6 : ¬ p1 = p2) (h7 : ¬ z250 = 0) (h8 : ¬ z261 = 0) (h9 : 0 ≤ f_dm ∧ f_dm ≤ 10) (h10 : 0 ≤ p1 ∧ p1 ≤ 9) (h11 : 0 ≤ p2 ∧ p2 ≤ 9) (h12 : 1 ≤ z250 ∧ z250 ≤ 1) (h13 : 1 ≤ z261 ∧ z261 ≤ 1) : p1 < f_dm ∧ p2 < f_dm := by omega
theorem vc_X12_tie_v_28 {f_dm p1 p2 p3 z250 z261 z273 : Int} (h0 : (z250 = 1 → 0 ≤ p1 ∧ p1 < f_dm)) (h1 : (z250 = 0 → p1 < 0 ∨ f_dm ≤ p1)) (h2 : 0 ≤ p1 ∧ p1 < f_dm) (h3 : (z261 = 1 → 0 ≤ p2 ∧ p2 < f_dm)) (h4 : (z261 = 0 → p2 < 0 ∨ f_dm ≤ p2)) (h5 : 0 ≤ p2 ∧ p2 < f_dm) (h6 : ¬ p1 = p2) (h7 : (z273 = 1 → (0 : Int) ≤ p3 ∧ p3 ≤ (2 : Int))) (h8 : (z273 = 0 → p3 < (0 : Int) ∨ (2 : Int) < p3)) (h9 : (0 : Int) ≤ p3 ∧ p3 ≤ (2 : Int)) (h10 : ¬ z250 = 0) (h11 : ¬ z261 = 0) (h12 : ¬ z273 = 0) (h13 : 0 ≤ f_dm ∧ f_dm ≤ 10) (h14 : 0 ≤ p1 ∧ p1 ≤ 9) (h15 : 0 ≤ p2 ∧ p2 ≤ 9) (h16 : 0 ≤ p3 ∧ p3 ≤ 2) (h17 : 1 ≤ z250 ∧ z250 ≤ 1) (h18 : 1 ≤ z261 ∧ z261 ≤ 1) (h19 : 1 ≤ z273 ∧ z273 ≤ 1) : ¬ (p1 < 0 ∨ f_dm ≤ p1 ∨ p2 < 0 ∨ f_dm ≤ p2 ∨ p1 = p2 ∨ p3 < 0 ∨ 2 < p3) := by omega
theorem vc_X12_tie_v_29 {z282 : Int} (h0 : z282 = -99999999 ∨ (0 ≤ z282 ∧ z282 ≤ 19)) (h1 : z282 = (-99999999)) (h2 : (-99999999) ≤ z282 ∧ z282 ≤ (-99999999)) : z282 < 0 := by omega
theorem vc_X12_tie_v_30 {f_t : Int} (h0 : ¬ f_t = 20) (h1 : 0 ≤ f_t ∧ f_t ≤ 19) : f_t < 20 := by omega
theorem vc_X12_tie_v_31 {f_t : Int} (h0 : ¬ f_t = 20) (h1 : 0 ≤ f_t ∧ f_t ≤ 19) : ((f_t + 1) - 1) = f_t := by omega
theorem vc_X12_tie_v_32 {f_t : Int} (h0 : ¬ f_t = 20) (h1 : 0 ≤ f_t ∧ f_t ≤ 19) : 0 ≤ ((f_t + 1) - 1) := by omega
theorem vc_X12_tie_v_33 {f_dm f_t p1 p2 p3 z250 z261 z273 : Int} (h0 : (z250 = 1 → 0 ≤ p1 ∧ p1 < f_dm)) (h1 : (z250 = 0 → p1 < 0 ∨ f_dm ≤ p1)) (h2 : 0 ≤ p1 ∧ p1 < f_dm) (h3 : (z261 = 1 → 0 ≤ p2 ∧ p2 < f_dm)) (h4 : (z261 = 0 → p2 < 0 ∨ f_dm ≤ p2)) (h5 : 0 ≤ p2 ∧ p2 < f_dm) (h6 : ¬ p1 = p2) (h7 : (z273 = 1 → (0 : Int) ≤ p3 ∧ p3 ≤ (2 : Int))) (h8 : (z273 = 0 → p3 < (0 : Int) ∨ (2 : Int) < p3)) (h9 : (0 : Int) ≤ p3 ∧ p3 ≤ (2 : Int)) (h10 : ¬ f_t = 20) (h11 : ¬ z250 = 0) (h12 : ¬ z261 = 0) (h13 : ¬ z273 = 0) (h14 : 0 ≤ f_dm ∧ f_dm ≤ 10) (h15 : 0 ≤ f_t ∧ f_t ≤ 19) (h16 : 0 ≤ p1 ∧ p1 ≤ 9) (h17 : 0 ≤ p2 ∧ p2 ≤ 9) (h18 : 0 ≤ p3 ∧ p3 ≤ 2) (h19 : 1 ≤ z250 ∧ z250 ≤ 1) (h20 : 1 ≤ z261 ∧ z261 ≤ 1) (h21 : 1 ≤ z273 ∧ z273 ≤ 1) : (f_t + 1) = f_t + 1 := by omega
theorem vc_X12_tie_v_34 {f_dm f_t p1 p2 p3 z250 z261 z273 : Int} (h0 : (z250 = 1 → 0 ≤ p1 ∧ p1 < f_dm)) (h1 : (z250 = 0 → p1 < 0 ∨ f_dm ≤ p1)) (h2 : 0 ≤ p1 ∧ p1 < f_dm) (h3 : (z261 = 1 → 0 ≤ p2 ∧ p2 < f_dm)) (h4 : (z261 = 0 → p2 < 0 ∨ f_dm ≤ p2)) (h5 : 0 ≤ p2 ∧ p2 < f_dm) (h6 : ¬ p1 = p2) (h7 : (z273 = 1 → (0 : Int) ≤ p3 ∧ p3 ≤ (2 : Int))) (h8 : (z273 = 0 → p3 < (0 : Int) ∨ (2 : Int) < p3)) (h9 : (0 : Int) ≤ p3 ∧ p3 ≤ (2 : Int)) (h10 : ¬ f_t = 20) (h11 : ¬ z250 = 0) (h12 : ¬ z261 = 0) (h13 : ¬ z273 = 0) (h14 : 0 ≤ f_dm ∧ f_dm ≤ 10) (h15 : 0 ≤ f_t ∧ f_t ≤ 19) (h16 : 0 ≤ p1 ∧ p1 ≤ 9) (h17 : 0 ≤ p2 ∧ p2 ≤ 9) (h18 : 0 ≤ p3 ∧ p3 ≤ 2) (h19 : 1 ≤ z250 ∧ z250 ≤ 1) (h20 : 1 ≤ z261 ∧ z261 ≤ 1) (h21 : 1 ≤ z273 ∧ z273 ≤ 1) : 0 ≤ f_t ∧ (2 * f_t) = 2 * f_t ∧ ((2 * f_t) + 1) = 2 * f_t + 1 ∧ p1 = p1 ∧ p2 = p2 ∧ p3 = p3 := by omega
theorem vc_X12_tie_v_36  : ((-99999999) : Int) = -(99999999 : Int) ∨ ((0 : Int) ≤ ((-99999999) : Int) ∧ ((-99999999) : Int) ≤ (11 : Int)) := by omega
theorem vc_X12_tie_v_37 {z380 : Int} (h0 : 0 ≤ z380 ∧ z380 ≤ 12) : ((-99999999) : Int) = -99999999 ∨ (0 ≤ ((-99999999) : Int) ∧ ((-99999999) : Int) < z380) := by omega
theorem vc_X12_tie_v_39 {f_t z345 : Int} (h0 : ¬ f_t = 20) (h1 : z345 < 4) (h2 : 0 ≤ f_t ∧ f_t ≤ 19) (h3 : 0 ≤ z345 ∧ z345 ≤ 3) : ((4 * f_t) + z345) = 4 * f_t + z345 := by omega
theorem vc_X12_tie_v_40 {f_t z345 : Int} (h0 : ¬ f_t = 20) (h1 : z345 < 4) (h2 : 0 ≤ f_t ∧ f_t ≤ 19) (h3 : 0 ≤ z345 ∧ z345 ≤ 3) : 0 ≤ f_t ∧ 0 ≤ z345 := by omega
theorem vc_X12_tie_v_41  : (((-99999999) : Int) : Int) = -(99999999 : Int) := by omega
theorem vc_X12_tie_v_42 {z345 : Int} (h0 : z345 < 4) (h1 : 0 ≤ z345 ∧ z345 ≤ 3) : (z345 + 1) = z345 + 1 := by omega
theorem vc_X12_tie_v_43 {f_t z345 : Int} (h0 : ¬ f_t = 20) (h1 : z345 < 4) (h2 : 0 ≤ f_t ∧ f_t ≤ 19) (h3 : 0 ≤ z345 ∧ z345 ≤ 3) : 4 * f_t ≤ ((4 * f_t) + z345) ∧ 0 ≤ ((4 * f_t) + z345) := by omega
theorem vc_X12_tie_v_46 {f_t : Int} (h0 : ¬ f_t = 20) (h1 : 0 ≤ f_t ∧ f_t ≤ 19) : 2 * f_t ≤ (2 * f_t) ∧ 0 ≤ (2 * f_t) := by omega
theorem vc_X12_tie_v_47 {f_t : Int} (h0 : ¬ f_t = 20) (h1 : 0 ≤ f_t ∧ f_t ≤ 19) : 2 * f_t ≤ ((2 * f_t) + 1) ∧ 0 ≤ ((2 * f_t) + 1) := by omega
theorem vc_X12_tie_v_48 {f_t : Int} (h0 : ¬ f_t = 20) (h1 : 0 ≤ f_t ∧ f_t ≤ 19) : 1 * f_t ≤ f_t ∧ 0 ≤ f_t := by omega
theorem vc_X12_tie_v_50 {f_t : Int} (h0 : f_t = 20) (h1 : 20 ≤ f_t ∧ f_t ≤ 20) : 20 ≤ f_t := by omega
theorem vc_X12_tie_v_51  : (((-3) : Int) : Int) < (0 : Int) := by omega
theorem vc_X12_tie_v_54  : (((-2) : Int) : Int) < (0 : Int) := by omega
theorem vc_X12_tie_v_57 {f_dm p1 p2 p3 z250 z261 z273 : Int} (h0 : (z250 = 1 → 0 ≤ p1 ∧ p1 < f_dm)) (h1 : (z250 = 0 → p1 < 0 ∨ f_dm ≤ p1)) (h2 : 0 ≤ p1 ∧ p1 < f_dm) (h3 : (z261 = 1 → 0 ≤ p2 ∧ p2 < f_dm)) (h4 : (z261 = 0 → p2 < 0 ∨ f_dm ≤ p2)) (h5 : 0 ≤ p2 ∧ p2 < f_dm) (h6 : ¬ p1 = p2) (h7 : (z273 = 1 → (0 : Int) ≤ p3 ∧ p3 ≤ (2 : Int))) (h8 : (z273 = 0 → p3 < (0 : Int) ∨ (2 : Int) < p3)) (h9 : p3 < (0 : Int) ∨ (2 : Int) < p3) (h10 : ¬ z250 = 0) (h11 : ¬ z261 = 0) (h12 : z273 = 0) (h13 : 0 ≤ f_dm ∧ f_dm ≤ 10) (h14 : 0 ≤ p1 ∧ p1 ≤ 9) (h15 : 0 ≤ p2 ∧ p2 ≤ 9) (h16 : (-2147483648) ≤ p3 ∧ p3 ≤ 2147483647) (h17 : 1 ≤ z250 ∧ z250 ≤ 1) (h18 : 1 ≤ z261 ∧ z261 ≤ 1) (h19 : 0 ≤ z273 ∧ z273 ≤ 0) : p1 < 0 ∨ f_dm ≤ p1 ∨ p2 < 0 ∨ f_dm ≤ p2 ∨ p1 = p2 ∨ p3 < 0 ∨ 2 < p3 := by omega
set_option maxRecDepth 4000 in
set_option maxHeartbeats 4000000 in
theorem c_X12_tie_v {l : Launch} {D : va_G} {c : Nat → ClassId} {H0 : Heap} {sa : Nat × Nat × (Nat → Int32)} {w : mW} {μ : mM} (hw : mWF w) (hT : mT w μ) {p1 : Int} (hp1 : (-2147483648) ≤ p1 ∧ p1 ≤ 2147483647) {p2 : Int} (hp2 : (-2147483648) ≤ p2 ∧ p2 ≤ 2147483647) {p3 : Int} (hp3 : (-2147483648) ≤ p3 ∧ p3 ≤ 2147483647) {f_t : Int} (q_f_t : μ 106 6 = f_t) {f_dm : Int} (q_f_dm : μ 106 5 = f_dm) (hIJC : JC l D c H0 sa μ) (hIRP : RP μ) (hIEP : EP μ) (hIHP : HP μ) (hIUP : UP l D c H0 sa μ) (hITE : TE μ) (hIPK : PK μ) (hIEV : EV μ) : sC (gG l D c H0 sa) mX12_tie 3 0 0 [.ref 106, iv p1, iv p2, iv p3] (mk w μ) (qI w [106006, 110999, 111999, 112999, 113999, 114999, 115999] μ (fun z μ1 => ((-2147483648) ≤ z ∧ z ≤ 2147483647) ∧ JC l D c H0 sa μ1 ∧ RP μ1 ∧ EP μ1 ∧ HP μ1 ∧ UP l D c H0 sa μ1 ∧ TE μ1 ∧ PK μ1 ∧ EV μ1 ∧ (tieA (noneQ (tr μ 0) (tr μ 1) f_t p1 p2) f_dm f_t p1 p2 p3 z) ∧ (tgR μ μ1 p1 p2 p3 z) ∧ True)) := by
  refine sC.of rfl (by decide) (le_t rfl) ?_
  have ht_f_t : (0 ≤ f_t ∧ f_t ≤ 20) := by rw [← q_f_t]; exact hT 106 106 (A_106 hw) 6
  have ht_f_dm : (0 ≤ f_dm ∧ f_dm ≤ 10) := by rw [← q_f_dm]; exact hT 106 106 (A_106 hw) 5
  refine mr_lvE (lv' := [(0, .ref 106), (1, iv p1), (2, iv p2), (3, iv p3)]) rfl ?_
  refine sv_aload_n (pc := 0) dX12_tie_0 rfl rfl ?_
  refine mr_iload_n (pc := 1) (z := p1) dX12_tie_1 rfl rfl ?_
  refine mr_cVP (pc := 2) (c_X12_isDomain hw hT hp1 q_f_dm) (gOk _ _ _ _ _) dX12_tie_2 (tX12_isDomain _ _ _ _ _) ⟨wV_X12_isDomain, wL_X12_isDomain⟩ wM_X12_49 (gCX12 _ _ _ _ _) rfl (A_106 hw) rfl ⟨le_t rfl, le_t rfl⟩ ⟨le_t rfl, le_t rfl⟩ rfl (le_t rfl) fun z250 h249 => ?_
  refine mr_if_eq (pc := 5) (tgt := 30) dX12_tie_5 (by decide) (r32 h249.1 rfl) (fun h251 => ?_) (fun h251 => ?_)
  · have h252 : 0 ≤ z250 ∧ z250 ≤ 0 := (vc_X12_tie_v_1 h251 h249.2.1 h249.2.2.1 ht_f_dm hp1 h249.1)
    have h253 : p1 < 0 ∨ f_dm ≤ p1 := (h249.2.2.1 (vc_X12_tie_v_2 h249.2.1 h249.2.2.1 h251 ht_f_dm hp1 h252))
    refine mr_iconst (pc := 30) (z := (-1)) dX12_tie_30 ?_
    exact mr_iret dX12_tie_31 rfl (le_t rfl) (le_t rfl) hT mF.refl ⟨(rW (c := (-2147483648)) (d := 2147483647) (rR (x := (-1))) rfl), hIJC, hIRP, hIEP, hIHP, hIUP, hITE, hIPK, hIEV, (Or.inl ⟨(by unfold tieB; exact (vc_X12_tie_v_3 h249.2.1 h249.2.2.1 h253 h251 ht_f_dm hp1 hp2 hp3 h252)), rfl⟩), (Or.inr ⟨vc_X12_raise_u_49, rfl⟩), trivial⟩
  have h254 : 1 ≤ z250 ∧ z250 ≤ 1 := (vc_X12_tie_v_5 h251 h249.2.1 h249.2.2.1 ht_f_dm hp1 h249.1)
  have h255 : 0 ≤ p1 ∧ p1 < f_dm := (h249.2.1 (vc_X12_tie_v_6 h249.2.1 h249.2.2.1 h251 ht_f_dm hp1 h254))
  have h256 : 0 ≤ p1 ∧ p1 ≤ 9 := (vc_X12_tie_v_7 h255 h249.2.1 h249.2.2.1 ht_f_dm hp1 h254)
  refine sv_aload_n (pc := 8) dX12_tie_8 rfl rfl ?_
  refine mr_iload_n (pc := 9) (z := p2) dX12_tie_9 rfl rfl ?_
  refine mr_cVP (pc := 10) (c_X12_isDomain hw hT hp2 q_f_dm) (gOk _ _ _ _ _) dX12_tie_10 (tX12_isDomain _ _ _ _ _) ⟨wV_X12_isDomain, wL_X12_isDomain⟩ wM_X12_49 (gCX12 _ _ _ _ _) rfl (A_106 hw) rfl ⟨le_t rfl, le_t rfl⟩ ⟨le_t rfl, le_t rfl⟩ rfl (le_t rfl) fun z261 h260 => ?_
  refine mr_if_eq (pc := 13) (tgt := 30) dX12_tie_13 (by decide) (r32 h260.1 rfl) (fun h262 => ?_) (fun h262 => ?_)
  · have h263 : 0 ≤ z261 ∧ z261 ≤ 0 := (vc_X12_tie_v_1 h262 h260.2.1 h260.2.2.1 ht_f_dm hp2 h260.1)
    have h264 : p2 < 0 ∨ f_dm ≤ p2 := (h260.2.2.1 (vc_X12_tie_v_9 h260.2.1 h260.2.2.1 h262 h249.2.1 h249.2.2.1 h255 ht_f_dm h256 hp2 h254 h263))
    refine mr_iconst (pc := 30) (z := (-1)) dX12_tie_30 ?_
    exact mr_iret dX12_tie_31 rfl (le_t rfl) (le_t rfl) hT mF.refl ⟨(rW (c := (-2147483648)) (d := 2147483647) (rR (x := (-1))) rfl), hIJC, hIRP, hIEP, hIHP, hIUP, hITE, hIPK, hIEV, (Or.inl ⟨(by unfold tieB; exact (vc_X12_tie_v_10 h249.2.1 h249.2.2.1 h255 h260.2.1 h260.2.2.1 h264 h251 h262 ht_f_dm h256 hp2 hp3 h254 h263)), rfl⟩), (Or.inr ⟨vc_X12_raise_u_49, rfl⟩), trivial⟩
  have h265 : 1 ≤ z261 ∧ z261 ≤ 1 := (vc_X12_tie_v_5 h262 h260.2.1 h260.2.2.1 ht_f_dm hp2 h260.1)
  have h266 : 0 ≤ p2 ∧ p2 < f_dm := (h260.2.1 (vc_X12_tie_v_12 h260.2.1 h260.2.2.1 h262 h249.2.1 h249.2.2.1 h255 ht_f_dm h256 hp2 h254 h265))
  have h267 : 0 ≤ p2 ∧ p2 ≤ 9 := (vc_X12_tie_v_13 h266 h249.2.1 h249.2.2.1 h255 h260.2.1 h260.2.2.1 ht_f_dm h256 hp2 h254 h265)
  refine mr_iload_n (pc := 16) (z := p1) dX12_tie_16 rfl rfl ?_
  refine mr_iload_n (pc := 17) (z := p2) dX12_tie_17 rfl rfl ?_
  refine mr_icmp_eq (pc := 18) (tgt := 30) dX12_tie_18 (by decide) (r32 h256 rfl) (r32 h267 rfl) (fun h268 => ?_) (fun h268 => ?_)
  · refine mr_iconst (pc := 30) (z := (-1)) dX12_tie_30 ?_
    exact mr_iret dX12_tie_31 rfl (le_t rfl) (le_t rfl) hT mF.refl ⟨(rW (c := (-2147483648)) (d := 2147483647) (rR (x := (-1))) rfl), hIJC, hIRP, hIEP, hIHP, hIUP, hITE, hIPK, hIEV, (Or.inl ⟨(by unfold tieB; exact (vc_X12_tie_v_14 h249.2.1 h249.2.2.1 h255 h260.2.1 h260.2.2.1 h266 h268 h251 h262 ht_f_dm h256 h267 hp3 h254 h265)), rfl⟩), (Or.inr ⟨vc_X12_raise_u_49, rfl⟩), trivial⟩
  refine mr_iload_n (pc := 21) (z := p3) dX12_tie_21 rfl rfl ?_
  refine mr_iconst (pc := 22) (z := 0) dX12_tie_22 ?_
  refine mr_iconst (pc := 23) (z := 2) dX12_tie_23 ?_
  refine mr_cSP (pc := 24) (c_X12_in hw hT hp3 (rW (c := (-2147483648)) (d := 2147483647) (rR (x := 0)) rfl) (rW (c := (-2147483648)) (d := 2147483647) (rR (x := 2)) rfl)) (gOk _ _ _ _ _) dX12_tie_24 (tX12_in _ _ _ _ _) wS_X12_in wM_X12_18 ⟨le_t rfl, le_t rfl⟩ ⟨le_t rfl, le_t rfl⟩ rfl (le_t rfl) fun z273 h272 => ?_
  refine mr_if_ne (pc := 27) (tgt := 32) dX12_tie_27 (by decide) (r32 h272.1 rfl) (fun h274 => ?_) (fun h274 => ?_)
  · have h275 : 1 ≤ z273 ∧ z273 ≤ 1 := (vc_X12_units_1 h274 h272.2.1 h272.2.2.1 hp3 h272.1)
    have h276 : (0 : Int) ≤ p3 ∧ p3 ≤ (2 : Int) := (h272.2.1 (vc_X12_units_2 h272.2.1 h272.2.2.1 h274 hp3 h275))
    have h277 : 0 ≤ p3 ∧ p3 ≤ 2 := (vc_X12_units_3 h276 h272.2.1 h272.2.2.1 hp3 h275)
    refine sv_aload_n (pc := 32) dX12_tie_32 rfl rfl ?_
    refine mr_iload_n (pc := 33) (z := p1) dX12_tie_33 rfl rfl ?_
    refine mr_iload_n (pc := 34) (z := p2) dX12_tie_34 rfl rfl ?_
    refine mr_cVP (pc := 35) (c_X12_tieOf_v hw hT (rW (c := (-2147483648)) (d := 2147483647) h256 rfl) (rW (c := (-2147483648)) (d := 2147483647) h267 rfl) q_f_t) (gOk _ _ _ _ _) dX12_tie_35 (tX12_tieOf _ _ _ _ _) ⟨wV_X12_tieOf, wL_X12_tieOf⟩ wM_X12_43 (gCX12 _ _ _ _ _) rfl (A_106 hw) rfl ⟨le_t rfl, le_t rfl⟩ ⟨le_t rfl, le_t rfl⟩ rfl (le_t rfl) fun z282 h281 => ?_
    refine mr_ldc (pc := 38) (z := (-99999999)) dX12_tie_38 wG_X12_29 (by decide) ?_
    refine mr_icmp_eq (pc := 40) (tgt := 46) dX12_tie_40 (by decide) (r32 h281.1 rfl) (r32 (rR (x := (-99999999))) rfl) (fun h283 => ?_) (fun h283 => ?_)
    · have h284 : (-99999999) ≤ z282 ∧ z282 ≤ (-99999999) := (vc_X12_letWay_17 h283 h281.2.1 h281.1)
      refine sv_aload_n (pc := 46) dX12_tie_46 rfl rfl ?_
      refine gk_X12_6 (pc := 47) dX12_tie_47 wF_X12_37 (A_106 hw) q_f_t ?_
      refine mr_bipush (pc := 50) (z := 20) dX12_tie_50 (by decide) ?_
      refine mr_icmp_ne (pc := 52) (tgt := 58) dX12_tie_52 (by decide) (r32 ht_f_t rfl) (r32 (rR (x := 20)) rfl) (fun h285 => ?_) (fun h285 => ?_)
      · have h286 : 0 ≤ f_t ∧ f_t ≤ 19 := (vc_X12_walk_5 h285 ht_f_t)
        refine sv_aload_n (pc := 58) dX12_tie_58 rfl rfl ?_
        refine gf_X12_7 (pc := 59) dX12_tie_59 wF_X12_40 (A_106 hw) hT ?_
        refine mr_iconst (pc := 62) (z := 2) dX12_tie_62 ?_
        refine sv_aload_n (pc := 63) dX12_tie_63 rfl rfl ?_
        refine gk_X12_6 (pc := 64) dX12_tie_64 wF_X12_37 (A_106 hw) q_f_t ?_
        refine mr_imul (pc := 67) (x := 2) (y := f_t) dX12_tie_67 ?_
        refine mr_iload_n (pc := 68) (z := p1) dX12_tie_68 rfl rfl ?_
        refine ss_110 (pc := 69) dX12_tie_69 (A_110 hw) hT (rIx (n := 40) (rMulL (n := 2) (e := 0) (f := 38) h286 rfl) rfl) h256 fun μ287 u288 T289 => ?_
        refine sv_aload_n (pc := 70) dX12_tie_70 rfl rfl ?_
        refine gf_X12_7 (pc := 71) dX12_tie_71 wF_X12_40 (A_106 hw) T289 ?_
        refine mr_iconst (pc := 74) (z := 2) dX12_tie_74 ?_
        refine sv_aload_n (pc := 75) dX12_tie_75 rfl rfl ?_
        refine gk_X12_6 (pc := 76) dX12_tie_76 wF_X12_37 (A_106 hw) (u288.f (Or.inl (mAt.ne (A_110 hw) (A_106 hw) rfl)) q_f_t) ?_
        refine mr_imul (pc := 79) (x := 2) (y := f_t) dX12_tie_79 ?_
        refine mr_iconst (pc := 80) (z := 1) dX12_tie_80 ?_
        refine mr_iadd (pc := 81) (x := (2 * f_t)) (y := 1) dX12_tie_81 ?_
        refine mr_iload_n (pc := 82) (z := p2) dX12_tie_82 rfl rfl ?_
        refine ss_110 (pc := 83) dX12_tie_83 (A_110 hw) T289 (rIx (n := 40) (rAdd (e := 1) (f := 39) (rMulL (n := 2) (e := 0) (f := 38) h286 rfl) (rR (x := 1)) rfl) rfl) h267 fun μ290 u291 T292 => ?_
        refine sv_aload_n (pc := 84) dX12_tie_84 rfl rfl ?_
        refine gf_X12_8 (pc := 85) dX12_tie_85 wF_X12_46 (A_106 hw) T292 ?_
        refine sv_aload_n (pc := 88) dX12_tie_88 rfl rfl ?_
        refine gk_X12_6 (pc := 89) dX12_tie_89 wF_X12_37 (A_106 hw) (u291.f (Or.inl (mAt.ne (A_110 hw) (A_106 hw) rfl)) (u288.f (Or.inl (mAt.ne (A_110 hw) (A_106 hw) rfl)) q_f_t)) ?_
        refine mr_iload_n (pc := 92) (z := p3) dX12_tie_92 rfl rfl ?_
        refine ss_111 (pc := 93) dX12_tie_93 (A_111 hw) T292 (rIx (n := 20) h286 rfl) h277 fun μ293 u294 T295 => ?_
        refine sv_aload_n (pc := 94) dX12_tie_94 rfl rfl ?_
        refine gf_X12_9 (pc := 95) dX12_tie_95 wF_X12_53 (A_106 hw) T295 ?_
        refine sv_aload_n (pc := 98) dX12_tie_98 rfl rfl ?_
        refine gk_X12_6 (pc := 99) dX12_tie_99 wF_X12_37 (A_106 hw) (u294.f (Or.inl (mAt.ne (A_111 hw) (A_106 hw) rfl)) (u291.f (Or.inl (mAt.ne (A_110 hw) (A_106 hw) rfl)) (u288.f (Or.inl (mAt.ne (A_110 hw) (A_106 hw) rfl)) q_f_t))) ?_
        refine mr_iconst (pc := 102) (z := 1) dX12_tie_102 ?_
        refine ss_112 (pc := 103) dX12_tie_103 (A_112 hw) T295 (rIx (n := 20) h286 rfl) (rW (c := 0) (d := 1) (rR (x := 1)) rfl) fun μ296 u297 T298 => ?_
        refine sv_aload_n (pc := 104) dX12_tie_104 rfl rfl ?_
        refine gf_X12_10 (pc := 105) dX12_tie_105 wF_X12_57 (A_106 hw) T298 ?_
        refine sv_aload_n (pc := 108) dX12_tie_108 rfl rfl ?_
        refine gk_X12_6 (pc := 109) dX12_tie_109 wF_X12_37 (A_106 hw) (u297.f (Or.inl (mAt.ne (A_112 hw) (A_106 hw) rfl)) (u294.f (Or.inl (mAt.ne (A_111 hw) (A_106 hw) rfl)) (u291.f (Or.inl (mAt.ne (A_110 hw) (A_106 hw) rfl)) (u288.f (Or.inl (mAt.ne (A_110 hw) (A_106 hw) rfl)) q_f_t)))) ?_
        refine mr_iconst (pc := 112) (z := 1) dX12_tie_112 ?_
        refine ss_113 (pc := 113) dX12_tie_113 (A_113 hw) T298 (rIx (n := 20) h286 rfl) (rW (c := 0) (d := 1000) (rR (x := 1)) rfl) fun μ299 u300 T301 => ?_
        refine sv_aload_n (pc := 114) dX12_tie_114 rfl rfl ?_
        refine gf_X12_11 (pc := 115) dX12_tie_115 wF_X12_60 (A_106 hw) T301 ?_
        refine sv_aload_n (pc := 118) dX12_tie_118 rfl rfl ?_
        refine gk_X12_6 (pc := 119) dX12_tie_119 wF_X12_37 (A_106 hw) (u300.f (Or.inl (mAt.ne (A_113 hw) (A_106 hw) rfl)) (u297.f (Or.inl (mAt.ne (A_112 hw) (A_106 hw) rfl)) (u294.f (Or.inl (mAt.ne (A_111 hw) (A_106 hw) rfl)) (u291.f (Or.inl (mAt.ne (A_110 hw) (A_106 hw) rfl)) (u288.f (Or.inl (mAt.ne (A_110 hw) (A_106 hw) rfl)) q_f_t))))) ?_
        refine mr_iconst (pc := 122) (z := 0) dX12_tie_122 ?_
        refine ss_114 (pc := 123) dX12_tie_123 (A_114 hw) T301 (rIx (n := 20) h286 rfl) (rW (c := 0) (d := 1000) (rR (x := 0)) rfl) fun μ302 u303 T304 => ?_
        refine mr_iconst (pc := 124) (z := 0) dX12_tie_124 ?_
        refine mr_istore (pc := 125) (lv' := [(4, iv 0), (0, .ref 106), (1, iv p1), (2, iv p2), (3, iv p3)]) dX12_tie_125 (by decide) rfl ?_
        have L347 : ∀ (nL347 : Nat) (z345 : Int) (μ346 : mM), mT w μ346 → mF [115999] w μ302 μ346 → (0 ≤ z345 ∧ z345 ≤ 4) → JC l D c H0 sa μ346 → RP μ346 → PK μ346 → EV μ346 → pnT μ346 f_t z345 → TI μ μ346 f_t → (5 - z345) < (nL347 : Int) → sV (gG l D c H0 sa) mX12_tie (sRm 3 0 0) (sZ (gG l D c H0 sa) 0 0 (qI w [106006, 110999, 111999, 112999, 113999, 114999, 115999] μ (fun z μ1 => ((-2147483648) ≤ z ∧ z ≤ 2147483647) ∧ JC l D c H0 sa μ1 ∧ RP μ1 ∧ EP μ1 ∧ HP μ1 ∧ UP l D c H0 sa μ1 ∧ TE μ1 ∧ PK μ1 ∧ EV μ1 ∧ (tieA (noneQ (tr μ 0) (tr μ 1) f_t p1 p2) f_dm f_t p1 p2 p3 z) ∧ (tgR μ μ1 p1 p2 p3 z) ∧ True))) 127 [(0, .ref 106), (4, iv z345)] [] (mk w μ346) 0 0 := by
          intro nL347
          induction nL347 with
          | zero => intro z345 μ346 T349 F350 h348 I352 I353 I354 I355 R356 R357 h358; exact ((vc_X3_putPrefix_2 h358 h348)).elim
          | succ nL347 ih359 =>
            intro z345 μ346 T349 F350 h348 I352 I353 I354 I355 R356 R357 h358
            refine mr_iload (pc := 127) (z := z345) dX12_tie_127 rfl ?_
            refine mr_iconst (pc := 129) (z := 4) dX12_tie_129 ?_
            refine mr_icmp_ge (pc := 130) (tgt := 155) dX12_tie_130 (by decide) (r32 h348 rfl) (r32 (rR (x := 4)) rfl) (fun h365 => ?_) (fun h365 => ?_)
            · have h366 : 4 ≤ z345 ∧ z345 ≤ 4 := (vc_X12_addressRead_74 h365 h348)
              refine sv_aload_n (pc := 155) dX12_tie_155 rfl rfl ?_
              refine sv_dup (pc := 156) dX12_tie_156 rfl ?_
              refine gk_X12_6 (pc := 157) dX12_tie_157 wF_X12_37 (A_106 hw) (F350.f (A_106 hw) rfl (u303.f (Or.inl (mAt.ne (A_114 hw) (A_106 hw) rfl)) (u300.f (Or.inl (mAt.ne (A_113 hw) (A_106 hw) rfl)) (u297.f (Or.inl (mAt.ne (A_112 hw) (A_106 hw) rfl)) (u294.f (Or.inl (mAt.ne (A_111 hw) (A_106 hw) rfl)) (u291.f (Or.inl (mAt.ne (A_110 hw) (A_106 hw) rfl)) (u288.f (Or.inl (mAt.ne (A_110 hw) (A_106 hw) rfl)) q_f_t))))))) ?_
              refine mr_iconst (pc := 160) (z := 1) dX12_tie_160 ?_
              refine mr_iadd (pc := 161) (x := f_t) (y := 1) dX12_tie_161 ?_
              refine pf_X12_6 (pc := 162) dX12_tie_162 wF_X12_37 (A_106 hw) T349 (rW (c := 0) (d := 20) (rAdd (e := 1) (f := 20) h286 (rR (x := 1)) rfl) rfl) fun μ367 u368 T369 => ?_
              have I370 : EV μ367 := EV.grow I355 (F350.f (A_106 hw) rfl (u303.f (Or.inl (mAt.ne (A_114 hw) (A_106 hw) rfl)) (u300.f (Or.inl (mAt.ne (A_113 hw) (A_106 hw) rfl)) (u297.f (Or.inl (mAt.ne (A_112 hw) (A_106 hw) rfl)) (u294.f (Or.inl (mAt.ne (A_111 hw) (A_106 hw) rfl)) (u291.f (Or.inl (mAt.ne (A_110 hw) (A_106 hw) rfl)) (u288.f (Or.inl (mAt.ne (A_110 hw) (A_106 hw) rfl)) q_f_t))))))) u368 (vc_X12_tie_v_22 h285 h286)
              have I371 : PK μ367 := PK.grow I354 (F350.f (A_106 hw) rfl (u303.f (Or.inl (mAt.ne (A_114 hw) (A_106 hw) rfl)) (u300.f (Or.inl (mAt.ne (A_113 hw) (A_106 hw) rfl)) (u297.f (Or.inl (mAt.ne (A_112 hw) (A_106 hw) rfl)) (u294.f (Or.inl (mAt.ne (A_111 hw) (A_106 hw) rfl)) (u291.f (Or.inl (mAt.ne (A_110 hw) (A_106 hw) rfl)) (u288.f (Or.inl (mAt.ne (A_110 hw) (A_106 hw) rfl)) q_f_t))))))) u368 (vc_X12_tie_v_23 h285 h286) (vc_X12_tie_v_24 h285 h286) R356 (vc_X12_tie_v_25 h365 h366)
              have I372 : HP μ367 := TI.hp hIHP R357 q_f_t u368 (vc_X12_tie_v_23 h285 h286)
              have I373 : EP μ367 := TI.ep hIEP hIEV R357 q_f_t u368
              have I374 : TE μ367 := TI.te hITE R357 q_f_t (vc_X12_tie_v_24 h285 h286) u368 (vc_X12_tie_v_23 h285 h286) (u368.f (Or.inl (mAt.ne (A_106 hw) (A_110 hw) rfl)) (F350.f (A_110 hw) rfl (u303.f (Or.inl (mAt.ne (A_114 hw) (A_110 hw) rfl)) (u300.f (Or.inl (mAt.ne (A_113 hw) (A_110 hw) rfl)) (u297.f (Or.inl (mAt.ne (A_112 hw) (A_110 hw) rfl)) (u294.f (Or.inl (mAt.ne (A_111 hw) (A_110 hw) rfl)) (u291.f (Or.inr (vc_X12_tie_v_26 h285 h286)) u288.1))))))) (u368.f (Or.inl (mAt.ne (A_106 hw) (A_110 hw) rfl)) (F350.f (A_110 hw) rfl (u303.f (Or.inl (mAt.ne (A_114 hw) (A_110 hw) rfl)) (u300.f (Or.inl (mAt.ne (A_113 hw) (A_110 hw) rfl)) (u297.f (Or.inl (mAt.ne (A_112 hw) (A_110 hw) rfl)) (u294.f (Or.inl (mAt.ne (A_111 hw) (A_110 hw) rfl)) u291.1)))))) (u368.f (Or.inr (by decide)) (F350.f (A_106 hw) rfl (u303.f (Or.inl (mAt.ne (A_114 hw) (A_106 hw) rfl)) (u300.f (Or.inl (mAt.ne (A_113 hw) (A_106 hw) rfl)) (u297.f (Or.inl (mAt.ne (A_112 hw) (A_106 hw) rfl)) (u294.f (Or.inl (mAt.ne (A_111 hw) (A_106 hw) rfl)) (u291.f (Or.inl (mAt.ne (A_110 hw) (A_106 hw) rfl)) (u288.f (Or.inl (mAt.ne (A_110 hw) (A_106 hw) rfl)) q_f_dm)))))))) (vc_X12_tie_v_27 h249.2.1 h249.2.2.1 h255 h260.2.1 h260.2.2.1 h266 h268 h251 h262 ht_f_dm h256 h267 h254 h265)
              have I375 : UP l D c H0 sa μ367 := TI.upx hIUP hIHP R357 hw T369 I371 q_f_t (vc_X12_tie_v_24 h285 h286) u368 (vc_X12_tie_v_23 h285 h286)
              refine sv_aload_n (pc := 165) dX12_tie_165 rfl rfl ?_
              refine gk_X12_6 (pc := 166) dX12_tie_166 wF_X12_37 (A_106 hw) u368.1 ?_
              refine mr_iconst (pc := 169) (z := 1) dX12_tie_169 ?_
              refine mr_isub (pc := 170) (x := (f_t + 1)) (y := 1) dX12_tie_170 ?_
              exact mr_iret dX12_tie_171 rfl (le_t rfl) (le_t rfl) T369 (mF.up (mF.call (mF.up (mF.up (mF.up (mF.up (mF.up (mF.up mF.refl (A_110 hw) u288 rfl) (A_110 hw) u291 rfl) (A_111 hw) u294 rfl) (A_112 hw) u297 rfl) (A_113 hw) u300 rfl) (A_114 hw) u303 rfl) F350 rfl) (A_106 hw) u368 rfl) ⟨(rW (c := (-2147483648)) (d := 2147483647) (rSub (e := 0) (f := 19) (rAdd (e := 1) (f := 20) h286 (rR (x := 1)) rfl) (rR (x := 1)) rfl) rfl), (JC.keepJ I352 hw ((mF.up mF.refl (A_106 hw) u368 rfl) : mF [106006] w μ346 μ367) rfl), (RP.keep I353 hw ((mF.up mF.refl (A_106 hw) u368 rfl) : mF [106006] w μ346 μ367) rfl ((mG.upO mG.refl u368 rfl) : mG [] μ346 μ367) (fun _ h => absurd h List.not_mem_nil)), I373, I372, I375, I374, I371, I370, (Or.inr ⟨(by unfold tieB; exact (vc_X12_tie_v_28 h249.2.1 h249.2.2.1 h255 h260.2.1 h260.2.2.1 h266 h268 h272.2.1 h272.2.2.1 h276 h251 h262 h274 ht_f_dm h256 h267 h277 h254 h265 h275)), Or.inr ⟨((h281.2.2.1).not (by decide) (vc_X12_tie_v_29 h281.2.1 h283 h284)), Or.inr ⟨(vc_X12_tie_v_30 h285 h286), (vc_X12_tie_v_31 h285 h286)⟩⟩⟩), (tgR.add q_f_t (vc_X12_tie_v_32 h285 h286) u368.1 (vc_X12_tie_v_33 h249.2.1 h249.2.2.1 h255 h260.2.1 h260.2.2.1 h266 h268 h272.2.1 h272.2.2.1 h276 h285 h251 h262 h274 ht_f_dm h286 h256 h267 h277 h254 h265 h275) (u368.f (Or.inl (mAt.ne (A_106 hw) (A_110 hw) rfl)) (F350.f (A_110 hw) rfl (u303.f (Or.inl (mAt.ne (A_114 hw) (A_110 hw) rfl)) (u300.f (Or.inl (mAt.ne (A_113 hw) (A_110 hw) rfl)) (u297.f (Or.inl (mAt.ne (A_112 hw) (A_110 hw) rfl)) (u294.f (Or.inl (mAt.ne (A_111 hw) (A_110 hw) rfl)) (u291.f (Or.inr (vc_X12_tie_v_26 h285 h286)) u288.1))))))) (u368.f (Or.inl (mAt.ne (A_106 hw) (A_110 hw) rfl)) (F350.f (A_110 hw) rfl (u303.f (Or.inl (mAt.ne (A_114 hw) (A_110 hw) rfl)) (u300.f (Or.inl (mAt.ne (A_113 hw) (A_110 hw) rfl)) (u297.f (Or.inl (mAt.ne (A_112 hw) (A_110 hw) rfl)) (u294.f (Or.inl (mAt.ne (A_111 hw) (A_110 hw) rfl)) u291.1)))))) (u368.f (Or.inl (mAt.ne (A_106 hw) (A_111 hw) rfl)) (F350.f (A_111 hw) rfl (u303.f (Or.inl (mAt.ne (A_114 hw) (A_111 hw) rfl)) (u300.f (Or.inl (mAt.ne (A_113 hw) (A_111 hw) rfl)) (u297.f (Or.inl (mAt.ne (A_112 hw) (A_111 hw) rfl)) u294.1))))) (vc_X12_tie_v_34 h249.2.1 h249.2.2.1 h255 h260.2.1 h260.2.2.1 h266 h268 h272.2.1 h272.2.2.1 h276 h285 h251 h262 h274 ht_f_dm h286 h256 h267 h277 h254 h265 h275) (TI.trS R357 u368)), trivial⟩
            have h376 : 0 ≤ z345 ∧ z345 ≤ 3 := (vc_X12_addressRead_82 h365 h348)
            refine sv_aload_n (pc := 133) dX12_tie_133 rfl rfl ?_
            refine gf_X12_12 (pc := 134) dX12_tie_134 wF_X12_63 (A_106 hw) T349 ?_
            refine mr_iconst (pc := 137) (z := 4) dX12_tie_137 ?_
            refine sv_aload_n (pc := 138) dX12_tie_138 rfl rfl ?_
            refine gk_X12_6 (pc := 139) dX12_tie_139 wF_X12_37 (A_106 hw) (F350.f (A_106 hw) rfl (u303.f (Or.inl (mAt.ne (A_114 hw) (A_106 hw) rfl)) (u300.f (Or.inl (mAt.ne (A_113 hw) (A_106 hw) rfl)) (u297.f (Or.inl (mAt.ne (A_112 hw) (A_106 hw) rfl)) (u294.f (Or.inl (mAt.ne (A_111 hw) (A_106 hw) rfl)) (u291.f (Or.inl (mAt.ne (A_110 hw) (A_106 hw) rfl)) (u288.f (Or.inl (mAt.ne (A_110 hw) (A_106 hw) rfl)) q_f_t))))))) ?_
            refine mr_imul (pc := 142) (x := 4) (y := f_t) dX12_tie_142 ?_
            refine mr_iload (pc := 143) (z := z345) dX12_tie_143 rfl ?_
            refine mr_iadd (pc := 145) (x := (4 * f_t)) (y := z345) dX12_tie_145 ?_
            refine mr_ldc (pc := 146) (z := (-99999999)) dX12_tie_146 wG_X12_29 (by decide) ?_
            refine ss_115 (pc := 148) dX12_tie_148 (A_115 hw) T349 (rIx (n := 80) (rAdd (e := 0) (f := 79) (rMulL (n := 4) (e := 0) (f := 76) h286 rfl) h376 rfl) rfl) vc_X12_tie_v_36 fun μ377 u378 T379 => ?_
            obtain ⟨z380, q381⟩ : ∃ z, μ377 106 39 = z := ⟨_, rfl⟩
            have h382 : (0 ≤ z380 ∧ z380 ≤ 12) := by rw [← q381]; exact T379 106 106 (A_106 hw) 39
            have I383 : PK μ377 := PK.use I354 u378 (u378.2 106 39 (Or.inl (by decide)) ▸ q381) (vc_X12_tie_v_37 h382)
            refine mr_iinc (pc := 149) (lv' := [(4, iv (z345 + 1)), (0, .ref 106)]) dX12_tie_149 rfl (by decide) rfl ?_
            refine sv_goto (pc := 152) (tgt := 127) dX12_tie_152 (by decide) ?_
            refine mr_lvS (lv' := [(0, .ref 106), (4, iv (z345 + 1))]) (List.forall_mem_cons.mpr ⟨rfl, List.forall_mem_cons.mpr ⟨rfl, fun _ h => absurd h List.not_mem_nil⟩⟩) ?_
            exact ih359 (z345 + 1) μ377 T379 (mF.up (mF.call mF.refl F350 rfl) (A_115 hw) u378 rfl) (rW (c := 0) (d := 4) (rAdd (e := 1) (f := 4) h376 (rR (x := 1)) rfl) rfl) (JC.keepJ I352 hw ((mF.up mF.refl (A_115 hw) u378 rfl) : mF [115999] w μ346 μ377) rfl) (RP.keep I353 hw ((mF.up mF.refl (A_115 hw) u378 rfl) : mF [115999] w μ346 μ377) rfl ((mG.upO mG.refl u378 rfl) : mG [] μ346 μ377) (fun _ h => absurd h List.not_mem_nil)) I383 (EV.keep I355 hw ((mF.up mF.refl (A_115 hw) u378 rfl) : mF [115999] w μ346 μ377) rfl) (pnT.succ R356 u378 (vc_X12_tie_v_39 h285 h365 h286 h376) (vc_X12_tie_v_40 h285 h365 h286 h376) vc_X12_tie_v_41 (vc_X12_tie_v_42 h365 h376)) (TI.up R357 u378 (Or.inr (Or.inr (Or.inr (Or.inr (Or.inr ⟨rfl, (by have h := (vc_X12_tie_v_43 h285 h365 h286 h376); omega)⟩)))))) (vc_X12_message_u_87 (nS h358) h365 h376)
        refine mr_lvS (lv' := [(0, .ref 106), (4, iv 0)]) (List.forall_mem_cons.mpr ⟨rfl, List.forall_mem_cons.mpr ⟨rfl, fun _ h => absurd h List.not_mem_nil⟩⟩) ?_
        exact L347 6 0 μ302 T304 mF.refl (rW (c := 0) (d := 4) (rR (x := 0)) rfl) (JC.keepJ hIJC hw ((mF.up (mF.up (mF.up (mF.up (mF.up (mF.up mF.refl (A_110 hw) u288 rfl) (A_110 hw) u291 rfl) (A_111 hw) u294 rfl) (A_112 hw) u297 rfl) (A_113 hw) u300 rfl) (A_114 hw) u303 rfl) : mF [110999, 111999, 112999, 113999, 114999] w μ μ302) rfl) (RP.keep hIRP hw ((mF.up (mF.up (mF.up (mF.up (mF.up (mF.up mF.refl (A_110 hw) u288 rfl) (A_110 hw) u291 rfl) (A_111 hw) u294 rfl) (A_112 hw) u297 rfl) (A_113 hw) u300 rfl) (A_114 hw) u303 rfl) : mF [110999, 111999, 112999, 113999, 114999] w μ μ302) rfl ((mG.upO (mG.upO (mG.upO (mG.upO (mG.upO (mG.upO mG.refl u288 rfl) u291 rfl) u294 rfl) u297 rfl) u300 rfl) u303 rfl) : mG [] μ μ302) (fun _ h => absurd h List.not_mem_nil)) (PK.keep hIPK hw ((mF.up (mF.up (mF.up (mF.up (mF.up (mF.up mF.refl (A_110 hw) u288 rfl) (A_110 hw) u291 rfl) (A_111 hw) u294 rfl) (A_112 hw) u297 rfl) (A_113 hw) u300 rfl) (A_114 hw) u303 rfl) : mF [110999, 111999, 112999, 113999, 114999] w μ μ302) rfl) (EV.keep hIEV hw ((mF.up (mF.up (mF.up (mF.up (mF.up (mF.up mF.refl (A_110 hw) u288 rfl) (A_110 hw) u291 rfl) (A_111 hw) u294 rfl) (A_112 hw) u297 rfl) (A_113 hw) u300 rfl) (A_114 hw) u303 rfl) : mF [110999, 111999, 112999, 113999, 114999] w μ μ302) rfl) (pnT.zero vc_X3_forget_z_1) (TI.up (TI.up (TI.up (TI.up (TI.up (TI.up TI.refl u288 (Or.inl ⟨rfl, (by have h := (vc_X12_tie_v_46 h285 h286); omega)⟩)) u291 (Or.inl ⟨rfl, (by have h := (vc_X12_tie_v_47 h285 h286); omega)⟩)) u294 (Or.inr (Or.inl ⟨rfl, (by have h := (vc_X12_tie_v_48 h285 h286); omega)⟩))) u297 (Or.inr (Or.inr (Or.inl ⟨rfl, (by have h := (vc_X12_tie_v_48 h285 h286); omega)⟩)))) u300 (Or.inr (Or.inr (Or.inr (Or.inl rfl))))) u303 (Or.inr (Or.inr (Or.inr (Or.inr (Or.inl rfl)))))) vc_X12_prefixOut_14
      have h384 : 20 ≤ f_t ∧ f_t ≤ 20 := (vc_X12_walk_6 h285 ht_f_t)
      refine mr_bipush (pc := 55) (z := (-3)) dX12_tie_55 (by decide) ?_
      exact mr_iret dX12_tie_57 rfl (le_t rfl) (le_t rfl) hT mF.refl ⟨(rW (c := (-2147483648)) (d := 2147483647) (rR (x := (-3))) rfl), hIJC, hIRP, hIEP, hIHP, hIUP, hITE, hIPK, hIEV, (Or.inr ⟨(by unfold tieB; exact (vc_X12_tie_v_28 h249.2.1 h249.2.2.1 h255 h260.2.1 h260.2.2.1 h266 h268 h272.2.1 h272.2.2.1 h276 h251 h262 h274 ht_f_dm h256 h267 h277 h254 h265 h275)), Or.inr ⟨((h281.2.2.1).not (by decide) (vc_X12_tie_v_29 h281.2.1 h283 h284)), Or.inl ⟨(vc_X12_tie_v_50 h285 h384), rfl⟩⟩⟩), (Or.inr ⟨vc_X12_tie_v_51, rfl⟩), trivial⟩
    have h385 : 0 ≤ z282 ∧ z282 ≤ 19 := (vc_X12_letWay_4 h283 h281.2.1 h281.1)
    refine mr_bipush (pc := 43) (z := (-2)) dX12_tie_43 (by decide) ?_
    exact mr_iret dX12_tie_45 rfl (le_t rfl) (le_t rfl) hT mF.refl ⟨(rW (c := (-2147483648)) (d := 2147483647) (rR (x := (-2))) rfl), hIJC, hIRP, hIEP, hIHP, hIUP, hITE, hIPK, hIEV, (Or.inr ⟨(by unfold tieB; exact (vc_X12_tie_v_28 h249.2.1 h249.2.2.1 h255 h260.2.1 h260.2.2.1 h266 h268 h272.2.1 h272.2.2.1 h276 h251 h262 h274 ht_f_dm h256 h267 h277 h254 h265 h275)), Or.inl ⟨(h281.2.2.1).has (vc_X12_look_u_6 h281.2.1 h283 h385), rfl⟩⟩), (Or.inr ⟨vc_X12_tie_v_54, rfl⟩), trivial⟩
  have h386 : 0 ≤ z273 ∧ z273 ≤ 0 := (vc_X12_units_9 h274 h272.2.1 h272.2.2.1 hp3 h272.1)
  have h387 : p3 < (0 : Int) ∨ (2 : Int) < p3 := (h272.2.2.1 (vc_X12_units_10 h272.2.1 h272.2.2.1 h274 hp3 h386))
  refine mr_iconst (pc := 30) (z := (-1)) dX12_tie_30 ?_
  exact mr_iret dX12_tie_31 rfl (le_t rfl) (le_t rfl) hT mF.refl ⟨(rW (c := (-2147483648)) (d := 2147483647) (rR (x := (-1))) rfl), hIJC, hIRP, hIEP, hIHP, hIUP, hITE, hIPK, hIEV, (Or.inl ⟨(by unfold tieB; exact (vc_X12_tie_v_57 h249.2.1 h249.2.2.1 h255 h260.2.1 h260.2.2.1 h266 h268 h272.2.1 h272.2.2.1 h387 h251 h262 h274 ht_f_dm h256 h267 hp3 h254 h265 h386)), rfl⟩), (Or.inr ⟨vc_X12_raise_u_49, rfl⟩), trivial⟩
theorem vc_X10_shortestRing_v_1 {f_dm n0 p1 : Int} (h0 : p1 < f_dm) (h1 : f_dm = n0) (h2 : 0 ≤ f_dm ∧ f_dm ≤ 10) (h3 : 0 ≤ p1 ∧ p1 ≤ 9) : 1 ≤ f_dm ∧ f_dm ≤ 10 := by omega
theorem vc_X10_shortestRing_v_3 {f_dm n0 p1 z1750 : Int} (h0 : f_dm ≤ z1750) (h1 : f_dm = n0) (h2 : p1 < f_dm) (h3 : 1 ≤ f_dm ∧ f_dm ≤ 10) (h4 : 0 ≤ p1 ∧ p1 ≤ 9) (h5 : 0 ≤ z1750 ∧ z1750 ≤ 10) : 1 ≤ z1750 ∧ z1750 ≤ 10 := by omega
theorem vc_X10_shortestRing_v_4 {z1751 : Int} (h0 : 11 ≤ z1751) (h1 : 1 ≤ z1751 ∧ z1751 ≤ 11) : 11 ≤ z1751 ∧ z1751 ≤ 11 := by omega
theorem vc_X10_shortestRing_v_5 {f_dm n0 p1 z1750 : Int} (h0 : f_dm = n0) (h1 : p1 < f_dm) (h2 : f_dm ≤ z1750) (h3 : 1 ≤ f_dm ∧ f_dm ≤ 10) (h4 : 0 ≤ p1 ∧ p1 ≤ 9) (h5 : 1 ≤ z1750 ∧ z1750 ≤ 10) : p1.toNat < f_dm.toNat := by omega
theorem vc_X10_shortestRing_v_6 {f_dm n0 p1 z1750 : Int} (h0 : f_dm = n0) (h1 : p1 < f_dm) (h2 : f_dm ≤ z1750) (h3 : 1 ≤ f_dm ∧ f_dm ≤ 10) (h4 : 0 ≤ p1 ∧ p1 ≤ 9) (h5 : 1 ≤ z1750 ∧ z1750 ≤ 10) : f_dm.toNat ≤ 10 := by omega
theorem vc_X10_shortestRing_v_7 {f_dm n0 p1 z1750 : Int} (h0 : f_dm = n0) (h1 : p1 < f_dm) (h2 : f_dm ≤ z1750) (h3 : 1 ≤ f_dm ∧ f_dm ≤ 10) (h4 : 0 ≤ p1 ∧ p1 ≤ 9) (h5 : 1 ≤ z1750 ∧ z1750 ≤ 10) : ((f_dm.toNat : Nat) : Int) ≤ z1750 := by omega
theorem vc_X10_shortestRing_v_8 {z1751 : Int} (h0 : 11 ≤ z1751) (h1 : 11 ≤ z1751 ∧ z1751 ≤ 11) : (z1751 < 11 ∧ (0 : Int) = z1751) ∨ (11 ≤ z1751 ∧ (0 : Int) = 0) := by omega
theorem vc_X10_shortestRing_v_9 {z1751 : Int} (h0 : z1751 < 11) (h1 : 1 ≤ z1751 ∧ z1751 ≤ 11) : 1 ≤ z1751 ∧ z1751 ≤ 10 := by omega
theorem vc_X10_shortestRing_v_10 {z1751 : Int} (h0 : z1751 < 11) (h1 : 1 ≤ z1751 ∧ z1751 ≤ 10) : (z1751 < 11 ∧ z1751 = z1751) ∨ (11 ≤ z1751 ∧ z1751 = 0) := by omega
theorem vc_X10_shortestRing_v_11 {f_dm n0 p1 z1750 : Int} (h0 : z1750 < f_dm) (h1 : f_dm = n0) (h2 : p1 < f_dm) (h3 : 1 ≤ f_dm ∧ f_dm ≤ 10) (h4 : 0 ≤ p1 ∧ p1 ≤ 9) (h5 : 0 ≤ z1750 ∧ z1750 ≤ 10) : 0 ≤ z1750 ∧ z1750 ≤ 9 := by omega
theorem vc_X10_shortestRing_v_13 {N f_dm n0 p1 z1750 : Int} (h0 : (11 - z1750) < N + 1) (h1 : z1750 < f_dm) (h2 : f_dm = n0) (h3 : p1 < f_dm) (h4 : 1 ≤ f_dm ∧ f_dm ≤ 10) (h5 : 0 ≤ p1 ∧ p1 ≤ 9) (h6 : 0 ≤ z1750 ∧ z1750 ≤ 9) : (11 - (z1750 + 1)) < N := by omega
theorem vc_X10_shortestRing_v_15 {f_dm n0 p1 z1750 : Int} (h0 : z1750 < f_dm) (h1 : f_dm = n0) (h2 : p1 < f_dm) (h3 : 1 ≤ f_dm ∧ f_dm ≤ 10) (h4 : 0 ≤ p1 ∧ p1 ≤ 9) (h5 : 0 ≤ z1750 ∧ z1750 ≤ 9) : 0 ≤ z1750 := by omega
theorem vc_X10_shortestRing_v_21 {z2298 z2306 z2309 : Int} (h0 : ((z2309 = z2306 ∨ z2309 = (z2298 + 1)) ∧ z2309 ≤ z2306 ∧ z2309 ≤ (z2298 + 1))) (h1 : 0 ≤ z2298 ∧ z2298 ≤ 11) (h2 : 0 ≤ z2306 ∧ z2306 ≤ 11) : 0 ≤ z2309 ∧ z2309 ≤ 11 := by omega
theorem vc_X10_shortestRing_v_24 {z2298 z2306 z2309 : Int} (h0 : ((z2309 = z2306 ∨ z2309 = (z2298 + 1)) ∧ z2309 ≤ z2306 ∧ z2309 ≤ (z2298 + 1))) (h1 : 0 ≤ z2298 ∧ z2298 ≤ 11) (h2 : 0 ≤ z2306 ∧ z2306 ≤ 11) (h3 : 0 ≤ z2309 ∧ z2309 ≤ 11) : (z2298 + 1) = z2298 + 1 := by omega
theorem vc_X10_shortestRing_v_25 {f_dm n0 p1 z1750 z2294 z2301 : Int} (h0 : p1 < f_dm) (h1 : z2301 < n0) (h2 : ¬ z2301 = p1) (h3 : f_dm = n0) (h4 : z1750 < f_dm) (h5 : z2294 < n0) (h6 : 1 ≤ f_dm ∧ f_dm ≤ 10) (h7 : 0 ≤ p1 ∧ p1 ≤ 9) (h8 : 0 ≤ z1750 ∧ z1750 ≤ 9) (h9 : 0 ≤ z2294 ∧ z2294 ≤ 9) (h10 : 0 ≤ z2301 ∧ z2301 ≤ 9) : ¬ (z2301).toNat = p1.toNat := by omega
theorem vc_X10_shortestRing_v_26 {z2298 z2306 z2309 : Int} (h0 : ((z2309 = z2306 ∨ z2309 = (z2298 + 1)) ∧ z2309 ≤ z2306 ∧ z2309 ≤ (z2298 + 1))) (h1 : 0 ≤ z2298 ∧ z2298 ≤ 11) (h2 : 0 ≤ z2306 ∧ z2306 ≤ 11) (h3 : 0 ≤ z2309 ∧ z2309 ≤ 11) : z2306 ≤ 11 := by omega
theorem vc_X10_shortestRing_v_27 {f_dm n0 z2294 z2301 : Int} (h0 : z2294 < n0) (h1 : f_dm = n0) (h2 : z2301 < n0) (h3 : 1 ≤ f_dm ∧ f_dm ≤ 10) (h4 : 0 ≤ z2294 ∧ z2294 ≤ 9) (h5 : 0 ≤ z2301 ∧ z2301 ≤ 9) : 0 ≤ z2294 ∧ z2294 ≤ 9 := by omega
theorem vc_X10_shortestRing_v_28 {f_dm n0 p1 z2294 z2301 : Int} (h0 : z2301 < n0) (h1 : ¬ z2301 = p1) (h2 : f_dm = n0) (h3 : p1 < f_dm) (h4 : z2294 < n0) (h5 : 1 ≤ f_dm ∧ f_dm ≤ 10) (h6 : 0 ≤ p1 ∧ p1 ≤ 9) (h7 : 0 ≤ z2294 ∧ z2294 ≤ 9) (h8 : 0 ≤ z2301 ∧ z2301 ≤ 9) : 0 ≤ z2301 ∧ z2301 ≤ 9 := by omega
theorem vc_X10_shortestRing_v_29 {z2298 z2306 z2309 : Int} (h0 : ((z2309 = z2306 ∨ z2309 = (z2298 + 1)) ∧ z2309 ≤ z2306 ∧ z2309 ≤ (z2298 + 1))) (h1 : 0 ≤ z2298 ∧ z2298 ≤ 11) (h2 : 0 ≤ z2306 ∧ z2306 ≤ 11) (h3 : 0 ≤ z2309 ∧ z2309 ≤ 11) : (z2306 ≤ (z2298 + 1) ∧ z2309 = z2306) ∨ ((z2298 + 1) ≤ z2306 ∧ z2309 = (z2298 + 1)) := by omega
theorem vc_X10_shortestRing_v_30 {z2239 z2298 z2315 : Int} (h0 : ((z2315 = z2239 ∨ z2315 = (z2298 + 1)) ∧ z2315 ≤ z2239 ∧ z2315 ≤ (z2298 + 1))) (h1 : 1 ≤ z2239 ∧ z2239 ≤ 11) (h2 : 0 ≤ z2298 ∧ z2298 ≤ 11) : 1 ≤ z2315 ∧ z2315 ≤ 11 := by omega
theorem vc_X10_shortestRing_v_31 {z2239 z2298 z2315 : Int} (h0 : ((z2315 = z2239 ∨ z2315 = (z2298 + 1)) ∧ z2315 ≤ z2239 ∧ z2315 ≤ (z2298 + 1))) (h1 : 1 ≤ z2239 ∧ z2239 ≤ 11) (h2 : 0 ≤ z2298 ∧ z2298 ≤ 11) (h3 : 1 ≤ z2315 ∧ z2315 ≤ 11) : (z2298 + 1) = z2298 + 1 := by omega
theorem vc_X10_shortestRing_v_32 {f_dm n0 p1 z1750 z2294 z2301 : Int} (h0 : p1 < f_dm) (h1 : z2301 < n0) (h2 : z2301 = p1) (h3 : f_dm = n0) (h4 : z1750 < f_dm) (h5 : z2294 < n0) (h6 : 1 ≤ f_dm ∧ f_dm ≤ 10) (h7 : 0 ≤ p1 ∧ p1 ≤ 9) (h8 : 0 ≤ z1750 ∧ z1750 ≤ 9) (h9 : 0 ≤ z2294 ∧ z2294 ≤ 9) (h10 : 0 ≤ z2301 ∧ z2301 ≤ 9) : z2301 = p1 := by omega
theorem vc_X10_shortestRing_v_33 {z2239 z2298 z2315 : Int} (h0 : ((z2315 = z2239 ∨ z2315 = (z2298 + 1)) ∧ z2315 ≤ z2239 ∧ z2315 ≤ (z2298 + 1))) (h1 : 1 ≤ z2239 ∧ z2239 ≤ 11) (h2 : 0 ≤ z2298 ∧ z2298 ≤ 11) (h3 : 1 ≤ z2315 ∧ z2315 ≤ 11) : (z2239 ≤ (z2298 + 1) ∧ z2315 = z2239) ∨ ((z2298 + 1) ≤ z2239 ∧ z2315 = (z2298 + 1)) := by omega
theorem vc_X10_shortestRing_v_34 {z2239 z2298 z2315 : Int} (h0 : ((z2315 = z2239 ∨ z2315 = (z2298 + 1)) ∧ z2315 ≤ z2239 ∧ z2315 ≤ (z2298 + 1))) (h1 : 1 ≤ z2239 ∧ z2239 ≤ 11) (h2 : 0 ≤ z2298 ∧ z2298 ≤ 11) (h3 : 1 ≤ z2315 ∧ z2315 ≤ 11) : z2239 ≤ 11 := by omega
set_option maxRecDepth 4000 in
set_option maxHeartbeats 4000000 in
theorem c_X10_shortestRing_v {l : Launch} {D : va_G} {c : Nat → ClassId} {H0 : Heap} {sa : Nat × Nat × (Nat → Int32)} {w : mW} {μ : mM} (hw : mWF w) (hT : mT w μ) {p1 : Int} (hp1 : 0 ≤ p1 ∧ p1 ≤ 9) {f_n : Int} (q_f_n : μ 6 16 = f_n) {f_dm : Int} (q_f_dm : μ 6 15 = f_dm) (hq0 : p1 < f_dm) : sC (gG l D c H0 sa) mX10_shortestRing 3 0 0 [.ref 6, iv p1] (mk w μ) (qI w [13999] μ (fun z μ1 => (0 ≤ z ∧ z ≤ 10) ∧ (shZ (edgC μ f_n) p1.toNat z) ∧ (sbT (edgC μ f_n) p1.toNat (μ1 13)) ∧ True)) := by
  refine sC.of rfl (by decide) (le_t rfl) ?_
  have ht_f_n : (f_n = w.2.2.2 1 ∧ 0 ≤ f_n ∧ f_n ≤ 20) := by rw [← q_f_n]; exact hT 6 6 (A_6 hw) 16
  have ht_f_dm : (f_dm = w.2.2.2 0 ∧ 0 ≤ f_dm ∧ f_dm ≤ 10) := by rw [← q_f_dm]; exact hT 6 6 (A_6 hw) 15
  have h1 : 1 ≤ f_dm ∧ f_dm ≤ 10 := (vc_X10_shortestRing_v_1 hq0 ht_f_dm.1 ht_f_dm.2 hp1)
  refine mr_lvE (lv' := [(0, .ref 6), (1, iv p1)]) rfl ?_
  refine mr_bipush (pc := 0) (z := 11) dX10_shortestRing_0 (by decide) ?_
  refine mr_istore_n (pc := 2) (lv' := [(2, iv 11), (0, .ref 6), (1, iv p1)]) dX10_shortestRing_2 rfl (by decide) rfl ?_
  refine sv_aload_n (pc := 3) dX10_shortestRing_3 rfl rfl ?_
  refine gf_X10_6 (pc := 4) dX10_shortestRing_4 wF_X10_36 (A_6 hw) hT ?_
  refine mr_iload_n (pc := 7) (z := 11) dX10_shortestRing_7 rfl rfl ?_
  refine mr_fillI (pc := 8) dX10_shortestRing_8 wM_X10_94 (A_13 hw) rfl ((A_13 hw).2.2.2 rfl) (lt_t rfl) hT (fun _ => (rW (c := 0) (d := 11) (rR (x := 11)) rfl)) ⟨le_t rfl, le_t rfl⟩ ⟨le_t rfl, le_t rfl⟩ (le_t rfl) fun μ1194 q1195 T1196 => ?_
  have F1197 : mF [13999] w μ μ1194 := mF.cell q1195.1 (A_13 hw) rfl
  refine sv_aload_n (pc := 11) dX10_shortestRing_11 rfl rfl ?_
  refine gf_X10_6 (pc := 12) dX10_shortestRing_12 wF_X10_36 (A_6 hw) T1196 ?_
  refine mr_iload_n (pc := 15) (z := p1) dX10_shortestRing_15 rfl rfl ?_
  refine mr_iconst (pc := 16) (z := 0) dX10_shortestRing_16 ?_
  refine ss_13 (pc := 17) dX10_shortestRing_17 (A_13 hw) T1196 (rIx (n := 10) hp1 rfl) (rW (c := 0) (d := 11) (rR (x := 0)) rfl) fun μ1198 u1199 T1200 => ?_
  refine mr_iload_n (pc := 18) (z := 11) dX10_shortestRing_18 rfl rfl ?_
  refine mr_istore_n (pc := 19) (lv' := [(3, iv 11), (2, iv 11), (0, .ref 6), (1, iv p1)]) dX10_shortestRing_19 rfl (by decide) rfl ?_
  refine mr_iconst (pc := 20) (z := 0) dX10_shortestRing_20 ?_
  refine mr_istore (pc := 21) (lv' := [(4, iv 0), (3, iv 11), (2, iv 11), (0, .ref 6), (1, iv p1)]) dX10_shortestRing_21 (by decide) rfl ?_
  have L1753 : ∀ (nL1753 : Nat) (z1751 z1750 : Int) (μ1752 : mM), mT w μ1752 → mF [13999] w μ1198 μ1752 → (1 ≤ z1751 ∧ z1751 ≤ 11) → (0 ≤ z1750 ∧ z1750 ≤ 10) → (sbS (edgC μ f_n) p1.toNat (μ1752 13) z1751 ∧ sbC (edgC μ f_n) p1.toNat (μ1752 13) z1751 z1750) → (11 - z1750) < (nL1753 : Int) → sV (gG l D c H0 sa) mX10_shortestRing (sRm 3 0 0) (sZ (gG l D c H0 sa) 0 0 (qI w [13999] μ (fun z μ1 => (0 ≤ z ∧ z ≤ 10) ∧ (shZ (edgC μ f_n) p1.toNat z) ∧ (sbT (edgC μ f_n) p1.toNat (μ1 13)) ∧ True))) 23 [(0, .ref 6), (1, iv p1), (2, iv 11), (3, iv z1751), (4, iv z1750)] [] (mk w μ1752) 0 0 := by
    intro nL1753
    induction nL1753 with
    | zero => intro z1751 z1750 μ1752 T1756 F1757 h1754 h1755 R1759 h1760; exact ((vc_X12_sends_1 h1760 h1755)).elim
    | succ nL1753 ih1761 =>
      intro z1751 z1750 μ1752 T1756 F1757 h1754 h1755 R1759 h1760
      refine mr_iload (pc := 23) (z := z1750) dX10_shortestRing_23 rfl ?_
      refine sv_aload_n (pc := 25) dX10_shortestRing_25 rfl rfl ?_
      refine gk_X10_15 (pc := 26) dX10_shortestRing_26 wF_X10_68 (A_6 hw) (F1757.f (A_6 hw) rfl (u1199.f (Or.inl (mAt.ne (A_13 hw) (A_6 hw) rfl)) (F1197.f (A_6 hw) rfl q_f_dm))) ?_
      refine mr_icmp_ge (pc := 29) (tgt := 150) dX10_shortestRing_29 (by decide) (r32 h1755 rfl) (r32 h1 rfl) (fun h1836 => ?_) (fun h1836 => ?_)
      · have h1837 : 1 ≤ z1750 ∧ z1750 ≤ 10 := (vc_X10_shortestRing_v_3 h1836 ht_f_dm.1 hq0 h1 hp1 h1755)
        refine mr_iload_n (pc := 150) (z := z1751) dX10_shortestRing_150 rfl rfl ?_
        refine mr_iload_n (pc := 151) (z := 11) dX10_shortestRing_151 rfl rfl ?_
        refine mr_icmp_ge (pc := 152) (tgt := 159) dX10_shortestRing_152 (by decide) (r32 h1754 rfl) (r32 (rR (x := 11)) rfl) (fun h1838 => ?_) (fun h1838 => ?_)
        · have h1839 : 11 ≤ z1751 ∧ z1751 ≤ 11 := (vc_X10_shortestRing_v_4 h1838 h1754)
          refine mr_iconst (pc := 159) (z := 0) dX10_shortestRing_159 ?_
          exact mr_iret dX10_shortestRing_160 rfl (le_t rfl) (le_t rfl) T1756 (mF.call (mF.up (mF.call mF.refl F1197 rfl) (A_13 hw) u1199 rfl) F1757 rfl) ⟨(rW (c := 0) (d := 10) (rR (x := 0)) rfl), (sbS.ans (R1759).1 (R1759).2 (vc_X10_shortestRing_v_5 ht_f_dm.1 hq0 h1836 h1 hp1 h1837) (fun a b e => (edC.lt hw hT q_f_n q_f_dm a b e).1) (vc_X10_shortestRing_v_6 ht_f_dm.1 hq0 h1836 h1 hp1 h1837) (vc_X10_shortestRing_v_7 ht_f_dm.1 hq0 h1836 h1 hp1 h1837) (vc_X10_shortestRing_v_8 h1838 h1839)), (sbS.tab (R1759).1 (R1759).2 (vc_X10_shortestRing_v_5 ht_f_dm.1 hq0 h1836 h1 hp1 h1837) (fun a b e => (edC.lt hw hT q_f_n q_f_dm a b e).1) (vc_X10_shortestRing_v_6 ht_f_dm.1 hq0 h1836 h1 hp1 h1837) (vc_X10_shortestRing_v_7 ht_f_dm.1 hq0 h1836 h1 hp1 h1837)), trivial⟩
        have h1840 : 1 ≤ z1751 ∧ z1751 ≤ 10 := (vc_X10_shortestRing_v_9 h1838 h1754)
        refine mr_iload_n (pc := 155) (z := z1751) dX10_shortestRing_155 rfl rfl ?_
        refine sv_goto (pc := 156) (tgt := 160) dX10_shortestRing_156 (by decide) ?_
        exact mr_iret dX10_shortestRing_160 rfl (le_t rfl) (le_t rfl) T1756 (mF.call (mF.up (mF.call mF.refl F1197 rfl) (A_13 hw) u1199 rfl) F1757 rfl) ⟨(rW (c := 0) (d := 10) h1840 rfl), (sbS.ans (R1759).1 (R1759).2 (vc_X10_shortestRing_v_5 ht_f_dm.1 hq0 h1836 h1 hp1 h1837) (fun a b e => (edC.lt hw hT q_f_n q_f_dm a b e).1) (vc_X10_shortestRing_v_6 ht_f_dm.1 hq0 h1836 h1 hp1 h1837) (vc_X10_shortestRing_v_7 ht_f_dm.1 hq0 h1836 h1 hp1 h1837) (vc_X10_shortestRing_v_10 h1838 h1840)), (sbS.tab (R1759).1 (R1759).2 (vc_X10_shortestRing_v_5 ht_f_dm.1 hq0 h1836 h1 hp1 h1837) (fun a b e => (edC.lt hw hT q_f_n q_f_dm a b e).1) (vc_X10_shortestRing_v_6 ht_f_dm.1 hq0 h1836 h1 hp1 h1837) (vc_X10_shortestRing_v_7 ht_f_dm.1 hq0 h1836 h1 hp1 h1837)), trivial⟩
      have h1841 : 0 ≤ z1750 ∧ z1750 ≤ 9 := (vc_X10_shortestRing_v_11 h1836 ht_f_dm.1 hq0 h1 hp1 h1755)
      refine mr_iconst (pc := 32) (z := 0) dX10_shortestRing_32 ?_
      refine mr_istore (pc := 33) (lv' := [(5, iv 0), (0, .ref 6), (1, iv p1), (2, iv 11), (3, iv z1751), (4, iv z1750)]) dX10_shortestRing_33 (by decide) rfl ?_
      have L2241 : ∀ (nL2241 : Nat) (z2239 z2238 : Int) (μ2240 : mM), mT w μ2240 → mF [13999] w μ1752 μ2240 → (1 ≤ z2239 ∧ z2239 ≤ 11) → (0 ≤ z2238 ∧ z2238 ≤ 20) → sbD (tc μ 0) (tc μ 1) (tc μ 2) (edgC μ f_n) p1.toNat (μ2240 13) z2239 z1750 z2238 → (21 - z2238) < (nL2241 : Int) → sV (gG l D c H0 sa) mX10_shortestRing (sRm 3 0 0) (sZ (gG l D c H0 sa) 0 0 (qI w [13999] μ (fun z μ1 => (0 ≤ z ∧ z ≤ 10) ∧ (shZ (edgC μ f_n) p1.toNat z) ∧ (sbT (edgC μ f_n) p1.toNat (μ1 13)) ∧ True))) 35 [(0, .ref 6), (1, iv p1), (2, iv 11), (3, iv z2239), (4, iv z1750), (5, iv z2238)] [] (mk w μ2240) 0 0 := by
        intro nL2241
        induction nL2241 with
        | zero => intro z2239 z2238 μ2240 T2244 F2245 h2242 h2243 R2247 h2248; exact ((vc_X12_feed_2 h2248 h2243)).elim
        | succ nL2241 ih2249 =>
          intro z2239 z2238 μ2240 T2244 F2245 h2242 h2243 R2247 h2248
          refine mr_iload (pc := 35) (z := z2238) dX10_shortestRing_35 rfl ?_
          refine sv_aload_n (pc := 37) dX10_shortestRing_37 rfl rfl ?_
          refine gk_X10_16 (pc := 38) dX10_shortestRing_38 wF_X10_72 (A_6 hw) (F2245.f (A_6 hw) rfl (F1757.f (A_6 hw) rfl (u1199.f (Or.inl (mAt.ne (A_13 hw) (A_6 hw) rfl)) (F1197.f (A_6 hw) rfl q_f_n)))) ?_
          refine mr_icmp_ge (pc := 41) (tgt := 144) dX10_shortestRing_41 (by decide) (r32 h2243 rfl) (r32 ht_f_n.2 rfl) (fun h2283 => ?_) (fun h2283 => ?_)
          · refine mr_iinc (pc := 144) (lv' := [(4, iv (z1750 + 1)), (0, .ref 6), (1, iv p1), (2, iv 11), (3, iv z2239), (5, iv z2238)]) dX10_shortestRing_144 rfl (by decide) rfl ?_
            refine sv_goto (pc := 147) (tgt := 23) dX10_shortestRing_147 (by decide) ?_
            refine mr_lvS (lv' := [(0, .ref 6), (1, iv p1), (2, iv 11), (3, iv z2239), (4, iv (z1750 + 1))]) (List.forall_mem_cons.mpr ⟨rfl, List.forall_mem_cons.mpr ⟨rfl, List.forall_mem_cons.mpr ⟨rfl, List.forall_mem_cons.mpr ⟨rfl, List.forall_mem_cons.mpr ⟨rfl, fun _ h => absurd h List.not_mem_nil⟩⟩⟩⟩⟩) ?_
            exact ih1761 z2239 (z1750 + 1) μ2240 T2244 (mF.call (mF.call mF.refl F1757 rfl) F2245 rfl) h2242 (rW (c := 0) (d := 10) (rAdd (e := 1) (f := 10) h1841 (rR (x := 1)) rfl) rfl) ⟨(R2247).1, sbD.next R2247 (vc_X10_tieBetween_v_3 ht_f_n.1 h2283 ht_f_n.2 h2243) (vc_X10_shortestRing_v_15 h1836 ht_f_dm.1 hq0 h1 hp1 h1841)⟩ (vc_X10_shortestRing_v_13 (nS h1760) h1836 ht_f_dm.1 hq0 h1 hp1 h1841)
          have h2284 : 0 ≤ z2238 ∧ z2238 ≤ 19 := (vc_X10_tieBetween_v_4 h2283 ht_f_n.1 ht_f_n.2 h2243)
          have h2285 : 1 ≤ f_n ∧ f_n ≤ 20 := (vc_X10_tieBetween_v_5 h2283 ht_f_n.1 ht_f_n.2 h2284)
          refine sv_aload_n (pc := 44) dX10_shortestRing_44 rfl rfl ?_
          refine gf_X10_4 (pc := 45) dX10_shortestRing_45 wF_X10_29 (A_6 hw) T2244 ?_
          refine mr_iload (pc := 48) (z := z2238) dX10_shortestRing_48 rfl ?_
          refine la_11 (pc := 50) dX10_shortestRing_50 (A_11 hw) T2244 (rIx (n := 20) h2284 rfl) (vc_X10_tieBetween_v_6 ht_f_n.1 h2283 h2285 h2284) fun b2286 q2287 A2288 => ?_
          refine gf_X9_2 (pc := 51) dX10_shortestRing_51 wF_X10_84 A2288 T2244 fun z2289 q2290 h2291 => ?_
          refine mr_if_eq (pc := 54) (tgt := 60) dX10_shortestRing_54 (by decide) (r32 h2291 rfl) (fun h2292 => ?_) (fun h2292 => ?_)
          · have h2293 : 0 ≤ z2289 ∧ z2289 ≤ 0 := (vc_X10_coneOf_13 h2292 h2291)
            refine sv_aload_n (pc := 60) dX10_shortestRing_60 rfl rfl ?_
            refine gf_X10_6 (pc := 61) dX10_shortestRing_61 wF_X10_36 (A_6 hw) T2244 ?_
            refine sv_aload_n (pc := 64) dX10_shortestRing_64 rfl rfl ?_
            refine gf_X10_4 (pc := 65) dX10_shortestRing_65 wF_X10_29 (A_6 hw) T2244 ?_
            refine mr_iload (pc := 68) (z := z2238) dX10_shortestRing_68 rfl ?_
            refine lk_11 (pc := 70) dX10_shortestRing_70 (A_11 hw) (rIx (n := 20) h2284 rfl) q2287 ?_
            refine gf_X9_1 (pc := 71) dX10_shortestRing_71 wF_X10_81 A2288 T2244 fun z2294 q2295 h2296 => ?_
            have h2297 : 0 ≤ z2294 ∧ z2294 ≤ 9 := ⟨h2296.1, h2296.2.1⟩
            refine la_13 (pc := 74) dX10_shortestRing_74 (A_13 hw) T2244 (rIx (n := 10) h2297 rfl) fun z2298 q2299 h2300 => ?_
            refine mr_iconst (pc := 75) (z := 1) dX10_shortestRing_75 ?_
            refine mr_iadd (pc := 76) (x := z2298) (y := 1) dX10_shortestRing_76 ?_
            refine mr_istore (pc := 77) (lv' := [(6, iv (z2298 + 1)), (0, .ref 6), (1, iv p1), (2, iv 11), (3, iv z2239), (4, iv z1750), (5, iv z2238)]) dX10_shortestRing_77 (by decide) rfl ?_
            refine sv_aload_n (pc := 79) dX10_shortestRing_79 rfl rfl ?_
            refine gf_X10_4 (pc := 80) dX10_shortestRing_80 wF_X10_29 (A_6 hw) T2244 ?_
            refine mr_iload (pc := 83) (z := z2238) dX10_shortestRing_83 rfl ?_
            refine lk_11 (pc := 85) dX10_shortestRing_85 (A_11 hw) (rIx (n := 20) h2284 rfl) q2287 ?_
            refine gf_X9_0 (pc := 86) dX10_shortestRing_86 wF_X10_78 A2288 T2244 fun z2301 q2302 h2303 => ?_
            have h2304 : 0 ≤ z2301 ∧ z2301 ≤ 9 := ⟨h2303.1, h2303.2.1⟩
            refine mr_iload_n (pc := 89) (z := p1) dX10_shortestRing_89 rfl rfl ?_
            refine mr_icmp_ne (pc := 90) (tgt := 103) dX10_shortestRing_90 (by decide) (r32 h2304 rfl) (r32 hp1 rfl) (fun h2305 => ?_) (fun h2305 => ?_)
            · refine sv_aload_n (pc := 103) dX10_shortestRing_103 rfl rfl ?_
              refine gf_X10_6 (pc := 104) dX10_shortestRing_104 wF_X10_36 (A_6 hw) T2244 ?_
              refine sv_aload_n (pc := 107) dX10_shortestRing_107 rfl rfl ?_
              refine gf_X10_4 (pc := 108) dX10_shortestRing_108 wF_X10_29 (A_6 hw) T2244 ?_
              refine mr_iload (pc := 111) (z := z2238) dX10_shortestRing_111 rfl ?_
              refine lk_11 (pc := 113) dX10_shortestRing_113 (A_11 hw) (rIx (n := 20) h2284 rfl) q2287 ?_
              refine gk_X9_0 (pc := 114) dX10_shortestRing_114 wF_X10_78 A2288 q2302 ?_
              refine sv_aload_n (pc := 117) dX10_shortestRing_117 rfl rfl ?_
              refine gf_X10_6 (pc := 118) dX10_shortestRing_118 wF_X10_36 (A_6 hw) T2244 ?_
              refine sv_aload_n (pc := 121) dX10_shortestRing_121 rfl rfl ?_
              refine gf_X10_4 (pc := 122) dX10_shortestRing_122 wF_X10_29 (A_6 hw) T2244 ?_
              refine mr_iload (pc := 125) (z := z2238) dX10_shortestRing_125 rfl ?_
              refine lk_11 (pc := 127) dX10_shortestRing_127 (A_11 hw) (rIx (n := 20) h2284 rfl) q2287 ?_
              refine gk_X9_0 (pc := 128) dX10_shortestRing_128 wF_X10_78 A2288 q2302 ?_
              refine la_13 (pc := 131) dX10_shortestRing_131 (A_13 hw) T2244 (rIx (n := 10) h2304 rfl) fun z2306 q2307 h2308 => ?_
              refine mr_iload (pc := 132) (z := (z2298 + 1)) dX10_shortestRing_132 rfl ?_
              refine mr_min (pc := 134) dX10_shortestRing_134 wM_X10_100 wS_J_min wI_J_math wK_J_min ⟨le_t rfl, le_t rfl⟩ ⟨le_t rfl, le_t rfl⟩ (le_t rfl) (r32 h2308 rfl) (r32 (rAdd (e := 1) (f := 12) h2300 (rR (x := 1)) rfl) rfl) fun z2309 h2310 => ?_
              have h2311 : 0 ≤ z2309 ∧ z2309 ≤ 11 := (vc_X10_shortestRing_v_21 h2310 h2300 h2308)
              refine ss_13 (pc := 137) dX10_shortestRing_137 (A_13 hw) T2244 (rIx (n := 10) h2304 rfl) h2311 fun μ2312 u2313 T2314 => ?_
              refine mr_iinc (pc := 138) (lv' := [(5, iv (z2238 + 1)), (6, iv (z2298 + 1)), (0, .ref 6), (1, iv p1), (2, iv 11), (3, iv z2239), (4, iv z1750)]) dX10_shortestRing_138 rfl (by decide) rfl ?_
              refine sv_goto (pc := 141) (tgt := 35) dX10_shortestRing_141 (by decide) ?_
              refine mr_lvS (lv' := [(0, .ref 6), (1, iv p1), (2, iv 11), (3, iv z2239), (4, iv z1750), (5, iv (z2238 + 1))]) (List.forall_mem_cons.mpr ⟨rfl, List.forall_mem_cons.mpr ⟨rfl, List.forall_mem_cons.mpr ⟨rfl, List.forall_mem_cons.mpr ⟨rfl, List.forall_mem_cons.mpr ⟨rfl, List.forall_mem_cons.mpr ⟨rfl, fun _ h => absurd h List.not_mem_nil⟩⟩⟩⟩⟩⟩) ?_
              exact ih2249 z2239 (z2238 + 1) μ2312 T2314 (mF.up (mF.call mF.refl F2245 rfl) (A_13 hw) u2313 rfl) h2242 (rW (c := 0) (d := 20) (rAdd (e := 1) (f := 20) h2284 (rR (x := 1)) rfl) rfl) (sbD.put R2247 (vc_X10_tieBetween_v_13 ht_f_n.1 h2283 h2285 h2284) ((tcB hw hT q_f_n ((mF.call (mF.call (mF.up (mF.call mF.refl F1197 rfl) (A_13 hw) u1199 rfl) F1757 rfl) F2245 rfl) : mF [13999] w μ μ2240) rfl (vc_X10_tieBetween_v_13 ht_f_n.1 h2283 h2285 h2284)).2.2.symm.trans (tcOf q2287 q2290)) (vc_X12_goes_7 h2292 h2293) ((tcB hw hT q_f_n ((mF.call (mF.call (mF.up (mF.call mF.refl F1197 rfl) (A_13 hw) u1199 rfl) F1757 rfl) F2245 rfl) : mF [13999] w μ μ2240) rfl (vc_X10_tieBetween_v_13 ht_f_n.1 h2283 h2285 h2284)).1.symm.trans (tcOf q2287 q2302)) ((tcB hw hT q_f_n ((mF.call (mF.call (mF.up (mF.call mF.refl F1197 rfl) (A_13 hw) u1199 rfl) F1757 rfl) F2245 rfl) : mF [13999] w μ μ2240) rfl (vc_X10_tieBetween_v_13 ht_f_n.1 h2283 h2285 h2284)).2.1.symm.trans (tcOf q2287 q2295)) (vc_X10_shortestRing_v_25 hq0 h2303.2.2 h2305 ht_f_dm.1 h1836 h2296.2.2 h1 hp1 h1841 h2297 h2304) q2299 q2307 (vc_X10_shortestRing_v_24 h2310 h2300 h2308 h2311) (vc_X10_shortestRing_v_26 h2310 h2300 h2308 h2311) (vc_X10_shortestRing_v_27 h2296.2.2 ht_f_dm.1 h2303.2.2 h1 h2297 h2304) (vc_X10_shortestRing_v_28 h2303.2.2 h2305 ht_f_dm.1 hq0 h2296.2.2 h1 hp1 h2297 h2304) (vc_X10_shortestRing_v_29 h2310 h2300 h2308 h2311) u2313.1 (fun i hi => u2313.2 13 i (Or.inr hi))) (vc_X10_tieBetween_v_7 (nS h2248) h2283 ht_f_n.1 h2285 h2284)
            refine mr_iload_n (pc := 93) (z := z2239) dX10_shortestRing_93 rfl rfl ?_
            refine mr_iload (pc := 94) (z := (z2298 + 1)) dX10_shortestRing_94 rfl ?_
            refine mr_min (pc := 96) dX10_shortestRing_96 wM_X10_100 wS_J_min wI_J_math wK_J_min ⟨le_t rfl, le_t rfl⟩ ⟨le_t rfl, le_t rfl⟩ (le_t rfl) (r32 h2242 rfl) (r32 (rAdd (e := 1) (f := 12) h2300 (rR (x := 1)) rfl) rfl) fun z2315 h2316 => ?_
            have h2317 : 1 ≤ z2315 ∧ z2315 ≤ 11 := (vc_X10_shortestRing_v_30 h2316 h2242 h2300)
            refine mr_istore_n (pc := 99) (lv' := [(3, iv z2315), (6, iv (z2298 + 1)), (0, .ref 6), (1, iv p1), (2, iv 11), (4, iv z1750), (5, iv z2238)]) dX10_shortestRing_99 rfl (by decide) rfl ?_
            refine sv_goto (pc := 100) (tgt := 138) dX10_shortestRing_100 (by decide) ?_
            refine mr_iinc (pc := 138) (lv' := [(5, iv (z2238 + 1)), (3, iv z2315), (6, iv (z2298 + 1)), (0, .ref 6), (1, iv p1), (2, iv 11), (4, iv z1750)]) dX10_shortestRing_138 rfl (by decide) rfl ?_
            refine sv_goto (pc := 141) (tgt := 35) dX10_shortestRing_141 (by decide) ?_
            refine mr_lvS (lv' := [(0, .ref 6), (1, iv p1), (2, iv 11), (3, iv z2315), (4, iv z1750), (5, iv (z2238 + 1))]) (List.forall_mem_cons.mpr ⟨rfl, List.forall_mem_cons.mpr ⟨rfl, List.forall_mem_cons.mpr ⟨rfl, List.forall_mem_cons.mpr ⟨rfl, List.forall_mem_cons.mpr ⟨rfl, List.forall_mem_cons.mpr ⟨rfl, fun _ h => absurd h List.not_mem_nil⟩⟩⟩⟩⟩⟩) ?_
            exact ih2249 z2315 (z2238 + 1) μ2240 T2244 (mF.call mF.refl F2245 rfl) h2317 (rW (c := 0) (d := 20) (rAdd (e := 1) (f := 20) h2284 (rR (x := 1)) rfl) rfl) (sbD.ring R2247 (vc_X10_tieBetween_v_13 ht_f_n.1 h2283 h2285 h2284) ((tcB hw hT q_f_n ((mF.call (mF.call (mF.up (mF.call mF.refl F1197 rfl) (A_13 hw) u1199 rfl) F1757 rfl) F2245 rfl) : mF [13999] w μ μ2240) rfl (vc_X10_tieBetween_v_13 ht_f_n.1 h2283 h2285 h2284)).2.2.symm.trans (tcOf q2287 q2290)) (vc_X12_goes_7 h2292 h2293) ((tcB hw hT q_f_n ((mF.call (mF.call (mF.up (mF.call mF.refl F1197 rfl) (A_13 hw) u1199 rfl) F1757 rfl) F2245 rfl) : mF [13999] w μ μ2240) rfl (vc_X10_tieBetween_v_13 ht_f_n.1 h2283 h2285 h2284)).1.symm.trans (tcOf q2287 q2302)) ((tcB hw hT q_f_n ((mF.call (mF.call (mF.up (mF.call mF.refl F1197 rfl) (A_13 hw) u1199 rfl) F1757 rfl) F2245 rfl) : mF [13999] w μ μ2240) rfl (vc_X10_tieBetween_v_13 ht_f_n.1 h2283 h2285 h2284)).2.1.symm.trans (tcOf q2287 q2295)) (congrArg Int.toNat (vc_X10_shortestRing_v_32 hq0 h2303.2.2 h2305 ht_f_dm.1 h1836 h2296.2.2 h1 hp1 h1841 h2297 h2304)) q2299 (vc_X10_shortestRing_v_31 h2316 h2242 h2300 h2317) (vc_X10_shortestRing_v_33 h2316 h2242 h2300 h2317) (vc_X10_shortestRing_v_34 h2316 h2242 h2300 h2317) (vc_X10_shortestRing_v_27 h2296.2.2 ht_f_dm.1 h2303.2.2 h1 h2297 h2304)) (vc_X10_tieBetween_v_7 (nS h2248) h2283 ht_f_n.1 h2285 h2284)
          have h2318 : 1 ≤ z2289 ∧ z2289 ≤ 2 := (vc_X10_coneOf_12 h2292 h2291)
          refine sv_goto (pc := 57) (tgt := 138) dX10_shortestRing_57 (by decide) ?_
          refine mr_iinc (pc := 138) (lv' := [(5, iv (z2238 + 1)), (0, .ref 6), (1, iv p1), (2, iv 11), (3, iv z2239), (4, iv z1750)]) dX10_shortestRing_138 rfl (by decide) rfl ?_
          refine sv_goto (pc := 141) (tgt := 35) dX10_shortestRing_141 (by decide) ?_
          refine mr_lvS (lv' := [(0, .ref 6), (1, iv p1), (2, iv 11), (3, iv z2239), (4, iv z1750), (5, iv (z2238 + 1))]) (List.forall_mem_cons.mpr ⟨rfl, List.forall_mem_cons.mpr ⟨rfl, List.forall_mem_cons.mpr ⟨rfl, List.forall_mem_cons.mpr ⟨rfl, List.forall_mem_cons.mpr ⟨rfl, List.forall_mem_cons.mpr ⟨rfl, fun _ h => absurd h List.not_mem_nil⟩⟩⟩⟩⟩⟩) ?_
          exact ih2249 z2239 (z2238 + 1) μ2240 T2244 (mF.call mF.refl F2245 rfl) h2242 (rW (c := 0) (d := 20) (rAdd (e := 1) (f := 20) h2284 (rR (x := 1)) rfl) rfl) (sbD.skip R2247 (vc_X10_tieBetween_v_8 h2283 ht_f_n.1 h2285 h2284) ((tcB hw hT q_f_n ((mF.call (mF.call (mF.up (mF.call mF.refl F1197 rfl) (A_13 hw) u1199 rfl) F1757 rfl) F2245 rfl) : mF [13999] w μ μ2240) rfl (vc_X10_tieBetween_v_13 ht_f_n.1 h2283 h2285 h2284)).2.2.symm.trans (tcOf q2287 q2290)) (vc_X4_leadBack_42 h2292 h2318)) (vc_X10_tieBetween_v_7 (nS h2248) h2283 ht_f_n.1 h2285 h2284)
      refine mr_lvS (lv' := [(0, .ref 6), (1, iv p1), (2, iv 11), (3, iv z1751), (4, iv z1750), (5, iv 0)]) (List.forall_mem_cons.mpr ⟨rfl, List.forall_mem_cons.mpr ⟨rfl, List.forall_mem_cons.mpr ⟨rfl, List.forall_mem_cons.mpr ⟨rfl, List.forall_mem_cons.mpr ⟨rfl, List.forall_mem_cons.mpr ⟨rfl, fun _ h => absurd h List.not_mem_nil⟩⟩⟩⟩⟩⟩) ?_
      exact L2241 22 z1751 0 μ1752 T1756 mF.refl h1754 (rW (c := 0) (d := 20) (rR (x := 0)) rfl) (sbD.start (R1759).1 (R1759).2 vc_X10_tieBetween_v_23) vc_X12_feed_15
  refine mr_lvS (lv' := [(0, .ref 6), (1, iv p1), (2, iv 11), (3, iv 11), (4, iv 0)]) (List.forall_mem_cons.mpr ⟨rfl, List.forall_mem_cons.mpr ⟨rfl, List.forall_mem_cons.mpr ⟨rfl, List.forall_mem_cons.mpr ⟨rfl, List.forall_mem_cons.mpr ⟨rfl, fun _ h => absurd h List.not_mem_nil⟩⟩⟩⟩⟩) ?_
  exact L1753 12 11 0 μ1198 T1200 mF.refl (rW (c := 1) (d := 11) (rR (x := 11)) rfl) (rW (c := 0) (d := 10) (rR (x := 0)) rfl) (sbS.init q1195 u1199) vc_X12_sends_20
theorem vc_X10_leastCustomer_v_3 {p1 : Int} (h0 : 0 ≤ p1 ∧ p1 ≤ 10) : 0 ≤ p1 := by omega
theorem vc_X10_leastCustomer_v_13 {f_dm n0 p1 z722 : Int} (h0 : z722 < n0) (h1 : ¬ z722 = p1) (h2 : f_dm = n0) (h3 : 0 ≤ f_dm ∧ f_dm ≤ 10) (h4 : 0 ≤ p1 ∧ p1 ≤ 10) (h5 : 0 ≤ z722 ∧ z722 ≤ 9) : ¬ z722 = p1 := by omega
theorem vc_X10_leastCustomer_v_14 {n0 p1 z722 : Int} (h0 : z722 = p1) (h1 : z722 < n0) (h2 : 0 ≤ p1 ∧ p1 ≤ 10) (h3 : 0 ≤ z722 ∧ z722 ≤ 9) : 0 ≤ p1 ∧ p1 ≤ 9 := by omega
theorem vc_X10_leastCustomer_v_15 {p2 z732 : Int} (h0 : ¬ z732 = p2) (h1 : (-2147483648) ≤ p2 ∧ p2 ≤ 2147483647) (h2 : 0 ≤ z732 ∧ z732 ≤ 11) : ¬ z732 = p2 := by omega
theorem vc_X10_leastCustomer_v_16 {p2 z732 : Int} (h0 : z732 = p2) (h1 : (-2147483648) ≤ p2 ∧ p2 ≤ 2147483647) (h2 : 0 ≤ z732 ∧ z732 ≤ 11) : 0 ≤ p2 ∧ p2 ≤ 11 := by omega
theorem vc_X10_leastCustomer_v_17 {n0 z674 z728 z737 : Int} (h0 : z728 < n0) (h1 : ((z737 = z674 ∨ z737 = z728) ∧ z737 ≤ z674 ∧ z737 ≤ z728)) (h2 : 0 ≤ z674 ∧ z674 ≤ 10) (h3 : 0 ≤ z728 ∧ z728 ≤ 9) : 0 ≤ z737 ∧ z737 ≤ 9 := by omega
theorem vc_X10_leastCustomer_v_19 {f_dm n0 p1 z722 z728 : Int} (h0 : z722 < n0) (h1 : z722 = p1) (h2 : f_dm = n0) (h3 : z728 < n0) (h4 : 0 ≤ f_dm ∧ f_dm ≤ 10) (h5 : 0 ≤ p1 ∧ p1 ≤ 9) (h6 : 0 ≤ z722 ∧ z722 ≤ 9) (h7 : 0 ≤ z728 ∧ z728 ≤ 9) : z722 = p1 := by omega
theorem vc_X10_leastCustomer_v_20 {p2 z732 : Int} (h0 : z732 = p2) (h1 : 0 ≤ p2 ∧ p2 ≤ 11) (h2 : 0 ≤ z732 ∧ z732 ≤ 11) : z732 = p2 := by omega
theorem vc_X10_leastCustomer_v_21 {f_dm n0 z674 z722 z728 z737 : Int} (h0 : z728 < n0) (h1 : ((z737 = z674 ∨ z737 = z728) ∧ z737 ≤ z674 ∧ z737 ≤ z728)) (h2 : f_dm = n0) (h3 : z722 < n0) (h4 : 0 ≤ f_dm ∧ f_dm ≤ 10) (h5 : 0 ≤ z674 ∧ z674 ≤ 10) (h6 : 0 ≤ z722 ∧ z722 ≤ 9) (h7 : 0 ≤ z728 ∧ z728 ≤ 9) (h8 : 0 ≤ z737 ∧ z737 ≤ 9) : 0 ≤ z728 ∧ z728 ≤ 9 := by omega
theorem vc_X10_leastCustomer_v_22 {f_dm n0 z674 z722 z728 z737 : Int} (h0 : z728 < n0) (h1 : ((z737 = z674 ∨ z737 = z728) ∧ z737 ≤ z674 ∧ z737 ≤ z728)) (h2 : f_dm = n0) (h3 : z722 < n0) (h4 : 0 ≤ f_dm ∧ f_dm ≤ 10) (h5 : 0 ≤ z674 ∧ z674 ≤ 10) (h6 : 0 ≤ z722 ∧ z722 ≤ 9) (h7 : 0 ≤ z728 ∧ z728 ≤ 9) (h8 : 0 ≤ z737 ∧ z737 ≤ 9) : (z674 ≤ z728 ∧ z737 = z674) ∨ (z728 ≤ z674 ∧ z737 = z728) := by omega
set_option maxRecDepth 4000 in
set_option maxHeartbeats 4000000 in
theorem c_X10_leastCustomer_v {l : Launch} {D : va_G} {c : Nat → ClassId} {H0 : Heap} {sa : Nat × Nat × (Nat → Int32)} {w : mW} {μ : mM} (hw : mWF w) (hT : mT w μ) {p1 : Int} (hp1 : 0 ≤ p1 ∧ p1 ≤ 10) {p2 : Int} (hp2 : (-2147483648) ≤ p2 ∧ p2 ≤ 2147483647) {f_n : Int} (q_f_n : μ 6 16 = f_n) {f_dm : Int} (q_f_dm : μ 6 15 = f_dm) : sC (gG l D c H0 sa) mX10_leastCustomer 1 0 0 [.ref 6, iv p1, iv p2] (mk w μ) (qP w μ (fun z => (0 ≤ z ∧ z ≤ 10) ∧ (lcZ (edgC μ f_n) (μ 13) p1.toNat p2 z) ∧ True)) := by
  refine sC.of rfl (by decide) (le_t rfl) ?_
  have ht_f_n : (f_n = w.2.2.2 1 ∧ 0 ≤ f_n ∧ f_n ≤ 20) := by rw [← q_f_n]; exact hT 6 6 (A_6 hw) 16
  have ht_f_dm : (f_dm = w.2.2.2 0 ∧ 0 ≤ f_dm ∧ f_dm ≤ 10) := by rw [← q_f_dm]; exact hT 6 6 (A_6 hw) 15
  refine mr_lvE (lv' := [(0, .ref 6), (1, iv p1), (2, iv p2)]) rfl ?_
  refine mr_bipush (pc := 0) (z := 10) dX10_leastCustomer_0 (by decide) ?_
  refine mr_istore_n (pc := 2) (lv' := [(3, iv 10), (0, .ref 6), (1, iv p1), (2, iv p2)]) dX10_leastCustomer_2 rfl (by decide) rfl ?_
  refine mr_iconst (pc := 3) (z := 0) dX10_leastCustomer_3 ?_
  refine mr_istore (pc := 4) (lv' := [(4, iv 0), (3, iv 10), (0, .ref 6), (1, iv p1), (2, iv p2)]) dX10_leastCustomer_4 (by decide) rfl ?_
  have L675 : ∀ (nL675 : Nat) (z674 z673 : Int), True → (0 ≤ z674 ∧ z674 ≤ 10) → (0 ≤ z673 ∧ z673 ≤ 20) → lcI (tc μ 0) (tc μ 1) (tc μ 2) (μ 13) f_n p1 p2 z673 z674 → (21 - z673) < (nL675 : Int) → sV (gG l D c H0 sa) mX10_leastCustomer (sRm 1 0 0) (sZ (gG l D c H0 sa) 0 0 (qP w μ (fun z => (0 ≤ z ∧ z ≤ 10) ∧ (lcZ (edgC μ f_n) (μ 13) p1.toNat p2 z) ∧ True))) 6 [(0, .ref 6), (1, iv p1), (2, iv p2), (3, iv z674), (4, iv z673)] [] (mk w μ) 0 0 := by
    intro nL675
    induction nL675 with
    | zero => intro z674 z673 _ h676 h677 R681 h682; exact ((vc_X12_feed_2 h682 h677)).elim
    | succ nL675 ih683 =>
      intro z674 z673 _ h676 h677 R681 h682
      refine mr_iload (pc := 6) (z := z673) dX10_leastCustomer_6 rfl ?_
      refine sv_aload_n (pc := 8) dX10_leastCustomer_8 rfl rfl ?_
      refine gk_X10_16 (pc := 9) dX10_leastCustomer_9 wF_X10_72 (A_6 hw) q_f_n ?_
      refine mr_icmp_ge (pc := 12) (tgt := 71) dX10_leastCustomer_12 (by decide) (r32 h677 rfl) (r32 ht_f_n.2 rfl) (fun h710 => ?_) (fun h710 => ?_)
      · refine mr_iload_n (pc := 71) (z := z674) dX10_leastCustomer_71 rfl rfl ?_
        exact mr_iretP dX10_leastCustomer_72 rfl (le_t rfl) (le_t rfl) ⟨h676, (lcI.fin R681 (vc_X10_tieBetween_v_3 ht_f_n.1 h710 ht_f_n.2 h677) (vc_X10_leastCustomer_v_3 hp1) (fun i hi => (tcAll hw hT q_f_n q_f_dm i hi).1)), trivial⟩
      have h711 : 0 ≤ z673 ∧ z673 ≤ 19 := (vc_X10_tieBetween_v_4 h710 ht_f_n.1 ht_f_n.2 h677)
      have h712 : 1 ≤ f_n ∧ f_n ≤ 20 := (vc_X10_tieBetween_v_5 h710 ht_f_n.1 ht_f_n.2 h711)
      refine sv_aload_n (pc := 15) dX10_leastCustomer_15 rfl rfl ?_
      refine gf_X10_4 (pc := 16) dX10_leastCustomer_16 wF_X10_29 (A_6 hw) hT ?_
      refine mr_iload (pc := 19) (z := z673) dX10_leastCustomer_19 rfl ?_
      refine la_11 (pc := 21) dX10_leastCustomer_21 (A_11 hw) hT (rIx (n := 20) h711 rfl) (vc_X10_tieBetween_v_6 ht_f_n.1 h710 h712 h711) fun b713 q714 A715 => ?_
      refine mr_astore (pc := 22) (lv' := [(5, .ref b713), (0, .ref 6), (1, iv p1), (2, iv p2), (3, iv z674), (4, iv z673)]) dX10_leastCustomer_22 (by decide) rfl ?_
      refine sv_aload (pc := 24) dX10_leastCustomer_24 rfl ?_
      refine gf_X9_2 (pc := 26) dX10_leastCustomer_26 wF_X10_84 A715 hT fun z716 q717 h718 => ?_
      refine mr_if_ne (pc := 29) (tgt := 65) dX10_leastCustomer_29 (by decide) (r32 h718 rfl) (fun h719 => ?_) (fun h719 => ?_)
      · have h720 : 1 ≤ z716 ∧ z716 ≤ 2 := (vc_X10_coneOf_12 h719 h718)
        refine mr_iinc (pc := 65) (lv' := [(4, iv (z673 + 1)), (5, .ref b713), (0, .ref 6), (1, iv p1), (2, iv p2), (3, iv z674)]) dX10_leastCustomer_65 rfl (by decide) rfl ?_
        refine sv_goto (pc := 68) (tgt := 6) dX10_leastCustomer_68 (by decide) ?_
        refine mr_lvS (lv' := [(0, .ref 6), (1, iv p1), (2, iv p2), (3, iv z674), (4, iv (z673 + 1))]) (List.forall_mem_cons.mpr ⟨rfl, List.forall_mem_cons.mpr ⟨rfl, List.forall_mem_cons.mpr ⟨rfl, List.forall_mem_cons.mpr ⟨rfl, List.forall_mem_cons.mpr ⟨rfl, fun _ h => absurd h List.not_mem_nil⟩⟩⟩⟩⟩) ?_
        exact ih683 z674 (z673 + 1) trivial h676 (rW (c := 0) (d := 20) (rAdd (e := 1) (f := 20) h711 (rR (x := 1)) rfl) rfl) (lcI.skip R681 (vc_X10_tieBetween_v_8 h710 ht_f_n.1 h712 h711) (fun g => (vc_X4_leadBack_42 h719 h720) ((((tcB hw hT q_f_n (mF.refl : mF [] w μ μ) rfl (vc_X10_tieBetween_v_13 ht_f_n.1 h710 h712 h711)).2.2.symm.trans (tcOf q714 q717))).symm.trans g.1))) (vc_X10_tieBetween_v_7 (nS h682) h710 ht_f_n.1 h712 h711)
      have h721 : 0 ≤ z716 ∧ z716 ≤ 0 := (vc_X10_coneOf_13 h719 h718)
      refine sv_aload (pc := 32) dX10_leastCustomer_32 rfl ?_
      refine gf_X9_0 (pc := 34) dX10_leastCustomer_34 wF_X10_78 A715 hT fun z722 q723 h724 => ?_
      have h725 : 0 ≤ z722 ∧ z722 ≤ 9 := ⟨h724.1, h724.2.1⟩
      refine mr_iload_n (pc := 37) (z := p1) dX10_leastCustomer_37 rfl rfl ?_
      refine mr_icmp_ne (pc := 38) (tgt := 65) dX10_leastCustomer_38 (by decide) (r32 h725 rfl) (r32 hp1 rfl) (fun h726 => ?_) (fun h726 => ?_)
      · refine mr_iinc (pc := 65) (lv' := [(4, iv (z673 + 1)), (5, .ref b713), (0, .ref 6), (1, iv p1), (2, iv p2), (3, iv z674)]) dX10_leastCustomer_65 rfl (by decide) rfl ?_
        refine sv_goto (pc := 68) (tgt := 6) dX10_leastCustomer_68 (by decide) ?_
        refine mr_lvS (lv' := [(0, .ref 6), (1, iv p1), (2, iv p2), (3, iv z674), (4, iv (z673 + 1))]) (List.forall_mem_cons.mpr ⟨rfl, List.forall_mem_cons.mpr ⟨rfl, List.forall_mem_cons.mpr ⟨rfl, List.forall_mem_cons.mpr ⟨rfl, List.forall_mem_cons.mpr ⟨rfl, fun _ h => absurd h List.not_mem_nil⟩⟩⟩⟩⟩) ?_
        exact ih683 z674 (z673 + 1) trivial h676 (rW (c := 0) (d := 20) (rAdd (e := 1) (f := 20) h711 (rR (x := 1)) rfl) rfl) (lcI.skip R681 (vc_X10_tieBetween_v_8 h710 ht_f_n.1 h712 h711) (fun g => (vc_X10_leastCustomer_v_13 h724.2.2 h726 ht_f_dm.1 ht_f_dm.2 hp1 h725) ((((tcB hw hT q_f_n (mF.refl : mF [] w μ μ) rfl (vc_X10_tieBetween_v_13 ht_f_n.1 h710 h712 h711)).1.symm.trans (tcOf q714 q723))).symm.trans g.2.1))) (vc_X10_tieBetween_v_7 (nS h682) h710 ht_f_n.1 h712 h711)
      have h727 : 0 ≤ p1 ∧ p1 ≤ 9 := (vc_X10_leastCustomer_v_14 h726 h724.2.2 hp1 h725)
      refine sv_aload_n (pc := 41) dX10_leastCustomer_41 rfl rfl ?_
      refine gf_X10_6 (pc := 42) dX10_leastCustomer_42 wF_X10_36 (A_6 hw) hT ?_
      refine sv_aload (pc := 45) dX10_leastCustomer_45 rfl ?_
      refine gf_X9_1 (pc := 47) dX10_leastCustomer_47 wF_X10_81 A715 hT fun z728 q729 h730 => ?_
      have h731 : 0 ≤ z728 ∧ z728 ≤ 9 := ⟨h730.1, h730.2.1⟩
      refine la_13 (pc := 50) dX10_leastCustomer_50 (A_13 hw) hT (rIx (n := 10) h731 rfl) fun z732 q733 h734 => ?_
      refine mr_iload_n (pc := 51) (z := p2) dX10_leastCustomer_51 rfl rfl ?_
      refine mr_icmp_ne (pc := 52) (tgt := 65) dX10_leastCustomer_52 (by decide) (r32 h734 rfl) hp2 (fun h735 => ?_) (fun h735 => ?_)
      · refine mr_iinc (pc := 65) (lv' := [(4, iv (z673 + 1)), (5, .ref b713), (0, .ref 6), (1, iv p1), (2, iv p2), (3, iv z674)]) dX10_leastCustomer_65 rfl (by decide) rfl ?_
        refine sv_goto (pc := 68) (tgt := 6) dX10_leastCustomer_68 (by decide) ?_
        refine mr_lvS (lv' := [(0, .ref 6), (1, iv p1), (2, iv p2), (3, iv z674), (4, iv (z673 + 1))]) (List.forall_mem_cons.mpr ⟨rfl, List.forall_mem_cons.mpr ⟨rfl, List.forall_mem_cons.mpr ⟨rfl, List.forall_mem_cons.mpr ⟨rfl, List.forall_mem_cons.mpr ⟨rfl, fun _ h => absurd h List.not_mem_nil⟩⟩⟩⟩⟩) ?_
        exact ih683 z674 (z673 + 1) trivial h676 (rW (c := 0) (d := 20) (rAdd (e := 1) (f := 20) h711 (rR (x := 1)) rfl) rfl) (lcI.skip R681 (vc_X10_tieBetween_v_8 h710 ht_f_n.1 h712 h711) (fun g => (vc_X10_leastCustomer_v_15 h735 hp2 h734) (by have h := g.2.2; rw [((tcB hw hT q_f_n (mF.refl : mF [] w μ μ) rfl (vc_X10_tieBetween_v_13 ht_f_n.1 h710 h712 h711)).2.1.symm.trans (tcOf q714 q729)), q733] at h; exact h))) (vc_X10_tieBetween_v_7 (nS h682) h710 ht_f_n.1 h712 h711)
      have h736 : 0 ≤ p2 ∧ p2 ≤ 11 := (vc_X10_leastCustomer_v_16 h735 hp2 h734)
      refine mr_iload_n (pc := 55) (z := z674) dX10_leastCustomer_55 rfl rfl ?_
      refine sv_aload (pc := 56) dX10_leastCustomer_56 rfl ?_
      refine gk_X9_1 (pc := 58) dX10_leastCustomer_58 wF_X10_81 A715 q729 ?_
      refine mr_min (pc := 61) dX10_leastCustomer_61 wM_X10_100 wS_J_min wI_J_math wK_J_min ⟨le_t rfl, le_t rfl⟩ ⟨le_t rfl, le_t rfl⟩ (le_t rfl) (r32 h676 rfl) (r32 h731 rfl) fun z737 h738 => ?_
      have h739 : 0 ≤ z737 ∧ z737 ≤ 9 := (vc_X10_leastCustomer_v_17 h730.2.2 h738 h676 h731)
      refine mr_istore_n (pc := 64) (lv' := [(3, iv z737), (5, .ref b713), (0, .ref 6), (1, iv p1), (2, iv p2), (4, iv z673)]) dX10_leastCustomer_64 rfl (by decide) rfl ?_
      refine mr_iinc (pc := 65) (lv' := [(4, iv (z673 + 1)), (3, iv z737), (5, .ref b713), (0, .ref 6), (1, iv p1), (2, iv p2)]) dX10_leastCustomer_65 rfl (by decide) rfl ?_
      refine sv_goto (pc := 68) (tgt := 6) dX10_leastCustomer_68 (by decide) ?_
      refine mr_lvS (lv' := [(0, .ref 6), (1, iv p1), (2, iv p2), (3, iv z737), (4, iv (z673 + 1))]) (List.forall_mem_cons.mpr ⟨rfl, List.forall_mem_cons.mpr ⟨rfl, List.forall_mem_cons.mpr ⟨rfl, List.forall_mem_cons.mpr ⟨rfl, List.forall_mem_cons.mpr ⟨rfl, fun _ h => absurd h List.not_mem_nil⟩⟩⟩⟩⟩) ?_
      exact ih683 z737 (z673 + 1) trivial (rW (c := 0) (d := 10) h739 rfl) (rW (c := 0) (d := 20) (rAdd (e := 1) (f := 20) h711 (rR (x := 1)) rfl) rfl) (lcI.hit R681 (vc_X10_tieBetween_v_13 ht_f_n.1 h710 h712 h711) ((((tcB hw hT q_f_n (mF.refl : mF [] w μ μ) rfl (vc_X10_tieBetween_v_13 ht_f_n.1 h710 h712 h711)).2.2.symm.trans (tcOf q714 q717))).trans (vc_X12_goes_7 h719 h721)) ((((tcB hw hT q_f_n (mF.refl : mF [] w μ μ) rfl (vc_X10_tieBetween_v_13 ht_f_n.1 h710 h712 h711)).1.symm.trans (tcOf q714 q723))).trans (vc_X10_leastCustomer_v_19 h724.2.2 h726 ht_f_dm.1 h730.2.2 ht_f_dm.2 h727 h725 h731)) ((tcB hw hT q_f_n (mF.refl : mF [] w μ μ) rfl (vc_X10_tieBetween_v_13 ht_f_n.1 h710 h712 h711)).2.1.symm.trans (tcOf q714 q729)) ((q733).trans (vc_X10_leastCustomer_v_20 h735 h736 h734)) (vc_X10_leastCustomer_v_21 h730.2.2 h738 ht_f_dm.1 h724.2.2 ht_f_dm.2 h676 h725 h731 h739) (vc_X10_leastCustomer_v_22 h730.2.2 h738 ht_f_dm.1 h724.2.2 ht_f_dm.2 h676 h725 h731 h739)) (vc_X10_tieBetween_v_7 (nS h682) h710 ht_f_n.1 h712 h711)
  refine mr_lvS (lv' := [(0, .ref 6), (1, iv p1), (2, iv p2), (3, iv 10), (4, iv 0)]) (List.forall_mem_cons.mpr ⟨rfl, List.forall_mem_cons.mpr ⟨rfl, List.forall_mem_cons.mpr ⟨rfl, List.forall_mem_cons.mpr ⟨rfl, List.forall_mem_cons.mpr ⟨rfl, fun _ h => absurd h List.not_mem_nil⟩⟩⟩⟩⟩) ?_
  exact L675 22 10 0 trivial (rW (c := 0) (d := 10) (rR (x := 10)) rfl) (rW (c := 0) (d := 20) (rR (x := 0)) rfl) (lcI.start vc_X10_tieBetween_v_23) vc_X12_feed_15
theorem vc_X10_fillRing_v_2 {p2 z247 : Int} (h0 : p2 ≤ z247) (h1 : 1 ≤ p2 ∧ p2 ≤ 10) (h2 : 1 ≤ z247 ∧ z247 ≤ 10) : p2 ≤ z247 := by omega
theorem vc_X10_fillRing_v_3 {p2 z247 : Int} (h0 : z247 < p2) (h1 : 1 ≤ p2 ∧ p2 ≤ 10) (h2 : 1 ≤ z247 ∧ z247 ≤ 10) : 1 ≤ z247 ∧ z247 ≤ 9 := by omega
theorem vc_X10_fillRing_v_4 {p2 z247 : Int} (h0 : z247 < p2) (h1 : 1 ≤ p2 ∧ p2 ≤ 10) (h2 : 1 ≤ z247 ∧ z247 ≤ 9) : 2 ≤ p2 ∧ p2 ≤ 10 := by omega
theorem vc_X10_fillRing_v_5 {N p2 z247 : Int} (h0 : (11 - z247) < N + 1) (h1 : z247 < p2) (h2 : 2 ≤ p2 ∧ p2 ≤ 10) (h3 : 1 ≤ z247 ∧ z247 ≤ 9) : (11 - (z247 + 1)) < N := by omega
theorem vc_X10_fillRing_v_6 {p2 z247 : Int} (h0 : z247 < p2) (h1 : 2 ≤ p2 ∧ p2 ≤ 10) (h2 : 1 ≤ z247 ∧ z247 ≤ 9) : p2 ≤ 10 := by omega
theorem vc_X10_fillRing_v_7 {f_dm n0 : Int} (h0 : f_dm = n0) (h1 : 0 ≤ f_dm ∧ f_dm ≤ 10) : f_dm.toNat ≤ 10 := by omega
theorem vc_X10_fillRing_v_8 {p2 z247 : Int} (h0 : z247 < p2) (h1 : 2 ≤ p2 ∧ p2 ≤ 10) (h2 : 1 ≤ z247 ∧ z247 ≤ 9) : 1 ≤ z247 ∧ z247 < p2 := by omega
theorem vc_X10_fillRing_v_9 {p2 z247 : Int} (h0 : z247 < p2) (h1 : 2 ≤ p2 ∧ p2 ≤ 10) (h2 : 1 ≤ z247 ∧ z247 ≤ 9) : (z247 - 1) = z247 - 1 := by omega
theorem vc_X10_fillRing_v_10 {p2 z247 : Int} (h0 : z247 < p2) (h1 : 2 ≤ p2 ∧ p2 ≤ 10) (h2 : 1 ≤ z247 ∧ z247 ≤ 9) : (p2 - z247) = p2 - z247 := by omega
theorem vc_X10_fillRing_v_12 {p1 : Int} (h0 : 0 ≤ p1 ∧ p1 ≤ 9) : 0 ≤ p1 ∧ p1 ≤ 9 := by omega
theorem vc_X10_fillRing_v_13  : ((1 : Int) : Int) ≤ (1 : Int) := by omega
set_option maxRecDepth 4000 in
set_option maxHeartbeats 4000000 in
theorem c_X10_fillRing_v {l : Launch} {D : va_G} {c : Nat → ClassId} {H0 : Heap} {sa : Nat × Nat × (Nat → Int32)} {w : mW} {μ : mM} (hw : mWF w) (hT : mT w μ) {p1 : Int} (hp1 : 0 ≤ p1 ∧ p1 ≤ 9) {p2 : Int} (hp2 : 1 ≤ p2 ∧ p2 ≤ 10) {f_n : Int} (q_f_n : μ 6 16 = f_n) {f_dm : Int} (q_f_dm : μ 6 15 = f_dm) (hsb : sbT (edgC μ f_n) p1.toNat (μ 13)) (hrm : minp (edgC μ f_n) p1.toNat p2.toNat p1.toNat) : sC (gG l D c H0 sa) mX10_fillRing 2 0 0 [.ref 6, iv p1, iv p2] (mk w μ) (qV w [12999] μ (fun μ1 => (rgW (edgC μ f_n) p1.toNat p2.toNat μ1 p2) ∧ True)) := by
  refine sC.of rfl (by decide) (le_t rfl) ?_
  have ht_f_n : (f_n = w.2.2.2 1 ∧ 0 ≤ f_n ∧ f_n ≤ 20) := by rw [← q_f_n]; exact hT 6 6 (A_6 hw) 16
  have ht_f_dm : (f_dm = w.2.2.2 0 ∧ 0 ≤ f_dm ∧ f_dm ≤ 10) := by rw [← q_f_dm]; exact hT 6 6 (A_6 hw) 15
  refine mr_lvE (lv' := [(0, .ref 6), (1, iv p1), (2, iv p2)]) rfl ?_
  refine sv_aload_n (pc := 0) dX10_fillRing_0 rfl rfl ?_
  refine gf_X10_5 (pc := 1) dX10_fillRing_1 wF_X10_33 (A_6 hw) hT ?_
  refine mr_iconst (pc := 4) (z := 0) dX10_fillRing_4 ?_
  refine mr_iload_n (pc := 5) (z := p1) dX10_fillRing_5 rfl rfl ?_
  refine ss_12 (pc := 6) dX10_fillRing_6 (A_12 hw) hT (rIx (n := 10) (rR (x := 0)) rfl) (rW (c := 0) (d := 10) hp1 rfl) fun μ154 u155 T156 => ?_
  refine mr_iconst (pc := 7) (z := 1) dX10_fillRing_7 ?_
  refine mr_istore_n (pc := 8) (lv' := [(3, iv 1), (0, .ref 6), (1, iv p1), (2, iv p2)]) dX10_fillRing_8 rfl (by decide) rfl ?_
  have L249 : ∀ (nL249 : Nat) (z247 : Int) (μ248 : mM), mT w μ248 → mF [12999] w μ154 μ248 → (1 ≤ z247 ∧ z247 ≤ 10) → rgW (edgC μ f_n) p1.toNat p2.toNat μ248 z247 → (11 - z247) < (nL249 : Int) → sV (gG l D c H0 sa) mX10_fillRing (sRm 2 0 0) (sZ (gG l D c H0 sa) 0 0 (qV w [12999] μ (fun μ1 => (rgW (edgC μ f_n) p1.toNat p2.toNat μ1 p2) ∧ True))) 9 [(0, .ref 6), (2, iv p2), (3, iv z247)] [] (mk w μ248) 0 0 := by
    intro nL249
    induction nL249 with
    | zero => intro z247 μ248 T251 F252 h250 R254 h255; exact ((vc_X8_lastStanding_9 h255 h250)).elim
    | succ nL249 ih256 =>
      intro z247 μ248 T251 F252 h250 R254 h255
      refine mr_iload_n (pc := 9) (z := z247) dX10_fillRing_9 rfl rfl ?_
      refine mr_iload_n (pc := 10) (z := p2) dX10_fillRing_10 rfl rfl ?_
      refine mr_icmp_ge (pc := 11) (tgt := 41) dX10_fillRing_11 (by decide) (r32 h250 rfl) (r32 hp2 rfl) (fun h270 => ?_) (fun h270 => ?_)
      · exact mr_vret dX10_fillRing_41 rfl (le_t rfl) (le_t rfl) T251 (mF.call (mF.up mF.refl (A_12 hw) u155 rfl) F252 rfl) ⟨(fun i hi => R254 i (by have h := (vc_X10_fillRing_v_2 h270 hp2 h250); omega)), trivial⟩
      have h271 : 1 ≤ z247 ∧ z247 ≤ 9 := (vc_X10_fillRing_v_3 h270 hp2 h250)
      have h272 : 2 ≤ p2 ∧ p2 ≤ 10 := (vc_X10_fillRing_v_4 h270 hp2 h271)
      refine sv_aload_n (pc := 14) dX10_fillRing_14 rfl rfl ?_
      refine gf_X10_5 (pc := 15) dX10_fillRing_15 wF_X10_33 (A_6 hw) T251 ?_
      refine mr_iload_n (pc := 18) (z := z247) dX10_fillRing_18 rfl rfl ?_
      refine sv_aload_n (pc := 19) dX10_fillRing_19 rfl rfl ?_
      refine sv_aload_n (pc := 20) dX10_fillRing_20 rfl rfl ?_
      refine gf_X10_5 (pc := 21) dX10_fillRing_21 wF_X10_33 (A_6 hw) T251 ?_
      refine mr_iload_n (pc := 24) (z := z247) dX10_fillRing_24 rfl rfl ?_
      refine mr_iconst (pc := 25) (z := 1) dX10_fillRing_25 ?_
      refine mr_isub (pc := 26) (x := z247) (y := 1) dX10_fillRing_26 ?_
      refine la_12 (pc := 27) dX10_fillRing_27 (A_12 hw) T251 (rIx (n := 10) (rSub (e := 0) (f := 8) h271 (rR (x := 1)) rfl) rfl) fun z273 q274 h275 => ?_
      refine mr_iload_n (pc := 28) (z := p2) dX10_fillRing_28 rfl rfl ?_
      refine mr_iload_n (pc := 29) (z := z247) dX10_fillRing_29 rfl rfl ?_
      refine mr_isub (pc := 30) (x := p2) (y := z247) dX10_fillRing_30 ?_
      refine mr_cVP (pc := 31) (c_X10_leastCustomer_v hw T251 h275 (rW (c := (-2147483648)) (d := 2147483647) (rSub (e := (-7)) (f := 9) h272 h271 rfl) rfl) (F252.f (A_6 hw) rfl (u155.f (Or.inl (mAt.ne (A_12 hw) (A_6 hw) rfl)) q_f_n)) (F252.f (A_6 hw) rfl (u155.f (Or.inl (mAt.ne (A_12 hw) (A_6 hw) rfl)) q_f_dm))) (gOk _ _ _ _ _) dX10_fillRing_31 (tX10_leastCustomer _ _ _ _ _) ⟨wV_X10_leastCustomer, wL_X10_leastCustomer⟩ wM_X10_106 (gCX10 _ _ _ _ _) rfl (A_6 hw) rfl ⟨le_t rfl, le_t rfl⟩ ⟨le_t rfl, le_t rfl⟩ rfl (le_t rfl) fun z280 h279 => ?_
      refine ss_12 (pc := 34) dX10_fillRing_34 (A_12 hw) T251 (rIx (n := 10) h271 rfl) h279.1 fun μ281 u282 T283 => ?_
      refine mr_iinc (pc := 35) (lv' := [(3, iv (z247 + 1)), (0, .ref 6), (2, iv p2)]) dX10_fillRing_35 rfl (by decide) rfl ?_
      refine sv_goto (pc := 38) (tgt := 9) dX10_fillRing_38 (by decide) ?_
      refine mr_lvS (lv' := [(0, .ref 6), (2, iv p2), (3, iv (z247 + 1))]) (List.forall_mem_cons.mpr ⟨rfl, List.forall_mem_cons.mpr ⟨rfl, List.forall_mem_cons.mpr ⟨rfl, fun _ h => absurd h List.not_mem_nil⟩⟩⟩) ?_
      exact ih256 (z247 + 1) μ281 T283 (mF.up (mF.call mF.refl F252 rfl) (A_12 hw) u282 rfl) (rW (c := 1) (d := 10) (rAdd (e := 2) (f := 10) h271 (rR (x := 1)) rfl) rfl) (rgW.next R254 hsb hrm (vc_X10_fillRing_v_6 h270 h272 h271) (fun a b e => Nat.lt_of_lt_of_le ((fun a b e => (edC.lt hw hT q_f_n q_f_dm a b e).2) a b e) (vc_X10_fillRing_v_7 ht_f_dm.1 ht_f_dm.2)) (vc_X10_fillRing_v_8 h270 h272 h271) q274 (vc_X10_fillRing_v_9 h270 h272 h271) (vc_X10_fillRing_v_10 h270 h272 h271) (lcZ.back h279.2.1 hw hT q_f_n ((mF.call (mF.up mF.refl (A_12 hw) u155 rfl) F252 rfl) : mF [12999] w μ μ248) rfl rfl) u282) (vc_X10_fillRing_v_5 (nS h255) h270 h272 h271)
  refine mr_lvS (lv' := [(0, .ref 6), (2, iv p2), (3, iv 1)]) (List.forall_mem_cons.mpr ⟨rfl, List.forall_mem_cons.mpr ⟨rfl, List.forall_mem_cons.mpr ⟨rfl, fun _ h => absurd h List.not_mem_nil⟩⟩⟩) ?_
  exact L249 11 1 μ154 T156 mF.refl (rW (c := 1) (d := 10) (rR (x := 1)) rfl) (rgW.start u155 (vc_X10_fillRing_v_12 hp1) vc_X10_fillRing_v_13) vc_X8_lastStanding_22
theorem vc_X10_findRing_v_2 {f_dm n0 z241 : Int} (h0 : f_dm = n0) (h1 : f_dm ≤ z241) (h2 : 0 ≤ f_dm ∧ f_dm ≤ 10) (h3 : 0 ≤ z241 ∧ z241 ≤ 10) : f_dm ≤ z241 := by omega
theorem vc_X10_findRing_v_3 {f_dm n0 z241 : Int} (h0 : z241 < f_dm) (h1 : f_dm = n0) (h2 : 0 ≤ f_dm ∧ f_dm ≤ 10) (h3 : 0 ≤ z241 ∧ z241 ≤ 10) : 0 ≤ z241 ∧ z241 ≤ 9 := by omega
theorem vc_X10_findRing_v_5 {f_dm n0 z241 : Int} (h0 : f_dm = n0) (h1 : z241 < f_dm) (h2 : 1 ≤ f_dm ∧ f_dm ≤ 10) (h3 : 0 ≤ z241 ∧ z241 ≤ 9) : z241 < f_dm := by omega
theorem vc_X10_findRing_v_7 {N f_dm n0 z241 : Int} (h0 : (11 - z241) < N + 1) (h1 : z241 < f_dm) (h2 : f_dm = n0) (h3 : 1 ≤ f_dm ∧ f_dm ≤ 10) (h4 : 0 ≤ z241 ∧ z241 ≤ 9) : (11 - (z241 + 1)) < N := by omega
theorem vc_X10_findRing_v_8 {f_dm n0 z241 : Int} (h0 : z241 < f_dm) (h1 : f_dm = n0) (h2 : 1 ≤ f_dm ∧ f_dm ≤ 10) (h3 : 0 ≤ z241 ∧ z241 ≤ 9) : 0 ≤ z241 := by omega
theorem vc_X10_findRing_v_11 {z258 : Int} (h0 : 0 < z258) (h1 : 1 ≤ z258 ∧ z258 ≤ 10) : 0 < z258 := by omega
theorem vc_X10_findRing_v_12 {z258 : Int} (h0 : 0 < z258) (h1 : 1 ≤ z258 ∧ z258 ≤ 10) : z258 = (((z258).toNat : Nat) : Int) := by omega
theorem vc_X10_findRing_v_13 {f_dm n0 z241 : Int} (h0 : f_dm = n0) (h1 : z241 < f_dm) (h2 : 1 ≤ f_dm ∧ f_dm ≤ 10) (h3 : 0 ≤ z241 ∧ z241 ≤ 9) : (z241).toNat < f_dm.toNat := by omega
set_option maxRecDepth 4000 in
set_option maxHeartbeats 4000000 in
theorem c_X10_findRing_v {l : Launch} {D : va_G} {c : Nat → ClassId} {H0 : Heap} {sa : Nat × Nat × (Nat → Int32)} {w : mW} {μ : mM} (hw : mWF w) (hT : mT w μ) {f_n : Int} (q_f_n : μ 6 16 = f_n) {f_dm : Int} (q_f_dm : μ 6 15 = f_dm) : sC (gG l D c H0 sa) mX10_findRing 4 0 0 [.ref 6] (mk w μ) (qI w [12999, 13999] μ (fun z μ1 => (0 ≤ z ∧ z ≤ 10) ∧ (fiZ (edgC μ f_n) f_dm.toNat μ1 z) ∧ True)) := by
  refine sC.of rfl (by decide) (le_t rfl) ?_
  have ht_f_n : (f_n = w.2.2.2 1 ∧ 0 ≤ f_n ∧ f_n ≤ 20) := by rw [← q_f_n]; exact hT 6 6 (A_6 hw) 16
  have ht_f_dm : (f_dm = w.2.2.2 0 ∧ 0 ≤ f_dm ∧ f_dm ≤ 10) := by rw [← q_f_dm]; exact hT 6 6 (A_6 hw) 15
  refine mr_lvE (lv' := [(0, .ref 6)]) rfl ?_
  refine mr_iconst (pc := 0) (z := 0) dX10_findRing_0 ?_
  refine mr_istore_n (pc := 1) (lv' := [(1, iv 0), (0, .ref 6)]) dX10_findRing_1 rfl (by decide) rfl ?_
  have L243 : ∀ (nL243 : Nat) (z241 : Int) (μ242 : mM), mT w μ242 → mF [13999] w μ μ242 → (0 ≤ z241 ∧ z241 ≤ 10) → noR (edgC μ f_n) z241 → (11 - z241) < (nL243 : Int) → sV (gG l D c H0 sa) mX10_findRing (sRm 4 0 0) (sZ (gG l D c H0 sa) 0 0 (qI w [12999, 13999] μ (fun z μ1 => (0 ≤ z ∧ z ≤ 10) ∧ (fiZ (edgC μ f_n) f_dm.toNat μ1 z) ∧ True))) 2 [(0, .ref 6), (1, iv z241)] [] (mk w μ242) 0 0 := by
    intro nL243
    induction nL243 with
    | zero => intro z241 μ242 T245 F246 h244 R248 h249; exact ((vc_X12_sends_1 h249 h244)).elim
    | succ nL243 ih250 =>
      intro z241 μ242 T245 F246 h244 R248 h249
      refine mr_iload_n (pc := 2) (z := z241) dX10_findRing_2 rfl rfl ?_
      refine sv_aload_n (pc := 3) dX10_findRing_3 rfl rfl ?_
      refine gk_X10_15 (pc := 4) dX10_findRing_4 wF_X10_68 (A_6 hw) (F246.f (A_6 hw) rfl q_f_dm) ?_
      refine mr_icmp_ge (pc := 7) (tgt := 34) dX10_findRing_7 (by decide) (r32 h244 rfl) (r32 ht_f_dm.2 rfl) (fun h251 => ?_) (fun h251 => ?_)
      · refine mr_iconst (pc := 34) (z := 0) dX10_findRing_34 ?_
        exact mr_iret dX10_findRing_35 rfl (le_t rfl) (le_t rfl) T245 (mF.call mF.refl F246 rfl) ⟨(rW (c := 0) (d := 10) (rR (x := 0)) rfl), (Or.inl ⟨rfl, fun d hd => R248 d (by have h := (vc_X10_findRing_v_2 ht_f_dm.1 h251 ht_f_dm.2 h244); omega)⟩), trivial⟩
      have h252 : 0 ≤ z241 ∧ z241 ≤ 9 := (vc_X10_findRing_v_3 h251 ht_f_dm.1 ht_f_dm.2 h244)
      have h253 : 1 ≤ f_dm ∧ f_dm ≤ 10 := (vc_X10_shortestRing_v_1 h251 ht_f_dm.1 ht_f_dm.2 h252)
      refine sv_aload_n (pc := 10) dX10_findRing_10 rfl rfl ?_
      refine mr_iload_n (pc := 11) (z := z241) dX10_findRing_11 rfl rfl ?_
      refine mr_cVI (pc := 12) (c_X10_shortestRing_v hw T245 h252 (F246.f (A_6 hw) rfl q_f_n) (F246.f (A_6 hw) rfl q_f_dm) (vc_X10_findRing_v_5 ht_f_dm.1 h251 h253 h252)) (gOk _ _ _ _ _) dX10_findRing_12 (tX10_shortestRing _ _ _ _ _) ⟨wV_X10_shortestRing, wL_X10_shortestRing⟩ wM_X10_87 (gCX10 _ _ _ _ _) rfl (A_6 hw) rfl ⟨le_t rfl, le_t rfl⟩ ⟨le_t rfl, le_t rfl⟩ rfl (le_t rfl) fun z258 μ254 T255 F256 h257 => ?_
      refine mr_istore_n (pc := 15) (lv' := [(2, iv z258), (0, .ref 6), (1, iv z241)]) dX10_findRing_15 rfl (by decide) rfl ?_
      refine mr_iload_n (pc := 16) (z := z258) dX10_findRing_16 rfl rfl ?_
      refine mr_if_le (pc := 17) (tgt := 28) dX10_findRing_17 (by decide) (r32 h257.1 rfl) (fun h259 => ?_) (fun h259 => ?_)
      · have h260 : 0 ≤ z258 ∧ z258 ≤ 0 := (vc_X8_lastStanding_1 h259 h257.1)
        refine mr_iinc (pc := 28) (lv' := [(1, iv (z241 + 1)), (2, iv z258), (0, .ref 6)]) dX10_findRing_28 rfl (by decide) rfl ?_
        refine sv_goto (pc := 31) (tgt := 2) dX10_findRing_31 (by decide) ?_
        refine mr_lvS (lv' := [(0, .ref 6), (1, iv (z241 + 1))]) (List.forall_mem_cons.mpr ⟨rfl, List.forall_mem_cons.mpr ⟨rfl, fun _ h => absurd h List.not_mem_nil⟩⟩) ?_
        exact ih250 (z241 + 1) μ254 T255 (mF.call (mF.call mF.refl F246 rfl) F256 rfl) (rW (c := 0) (d := 10) (rAdd (e := 1) (f := 10) h252 (rR (x := 1)) rfl) rfl) (noR.next R248 (vc_X10_findRing_v_8 h251 ht_f_dm.1 h253 h252) (shZ.none (by have h := h257.2.1; rw [edB hw hT q_f_n ((mF.call mF.refl F246 rfl) : mF [13999] w μ μ242) rfl] at h; exact h) (vc_X12_pick_u_50 h259 h260))) (vc_X10_findRing_v_7 (nS h249) h251 ht_f_dm.1 h253 h252)
      have h261 : 1 ≤ z258 ∧ z258 ≤ 10 := (vc_X8_lastStanding_8 h259 h257.1)
      refine sv_aload_n (pc := 20) dX10_findRing_20 rfl rfl ?_
      refine mr_iload_n (pc := 21) (z := z241) dX10_findRing_21 rfl rfl ?_
      refine mr_iload_n (pc := 22) (z := z258) dX10_findRing_22 rfl rfl ?_
      refine mr_cVV (pc := 23) (c_X10_fillRing_v hw T255 h252 h261 (F256.f (A_6 hw) rfl (F246.f (A_6 hw) rfl q_f_n)) (F256.f (A_6 hw) rfl (F246.f (A_6 hw) rfl q_f_dm)) (by rw [edB hw hT q_f_n ((mF.call (mF.call mF.refl F246 rfl) F256 rfl) : mF [13999] w μ μ254) rfl]; exact (by have h := h257.2.2.1; rw [edB hw hT q_f_n ((mF.call mF.refl F246 rfl) : mF [13999] w μ μ242) rfl] at h; exact h)) (by rw [edB hw hT q_f_n ((mF.call (mF.call mF.refl F246 rfl) F256 rfl) : mF [13999] w μ μ254) rfl]; exact shZ.some (by have h := h257.2.1; rw [edB hw hT q_f_n ((mF.call mF.refl F246 rfl) : mF [13999] w μ μ242) rfl] at h; exact h) (vc_X10_findRing_v_11 h259 h261))) (gOk _ _ _ _ _) dX10_findRing_23 (tX10_fillRing _ _ _ _ _) ⟨wV_X10_fillRing, wL_X10_fillRing⟩ wM_X10_90 (gCX10 _ _ _ _ _) rfl (A_6 hw) rfl ⟨le_t rfl, le_t rfl⟩ ⟨le_t rfl, le_t rfl⟩ rfl (le_t rfl) fun μ262 T263 F264 h265 => ?_
      refine mr_iload_n (pc := 26) (z := z258) dX10_findRing_26 rfl rfl ?_
      exact mr_iret dX10_findRing_27 rfl (le_t rfl) (le_t rfl) T263 (mF.call (mF.call (mF.call mF.refl F246 rfl) F256 rfl) F264 rfl) ⟨(rW (c := 0) (d := 10) h261 rfl), (Or.inr ⟨(z241).toNat, (z258).toNat, (vc_X10_findRing_v_12 h259 h261), (vc_X10_findRing_v_13 ht_f_dm.1 h251 h253 h252), shZ.some (by have h := h257.2.1; rw [edB hw hT q_f_n ((mF.call mF.refl F246 rfl) : mF [13999] w μ μ242) rfl] at h; exact h) (vc_X10_findRing_v_11 h259 h261), (fun d hd => R248 d (by have h := (vc_X10_findRing_v_8 h251 ht_f_dm.1 h253 h252); omega)), (by have h := h265.1; rw [edB hw hT q_f_n ((mF.call (mF.call mF.refl F246 rfl) F256 rfl) : mF [13999] w μ μ254) rfl] at h; exact h)⟩), trivial⟩
  refine mr_lvS (lv' := [(0, .ref 6), (1, iv 0)]) (List.forall_mem_cons.mpr ⟨rfl, List.forall_mem_cons.mpr ⟨rfl, fun _ h => absurd h List.not_mem_nil⟩⟩) ?_
  exact L243 12 0 μ hT mF.refl (rW (c := 0) (d := 10) (rR (x := 0)) rfl) (noR.zero vc_X10_tieBetween_v_23) vc_X12_sends_20
theorem vc_X11_ring_v_2 {p1 z41 : Int} (h0 : p1 < 0) (h1 : (-2147483648) ≤ p1 ∧ p1 ≤ (-1)) (h2 : 0 ≤ z41 ∧ z41 ≤ 10) : p1 < 0 ∨ z41 ≤ p1 := by omega
theorem vc_X11_ring_v_4 {p1 z41 : Int} (h0 : p1 < z41) (h1 : 0 ≤ p1) (h2 : 0 ≤ p1 ∧ p1 ≤ 2147483647) (h3 : 0 ≤ z41 ∧ z41 ≤ 10) : 0 ≤ p1 ∧ p1 ≤ 9 := by omega
theorem vc_X11_ring_v_5 {p1 z41 : Int} (h0 : p1 < z41) (h1 : 0 ≤ p1) (h2 : 0 ≤ p1 ∧ p1 ≤ 9) (h3 : 0 ≤ z41 ∧ z41 ≤ 10) : 1 ≤ z41 ∧ z41 ≤ 10 := by omega
theorem vc_X11_ring_v_6 {p1 z41 : Int} (h0 : 0 ≤ p1) (h1 : p1 < z41) (h2 : 0 ≤ p1 ∧ p1 ≤ 9) (h3 : 1 ≤ z41 ∧ z41 ≤ 10) : 0 ≤ p1 ∧ p1 < z41 := by omega
theorem vc_X11_ring_v_7 {p1 z41 : Int} (h0 : 0 ≤ p1) (h1 : z41 ≤ p1) (h2 : 0 ≤ p1 ∧ p1 ≤ 2147483647) (h3 : 0 ≤ z41 ∧ z41 ≤ 10) : p1 < 0 ∨ z41 ≤ p1 := by omega
set_option maxRecDepth 4000 in
set_option maxHeartbeats 4000000 in
theorem c_X11_ring_v {l : Launch} {D : va_G} {c : Nat → ClassId} {H0 : Heap} {sa : Nat × Nat × (Nat → Int32)} {w : mW} {μ : mM} (hw : mWF w) (hT : mT w μ) {p1 : Int} (hp1 : (-2147483648) ≤ p1 ∧ p1 ≤ 2147483647) {f_n : Int} (q_f_n : μ 6 16 = f_n) {f_dm : Int} (q_f_dm : μ 6 15 = f_dm) : sC (gG l D c H0 sa) mX11_ring 5 0 0 [.ref 0, iv p1] (mk w μ) (qI w [12999, 13999] μ (fun z μ1 => ((-2147483648) ≤ z ∧ z ≤ 2147483647) ∧ (rgZ (edgC μ f_n) f_dm.toNat p1 z) ∧ True)) := by
  refine sC.of rfl (by decide) (le_t rfl) ?_
  have ht_f_n : (f_n = w.2.2.2 1 ∧ 0 ≤ f_n ∧ f_n ≤ 20) := by rw [← q_f_n]; exact hT 6 6 (A_6 hw) 16
  have ht_f_dm : (f_dm = w.2.2.2 0 ∧ 0 ≤ f_dm ∧ f_dm ≤ 10) := by rw [← q_f_dm]; exact hT 6 6 (A_6 hw) 15
  refine mr_lvE (lv' := [(0, .ref 0), (1, iv p1)]) rfl ?_
  refine sv_aload_n (pc := 0) dX11_ring_0 rfl rfl ?_
  refine gf_X11_3 (pc := 1) dX11_ring_1 wF_X11_26 (A_0 hw) hT ?_
  refine mr_cVI (pc := 4) (c_X10_findRing_v hw hT q_f_n q_f_dm) (gOk _ _ _ _ _) dX11_ring_4 (tX10_findRing _ _ _ _ _) ⟨wV_X10_findRing, wL_X10_findRing⟩ wM_X11_162 (gCX10 _ _ _ _ _) rfl (A_6 hw) rfl ⟨le_t rfl, le_t rfl⟩ ⟨le_t rfl, le_t rfl⟩ rfl (le_t rfl) fun z41 μ37 T38 F39 h40 => ?_
  refine mr_istore_n (pc := 7) (lv' := [(2, iv z41), (0, .ref 0), (1, iv p1)]) dX11_ring_7 rfl (by decide) rfl ?_
  refine mr_iload_n (pc := 8) (z := p1) dX11_ring_8 rfl rfl ?_
  refine mr_if_lt (pc := 9) (tgt := 17) dX11_ring_9 (by decide) hp1 (fun h42 => ?_) (fun h42 => ?_)
  · have h43 : (-2147483648) ≤ p1 ∧ p1 ≤ (-1) := (vc_X12_cut_1 h42 hp1)
    refine mr_ldc (pc := 17) (z := (-99999999)) dX11_ring_17 wG_X11_165 (by decide) ?_
    refine sv_goto (pc := 19) (tgt := 31) dX11_ring_19 (by decide) ?_
    exact mr_iret dX11_ring_31 rfl (le_t rfl) (le_t rfl) T38 (mF.call mF.refl F39 rfl) ⟨(rW (c := (-2147483648)) (d := 2147483647) (rR (x := (-99999999))) rfl), (fiZ.none h40.2.1 (vc_X11_ring_v_2 h42 h43 h40.1)), trivial⟩
  have h44 : 0 ≤ p1 ∧ p1 ≤ 2147483647 := (vc_X12_cut_2 h42 hp1)
  refine mr_iload_n (pc := 12) (z := p1) dX11_ring_12 rfl rfl ?_
  refine mr_iload_n (pc := 13) (z := z41) dX11_ring_13 rfl rfl ?_
  refine mr_icmp_lt (pc := 14) (tgt := 22) dX11_ring_14 (by decide) (r32 h44 rfl) (r32 h40.1 rfl) (fun h45 => ?_) (fun h45 => ?_)
  · have h46 : 0 ≤ p1 ∧ p1 ≤ 9 := (vc_X11_ring_v_4 h45 h42 h44 h40.1)
    have h47 : 1 ≤ z41 ∧ z41 ≤ 10 := (vc_X11_ring_v_5 h45 h42 h46 h40.1)
    refine sv_aload_n (pc := 22) dX11_ring_22 rfl rfl ?_
    refine gf_X11_3 (pc := 23) dX11_ring_23 wF_X11_26 (A_0 hw) T38 ?_
    refine gf_X10_5 (pc := 26) dX11_ring_26 wF_X11_166 (A_6 hw) T38 ?_
    refine mr_iload_n (pc := 29) (z := p1) dX11_ring_29 rfl rfl ?_
    refine la_12 (pc := 30) dX11_ring_30 (A_12 hw) T38 (rIx (n := 10) h46 rfl) fun z48 q49 h50 => ?_
    exact mr_iret dX11_ring_31 rfl (le_t rfl) (le_t rfl) T38 (mF.call mF.refl F39 rfl) ⟨(rW (c := (-2147483648)) (d := 2147483647) h50 rfl), (fiZ.at h40.2.1 (vc_X11_ring_v_6 h42 h45 h46 h47) q49), trivial⟩
  refine mr_ldc (pc := 17) (z := (-99999999)) dX11_ring_17 wG_X11_165 (by decide) ?_
  refine sv_goto (pc := 19) (tgt := 31) dX11_ring_19 (by decide) ?_
  exact mr_iret dX11_ring_31 rfl (le_t rfl) (le_t rfl) T38 (mF.call mF.refl F39 rfl) ⟨(rW (c := (-2147483648)) (d := 2147483647) (rR (x := (-99999999))) rfl), (fiZ.none h40.2.1 (vc_X11_ring_v_7 h42 h45 h44 h40.1)), trivial⟩
theorem vc_X12_provides_v_7 {z50 : Int} (h0 : z50 = -99999999 ∨ (0 ≤ z50 ∧ z50 ≤ 19)) (h1 : ¬ z50 = (-99999999)) (h2 : 0 ≤ z50 ∧ z50 ≤ 19) : 0 ≤ z50 := by omega
theorem vc_X12_provides_v_10 {z50 : Int} (h0 : z50 = -99999999 ∨ (0 ≤ z50 ∧ z50 ≤ 19)) (h1 : ¬ z50 = (-99999999)) (h2 : 0 ≤ z50 ∧ z50 ≤ 19) : (2 * z50) = 2 * z50 + ((0 : Nat) : Int) := by omega
theorem vc_X12_provides_v_12 {p1 z60 : Int} (h0 : ¬ z60 = p1) (h1 : 0 ≤ p1 ∧ p1 ≤ 9) (h2 : 0 ≤ z60 ∧ z60 ≤ 9) : 0 ≤ p1 := by omega
theorem vc_X12_provides_v_14 {p1 z60 : Int} (h0 : z60 = p1) (h1 : 0 ≤ p1 ∧ p1 ≤ 9) (h2 : 0 ≤ z60 ∧ z60 ≤ 9) : z60 = p1 := by omega
set_option maxRecDepth 4000 in
set_option maxHeartbeats 4000000 in
theorem c_X12_provides_v {l : Launch} {D : va_G} {c : Nat → ClassId} {H0 : Heap} {sa : Nat × Nat × (Nat → Int32)} {w : mW} {μ : mM} (hw : mWF w) (hT : mT w μ) {p1 : Int} (hp1 : 0 ≤ p1 ∧ p1 ≤ 9) {p2 : Int} (hp2 : 0 ≤ p2 ∧ p2 ≤ 9) {f_n : Int} (q_f_n : μ 106 6 = f_n) (htu : TUQ (tr μ 0) (tr μ 1) f_n) : sC (gG l D c H0 sa) mX12_provides 2 0 0 [.ref 106, iv p1, iv p2] (mk w μ) (qP w μ (fun z => (0 ≤ z ∧ z ≤ 1) ∧ ((z = 1 ↔ edgR μ f_n p1.toNat p2.toNat)) ∧ True)) := by
  refine sC.of rfl (by decide) (le_t rfl) ?_
  have ht_f_n : (0 ≤ f_n ∧ f_n ≤ 20) := by rw [← q_f_n]; exact hT 106 106 (A_106 hw) 6
  refine mr_lvE (lv' := [(0, .ref 106), (1, iv p1), (2, iv p2)]) rfl ?_
  refine sv_aload_n (pc := 0) dX12_provides_0 rfl rfl ?_
  refine mr_iload_n (pc := 1) (z := p1) dX12_provides_1 rfl rfl ?_
  refine mr_iload_n (pc := 2) (z := p2) dX12_provides_2 rfl rfl ?_
  refine mr_cVP (pc := 3) (c_X12_tieOf_v hw hT (rW (c := (-2147483648)) (d := 2147483647) hp1 rfl) (rW (c := (-2147483648)) (d := 2147483647) hp2 rfl) q_f_n) (gOk _ _ _ _ _) dX12_provides_3 (tX12_tieOf _ _ _ _ _) ⟨wV_X12_tieOf, wL_X12_tieOf⟩ wM_X12_43 (gCX12 _ _ _ _ _) rfl (A_106 hw) rfl ⟨le_t rfl, le_t rfl⟩ ⟨le_t rfl, le_t rfl⟩ rfl (le_t rfl) fun z50 h49 => ?_
  refine mr_istore_n (pc := 6) (lv' := [(3, iv z50), (0, .ref 106), (1, iv p1), (2, iv p2)]) dX12_provides_6 rfl (by decide) rfl ?_
  refine mr_iload_n (pc := 7) (z := z50) dX12_provides_7 rfl rfl ?_
  refine mr_ldc (pc := 8) (z := (-99999999)) dX12_provides_8 wG_X12_29 (by decide) ?_
  refine mr_icmp_eq (pc := 10) (tgt := 38) dX12_provides_10 (by decide) (r32 h49.1 rfl) (r32 (rR (x := (-99999999))) rfl) (fun h51 => ?_) (fun h51 => ?_)
  · have h52 : (-99999999) ≤ z50 ∧ z50 ≤ (-99999999) := (vc_X12_letWay_17 h51 h49.2.1 h49.1)
    refine mr_iconst (pc := 38) (z := 0) dX12_provides_38 ?_
    exact mr_zretP dX12_provides_39 rfl (rW (c := 0) (d := 1) (rR (x := 0)) rfl) (le_t rfl) (le_t rfl) ⟨(rW (c := 0) (d := 1) (rR (x := 0)) rfl), ⟨fun h => absurd h (by decide), fun h => absurd h (prov.no htu (fun i _ => trAll hw hT i) (vc_X12_why_u_29 hp1) (vc_X12_why_u_29 hp2) (h49.2.2.1) (by decide) (Or.inl (vc_X12_tie_v_29 h49.2.1 h51 h52)))⟩, trivial⟩
  have h53 : 0 ≤ z50 ∧ z50 ≤ 19 := (vc_X12_letWay_4 h51 h49.2.1 h49.1)
  refine sv_aload_n (pc := 13) dX12_provides_13 rfl rfl ?_
  refine gf_X12_8 (pc := 14) dX12_provides_14 wF_X12_46 (A_106 hw) hT ?_
  refine mr_iload_n (pc := 17) (z := z50) dX12_provides_17 rfl rfl ?_
  refine la_111 (pc := 18) dX12_provides_18 (A_111 hw) hT (rIx (n := 20) h53 rfl) fun z54 q55 h56 => ?_
  refine mr_if_ne (pc := 19) (tgt := 38) dX12_provides_19 (by decide) (r32 h56 rfl) (fun h57 => ?_) (fun h57 => ?_)
  · have h58 : 1 ≤ z54 ∧ z54 ≤ 2 := (vc_X10_coneOf_12 h57 h56)
    refine mr_iconst (pc := 38) (z := 0) dX12_provides_38 ?_
    exact mr_zretP dX12_provides_39 rfl (rW (c := 0) (d := 1) (rR (x := 0)) rfl) (le_t rfl) (le_t rfl) ⟨(rW (c := 0) (d := 1) (rR (x := 0)) rfl), ⟨fun h => absurd h (by decide), fun h => absurd h (prov.no htu (fun i _ => trAll hw hT i) (vc_X12_why_u_29 hp1) (vc_X12_why_u_29 hp2) (h49.2.2.1) (by decide) (Or.inr ⟨(vc_X12_provides_v_7 h49.2.1 h51 h53), Or.inl (fun g => (vc_X4_leadBack_42 h57 h58) ((q55).symm.trans g))⟩))⟩, trivial⟩
  have h59 : 0 ≤ z54 ∧ z54 ≤ 0 := (vc_X10_coneOf_13 h57 h56)
  refine sv_aload_n (pc := 22) dX12_provides_22 rfl rfl ?_
  refine gf_X12_7 (pc := 23) dX12_provides_23 wF_X12_40 (A_106 hw) hT ?_
  refine mr_iconst (pc := 26) (z := 2) dX12_provides_26 ?_
  refine mr_iload_n (pc := 27) (z := z50) dX12_provides_27 rfl rfl ?_
  refine mr_imul (pc := 28) (x := 2) (y := z50) dX12_provides_28 ?_
  refine la_110 (pc := 29) dX12_provides_29 (A_110 hw) hT (rIx (n := 40) (rMulL (n := 2) (e := 0) (f := 38) h53 rfl) rfl) fun z60 q61 h62 => ?_
  refine mr_iload_n (pc := 30) (z := p1) dX12_provides_30 rfl rfl ?_
  refine mr_icmp_ne (pc := 31) (tgt := 38) dX12_provides_31 (by decide) (r32 h62 rfl) (r32 hp1 rfl) (fun h63 => ?_) (fun h63 => ?_)
  · refine mr_iconst (pc := 38) (z := 0) dX12_provides_38 ?_
    exact mr_zretP dX12_provides_39 rfl (rW (c := 0) (d := 1) (rR (x := 0)) rfl) (le_t rfl) (le_t rfl) ⟨(rW (c := 0) (d := 1) (rR (x := 0)) rfl), ⟨fun h => absurd h (by decide), fun h => absurd h (prov.no htu (fun i _ => trAll hw hT i) (vc_X12_provides_v_12 h63 hp1 h62) (vc_X12_why_u_29 hp2) (h49.2.2.1) (by decide) (Or.inr ⟨(vc_X12_provides_v_7 h49.2.1 h51 h53), Or.inr (fun g => (vc_X12_goes_18 h63 hp1 h62) (((trOf 0 q61 (vc_X12_provides_v_10 h49.2.1 h51 h53) (vc_X12_provides_v_7 h49.2.1 h51 h53))).symm.trans g))⟩))⟩, trivial⟩
  refine mr_iconst (pc := 34) (z := 1) dX12_provides_34 ?_
  refine sv_goto (pc := 35) (tgt := 39) dX12_provides_35 (by decide) ?_
  exact mr_zretP dX12_provides_39 rfl (rW (c := 0) (d := 1) (rR (x := 1)) rfl) (le_t rfl) (le_t rfl) ⟨(rW (c := 0) (d := 1) (rR (x := 1)) rfl), ⟨fun _ => prov.yes (h49.2.2.1) (vc_X12_provides_v_7 h49.2.1 h51 h53) (by decide) ((q55).trans (vc_X12_goes_7 h57 h59)) (((trOf 0 q61 (vc_X12_provides_v_10 h49.2.1 h51 h53) (vc_X12_provides_v_7 h49.2.1 h51 h53))).trans (vc_X12_provides_v_14 h63 hp1 h62)), fun _ => rfl⟩, trivial⟩
theorem vc_X12_ring_v_3 {p1 : Int} (h0 : 0 ≤ p1) (h1 : 0 ≤ p1 ∧ p1 ≤ 2147483647) : 0 ≤ p1 := by omega
theorem vc_X12_ring_v_4 {f_dm z18279 : Int} (h0 : f_dm ≤ z18279) (h1 : 0 ≤ f_dm ∧ f_dm ≤ 10) (h2 : 0 ≤ z18279 ∧ z18279 ≤ 10) : ((f_dm.toNat : Nat) : Int) ≤ z18279 := by omega
theorem vc_X12_ring_v_9 {z20766 : Int} (h0 : (12 - z20766) < ((0 : Nat) : Int)) (h1 : 1 ≤ z20766 ∧ z20766 ≤ 11) : False := by omega
theorem vc_X12_ring_v_10 {f_dm z18279 z20766 : Int} (h0 : f_dm < z20766) (h1 : z18279 < f_dm) (h2 : 1 ≤ f_dm ∧ f_dm ≤ 10) (h3 : 0 ≤ z18279 ∧ z18279 ≤ 9) (h4 : 1 ≤ z20766 ∧ z20766 ≤ 11) : 2 ≤ z20766 ∧ z20766 ≤ 11 := by omega
theorem vc_X12_ring_v_11 {z20908 : Int} (h0 : z20908 = -99999999 ∨ (0 ≤ z20908 ∧ z20908 ≤ 10)) : -99999999 ≤ z20908 ∧ z20908 ≤ 10 := by omega
theorem vc_X12_ring_v_12 {z20908 : Int} (h0 : ¬ z20908 = (-99999999)) (h1 : (-99999999) ≤ z20908 ∧ z20908 ≤ 10) (h2 : z20908 = -99999999 ∨ (0 ≤ z20908 ∧ z20908 ≤ 10)) : 0 ≤ z20908 ∧ z20908 ≤ 10 := by omega
theorem vc_X12_ring_v_13 {f_dm z18279 z20766 : Int} (h0 : z18279 < f_dm) (h1 : f_dm < z20766) (h2 : 1 ≤ f_dm ∧ f_dm ≤ 10) (h3 : 0 ≤ z18279 ∧ z18279 ≤ 9) (h4 : 2 ≤ z20766 ∧ z20766 ≤ 11) : (z18279).toNat < 10 := by omega
theorem vc_X12_ring_v_14 {z20908 : Int} (h0 : ¬ z20908 = (-99999999)) (h1 : 0 ≤ z20908 ∧ z20908 ≤ 10) (h2 : z20908 = -99999999 ∨ (0 ≤ z20908 ∧ z20908 ≤ 10)) : ¬ z20908 = -99999999 := by omega
theorem vc_X12_ring_v_15 {p1 z20766 z20908 : Int} (h0 : p1 < z20908) (h1 : 0 ≤ p1) (h2 : ¬ z20908 = (-99999999)) (h3 : 0 ≤ z20908 ∧ z20908 < z20766) (h4 : 0 ≤ p1 ∧ p1 ≤ 2147483647) (h5 : 2 ≤ z20766 ∧ z20766 ≤ 11) (h6 : 0 ≤ z20908 ∧ z20908 ≤ 10) (h7 : z20908 = -99999999 ∨ (0 ≤ z20908 ∧ z20908 ≤ 10)) : 0 ≤ p1 ∧ p1 ≤ 9 := by omega
theorem vc_X12_ring_v_16 {p1 z20766 z20908 : Int} (h0 : p1 < z20908) (h1 : 0 ≤ p1) (h2 : ¬ z20908 = (-99999999)) (h3 : 0 ≤ z20908 ∧ z20908 < z20766) (h4 : 0 ≤ p1 ∧ p1 ≤ 9) (h5 : 2 ≤ z20766 ∧ z20766 ≤ 11) (h6 : 0 ≤ z20908 ∧ z20908 ≤ 10) (h7 : z20908 = -99999999 ∨ (0 ≤ z20908 ∧ z20908 ≤ 10)) : 1 ≤ z20908 ∧ z20908 ≤ 10 := by omega
theorem vc_X12_ring_v_17 {p1 z20908 z21164 : Int} (h0 : (10 - z21164) < ((0 : Nat) : Int)) (h1 : z21164 ≤ p1) (h2 : 0 ≤ p1) (h3 : p1 < z20908) (h4 : 0 ≤ p1 ∧ p1 ≤ 9) (h5 : 1 ≤ z20908 ∧ z20908 ≤ 10) (h6 : z20908 = -99999999 ∨ (0 ≤ z20908 ∧ z20908 ≤ 10)) (h7 : 0 ≤ z21164 ∧ z21164 ≤ 9) : False := by omega
theorem vc_X12_ring_v_19 {f_dm z18279 z20766 z20908 : Int} (h0 : z18279 < f_dm) (h1 : f_dm < z20766) (h2 : 0 ≤ z20908 ∧ z20908 < z20766) (h3 : 1 ≤ f_dm ∧ f_dm ≤ 10) (h4 : 0 ≤ z18279 ∧ z18279 ≤ 9) (h5 : 2 ≤ z20766 ∧ z20766 ≤ 11) (h6 : 1 ≤ z20908 ∧ z20908 ≤ 10) (h7 : z20908 = -99999999 ∨ (0 ≤ z20908 ∧ z20908 ≤ 10)) : 0 ≤ z18279 ∧ z18279 < ((f_dm.toNat : Nat) : Int) := by omega
theorem vc_X12_ring_v_20 {f_dm p1 z20766 z20908 z21164 : Int} (h0 : 0 ≤ p1) (h1 : ¬ z20908 = (-99999999)) (h2 : 0 ≤ z20908 ∧ z20908 < z20766) (h3 : p1 < z20908) (h4 : z21164 ≤ p1) (h5 : p1 ≤ z21164) (h6 : f_dm < z20766) (h7 : 1 ≤ f_dm ∧ f_dm ≤ 10) (h8 : 0 ≤ p1 ∧ p1 ≤ 9) (h9 : 2 ≤ z20766 ∧ z20766 ≤ 11) (h10 : 1 ≤ z20908 ∧ z20908 ≤ 10) (h11 : z20908 = -99999999 ∨ (0 ≤ z20908 ∧ z20908 ≤ 10)) (h12 : 0 ≤ z21164 ∧ z21164 ≤ 9) : 0 ≤ p1 ∧ p1 < z20908 := by omega
theorem vc_X12_ring_v_21 {p1 z20766 z20908 z21164 : Int} (h0 : 0 ≤ p1) (h1 : p1 < z20908) (h2 : z21164 ≤ p1) (h3 : p1 ≤ z21164) (h4 : ¬ z20908 = (-99999999)) (h5 : 0 ≤ z20908 ∧ z20908 < z20766) (h6 : 0 ≤ p1 ∧ p1 ≤ 9) (h7 : 2 ≤ z20766 ∧ z20766 ≤ 11) (h8 : 1 ≤ z20908 ∧ z20908 ≤ 10) (h9 : z20908 = -99999999 ∨ (0 ≤ z20908 ∧ z20908 ≤ 10)) (h10 : 0 ≤ z21164 ∧ z21164 ≤ 9) : z21164 = p1 := by omega
theorem vc_X12_ring_v_23 {p1 z20908 z21164 : Int} (h0 : z21164 < p1) (h1 : 0 ≤ p1) (h2 : p1 < z20908) (h3 : z21164 ≤ p1) (h4 : 0 ≤ p1 ∧ p1 ≤ 9) (h5 : 1 ≤ z20908 ∧ z20908 ≤ 10) (h6 : z20908 = -99999999 ∨ (0 ≤ z20908 ∧ z20908 ≤ 10)) (h7 : 0 ≤ z21164 ∧ z21164 ≤ 9) : 0 ≤ z21164 ∧ z21164 ≤ 8 := by omega
theorem vc_X12_ring_v_24 {p1 z20908 z21164 : Int} (h0 : z21164 < p1) (h1 : 0 ≤ p1) (h2 : p1 < z20908) (h3 : z21164 ≤ p1) (h4 : 0 ≤ p1 ∧ p1 ≤ 9) (h5 : 1 ≤ z20908 ∧ z20908 ≤ 10) (h6 : z20908 = -99999999 ∨ (0 ≤ z20908 ∧ z20908 ≤ 10)) (h7 : 0 ≤ z21164 ∧ z21164 ≤ 8) : 1 ≤ p1 ∧ p1 ≤ 9 := by omega
theorem vc_X12_ring_v_26 {f_dm z18279 z20766 z21339 : Int} (h0 : f_dm ≤ z21339) (h1 : z18279 < f_dm) (h2 : f_dm < z20766) (h3 : 1 ≤ f_dm ∧ f_dm ≤ 10) (h4 : 0 ≤ z18279 ∧ z18279 ≤ 9) (h5 : 2 ≤ z20766 ∧ z20766 ≤ 11) (h6 : 0 ≤ z21339 ∧ z21339 ≤ 10) : 1 ≤ z21339 ∧ z21339 ≤ 10 := by omega
theorem vc_X12_ring_v_27 {f_dm p1 z18279 z20766 z20908 z21164 z21339 : Int} (h0 : f_dm < z20766) (h1 : ¬ z20908 = (-99999999)) (h2 : 0 ≤ z20908 ∧ z20908 < z20766) (h3 : p1 < z20908) (h4 : 0 ≤ p1) (h5 : z18279 < f_dm) (h6 : z21164 ≤ p1) (h7 : z21164 < p1) (h8 : f_dm ≤ z21339) (h9 : 1 ≤ f_dm ∧ f_dm ≤ 10) (h10 : 1 ≤ p1 ∧ p1 ≤ 9) (h11 : 0 ≤ z18279 ∧ z18279 ≤ 9) (h12 : 2 ≤ z20766 ∧ z20766 ≤ 11) (h13 : 1 ≤ z20908 ∧ z20908 ≤ 10) (h14 : z20908 = -99999999 ∨ (0 ≤ z20908 ∧ z20908 ≤ 10)) (h15 : 0 ≤ z21164 ∧ z21164 ≤ 8) (h16 : 1 ≤ z21339 ∧ z21339 ≤ 10) : 0 ≤ z20908 ∧ z20908 < z20766 := by omega
theorem vc_X12_ring_v_28 {f_dm z18279 z20766 z20908 z21339 : Int} (h0 : z18279 < f_dm) (h1 : f_dm < z20766) (h2 : f_dm ≤ z21339) (h3 : 0 ≤ z20908 ∧ z20908 < z20766) (h4 : 1 ≤ f_dm ∧ f_dm ≤ 10) (h5 : 0 ≤ z18279 ∧ z18279 ≤ 9) (h6 : 2 ≤ z20766 ∧ z20766 ≤ 11) (h7 : 1 ≤ z20908 ∧ z20908 ≤ 10) (h8 : z20908 = -99999999 ∨ (0 ≤ z20908 ∧ z20908 ≤ 10)) (h9 : 1 ≤ z21339 ∧ z21339 ≤ 10) : f_dm.toNat ≤ 10 := by omega
theorem vc_X12_ring_v_29 {f_dm p1 z20766 z20908 z21164 : Int} (h0 : 0 ≤ p1) (h1 : ¬ z20908 = (-99999999)) (h2 : 0 ≤ z20908 ∧ z20908 < z20766) (h3 : p1 < z20908) (h4 : z21164 ≤ p1) (h5 : z21164 < p1) (h6 : f_dm < z20766) (h7 : 1 ≤ f_dm ∧ f_dm ≤ 10) (h8 : 1 ≤ p1 ∧ p1 ≤ 9) (h9 : 2 ≤ z20766 ∧ z20766 ≤ 11) (h10 : 1 ≤ z20908 ∧ z20908 ≤ 10) (h11 : z20908 = -99999999 ∨ (0 ≤ z20908 ∧ z20908 ≤ 10)) (h12 : 0 ≤ z21164 ∧ z21164 ≤ 8) : 0 ≤ z21164 ∧ z21164 + 1 < z20908 := by omega
theorem vc_X12_ring_v_30 {f_dm p1 z20766 z20908 z21164 : Int} (h0 : ¬ z20908 = (-99999999)) (h1 : 0 ≤ z20908 ∧ z20908 < z20766) (h2 : p1 < z20908) (h3 : z21164 ≤ p1) (h4 : z21164 < p1) (h5 : 0 ≤ p1) (h6 : f_dm < z20766) (h7 : 1 ≤ f_dm ∧ f_dm ≤ 10) (h8 : 1 ≤ p1 ∧ p1 ≤ 9) (h9 : 2 ≤ z20766 ∧ z20766 ≤ 11) (h10 : 1 ≤ z20908 ∧ z20908 ≤ 10) (h11 : z20908 = -99999999 ∨ (0 ≤ z20908 ∧ z20908 ≤ 10)) (h12 : 0 ≤ z21164 ∧ z21164 ≤ 8) : ((z20908 - z21164) - 1) = z20908 - z21164 - 1 := by omega
theorem vc_X12_ring_v_31 {f_dm z18279 z20766 z20908 z21339 z21340 : Int} (h0 : z18279 < f_dm) (h1 : f_dm < z20766) (h2 : f_dm ≤ z21339) (h3 : 0 ≤ z20908 ∧ z20908 < z20766) (h4 : 1 ≤ f_dm ∧ f_dm ≤ 10) (h5 : 0 ≤ z18279 ∧ z18279 ≤ 9) (h6 : 2 ≤ z20766 ∧ z20766 ≤ 11) (h7 : 1 ≤ z20908 ∧ z20908 ≤ 10) (h8 : z20908 = -99999999 ∨ (0 ≤ z20908 ∧ z20908 ≤ 10)) (h9 : 1 ≤ z21339 ∧ z21339 ≤ 10) (h10 : (-99999999) ≤ z21340 ∧ z21340 ≤ 9) : ((f_dm.toNat : Nat) : Int) ≤ z21339 ∨ ¬ z21340 = -99999999 := by omega
theorem vc_X12_ring_v_32 {z21340 : Int} (h0 : 0 ≤ z21340 ∧ z21340 ≤ 9) (h1 : (-99999999) ≤ z21340 ∧ z21340 ≤ 9) : 0 ≤ z21340 ∧ z21340 ≤ 9 := by omega
theorem vc_X12_ring_v_33 {p1 z20766 z20908 z21164 : Int} (h0 : 0 ≤ p1) (h1 : p1 < z20908) (h2 : z21164 ≤ p1) (h3 : z21164 < p1) (h4 : ¬ z20908 = (-99999999)) (h5 : 0 ≤ z20908 ∧ z20908 < z20766) (h6 : 1 ≤ p1 ∧ p1 ≤ 9) (h7 : 2 ≤ z20766 ∧ z20766 ≤ 11) (h8 : 1 ≤ z20908 ∧ z20908 ≤ 10) (h9 : z20908 = -99999999 ∨ (0 ≤ z20908 ∧ z20908 ≤ 10)) (h10 : 0 ≤ z21164 ∧ z21164 ≤ 8) : (z21164 + 1) ≤ p1 := by omega
theorem vc_X12_ring_v_34 {N p1 z20908 z21164 : Int} (h0 : (10 - z21164) < N + 1) (h1 : z21164 ≤ p1) (h2 : z21164 < p1) (h3 : 0 ≤ p1) (h4 : p1 < z20908) (h5 : 1 ≤ p1 ∧ p1 ≤ 9) (h6 : 1 ≤ z20908 ∧ z20908 ≤ 10) (h7 : z20908 = -99999999 ∨ (0 ≤ z20908 ∧ z20908 ≤ 10)) (h8 : 0 ≤ z21164 ∧ z21164 ≤ 8) : (10 - (z21164 + 1)) < N := by omega
theorem vc_X12_ring_v_35 {f_dm z18279 z20766 z21339 : Int} (h0 : z21339 < f_dm) (h1 : z18279 < f_dm) (h2 : f_dm < z20766) (h3 : 1 ≤ f_dm ∧ f_dm ≤ 10) (h4 : 0 ≤ z18279 ∧ z18279 ≤ 9) (h5 : 2 ≤ z20766 ∧ z20766 ≤ 11) (h6 : 0 ≤ z21339 ∧ z21339 ≤ 10) : 0 ≤ z21339 ∧ z21339 ≤ 9 := by omega
theorem vc_X12_ring_v_36 {z21340 : Int} (h0 : ¬ z21340 = (-99999999)) (h1 : (-99999999) ≤ z21340 ∧ z21340 ≤ 9) : (-99999998) ≤ z21340 ∧ z21340 ≤ 9 := by omega
theorem vc_X12_ring_v_37 {f_dm p1 z18279 z20766 z20908 z21164 z21339 : Int} (h0 : f_dm < z20766) (h1 : ¬ z20908 = (-99999999)) (h2 : 0 ≤ z20908 ∧ z20908 < z20766) (h3 : p1 < z20908) (h4 : 0 ≤ p1) (h5 : z18279 < f_dm) (h6 : z21164 ≤ p1) (h7 : z21164 < p1) (h8 : z21339 < f_dm) (h9 : 1 ≤ f_dm ∧ f_dm ≤ 10) (h10 : 1 ≤ p1 ∧ p1 ≤ 9) (h11 : 0 ≤ z18279 ∧ z18279 ≤ 9) (h12 : 2 ≤ z20766 ∧ z20766 ≤ 11) (h13 : 1 ≤ z20908 ∧ z20908 ≤ 10) (h14 : z20908 = -99999999 ∨ (0 ≤ z20908 ∧ z20908 ≤ 10)) (h15 : 0 ≤ z21164 ∧ z21164 ≤ 8) (h16 : 0 ≤ z21339 ∧ z21339 ≤ 9) : 0 ≤ z20908 ∧ z20908 < z20766 := by omega
theorem vc_X12_ring_v_38 {f_dm z18279 z20766 z20908 z21339 : Int} (h0 : z18279 < f_dm) (h1 : f_dm < z20766) (h2 : z21339 < f_dm) (h3 : 0 ≤ z20908 ∧ z20908 < z20766) (h4 : 1 ≤ f_dm ∧ f_dm ≤ 10) (h5 : 0 ≤ z18279 ∧ z18279 ≤ 9) (h6 : 2 ≤ z20766 ∧ z20766 ≤ 11) (h7 : 1 ≤ z20908 ∧ z20908 ≤ 10) (h8 : z20908 = -99999999 ∨ (0 ≤ z20908 ∧ z20908 ≤ 10)) (h9 : 0 ≤ z21339 ∧ z21339 ≤ 9) : f_dm.toNat ≤ 10 := by omega
theorem vc_X12_ring_v_39 {f_dm z18279 z20766 z20908 z21339 z21340 : Int} (h0 : z18279 < f_dm) (h1 : f_dm < z20766) (h2 : z21339 < f_dm) (h3 : ¬ z21340 = (-99999999)) (h4 : 0 ≤ z20908 ∧ z20908 < z20766) (h5 : 1 ≤ f_dm ∧ f_dm ≤ 10) (h6 : 0 ≤ z18279 ∧ z18279 ≤ 9) (h7 : 2 ≤ z20766 ∧ z20766 ≤ 11) (h8 : 1 ≤ z20908 ∧ z20908 ≤ 10) (h9 : z20908 = -99999999 ∨ (0 ≤ z20908 ∧ z20908 ≤ 10)) (h10 : 0 ≤ z21339 ∧ z21339 ≤ 9) (h11 : (-99999998) ≤ z21340 ∧ z21340 ≤ 9) : ((f_dm.toNat : Nat) : Int) ≤ z21339 ∨ ¬ z21340 = -99999999 := by omega
theorem vc_X12_ring_v_40 {z21340 : Int} (h0 : ¬ z21340 = (-99999999)) (h1 : 0 ≤ z21340 ∧ z21340 ≤ 9) (h2 : (-99999998) ≤ z21340 ∧ z21340 ≤ 9) : 0 ≤ z21340 ∧ z21340 ≤ 9 := by omega
theorem vc_X12_ring_v_41 {z21340 : Int} (h0 : z21340 = (-99999999)) (h1 : (-99999999) ≤ z21340 ∧ z21340 ≤ 9) : (-99999999) ≤ z21340 ∧ z21340 ≤ (-99999999) := by omega
theorem vc_X12_ring_v_43 {N f_dm z18279 z20766 z21339 : Int} (h0 : (11 - z21339) < N + 1) (h1 : z21339 < f_dm) (h2 : z18279 < f_dm) (h3 : f_dm < z20766) (h4 : 1 ≤ f_dm ∧ f_dm ≤ 10) (h5 : 0 ≤ z18279 ∧ z18279 ≤ 9) (h6 : 2 ≤ z20766 ∧ z20766 ≤ 11) (h7 : 0 ≤ z21339 ∧ z21339 ≤ 9) : (11 - (z21339 + 1)) < N := by omega
theorem vc_X12_ring_v_44 {z21340 : Int} (h0 : z21340 = (-99999999)) (h1 : (-99999999) ≤ z21340 ∧ z21340 ≤ (-99999999)) : z21340 = -99999999 := by omega
theorem vc_X12_ring_v_45 {f_dm z18279 z20766 z21339 : Int} (h0 : z21339 < f_dm) (h1 : z18279 < f_dm) (h2 : f_dm < z20766) (h3 : 1 ≤ f_dm ∧ f_dm ≤ 10) (h4 : 0 ≤ z18279 ∧ z18279 ≤ 9) (h5 : 2 ≤ z20766 ∧ z20766 ≤ 11) (h6 : 0 ≤ z21339 ∧ z21339 ≤ 9) : 0 ≤ z21339 := by omega
theorem vc_X12_ring_v_46 {z21362 : Int} (h0 : z21362 = 0) (h1 : 0 ≤ z21362 ∧ z21362 ≤ 0) : ¬ z21362 = 1 := by omega
theorem vc_X12_ring_v_49 {f_dm p1 z20766 z20908 z21164 z21366 : Int} (h0 : ¬ z20908 = (-99999999)) (h1 : 0 ≤ z20908 ∧ z20908 < z20766) (h2 : p1 < z20908) (h3 : z21164 ≤ p1) (h4 : z21164 < p1) (h5 : ¬ z21366 = ((z20908 - z21164) - 1)) (h6 : 0 ≤ p1) (h7 : f_dm < z20766) (h8 : 1 ≤ f_dm ∧ f_dm ≤ 10) (h9 : 1 ≤ p1 ∧ p1 ≤ 9) (h10 : 2 ≤ z20766 ∧ z20766 ≤ 11) (h11 : 1 ≤ z20908 ∧ z20908 ≤ 10) (h12 : z20908 = -99999999 ∨ (0 ≤ z20908 ∧ z20908 ≤ 10)) (h13 : 0 ≤ z21164 ∧ z21164 ≤ 8) (h14 : (-99999999) ≤ z21366 ∧ z21366 ≤ 10) (h15 : z21366 = -99999999 ∨ (0 ≤ z21366 ∧ z21366 ≤ 10)) : ¬ z21366 = ((z20908 - z21164) - 1) := by omega
theorem vc_X12_ring_v_50 {p1 z20766 z20908 z21164 z21366 : Int} (h0 : z21366 = ((z20908 - z21164) - 1)) (h1 : ¬ z20908 = (-99999999)) (h2 : 0 ≤ z20908 ∧ z20908 < z20766) (h3 : p1 < z20908) (h4 : z21164 ≤ p1) (h5 : z21164 < p1) (h6 : 1 ≤ p1 ∧ p1 ≤ 9) (h7 : 2 ≤ z20766 ∧ z20766 ≤ 11) (h8 : 1 ≤ z20908 ∧ z20908 ≤ 10) (h9 : z20908 = -99999999 ∨ (0 ≤ z20908 ∧ z20908 ≤ 10)) (h10 : 0 ≤ z21164 ∧ z21164 ≤ 8) (h11 : (-99999999) ≤ z21366 ∧ z21366 ≤ 10) (h12 : z21366 = -99999999 ∨ (0 ≤ z21366 ∧ z21366 ≤ 10)) : 0 ≤ z21366 ∧ z21366 ≤ 9 := by omega
theorem vc_X12_ring_v_51 {f_dm z18279 z20766 z21339 : Int} (h0 : z21339 < f_dm) (h1 : z18279 < f_dm) (h2 : f_dm < z20766) (h3 : 1 ≤ f_dm ∧ f_dm ≤ 10) (h4 : 0 ≤ z18279 ∧ z18279 ≤ 9) (h5 : 2 ≤ z20766 ∧ z20766 ≤ 11) (h6 : 0 ≤ z21339 ∧ z21339 ≤ 9) : 0 ≤ z21339 ∧ z21339 ≤ 9 := by omega
theorem vc_X12_ring_v_53 {f_dm p1 z20766 z20908 z21164 z21366 : Int} (h0 : ¬ z20908 = (-99999999)) (h1 : 0 ≤ z20908 ∧ z20908 < z20766) (h2 : p1 < z20908) (h3 : z21164 ≤ p1) (h4 : z21164 < p1) (h5 : z21366 = ((z20908 - z21164) - 1)) (h6 : 0 ≤ p1) (h7 : f_dm < z20766) (h8 : 1 ≤ f_dm ∧ f_dm ≤ 10) (h9 : 1 ≤ p1 ∧ p1 ≤ 9) (h10 : 2 ≤ z20766 ∧ z20766 ≤ 11) (h11 : 1 ≤ z20908 ∧ z20908 ≤ 10) (h12 : z20908 = -99999999 ∨ (0 ≤ z20908 ∧ z20908 ≤ 10)) (h13 : 0 ≤ z21164 ∧ z21164 ≤ 8) (h14 : 0 ≤ z21366 ∧ z21366 ≤ 9) (h15 : z21366 = -99999999 ∨ (0 ≤ z21366 ∧ z21366 ≤ 10)) : z21366 = ((z20908 - z21164) - 1) := by omega
theorem vc_X12_ring_v_54 {f_dm z18279 z20766 z21339 : Int} (h0 : z21339 < f_dm) (h1 : z18279 < f_dm) (h2 : f_dm < z20766) (h3 : 1 ≤ f_dm ∧ f_dm ≤ 10) (h4 : 0 ≤ z18279 ∧ z18279 ≤ 9) (h5 : 2 ≤ z20766 ∧ z20766 ≤ 11) (h6 : 0 ≤ z21339 ∧ z21339 ≤ 9) : z21339 = z21339 := by omega
theorem vc_X12_ring_v_57 {p1 z20766 z20908 : Int} (h0 : 0 ≤ p1) (h1 : p1 < z20908) (h2 : ¬ z20908 = (-99999999)) (h3 : 0 ≤ z20908 ∧ z20908 < z20766) (h4 : 0 ≤ p1 ∧ p1 ≤ 9) (h5 : 2 ≤ z20766 ∧ z20766 ≤ 11) (h6 : 1 ≤ z20908 ∧ z20908 ≤ 10) (h7 : z20908 = -99999999 ∨ (0 ≤ z20908 ∧ z20908 ≤ 10)) : (0 : Int) ≤ p1 := by omega
theorem vc_X12_ring_v_60 {f_dm z18279 z20766 z20908 : Int} (h0 : z18279 < f_dm) (h1 : f_dm < z20766) (h2 : 0 ≤ z20908 ∧ z20908 < z20766) (h3 : 1 ≤ f_dm ∧ f_dm ≤ 10) (h4 : 0 ≤ z18279 ∧ z18279 ≤ 9) (h5 : 2 ≤ z20766 ∧ z20766 ≤ 11) (h6 : 0 ≤ z20908 ∧ z20908 ≤ 10) (h7 : z20908 = -99999999 ∨ (0 ≤ z20908 ∧ z20908 ≤ 10)) : 0 ≤ z18279 ∧ z18279 < ((f_dm.toNat : Nat) : Int) := by omega
theorem vc_X12_ring_v_61 {f_dm p1 z20766 z20908 : Int} (h0 : 0 ≤ p1) (h1 : ¬ z20908 = (-99999999)) (h2 : 0 ≤ z20908 ∧ z20908 < z20766) (h3 : z20908 ≤ p1) (h4 : f_dm < z20766) (h5 : 1 ≤ f_dm ∧ f_dm ≤ 10) (h6 : 0 ≤ p1 ∧ p1 ≤ 2147483647) (h7 : 2 ≤ z20766 ∧ z20766 ≤ 11) (h8 : 0 ≤ z20908 ∧ z20908 ≤ 10) (h9 : z20908 = -99999999 ∨ (0 ≤ z20908 ∧ z20908 ≤ 10)) : 0 ≤ p1 ∧ z20908 ≤ p1 := by omega
theorem vc_X12_ring_v_62 {f_dm p1 z20766 z20908 : Int} (h0 : ¬ z20908 = (-99999999)) (h1 : 0 ≤ z20908 ∧ z20908 < z20766) (h2 : z20908 ≤ p1) (h3 : 0 ≤ p1) (h4 : f_dm < z20766) (h5 : 1 ≤ f_dm ∧ f_dm ≤ 10) (h6 : 0 ≤ p1 ∧ p1 ≤ 2147483647) (h7 : 2 ≤ z20766 ∧ z20766 ≤ 11) (h8 : 0 ≤ z20908 ∧ z20908 ≤ 10) (h9 : z20908 = -99999999 ∨ (0 ≤ z20908 ∧ z20908 ≤ 10)) : 0 ≤ z20908 := by omega
theorem vc_X12_ring_v_63 {z20908 : Int} (h0 : z20908 = (-99999999)) (h1 : (-99999999) ≤ z20908 ∧ z20908 ≤ 10) (h2 : z20908 = -99999999 ∨ (0 ≤ z20908 ∧ z20908 ≤ 10)) : (-99999999) ≤ z20908 ∧ z20908 ≤ (-99999999) := by omega
theorem vc_X12_ring_v_64 {N f_dm z18279 z20766 : Int} (h0 : (11 - z18279) < N + 1) (h1 : z18279 < f_dm) (h2 : f_dm < z20766) (h3 : 1 ≤ f_dm ∧ f_dm ≤ 10) (h4 : 0 ≤ z18279 ∧ z18279 ≤ 9) (h5 : 2 ≤ z20766 ∧ z20766 ≤ 11) : (11 - (z18279 + 1)) < N := by omega
theorem vc_X12_ring_v_65 {f_dm z18279 z20766 : Int} (h0 : z18279 < f_dm) (h1 : f_dm < z20766) (h2 : 1 ≤ f_dm ∧ f_dm ≤ 10) (h3 : 0 ≤ z18279 ∧ z18279 ≤ 9) (h4 : 2 ≤ z20766 ∧ z20766 ≤ 11) : 0 ≤ z18279 := by omega
theorem vc_X12_ring_v_66 {z20908 : Int} (h0 : z20908 = (-99999999)) (h1 : (-99999999) ≤ z20908 ∧ z20908 ≤ (-99999999)) (h2 : z20908 = -99999999 ∨ (0 ≤ z20908 ∧ z20908 ≤ 10)) : z20908 = -99999999 := by omega
theorem vc_X12_ring_v_67 {f_dm z18279 z20766 : Int} (h0 : z18279 < f_dm) (h1 : f_dm < z20766) (h2 : 1 ≤ f_dm ∧ f_dm ≤ 10) (h3 : 0 ≤ z18279 ∧ z18279 ≤ 9) (h4 : 2 ≤ z20766 ∧ z20766 ≤ 11) : ((f_dm.toNat : Nat) : Int) < z20766 := by omega
theorem vc_X12_ring_v_68 {f_dm z18279 z20766 : Int} (h0 : z18279 < f_dm) (h1 : f_dm < z20766) (h2 : 1 ≤ f_dm ∧ f_dm ≤ 10) (h3 : 0 ≤ z18279 ∧ z18279 ≤ 9) (h4 : 2 ≤ z20766 ∧ z20766 ≤ 11) : (z18279).toNat < f_dm.toNat := by omega
theorem vc_X12_ring_v_69 {f_dm z18279 z20766 : Int} (h0 : z20766 ≤ f_dm) (h1 : z18279 < f_dm) (h2 : 1 ≤ f_dm ∧ f_dm ≤ 10) (h3 : 0 ≤ z18279 ∧ z18279 ≤ 9) (h4 : 1 ≤ z20766 ∧ z20766 ≤ 11) : 1 ≤ z20766 ∧ z20766 ≤ 10 := by omega
theorem vc_X12_ring_v_71 {f_dm z18279 z20766 z21820 : Int} (h0 : f_dm ≤ z21820) (h1 : z18279 < f_dm) (h2 : z20766 ≤ f_dm) (h3 : 1 ≤ f_dm ∧ f_dm ≤ 10) (h4 : 0 ≤ z18279 ∧ z18279 ≤ 9) (h5 : 1 ≤ z20766 ∧ z20766 ≤ 10) (h6 : 0 ≤ z21820 ∧ z21820 ≤ 10) : 1 ≤ z21820 ∧ z21820 ≤ 10 := by omega
theorem vc_X12_ring_v_72 {N f_dm z18279 z20766 z21820 : Int} (h0 : (12 - z20766) < N + 1) (h1 : z20766 ≤ f_dm) (h2 : z18279 < f_dm) (h3 : f_dm ≤ z21820) (h4 : 1 ≤ f_dm ∧ f_dm ≤ 10) (h5 : 0 ≤ z18279 ∧ z18279 ≤ 9) (h6 : 1 ≤ z20766 ∧ z20766 ≤ 10) (h7 : 1 ≤ z21820 ∧ z21820 ≤ 10) : (12 - (z20766 + 1)) < N := by omega
theorem vc_X12_ring_v_73 {f_dm z18279 z20766 z21820 : Int} (h0 : z18279 < f_dm) (h1 : z20766 ≤ f_dm) (h2 : f_dm ≤ z21820) (h3 : 1 ≤ f_dm ∧ f_dm ≤ 10) (h4 : 0 ≤ z18279 ∧ z18279 ≤ 9) (h5 : 1 ≤ z20766 ∧ z20766 ≤ 10) (h6 : 1 ≤ z21820 ∧ z21820 ≤ 10) : ((f_dm.toNat : Nat) : Int) ≤ z21820 := by omega
theorem vc_X12_ring_v_74 {f_dm z18279 z20766 z21820 : Int} (h0 : z20766 ≤ f_dm) (h1 : z18279 < f_dm) (h2 : f_dm ≤ z21820) (h3 : 1 ≤ f_dm ∧ f_dm ≤ 10) (h4 : 0 ≤ z18279 ∧ z18279 ≤ 9) (h5 : 1 ≤ z20766 ∧ z20766 ≤ 10) (h6 : 1 ≤ z21820 ∧ z21820 ≤ 10) : 1 ≤ z20766 := by omega
theorem vc_X12_ring_v_75 {f_dm z18279 z20766 z21820 : Int} (h0 : z21820 < f_dm) (h1 : z18279 < f_dm) (h2 : z20766 ≤ f_dm) (h3 : 1 ≤ f_dm ∧ f_dm ≤ 10) (h4 : 0 ≤ z18279 ∧ z18279 ≤ 9) (h5 : 1 ≤ z20766 ∧ z20766 ≤ 10) (h6 : 0 ≤ z21820 ∧ z21820 ≤ 10) : 0 ≤ z21820 ∧ z21820 ≤ 9 := by omega
theorem vc_X12_ring_v_77 {f_dm z18279 z20766 z21820 z22108 : Int} (h0 : f_dm ≤ z22108) (h1 : z18279 < f_dm) (h2 : z20766 ≤ f_dm) (h3 : z21820 < f_dm) (h4 : 1 ≤ f_dm ∧ f_dm ≤ 10) (h5 : 0 ≤ z18279 ∧ z18279 ≤ 9) (h6 : 1 ≤ z20766 ∧ z20766 ≤ 10) (h7 : 0 ≤ z21820 ∧ z21820 ≤ 9) (h8 : 0 ≤ z22108 ∧ z22108 ≤ 10) : 1 ≤ z22108 ∧ z22108 ≤ 10 := by omega
theorem vc_X12_ring_v_78 {N f_dm z18279 z20766 z21820 z22108 : Int} (h0 : (11 - z21820) < N + 1) (h1 : z21820 < f_dm) (h2 : z18279 < f_dm) (h3 : z20766 ≤ f_dm) (h4 : f_dm ≤ z22108) (h5 : 1 ≤ f_dm ∧ f_dm ≤ 10) (h6 : 0 ≤ z18279 ∧ z18279 ≤ 9) (h7 : 1 ≤ z20766 ∧ z20766 ≤ 10) (h8 : 0 ≤ z21820 ∧ z21820 ≤ 9) (h9 : 1 ≤ z22108 ∧ z22108 ≤ 10) : (11 - (z21820 + 1)) < N := by omega
theorem vc_X12_ring_v_80 {f_dm z18279 z20766 z21820 z22108 : Int} (h0 : z21820 < f_dm) (h1 : z18279 < f_dm) (h2 : z20766 ≤ f_dm) (h3 : f_dm ≤ z22108) (h4 : 1 ≤ f_dm ∧ f_dm ≤ 10) (h5 : 0 ≤ z18279 ∧ z18279 ≤ 9) (h6 : 1 ≤ z20766 ∧ z20766 ≤ 10) (h7 : 0 ≤ z21820 ∧ z21820 ≤ 9) (h8 : 1 ≤ z22108 ∧ z22108 ≤ 10) : 0 ≤ z21820 := by omega
theorem vc_X12_ring_v_81 {f_dm z18279 z20766 z21820 z22108 : Int} (h0 : z20766 ≤ f_dm) (h1 : z18279 < f_dm) (h2 : z21820 < f_dm) (h3 : f_dm ≤ z22108) (h4 : 1 ≤ f_dm ∧ f_dm ≤ 10) (h5 : 0 ≤ z18279 ∧ z18279 ≤ 9) (h6 : 1 ≤ z20766 ∧ z20766 ≤ 10) (h7 : 0 ≤ z21820 ∧ z21820 ≤ 9) (h8 : 1 ≤ z22108 ∧ z22108 ≤ 10) : 1 ≤ z20766 := by omega
theorem vc_X12_ring_v_82 {f_dm z18279 z20766 z21820 z22108 z22120 : Int} (h0 : z18279 < f_dm) (h1 : z20766 ≤ f_dm) (h2 : z21820 < f_dm) (h3 : f_dm ≤ z22108) (h4 : 1 ≤ f_dm ∧ f_dm ≤ 10) (h5 : 0 ≤ z18279 ∧ z18279 ≤ 9) (h6 : 1 ≤ z20766 ∧ z20766 ≤ 10) (h7 : 0 ≤ z21820 ∧ z21820 ≤ 9) (h8 : 1 ≤ z22108 ∧ z22108 ≤ 10) (h9 : (-99999999) ≤ z22120 ∧ z22120 ≤ 10) (h10 : z22120 = -99999999 ∨ (0 ≤ z22120 ∧ z22120 ≤ 10)) : ((f_dm.toNat : Nat) : Int) ≤ z22108 ∨ ¬ z22120 = -99999999 := by omega
theorem vc_X12_ring_v_83 {f_dm z18279 z20766 z21820 z22108 : Int} (h0 : z22108 < f_dm) (h1 : z18279 < f_dm) (h2 : z20766 ≤ f_dm) (h3 : z21820 < f_dm) (h4 : 1 ≤ f_dm ∧ f_dm ≤ 10) (h5 : 0 ≤ z18279 ∧ z18279 ≤ 9) (h6 : 1 ≤ z20766 ∧ z20766 ≤ 10) (h7 : 0 ≤ z21820 ∧ z21820 ≤ 9) (h8 : 0 ≤ z22108 ∧ z22108 ≤ 10) : 0 ≤ z22108 ∧ z22108 ≤ 9 := by omega
theorem vc_X12_ring_v_86 {N f_dm z18279 z20766 z21820 z22108 : Int} (h0 : (11 - z21820) < N + 1) (h1 : z21820 < f_dm) (h2 : z18279 < f_dm) (h3 : z20766 ≤ f_dm) (h4 : z22108 < f_dm) (h5 : 1 ≤ f_dm ∧ f_dm ≤ 10) (h6 : 0 ≤ z18279 ∧ z18279 ≤ 9) (h7 : 1 ≤ z20766 ∧ z20766 ≤ 10) (h8 : 0 ≤ z21820 ∧ z21820 ≤ 9) (h9 : 0 ≤ z22108 ∧ z22108 ≤ 9) : (11 - (z21820 + 1)) < N := by omega
theorem vc_X12_ring_v_87 {f_dm z18279 z20766 z21820 z22108 : Int} (h0 : z21820 < f_dm) (h1 : z18279 < f_dm) (h2 : z20766 ≤ f_dm) (h3 : z22108 < f_dm) (h4 : 1 ≤ f_dm ∧ f_dm ≤ 10) (h5 : 0 ≤ z18279 ∧ z18279 ≤ 9) (h6 : 1 ≤ z20766 ∧ z20766 ≤ 10) (h7 : 0 ≤ z21820 ∧ z21820 ≤ 9) (h8 : 0 ≤ z22108 ∧ z22108 ≤ 9) : 0 ≤ z21820 := by omega
theorem vc_X12_ring_v_88 {f_dm z18279 z20766 z21820 z22108 : Int} (h0 : z20766 ≤ f_dm) (h1 : z18279 < f_dm) (h2 : z21820 < f_dm) (h3 : z22108 < f_dm) (h4 : 1 ≤ f_dm ∧ f_dm ≤ 10) (h5 : 0 ≤ z18279 ∧ z18279 ≤ 9) (h6 : 1 ≤ z20766 ∧ z20766 ≤ 10) (h7 : 0 ≤ z21820 ∧ z21820 ≤ 9) (h8 : 0 ≤ z22108 ∧ z22108 ≤ 9) : 1 ≤ z20766 := by omega
theorem vc_X12_ring_v_89 {f_dm z18279 z20766 z21820 z22108 z22125 : Int} (h0 : z18279 < f_dm) (h1 : z20766 ≤ f_dm) (h2 : z21820 < f_dm) (h3 : z22108 < f_dm) (h4 : ¬ z22125 = (-99999999)) (h5 : 1 ≤ f_dm ∧ f_dm ≤ 10) (h6 : 0 ≤ z18279 ∧ z18279 ≤ 9) (h7 : 1 ≤ z20766 ∧ z20766 ≤ 10) (h8 : 0 ≤ z21820 ∧ z21820 ≤ 9) (h9 : 0 ≤ z22108 ∧ z22108 ≤ 9) (h10 : 0 ≤ z22125 ∧ z22125 ≤ 10) (h11 : z22125 = -99999999 ∨ (0 ≤ z22125 ∧ z22125 ≤ 10)) : ((f_dm.toNat : Nat) : Int) ≤ z22108 ∨ ¬ z22125 = -99999999 := by omega
theorem vc_X12_ring_v_92 {N f_dm z18279 z20766 z21820 z22108 : Int} (h0 : (11 - z22108) < N + 1) (h1 : z22108 < f_dm) (h2 : z18279 < f_dm) (h3 : z20766 ≤ f_dm) (h4 : z21820 < f_dm) (h5 : 1 ≤ f_dm ∧ f_dm ≤ 10) (h6 : 0 ≤ z18279 ∧ z18279 ≤ 9) (h7 : 1 ≤ z20766 ∧ z20766 ≤ 10) (h8 : 0 ≤ z21820 ∧ z21820 ≤ 9) (h9 : 0 ≤ z22108 ∧ z22108 ≤ 9) : (11 - (z22108 + 1)) < N := by omega
theorem vc_X12_ring_v_94 {f_dm z18279 z20766 z21820 z22108 : Int} (h0 : z22108 < f_dm) (h1 : z18279 < f_dm) (h2 : z20766 ≤ f_dm) (h3 : z21820 < f_dm) (h4 : 1 ≤ f_dm ∧ f_dm ≤ 10) (h5 : 0 ≤ z18279 ∧ z18279 ≤ 9) (h6 : 1 ≤ z20766 ∧ z20766 ≤ 10) (h7 : 0 ≤ z21820 ∧ z21820 ≤ 9) (h8 : 0 ≤ z22108 ∧ z22108 ≤ 9) : 0 ≤ z22108 := by omega
theorem vc_X12_ring_v_97 {f_dm z20766 : Int} (h0 : ¬ z20766 = 1) (h1 : z20766 ≤ f_dm) (h2 : 1 ≤ f_dm ∧ f_dm ≤ 10) (h3 : 1 ≤ z20766 ∧ z20766 ≤ 10) : 2 ≤ z20766 ∧ z20766 ≤ 10 := by omega
theorem vc_X12_ring_v_99 {N f_dm z18279 z20766 z21820 z22108 : Int} (h0 : (11 - z22108) < N + 1) (h1 : z22108 < f_dm) (h2 : z18279 < f_dm) (h3 : z20766 ≤ f_dm) (h4 : z21820 < f_dm) (h5 : 1 ≤ f_dm ∧ f_dm ≤ 10) (h6 : 0 ≤ z18279 ∧ z18279 ≤ 9) (h7 : 2 ≤ z20766 ∧ z20766 ≤ 10) (h8 : 0 ≤ z21820 ∧ z21820 ≤ 9) (h9 : 0 ≤ z22108 ∧ z22108 ≤ 9) : (11 - (z22108 + 1)) < N := by omega
theorem vc_X12_ring_v_100 {f_dm z18279 z20766 z21820 z22108 : Int} (h0 : z22108 < f_dm) (h1 : z18279 < f_dm) (h2 : z20766 ≤ f_dm) (h3 : z21820 < f_dm) (h4 : 1 ≤ f_dm ∧ f_dm ≤ 10) (h5 : 0 ≤ z18279 ∧ z18279 ≤ 9) (h6 : 2 ≤ z20766 ∧ z20766 ≤ 10) (h7 : 0 ≤ z21820 ∧ z21820 ≤ 9) (h8 : 0 ≤ z22108 ∧ z22108 ≤ 9) : 0 ≤ z22108 := by omega
theorem vc_X12_ring_v_101 {f_dm z18279 z20766 z21820 z22108 z22142 : Int} (h0 : z20766 ≤ f_dm) (h1 : ¬ z20766 = 1) (h2 : ¬ z22142 = (z20766 - 1)) (h3 : z18279 < f_dm) (h4 : z21820 < f_dm) (h5 : z22108 < f_dm) (h6 : 1 ≤ f_dm ∧ f_dm ≤ 10) (h7 : 0 ≤ z18279 ∧ z18279 ≤ 9) (h8 : 2 ≤ z20766 ∧ z20766 ≤ 10) (h9 : 0 ≤ z21820 ∧ z21820 ≤ 9) (h10 : 0 ≤ z22108 ∧ z22108 ≤ 9) (h11 : (-99999999) ≤ z22142 ∧ z22142 ≤ 10) (h12 : z22142 = -99999999 ∨ (0 ≤ z22142 ∧ z22142 ≤ 10)) : ¬ z20766 = 1 := by omega
theorem vc_X12_ring_v_102 {f_dm z18279 z20766 z21820 z22108 z22142 : Int} (h0 : z20766 ≤ f_dm) (h1 : ¬ z20766 = 1) (h2 : ¬ z22142 = (z20766 - 1)) (h3 : z18279 < f_dm) (h4 : z21820 < f_dm) (h5 : z22108 < f_dm) (h6 : 1 ≤ f_dm ∧ f_dm ≤ 10) (h7 : 0 ≤ z18279 ∧ z18279 ≤ 9) (h8 : 2 ≤ z20766 ∧ z20766 ≤ 10) (h9 : 0 ≤ z21820 ∧ z21820 ≤ 9) (h10 : 0 ≤ z22108 ∧ z22108 ≤ 9) (h11 : (-99999999) ≤ z22142 ∧ z22142 ≤ 10) (h12 : z22142 = -99999999 ∨ (0 ≤ z22142 ∧ z22142 ≤ 10)) : ¬ z22142 = (((z20766 - 1).toNat : Nat) : Int) := by omega
theorem vc_X12_ring_v_103 {f_dm z18279 z20766 z21820 z22108 : Int} (h0 : z22108 < f_dm) (h1 : z18279 < f_dm) (h2 : z20766 ≤ f_dm) (h3 : z21820 < f_dm) (h4 : 1 ≤ f_dm ∧ f_dm ≤ 10) (h5 : 0 ≤ z18279 ∧ z18279 ≤ 9) (h6 : 2 ≤ z20766 ∧ z20766 ≤ 10) (h7 : 0 ≤ z21820 ∧ z21820 ≤ 9) (h8 : 0 ≤ z22108 ∧ z22108 ≤ 9) : (z22108).toNat < 10 := by omega
theorem vc_X12_ring_v_104 {f_dm z18279 z20766 z21820 z22108 z22142 : Int} (h0 : z20766 ≤ f_dm) (h1 : ¬ z20766 = 1) (h2 : ¬ z22142 = (z20766 - 1)) (h3 : z18279 < f_dm) (h4 : z21820 < f_dm) (h5 : z22108 < f_dm) (h6 : 1 ≤ f_dm ∧ f_dm ≤ 10) (h7 : 0 ≤ z18279 ∧ z18279 ≤ 9) (h8 : 2 ≤ z20766 ∧ z20766 ≤ 10) (h9 : 0 ≤ z21820 ∧ z21820 ≤ 9) (h10 : 0 ≤ z22108 ∧ z22108 ≤ 9) (h11 : (-99999999) ≤ z22142 ∧ z22142 ≤ 10) (h12 : z22142 = -99999999 ∨ (0 ≤ z22142 ∧ z22142 ≤ 10)) : (((z20766 - 1).toNat : Nat) : Int) < z20766 := by omega
theorem vc_X12_ring_v_105 {f_dm z20766 z22142 : Int} (h0 : z22142 = (z20766 - 1)) (h1 : z20766 ≤ f_dm) (h2 : ¬ z20766 = 1) (h3 : 1 ≤ f_dm ∧ f_dm ≤ 10) (h4 : 2 ≤ z20766 ∧ z20766 ≤ 10) (h5 : (-99999999) ≤ z22142 ∧ z22142 ≤ 10) (h6 : z22142 = -99999999 ∨ (0 ≤ z22142 ∧ z22142 ≤ 10)) : 1 ≤ z22142 ∧ z22142 ≤ 9 := by omega
theorem vc_X12_ring_v_106 {f_dm z18279 z20766 z21820 z22108 z22142 : Int} (h0 : z20766 ≤ f_dm) (h1 : ¬ z20766 = 1) (h2 : z22142 = (z20766 - 1)) (h3 : z18279 < f_dm) (h4 : z21820 < f_dm) (h5 : z22108 < f_dm) (h6 : 1 ≤ f_dm ∧ f_dm ≤ 10) (h7 : 0 ≤ z18279 ∧ z18279 ≤ 9) (h8 : 2 ≤ z20766 ∧ z20766 ≤ 10) (h9 : 0 ≤ z21820 ∧ z21820 ≤ 9) (h10 : 0 ≤ z22108 ∧ z22108 ≤ 9) (h11 : 1 ≤ z22142 ∧ z22142 ≤ 9) (h12 : z22142 = -99999999 ∨ (0 ≤ z22142 ∧ z22142 ≤ 10)) : z20766 = -99999999 ∨ (0 ≤ z20766 ∧ z20766 ≤ 10) := by omega
theorem vc_X12_ring_v_108 {f_dm z18279 z20766 z21820 z22108 z22142 : Int} (h0 : z20766 ≤ f_dm) (h1 : ¬ z20766 = 1) (h2 : z22142 = (z20766 - 1)) (h3 : z18279 < f_dm) (h4 : z21820 < f_dm) (h5 : z22108 < f_dm) (h6 : 1 ≤ f_dm ∧ f_dm ≤ 10) (h7 : 0 ≤ z18279 ∧ z18279 ≤ 9) (h8 : 2 ≤ z20766 ∧ z20766 ≤ 10) (h9 : 0 ≤ z21820 ∧ z21820 ≤ 9) (h10 : 0 ≤ z22108 ∧ z22108 ≤ 9) (h11 : 1 ≤ z22142 ∧ z22142 ≤ 9) (h12 : z22142 = -99999999 ∨ (0 ≤ z22142 ∧ z22142 ≤ 10)) : ¬ z20766 = 1 := by omega
theorem vc_X12_ring_v_109 {f_dm z18279 z20766 z21820 z22108 z22142 : Int} (h0 : z20766 ≤ f_dm) (h1 : ¬ z20766 = 1) (h2 : z22142 = (z20766 - 1)) (h3 : z18279 < f_dm) (h4 : z21820 < f_dm) (h5 : z22108 < f_dm) (h6 : 1 ≤ f_dm ∧ f_dm ≤ 10) (h7 : 0 ≤ z18279 ∧ z18279 ≤ 9) (h8 : 2 ≤ z20766 ∧ z20766 ≤ 10) (h9 : 0 ≤ z21820 ∧ z21820 ≤ 9) (h10 : 0 ≤ z22108 ∧ z22108 ≤ 9) (h11 : 1 ≤ z22142 ∧ z22142 ≤ 9) (h12 : z22142 = -99999999 ∨ (0 ≤ z22142 ∧ z22142 ≤ 10)) : (((z20766 - 1).toNat : Nat) : Int) < z20766 := by omega
theorem vc_X12_ring_v_110 {f_dm z18279 z20766 z21820 z22108 z22142 : Int} (h0 : z20766 ≤ f_dm) (h1 : ¬ z20766 = 1) (h2 : z22142 = (z20766 - 1)) (h3 : z18279 < f_dm) (h4 : z21820 < f_dm) (h5 : z22108 < f_dm) (h6 : 1 ≤ f_dm ∧ f_dm ≤ 10) (h7 : 0 ≤ z18279 ∧ z18279 ≤ 9) (h8 : 2 ≤ z20766 ∧ z20766 ≤ 10) (h9 : 0 ≤ z21820 ∧ z21820 ≤ 9) (h10 : 0 ≤ z22108 ∧ z22108 ≤ 9) (h11 : 1 ≤ z22142 ∧ z22142 ≤ 9) (h12 : z22142 = -99999999 ∨ (0 ≤ z22142 ∧ z22142 ≤ 10)) : z22142 = (((z20766 - 1).toNat : Nat) : Int) := by omega
theorem vc_X12_ring_v_111 {f_dm z18279 z20766 z21820 z22108 z22142 : Int} (h0 : z20766 ≤ f_dm) (h1 : ¬ z20766 = 1) (h2 : z22142 = (z20766 - 1)) (h3 : z18279 < f_dm) (h4 : z21820 < f_dm) (h5 : z22108 < f_dm) (h6 : 1 ≤ f_dm ∧ f_dm ≤ 10) (h7 : 0 ≤ z18279 ∧ z18279 ≤ 9) (h8 : 2 ≤ z20766 ∧ z20766 ≤ 10) (h9 : 0 ≤ z21820 ∧ z21820 ≤ 9) (h10 : 0 ≤ z22108 ∧ z22108 ≤ 9) (h11 : 1 ≤ z22142 ∧ z22142 ≤ 9) (h12 : z22142 = -99999999 ∨ (0 ≤ z22142 ∧ z22142 ≤ 10)) : 1 ≤ z20766 := by omega
theorem vc_X12_ring_v_112 {f_dm z18279 z20766 z21820 z22108 z22142 : Int} (h0 : z20766 ≤ f_dm) (h1 : ¬ z20766 = 1) (h2 : z22142 = (z20766 - 1)) (h3 : z18279 < f_dm) (h4 : z21820 < f_dm) (h5 : z22108 < f_dm) (h6 : 1 ≤ f_dm ∧ f_dm ≤ 10) (h7 : 0 ≤ z18279 ∧ z18279 ≤ 9) (h8 : 2 ≤ z20766 ∧ z20766 ≤ 10) (h9 : 0 ≤ z21820 ∧ z21820 ≤ 9) (h10 : 0 ≤ z22108 ∧ z22108 ≤ 9) (h11 : 1 ≤ z22142 ∧ z22142 ≤ 9) (h12 : z22142 = -99999999 ∨ (0 ≤ z22142 ∧ z22142 ≤ 10)) : z20766 = z20766 := by omega
theorem vc_X12_ring_v_113 {f_dm z20766 : Int} (h0 : z20766 = 1) (h1 : z20766 ≤ f_dm) (h2 : 1 ≤ f_dm ∧ f_dm ≤ 10) (h3 : 1 ≤ z20766 ∧ z20766 ≤ 10) : 1 ≤ z20766 ∧ z20766 ≤ 1 := by omega
theorem vc_X12_ring_v_114 {N f_dm z18279 z20766 z21820 z22108 : Int} (h0 : (11 - z22108) < N + 1) (h1 : z22108 < f_dm) (h2 : ¬ z22108 = z18279) (h3 : z18279 < f_dm) (h4 : z20766 ≤ f_dm) (h5 : z21820 < f_dm) (h6 : 1 ≤ f_dm ∧ f_dm ≤ 10) (h7 : 0 ≤ z18279 ∧ z18279 ≤ 9) (h8 : 1 ≤ z20766 ∧ z20766 ≤ 1) (h9 : 0 ≤ z21820 ∧ z21820 ≤ 9) (h10 : 0 ≤ z22108 ∧ z22108 ≤ 9) : (11 - (z22108 + 1)) < N := by omega
theorem vc_X12_ring_v_115 {f_dm z18279 z20766 z21820 z22108 : Int} (h0 : z22108 < f_dm) (h1 : ¬ z22108 = z18279) (h2 : z18279 < f_dm) (h3 : z20766 ≤ f_dm) (h4 : z21820 < f_dm) (h5 : 1 ≤ f_dm ∧ f_dm ≤ 10) (h6 : 0 ≤ z18279 ∧ z18279 ≤ 9) (h7 : 1 ≤ z20766 ∧ z20766 ≤ 1) (h8 : 0 ≤ z21820 ∧ z21820 ≤ 9) (h9 : 0 ≤ z22108 ∧ z22108 ≤ 9) : 0 ≤ z22108 := by omega
theorem vc_X12_ring_v_116 {f_dm z18279 z20766 z21820 z22108 : Int} (h0 : z20766 ≤ f_dm) (h1 : z20766 = 1) (h2 : z18279 < f_dm) (h3 : z21820 < f_dm) (h4 : z22108 < f_dm) (h5 : 1 ≤ f_dm ∧ f_dm ≤ 10) (h6 : 0 ≤ z18279 ∧ z18279 ≤ 9) (h7 : 1 ≤ z20766 ∧ z20766 ≤ 1) (h8 : 0 ≤ z21820 ∧ z21820 ≤ 9) (h9 : 0 ≤ z22108 ∧ z22108 ≤ 9) : z20766 = 1 := by omega
theorem vc_X12_ring_v_117 {f_dm z18279 z20766 z21820 z22108 : Int} (h0 : z18279 < f_dm) (h1 : z22108 < f_dm) (h2 : ¬ z22108 = z18279) (h3 : z20766 ≤ f_dm) (h4 : z21820 < f_dm) (h5 : 1 ≤ f_dm ∧ f_dm ≤ 10) (h6 : 0 ≤ z18279 ∧ z18279 ≤ 9) (h7 : 1 ≤ z20766 ∧ z20766 ≤ 1) (h8 : 0 ≤ z21820 ∧ z21820 ≤ 9) (h9 : 0 ≤ z22108 ∧ z22108 ≤ 9) : ¬ (z22108).toNat = (z18279).toNat := by omega
theorem vc_X12_ring_v_118 {f_dm z18279 z20766 z21820 z22108 : Int} (h0 : z20766 ≤ f_dm) (h1 : z20766 = 1) (h2 : z18279 < f_dm) (h3 : z21820 < f_dm) (h4 : z22108 < f_dm) (h5 : 1 ≤ f_dm ∧ f_dm ≤ 10) (h6 : 0 ≤ z18279 ∧ z18279 ≤ 9) (h7 : 1 ≤ z20766 ∧ z20766 ≤ 1) (h8 : 0 ≤ z21820 ∧ z21820 ≤ 9) (h9 : 0 ≤ z22108 ∧ z22108 ≤ 9) : z20766 = -99999999 ∨ (0 ≤ z20766 ∧ z20766 ≤ 10) := by omega
theorem vc_X12_ring_v_119 {N f_dm z18279 z20766 z21820 z22108 : Int} (h0 : (11 - z22108) < N + 1) (h1 : z22108 < f_dm) (h2 : z22108 = z18279) (h3 : z18279 < f_dm) (h4 : z20766 ≤ f_dm) (h5 : z21820 < f_dm) (h6 : 1 ≤ f_dm ∧ f_dm ≤ 10) (h7 : 0 ≤ z18279 ∧ z18279 ≤ 9) (h8 : 1 ≤ z20766 ∧ z20766 ≤ 1) (h9 : 0 ≤ z21820 ∧ z21820 ≤ 9) (h10 : 0 ≤ z22108 ∧ z22108 ≤ 9) : (11 - (z22108 + 1)) < N := by omega
theorem vc_X12_ring_v_121 {f_dm z18279 z20766 z21820 z22108 : Int} (h0 : z18279 < f_dm) (h1 : z22108 < f_dm) (h2 : z22108 = z18279) (h3 : z20766 ≤ f_dm) (h4 : z21820 < f_dm) (h5 : 1 ≤ f_dm ∧ f_dm ≤ 10) (h6 : 0 ≤ z18279 ∧ z18279 ≤ 9) (h7 : 1 ≤ z20766 ∧ z20766 ≤ 1) (h8 : 0 ≤ z21820 ∧ z21820 ≤ 9) (h9 : 0 ≤ z22108 ∧ z22108 ≤ 9) : (z22108).toNat = (z18279).toNat := by omega
theorem vc_X12_ring_v_122 {f_dm z18279 z20766 z21820 z22108 : Int} (h0 : z20766 ≤ f_dm) (h1 : z20766 = 1) (h2 : z18279 < f_dm) (h3 : z21820 < f_dm) (h4 : z22108 < f_dm) (h5 : 1 ≤ f_dm ∧ f_dm ≤ 10) (h6 : 0 ≤ z18279 ∧ z18279 ≤ 9) (h7 : 1 ≤ z20766 ∧ z20766 ≤ 1) (h8 : 0 ≤ z21820 ∧ z21820 ≤ 9) (h9 : 0 ≤ z22108 ∧ z22108 ≤ 9) : 1 ≤ z20766 := by omega
theorem vc_X12_ring_v_123 {f_dm z18279 z20766 z21820 z22108 : Int} (h0 : z20766 ≤ f_dm) (h1 : z20766 = 1) (h2 : z18279 < f_dm) (h3 : z21820 < f_dm) (h4 : z22108 < f_dm) (h5 : 1 ≤ f_dm ∧ f_dm ≤ 10) (h6 : 0 ≤ z18279 ∧ z18279 ≤ 9) (h7 : 1 ≤ z20766 ∧ z20766 ≤ 1) (h8 : 0 ≤ z21820 ∧ z21820 ≤ 9) (h9 : 0 ≤ z22108 ∧ z22108 ≤ 9) : z20766 = z20766 := by omega
theorem vc_X12_ring_v_124 {f_dm z18279 z20766 z21820 : Int} (h0 : z21820 < f_dm) (h1 : z18279 < f_dm) (h2 : z20766 ≤ f_dm) (h3 : 1 ≤ f_dm ∧ f_dm ≤ 10) (h4 : 0 ≤ z18279 ∧ z18279 ≤ 9) (h5 : 1 ≤ z20766 ∧ z20766 ≤ 10) (h6 : 0 ≤ z21820 ∧ z21820 ≤ 9) : 0 ≤ z21820 ∧ z21820 ≤ 9 := by omega
theorem vc_X12_ring_v_125  : (12 - 1) < ((12 : Nat) : Int) := by omega
theorem vc_X12_ring_v_126 {z19219 : Int} (h0 : 10 ≤ z19219) (h1 : 10 ≤ z19219 ∧ z19219 ≤ 10) : 10 ≤ z19219 := by omega
theorem vc_X12_ring_v_127  : ((1 : Int) : Int) = (1 : Int) := by omega
theorem vc_X12_ring_v_129  : ((-99999999) : Int) = -(99999999 : Int) ∨ ((0 : Int) ≤ ((-99999999) : Int) ∧ ((-99999999) : Int) ≤ (10 : Int)) := by omega
theorem vc_X12_ring_v_130 {N z19219 : Int} (h0 : (11 - z19219) < N + 1) (h1 : z19219 < 10) (h2 : 0 ≤ z19219 ∧ z19219 ≤ 9) : (11 - (z19219 + 1)) < N := by omega
theorem vc_X12_ring_v_131 {z19219 : Int} (h0 : z19219 < 10) (h1 : 0 ≤ z19219 ∧ z19219 ≤ 9) : 0 ≤ z19219 := by omega
set_option maxRecDepth 4000 in
set_option maxHeartbeats 4000000 in
theorem c_X12_ring_v {l : Launch} {D : va_G} {c : Nat → ClassId} {H0 : Heap} {sa : Nat × Nat × (Nat → Int32)} {w : mW} {μ : mM} (hw : mWF w) (hT : mT w μ) {p1 : Int} (hp1 : (-2147483648) ≤ p1 ∧ p1 ≤ 2147483647) {f_n : Int} (q_f_n : μ 106 6 = f_n) {f_dm : Int} (q_f_dm : μ 106 5 = f_dm) (htu : TUQ (tr μ 0) (tr μ 1) f_n) (hend : ∀ i : Nat, (i : Int) < f_n → tr μ 0 i < f_dm ∧ tr μ 1 i < f_dm) : sC (gG l D c H0 sa) mX12_ring 3 0 0 [.ref 106, iv p1] (mk w μ) (qI w [117999] μ (fun z μ1 => ((-2147483648) ≤ z ∧ z ≤ 2147483647) ∧ (rgZ (edgR μ f_n) f_dm.toNat p1 z) ∧ True)) := by
  refine sC.of rfl (by decide) (le_t rfl) ?_
  have ht_f_n : (0 ≤ f_n ∧ f_n ≤ 20) := by rw [← q_f_n]; exact hT 106 106 (A_106 hw) 6
  have ht_f_dm : (0 ≤ f_dm ∧ f_dm ≤ 10) := by rw [← q_f_dm]; exact hT 106 106 (A_106 hw) 5
  refine mr_lvE (lv' := [(0, .ref 106), (1, iv p1)]) rfl ?_
  refine mr_iload_n (pc := 0) (z := p1) dX12_ring_0 rfl rfl ?_
  refine mr_if_ge (pc := 1) (tgt := 7) dX12_ring_1 (by decide) hp1 (fun h11855 => ?_) (fun h11855 => ?_)
  · have h11856 : 0 ≤ p1 ∧ p1 ≤ 2147483647 := (vc_X12_cut_2 h11855 hp1)
    refine mr_iconst (pc := 7) (z := 0) dX12_ring_7 ?_
    refine mr_istore_n (pc := 8) (lv' := [(2, iv 0), (0, .ref 106), (1, iv p1)]) dX12_ring_8 rfl (by decide) rfl ?_
    have L18281 : ∀ (nL18281 : Nat) (z18279 : Int) (μ18280 : mM), mT w μ18280 → mF [117999] w μ μ18280 → (0 ≤ z18279 ∧ z18279 ≤ 10) → noR (edgR μ f_n) z18279 → (11 - z18279) < (nL18281 : Int) → sV (gG l D c H0 sa) mX12_ring (sRm 3 0 0) (sZ (gG l D c H0 sa) 0 0 (qI w [117999] μ (fun z μ1 => ((-2147483648) ≤ z ∧ z ≤ 2147483647) ∧ (rgZ (edgR μ f_n) f_dm.toNat p1 z) ∧ True))) 9 [(0, .ref 106), (1, iv p1), (2, iv z18279)] [] (mk w μ18280) 0 0 := by
      intro nL18281
      induction nL18281 with
      | zero => intro z18279 μ18280 T18283 F18284 h18282 R18286 h18287; exact ((vc_X12_sends_1 h18287 h18282)).elim
      | succ nL18281 ih18288 =>
        intro z18279 μ18280 T18283 F18284 h18282 R18286 h18287
        refine mr_iload_n (pc := 9) (z := z18279) dX12_ring_9 rfl rfl ?_
        refine sv_aload_n (pc := 10) dX12_ring_10 rfl rfl ?_
        refine gk_X12_5 (pc := 11) dX12_ring_11 wF_X12_34 (A_106 hw) (F18284.f (A_106 hw) rfl q_f_dm) ?_
        refine mr_icmp_ge (pc := 14) (tgt := 272) dX12_ring_14 (by decide) (r32 h18282 rfl) (r32 ht_f_dm rfl) (fun h18289 => ?_) (fun h18289 => ?_)
        · refine mr_ldc (pc := 272) (z := (-99999999)) dX12_ring_272 wG_X12_29 (by decide) ?_
          exact mr_iret dX12_ring_274 rfl (le_t rfl) (le_t rfl) T18283 (mF.call mF.refl F18284 rfl) ⟨(rW (c := (-2147483648)) (d := 2147483647) (rR (x := (-99999999))) rfl), (rgZ.nor R18286 (vc_X12_ring_v_4 h18289 ht_f_dm h18282) (vc_X12_ring_v_3 h11855 h11856)), trivial⟩
        have h18290 : 0 ≤ z18279 ∧ z18279 ≤ 9 := (vc_X12_lookAll_u_6 h18289 ht_f_dm h18282)
        have h18291 : 1 ≤ f_dm ∧ f_dm ≤ 10 := (vc_X12_say_u_2 h18289 ht_f_dm h18290)
        refine mr_iconst (pc := 17) (z := 0) dX12_ring_17 ?_
        refine mr_istore_n (pc := 18) (lv' := [(3, iv 0), (0, .ref 106), (1, iv p1), (2, iv z18279)]) dX12_ring_18 rfl (by decide) rfl ?_
        have L19221 : ∀ (nL19221 : Nat) (z19219 : Int) (μ19220 : mM), mT w μ19220 → mF [117999] w μ18280 μ19220 → (0 ≤ z19219 ∧ z19219 ≤ 10) → fiN (μ19220 117) z19219 → (11 - z19219) < (nL19221 : Int) → sV (gG l D c H0 sa) mX12_ring (sRm 3 0 0) (sZ (gG l D c H0 sa) 0 0 (qI w [117999] μ (fun z μ1 => ((-2147483648) ≤ z ∧ z ≤ 2147483647) ∧ (rgZ (edgR μ f_n) f_dm.toNat p1 z) ∧ True))) 19 [(0, .ref 106), (1, iv p1), (2, iv z18279), (3, iv z19219)] [] (mk w μ19220) 0 0 := by
          intro nL19221
          induction nL19221 with
          | zero => intro z19219 μ19220 T19223 F19224 h19222 R19226 h19227; exact ((vc_X12_sends_1 h19227 h19222)).elim
          | succ nL19221 ih19228 =>
            intro z19219 μ19220 T19223 F19224 h19222 R19226 h19227
            refine mr_iload_n (pc := 19) (z := z19219) dX12_ring_19 rfl rfl ?_
            refine mr_bipush (pc := 20) (z := 10) dX12_ring_20 (by decide) ?_
            refine mr_icmp_ge (pc := 22) (tgt := 39) dX12_ring_22 (by decide) (r32 h19222 rfl) (r32 (rR (x := 10)) rfl) (fun h19234 => ?_) (fun h19234 => ?_)
            · have h19235 : 10 ≤ z19219 ∧ z19219 ≤ 10 := (vc_X11_prefix_9 h19234 h19222)
              refine mr_iconst (pc := 39) (z := 1) dX12_ring_39 ?_
              refine mr_istore_n (pc := 40) (lv' := [(3, iv 1), (0, .ref 106), (1, iv p1), (2, iv z18279)]) dX12_ring_40 rfl (by decide) rfl ?_
              have L20768 : ∀ (nL20768 : Nat) (z20766 : Int) (μ20767 : mM), mT w μ20767 → mF [117999] w μ19220 μ20767 → (1 ≤ z20766 ∧ z20766 ≤ 11) → (∀ i : Nat, i < 10 → flV (edgR μ f_n) (z18279).toNat i z20766 (μ20767 117 i)) → (12 - z20766) < (nL20768 : Int) → sV (gG l D c H0 sa) mX12_ring (sRm 3 0 0) (sZ (gG l D c H0 sa) 0 0 (qI w [117999] μ (fun z μ1 => ((-2147483648) ≤ z ∧ z ≤ 2147483647) ∧ (rgZ (edgR μ f_n) f_dm.toNat p1 z) ∧ True))) 41 [(0, .ref 106), (1, iv p1), (2, iv z18279), (3, iv z20766)] [] (mk w μ20767) 0 0 := by
                intro nL20768
                induction nL20768 with
                | zero => intro z20766 μ20767 T20770 F20771 h20769 R20773 h20774; exact ((vc_X12_ring_v_9 h20774 h20769)).elim
                | succ nL20768 ih20775 =>
                  intro z20766 μ20767 T20770 F20771 h20769 R20773 h20774
                  refine mr_iload_n (pc := 41) (z := z20766) dX12_ring_41 rfl rfl ?_
                  refine sv_aload_n (pc := 42) dX12_ring_42 rfl rfl ?_
                  refine gk_X12_5 (pc := 43) dX12_ring_43 wF_X12_34 (A_106 hw) (F20771.f (A_106 hw) rfl (F19224.f (A_106 hw) rfl (F18284.f (A_106 hw) rfl q_f_dm))) ?_
                  refine mr_icmp_gt (pc := 46) (tgt := 149) dX12_ring_46 (by decide) (r32 h20769 rfl) (r32 h18291 rfl) (fun h20906 => ?_) (fun h20906 => ?_)
                  · have h20907 : 2 ≤ z20766 ∧ z20766 ≤ 11 := (vc_X12_ring_v_10 h20906 h18289 h18291 h18290 h20769)
                    refine sv_aload_n (pc := 149) dX12_ring_149 rfl rfl ?_
                    refine gf_X12_14 (pc := 150) dX12_ring_150 wF_X12_72 (A_106 hw) T20770 ?_
                    refine mr_iload_n (pc := 153) (z := z18279) dX12_ring_153 rfl rfl ?_
                    refine la_117 (pc := 154) dX12_ring_154 (A_117 hw) T20770 (rIx (n := 10) h18290 rfl) fun z20908 q20909 h20910 => ?_
                    have h20911 : (-99999999) ≤ z20908 ∧ z20908 ≤ 10 := (vc_X12_ring_v_11 h20910)
                    refine mr_ldc (pc := 155) (z := (-99999999)) dX12_ring_155 wG_X12_29 (by decide) ?_
                    refine mr_icmp_ne (pc := 157) (tgt := 163) dX12_ring_157 (by decide) (r32 h20911 rfl) (r32 (rR (x := (-99999999))) rfl) (fun h20912 => ?_) (fun h20912 => ?_)
                    · have h20913 : 0 ≤ z20908 ∧ z20908 ≤ 10 := (vc_X12_ring_v_12 h20912 h20911 h20910)
                      have h20914 := flV.some (by have h := R20773 (z18279).toNat (vc_X12_ring_v_13 h18289 h20906 h18291 h18290 h20907); rw [q20909] at h; exact h) (vc_X12_ring_v_14 h20912 h20913 h20910)
                      refine mr_iload_n (pc := 163) (z := p1) dX12_ring_163 rfl rfl ?_
                      refine sv_aload_n (pc := 164) dX12_ring_164 rfl rfl ?_
                      refine gf_X12_14 (pc := 165) dX12_ring_165 wF_X12_72 (A_106 hw) T20770 ?_
                      refine mr_iload_n (pc := 168) (z := z18279) dX12_ring_168 rfl rfl ?_
                      refine lk_117 (pc := 169) dX12_ring_169 (A_117 hw) (rIx (n := 10) h18290 rfl) q20909 ?_
                      refine mr_icmp_lt (pc := 170) (tgt := 176) dX12_ring_170 (by decide) (r32 h11856 rfl) (r32 h20913 rfl) (fun h20915 => ?_) (fun h20915 => ?_)
                      · have h20916 : 0 ≤ p1 ∧ p1 ≤ 9 := (vc_X12_ring_v_15 h20915 h11855 h20912 h20914.1 h11856 h20907 h20913 h20910)
                        have h20917 : 1 ≤ z20908 ∧ z20908 ≤ 10 := (vc_X12_ring_v_16 h20915 h11855 h20912 h20914.1 h20916 h20907 h20913 h20910)
                        refine mr_iload_n (pc := 176) (z := z18279) dX12_ring_176 rfl rfl ?_
                        refine mr_istore_n (pc := 177) (lv' := [(3, iv z18279), (0, .ref 106), (1, iv p1), (2, iv z18279)]) dX12_ring_177 rfl (by decide) rfl ?_
                        refine mr_iconst (pc := 178) (z := 0) dX12_ring_178 ?_
                        refine mr_istore (pc := 179) (lv' := [(4, iv 0), (3, iv z18279), (0, .ref 106), (1, iv p1), (2, iv z18279)]) dX12_ring_179 (by decide) rfl ?_
                        have L21166 : ∀ (nL21166 : Nat) (z21165 z21164 : Int), True → (0 ≤ z21165 ∧ z21165 ≤ 9) → (0 ≤ z21164 ∧ z21164 ≤ 9) → (z21164 ≤ p1) → rgR (edgR μ f_n) (z18279).toNat (z20908).toNat (z21164).toNat (z21165).toNat → (10 - z21164) < (nL21166 : Int) → sV (gG l D c H0 sa) mX12_ring (sRm 3 0 0) (sZ (gG l D c H0 sa) 0 0 (qI w [117999] μ (fun z μ1 => ((-2147483648) ≤ z ∧ z ≤ 2147483647) ∧ (rgZ (edgR μ f_n) f_dm.toNat p1 z) ∧ True))) 181 [(0, .ref 106), (1, iv p1), (2, iv z18279), (3, iv z21165), (4, iv z21164)] [] (mk w μ20767) 0 0 := by
                          intro nL21166
                          induction nL21166 with
                          | zero => intro z21165 z21164 _ h21167 h21168 h21172 R21173 h21174; exact ((vc_X12_ring_v_17 h21174 h21172 h11855 h20915 h20916 h20917 h20910 h21168)).elim
                          | succ nL21166 ih21175 =>
                            intro z21165 z21164 _ h21167 h21168 h21172 R21173 h21174
                            refine mr_iload (pc := 181) (z := z21164) dX12_ring_181 rfl ?_
                            refine mr_iload_n (pc := 183) (z := p1) dX12_ring_183 rfl rfl ?_
                            refine mr_icmp_ge (pc := 184) (tgt := 264) dX12_ring_184 (by decide) (r32 h21168 rfl) (r32 h20916 rfl) (fun h21214 => ?_) (fun h21214 => ?_)
                            · refine mr_iload_n (pc := 264) (z := z21165) dX12_ring_264 rfl rfl ?_
                              exact mr_iret dX12_ring_265 rfl (le_t rfl) (le_t rfl) T20770 (mF.call (mF.call (mF.call mF.refl F18284 rfl) F19224 rfl) F20771 rfl) ⟨(rW (c := (-2147483648)) (d := 2147483647) h21167 rfl), (rgZ.on R18286 (vc_X12_ring_v_19 h18289 h20906 h20914.1 h18291 h18290 h20907 h20917 h20910) h20914.2 (vc_X12_ring_v_20 h11855 h20912 h20914.1 h20915 h21172 h21214 h20906 h18291 h20916 h20907 h20917 h20910 h21168) R21173 (vc_X12_ring_v_21 h11855 h20915 h21172 h21214 h20912 h20914.1 h20916 h20907 h20917 h20910 h21168) (vc_X12_why_u_29 h21167)), trivial⟩
                            have h21215 : 0 ≤ z21164 ∧ z21164 ≤ 8 := (vc_X12_ring_v_23 h21214 h11855 h20915 h21172 h20916 h20917 h20910 h21168)
                            have h21216 : 1 ≤ p1 ∧ p1 ≤ 9 := (vc_X12_ring_v_24 h21214 h11855 h20915 h21172 h20916 h20917 h20910 h21215)
                            refine sv_aload_n (pc := 187) dX12_ring_187 rfl rfl ?_
                            refine gf_X12_14 (pc := 188) dX12_ring_188 wF_X12_72 (A_106 hw) T20770 ?_
                            refine mr_iload_n (pc := 191) (z := z18279) dX12_ring_191 rfl rfl ?_
                            refine lk_117 (pc := 192) dX12_ring_192 (A_117 hw) (rIx (n := 10) h18290 rfl) q20909 ?_
                            refine mr_iload (pc := 193) (z := z21164) dX12_ring_193 rfl ?_
                            refine mr_isub (pc := 195) (x := z20908) (y := z21164) dX12_ring_195 ?_
                            refine mr_iconst (pc := 196) (z := 1) dX12_ring_196 ?_
                            refine mr_isub (pc := 197) (x := (z20908 - z21164)) (y := 1) dX12_ring_197 ?_
                            refine mr_istore (pc := 198) (lv' := [(5, iv ((z20908 - z21164) - 1)), (0, .ref 106), (1, iv p1), (2, iv z18279), (3, iv z21165), (4, iv z21164)]) dX12_ring_198 (by decide) rfl ?_
                            refine mr_ldc (pc := 200) (z := (-99999999)) dX12_ring_200 wG_X12_29 (by decide) ?_
                            refine mr_istore (pc := 202) (lv' := [(6, iv (-99999999)), (5, iv ((z20908 - z21164) - 1)), (0, .ref 106), (1, iv p1), (2, iv z18279), (3, iv z21165), (4, iv z21164)]) dX12_ring_202 (by decide) rfl ?_
                            refine mr_iconst (pc := 204) (z := 0) dX12_ring_204 ?_
                            refine mr_istore (pc := 205) (lv' := [(7, iv 0), (6, iv (-99999999)), (5, iv ((z20908 - z21164) - 1)), (0, .ref 106), (1, iv p1), (2, iv z18279), (3, iv z21165), (4, iv z21164)]) dX12_ring_205 (by decide) rfl ?_
                            have L21341 : ∀ (nL21341 : Nat) (z21340 z21339 : Int), True → ((-99999999) ≤ z21340 ∧ z21340 ≤ 9) → (0 ≤ z21339 ∧ z21339 ≤ 10) → nxI (edgR μ f_n) (μ20767 117) (z21165).toNat ((z20908 - z21164) - 1) z21339 z21340 → (11 - z21339) < (nL21341 : Int) → sV (gG l D c H0 sa) mX12_ring (sRm 3 0 0) (sZ (gG l D c H0 sa) 0 0 (qI w [117999] μ (fun z μ1 => ((-2147483648) ≤ z ∧ z ≤ 2147483647) ∧ (rgZ (edgR μ f_n) f_dm.toNat p1 z) ∧ True))) 207 [(0, .ref 106), (1, iv p1), (2, iv z18279), (3, iv z21165), (4, iv z21164), (5, iv ((z20908 - z21164) - 1)), (6, iv z21340), (7, iv z21339)] [] (mk w μ20767) 0 0 := by
                              intro nL21341
                              induction nL21341 with
                              | zero => intro z21340 z21339 _ h21342 h21343 R21347 h21348; exact ((vc_X12_sends_1 h21348 h21343)).elim
                              | succ nL21341 ih21349 =>
                                intro z21340 z21339 _ h21342 h21343 R21347 h21348
                                refine mr_iload (pc := 207) (z := z21339) dX12_ring_207 rfl ?_
                                refine sv_aload_n (pc := 209) dX12_ring_209 rfl rfl ?_
                                refine gk_X12_5 (pc := 210) dX12_ring_210 wF_X12_34 (A_106 hw) (F20771.f (A_106 hw) rfl (F19224.f (A_106 hw) rfl (F18284.f (A_106 hw) rfl q_f_dm))) ?_
                                refine mr_icmp_ge (pc := 213) (tgt := 255) dX12_ring_213 (by decide) (r32 h21343 rfl) (r32 h18291 rfl) (fun h21350 => ?_) (fun h21350 => ?_)
                                · have h21351 : 1 ≤ z21339 ∧ z21339 ≤ 10 := (vc_X12_ring_v_26 h21350 h18289 h20906 h18291 h18290 h20907 h21343)
                                  have h21352 := rgR.refI (dm := f_dm.toNat) R20773 h20914.2 (vc_X12_ring_v_27 h20906 h20912 h20914.1 h20915 h11855 h18289 h21172 h21214 h21350 h18291 h21216 h18290 h20907 h20917 h20910 h21215 h21351) (fun a b e => (edR.lt hw hT hend a b e).2) (vc_X12_ring_v_28 h18289 h20906 h21350 h20914.1 h18291 h18290 h20907 h20917 h20910 h21351) R21173 (vc_X12_ring_v_29 h11855 h20912 h20914.1 h20915 h21172 h21214 h20906 h18291 h21216 h20907 h20917 h20910 h21215) (vc_X12_ring_v_30 h20912 h20914.1 h20915 h21172 h21214 h11855 h20906 h18291 h21216 h20907 h20917 h20910 h21215) R21347 (vc_X12_ring_v_31 h18289 h20906 h21350 h20914.1 h18291 h18290 h20907 h20917 h20910 h21351 h21342)
                                  refine mr_iload (pc := 255) (z := z21340) dX12_ring_255 rfl ?_
                                  refine mr_istore_n (pc := 257) (lv' := [(3, iv z21340), (0, .ref 106), (1, iv p1), (2, iv z18279), (4, iv z21164), (5, iv ((z20908 - z21164) - 1)), (6, iv z21340), (7, iv z21339)]) dX12_ring_257 rfl (by decide) rfl ?_
                                  refine mr_iinc (pc := 258) (lv' := [(4, iv (z21164 + 1)), (3, iv z21340), (0, .ref 106), (1, iv p1), (2, iv z18279), (5, iv ((z20908 - z21164) - 1)), (6, iv z21340), (7, iv z21339)]) dX12_ring_258 rfl (by decide) rfl ?_
                                  refine sv_goto (pc := 261) (tgt := 181) dX12_ring_261 (by decide) ?_
                                  refine mr_lvS (lv' := [(0, .ref 106), (1, iv p1), (2, iv z18279), (3, iv z21340), (4, iv (z21164 + 1))]) (List.forall_mem_cons.mpr ⟨rfl, List.forall_mem_cons.mpr ⟨rfl, List.forall_mem_cons.mpr ⟨rfl, List.forall_mem_cons.mpr ⟨rfl, List.forall_mem_cons.mpr ⟨rfl, fun _ h => absurd h List.not_mem_nil⟩⟩⟩⟩⟩) ?_
                                  exact ih21175 z21340 (z21164 + 1) trivial (vc_X12_ring_v_32 h21352.1 h21342) (rW (c := 0) (d := 9) (rAdd (e := 1) (f := 9) h21215 (rR (x := 1)) rfl) rfl) (vc_X12_ring_v_33 h11855 h20915 h21172 h21214 h20912 h20914.1 h21216 h20907 h20917 h20910 h21215) h21352.2 (vc_X12_ring_v_34 (nS h21174) h21172 h21214 h11855 h20915 h21216 h20917 h20910 h21215)
                                have h21353 : 0 ≤ z21339 ∧ z21339 ≤ 9 := (vc_X12_ring_v_35 h21350 h18289 h20906 h18291 h18290 h20907 h21343)
                                refine mr_iload (pc := 216) (z := z21340) dX12_ring_216 rfl ?_
                                refine mr_ldc (pc := 218) (z := (-99999999)) dX12_ring_218 wG_X12_29 (by decide) ?_
                                refine mr_icmp_ne (pc := 220) (tgt := 255) dX12_ring_220 (by decide) (r32 h21342 rfl) (r32 (rR (x := (-99999999))) rfl) (fun h21354 => ?_) (fun h21354 => ?_)
                                · have h21355 : (-99999998) ≤ z21340 ∧ z21340 ≤ 9 := (vc_X12_ring_v_36 h21354 h21342)
                                  have h21356 := rgR.refI (dm := f_dm.toNat) R20773 h20914.2 (vc_X12_ring_v_37 h20906 h20912 h20914.1 h20915 h11855 h18289 h21172 h21214 h21350 h18291 h21216 h18290 h20907 h20917 h20910 h21215 h21353) (fun a b e => (edR.lt hw hT hend a b e).2) (vc_X12_ring_v_38 h18289 h20906 h21350 h20914.1 h18291 h18290 h20907 h20917 h20910 h21353) R21173 (vc_X12_ring_v_29 h11855 h20912 h20914.1 h20915 h21172 h21214 h20906 h18291 h21216 h20907 h20917 h20910 h21215) (vc_X12_ring_v_30 h20912 h20914.1 h20915 h21172 h21214 h11855 h20906 h18291 h21216 h20907 h20917 h20910 h21215) R21347 (vc_X12_ring_v_39 h18289 h20906 h21350 h21354 h20914.1 h18291 h18290 h20907 h20917 h20910 h21353 h21355)
                                  refine mr_iload (pc := 255) (z := z21340) dX12_ring_255 rfl ?_
                                  refine mr_istore_n (pc := 257) (lv' := [(3, iv z21340), (0, .ref 106), (1, iv p1), (2, iv z18279), (4, iv z21164), (5, iv ((z20908 - z21164) - 1)), (6, iv z21340), (7, iv z21339)]) dX12_ring_257 rfl (by decide) rfl ?_
                                  refine mr_iinc (pc := 258) (lv' := [(4, iv (z21164 + 1)), (3, iv z21340), (0, .ref 106), (1, iv p1), (2, iv z18279), (5, iv ((z20908 - z21164) - 1)), (6, iv z21340), (7, iv z21339)]) dX12_ring_258 rfl (by decide) rfl ?_
                                  refine sv_goto (pc := 261) (tgt := 181) dX12_ring_261 (by decide) ?_
                                  refine mr_lvS (lv' := [(0, .ref 106), (1, iv p1), (2, iv z18279), (3, iv z21340), (4, iv (z21164 + 1))]) (List.forall_mem_cons.mpr ⟨rfl, List.forall_mem_cons.mpr ⟨rfl, List.forall_mem_cons.mpr ⟨rfl, List.forall_mem_cons.mpr ⟨rfl, List.forall_mem_cons.mpr ⟨rfl, fun _ h => absurd h List.not_mem_nil⟩⟩⟩⟩⟩) ?_
                                  exact ih21175 z21340 (z21164 + 1) trivial (vc_X12_ring_v_40 h21354 h21356.1 h21355) (rW (c := 0) (d := 9) (rAdd (e := 1) (f := 9) h21215 (rR (x := 1)) rfl) rfl) (vc_X12_ring_v_33 h11855 h20915 h21172 h21214 h20912 h20914.1 h21216 h20907 h20917 h20910 h21215) h21356.2 (vc_X12_ring_v_34 (nS h21174) h21172 h21214 h11855 h20915 h21216 h20917 h20910 h21215)
                                have h21357 : (-99999999) ≤ z21340 ∧ z21340 ≤ (-99999999) := (vc_X12_ring_v_41 h21354 h21342)
                                refine sv_aload_n (pc := 223) dX12_ring_223 rfl rfl ?_
                                refine mr_iload_n (pc := 224) (z := z21165) dX12_ring_224 rfl rfl ?_
                                refine mr_iload (pc := 225) (z := z21339) dX12_ring_225 rfl ?_
                                refine mr_cVP (pc := 227) (c_X12_provides_v hw T20770 h21167 h21353 (F20771.f (A_106 hw) rfl (F19224.f (A_106 hw) rfl (F18284.f (A_106 hw) rfl q_f_n))) (TUQ.tr htu hw ((mF.call (mF.call (mF.call mF.refl F18284 rfl) F19224 rfl) F20771 rfl) : mF [117999] w μ μ20767) rfl)) (gOk _ _ _ _ _) dX12_ring_227 (tX12_provides _ _ _ _ _) ⟨wV_X12_provides, wL_X12_provides⟩ wM_X12_75 (gCX12 _ _ _ _ _) rfl (A_106 hw) rfl ⟨le_t rfl, le_t rfl⟩ ⟨le_t rfl, le_t rfl⟩ rfl (le_t rfl) fun z21362 h21361 => ?_
                                refine mr_if_eq (pc := 230) (tgt := 249) dX12_ring_230 (by decide) (r32 h21361.1 rfl) (fun h21363 => ?_) (fun h21363 => ?_)
                                · have h21364 : 0 ≤ z21362 ∧ z21362 ≤ 0 := (vc_X12_letWay_6 h21363 h21361.1)
                                  refine mr_iinc (pc := 249) (lv' := [(7, iv (z21339 + 1)), (0, .ref 106), (1, iv p1), (2, iv z18279), (3, iv z21165), (4, iv z21164), (5, iv ((z20908 - z21164) - 1)), (6, iv z21340)]) dX12_ring_249 rfl (by decide) rfl ?_
                                  refine sv_goto (pc := 252) (tgt := 207) dX12_ring_252 (by decide) ?_
                                  refine mr_lvS (lv' := [(0, .ref 106), (1, iv p1), (2, iv z18279), (3, iv z21165), (4, iv z21164), (5, iv ((z20908 - z21164) - 1)), (6, iv z21340), (7, iv (z21339 + 1))]) (List.forall_mem_cons.mpr ⟨rfl, List.forall_mem_cons.mpr ⟨rfl, List.forall_mem_cons.mpr ⟨rfl, List.forall_mem_cons.mpr ⟨rfl, List.forall_mem_cons.mpr ⟨rfl, List.forall_mem_cons.mpr ⟨rfl, List.forall_mem_cons.mpr ⟨rfl, List.forall_mem_cons.mpr ⟨rfl, fun _ h => absurd h List.not_mem_nil⟩⟩⟩⟩⟩⟩⟩⟩) ?_
                                  exact ih21349 z21340 (z21339 + 1) trivial (rW (c := (-99999999)) (d := 9) h21357 rfl) (rW (c := 0) (d := 10) (rAdd (e := 1) (f := 10) h21353 (rR (x := 1)) rfl) rfl) (nxI.no R21347 (vc_X12_ring_v_44 h21354 h21357) (vc_X12_ring_v_45 h21350 h18289 h20906 h18291 h18290 h20907 h21353) (fun g => (vc_X12_ring_v_46 h21363 h21364) (((show (z21362 = 1 ↔ edgR μ f_n (z21165).toNat (z21339).toNat) from by have h := h21361.2.1; rw [edRB hw ((mF.call (mF.call (mF.call mF.refl F18284 rfl) F19224 rfl) F20771 rfl) : mF [117999] w μ μ20767) rfl] at h; exact h)).mpr g.1))) (vc_X12_ring_v_43 (nS h21348) h21350 h18289 h20906 h18291 h18290 h20907 h21353)
                                have h21365 : 1 ≤ z21362 ∧ z21362 ≤ 1 := (vc_X12_letWay_11 h21363 h21361.1)
                                refine sv_aload_n (pc := 233) dX12_ring_233 rfl rfl ?_
                                refine gf_X12_14 (pc := 234) dX12_ring_234 wF_X12_72 (A_106 hw) T20770 ?_
                                refine mr_iload (pc := 237) (z := z21339) dX12_ring_237 rfl ?_
                                refine la_117 (pc := 239) dX12_ring_239 (A_117 hw) T20770 (rIx (n := 10) h21353 rfl) fun z21366 q21367 h21368 => ?_
                                have h21369 : (-99999999) ≤ z21366 ∧ z21366 ≤ 10 := (vc_X12_ring_v_11 h21368)
                                refine mr_iload (pc := 240) (z := ((z20908 - z21164) - 1)) dX12_ring_240 rfl ?_
                                refine mr_icmp_ne (pc := 242) (tgt := 249) dX12_ring_242 (by decide) (r32 h21369 rfl) (r32 (rSub (e := (-8)) (f := 9) (rSub (e := (-7)) (f := 10) h20917 h21215 rfl) (rR (x := 1)) rfl) rfl) (fun h21370 => ?_) (fun h21370 => ?_)
                                · refine mr_iinc (pc := 249) (lv' := [(7, iv (z21339 + 1)), (0, .ref 106), (1, iv p1), (2, iv z18279), (3, iv z21165), (4, iv z21164), (5, iv ((z20908 - z21164) - 1)), (6, iv z21340)]) dX12_ring_249 rfl (by decide) rfl ?_
                                  refine sv_goto (pc := 252) (tgt := 207) dX12_ring_252 (by decide) ?_
                                  refine mr_lvS (lv' := [(0, .ref 106), (1, iv p1), (2, iv z18279), (3, iv z21165), (4, iv z21164), (5, iv ((z20908 - z21164) - 1)), (6, iv z21340), (7, iv (z21339 + 1))]) (List.forall_mem_cons.mpr ⟨rfl, List.forall_mem_cons.mpr ⟨rfl, List.forall_mem_cons.mpr ⟨rfl, List.forall_mem_cons.mpr ⟨rfl, List.forall_mem_cons.mpr ⟨rfl, List.forall_mem_cons.mpr ⟨rfl, List.forall_mem_cons.mpr ⟨rfl, List.forall_mem_cons.mpr ⟨rfl, fun _ h => absurd h List.not_mem_nil⟩⟩⟩⟩⟩⟩⟩⟩) ?_
                                  exact ih21349 z21340 (z21339 + 1) trivial (rW (c := (-99999999)) (d := 9) h21357 rfl) (rW (c := 0) (d := 10) (rAdd (e := 1) (f := 10) h21353 (rR (x := 1)) rfl) rfl) (nxI.no R21347 (vc_X12_ring_v_44 h21354 h21357) (vc_X12_ring_v_45 h21350 h18289 h20906 h18291 h18290 h20907 h21353) (fun g => (vc_X12_ring_v_49 h20912 h20914.1 h20915 h21172 h21214 h21370 h11855 h20906 h18291 h21216 h20907 h20917 h20910 h21215 h21369 h21368) ((q21367).symm.trans g.2))) (vc_X12_ring_v_43 (nS h21348) h21350 h18289 h20906 h18291 h18290 h20907 h21353)
                                have h21371 : 0 ≤ z21366 ∧ z21366 ≤ 9 := (vc_X12_ring_v_50 h21370 h20912 h20914.1 h20915 h21172 h21214 h21216 h20907 h20917 h20910 h21215 h21369 h21368)
                                refine mr_iload (pc := 245) (z := z21339) dX12_ring_245 rfl ?_
                                refine mr_istore (pc := 247) (lv' := [(6, iv z21339), (0, .ref 106), (1, iv p1), (2, iv z18279), (3, iv z21165), (4, iv z21164), (5, iv ((z20908 - z21164) - 1)), (7, iv z21339)]) dX12_ring_247 (by decide) rfl ?_
                                refine mr_iinc (pc := 249) (lv' := [(7, iv (z21339 + 1)), (6, iv z21339), (0, .ref 106), (1, iv p1), (2, iv z18279), (3, iv z21165), (4, iv z21164), (5, iv ((z20908 - z21164) - 1))]) dX12_ring_249 rfl (by decide) rfl ?_
                                refine sv_goto (pc := 252) (tgt := 207) dX12_ring_252 (by decide) ?_
                                refine mr_lvS (lv' := [(0, .ref 106), (1, iv p1), (2, iv z18279), (3, iv z21165), (4, iv z21164), (5, iv ((z20908 - z21164) - 1)), (6, iv z21339), (7, iv (z21339 + 1))]) (List.forall_mem_cons.mpr ⟨rfl, List.forall_mem_cons.mpr ⟨rfl, List.forall_mem_cons.mpr ⟨rfl, List.forall_mem_cons.mpr ⟨rfl, List.forall_mem_cons.mpr ⟨rfl, List.forall_mem_cons.mpr ⟨rfl, List.forall_mem_cons.mpr ⟨rfl, List.forall_mem_cons.mpr ⟨rfl, fun _ h => absurd h List.not_mem_nil⟩⟩⟩⟩⟩⟩⟩⟩) ?_
                                exact ih21349 z21339 (z21339 + 1) trivial (rW (c := (-99999999)) (d := 9) h21353 rfl) (rW (c := 0) (d := 10) (rAdd (e := 1) (f := 10) h21353 (rR (x := 1)) rfl) rfl) (nxI.yes R21347 (vc_X12_ring_v_44 h21354 h21357) (vc_X12_ring_v_51 h21350 h18289 h20906 h18291 h18290 h20907 h21353) (((show (z21362 = 1 ↔ edgR μ f_n (z21165).toNat (z21339).toNat) from by have h := h21361.2.1; rw [edRB hw ((mF.call (mF.call (mF.call mF.refl F18284 rfl) F19224 rfl) F20771 rfl) : mF [117999] w μ μ20767) rfl] at h; exact h)).mp (vc_X12_best_l_18 h21363 h21365)) ((q21367).trans (vc_X12_ring_v_53 h20912 h20914.1 h20915 h21172 h21214 h21370 h11855 h20906 h18291 h21216 h20907 h20917 h20910 h21215 h21371 h21368)) (vc_X12_ring_v_54 h21350 h18289 h20906 h18291 h18290 h20907 h21353)) (vc_X12_ring_v_43 (nS h21348) h21350 h18289 h20906 h18291 h18290 h20907 h21353)
                            refine mr_lvS (lv' := [(0, .ref 106), (1, iv p1), (2, iv z18279), (3, iv z21165), (4, iv z21164), (5, iv ((z20908 - z21164) - 1)), (6, iv (-99999999)), (7, iv 0)]) (List.forall_mem_cons.mpr ⟨rfl, List.forall_mem_cons.mpr ⟨rfl, List.forall_mem_cons.mpr ⟨rfl, List.forall_mem_cons.mpr ⟨rfl, List.forall_mem_cons.mpr ⟨rfl, List.forall_mem_cons.mpr ⟨rfl, List.forall_mem_cons.mpr ⟨rfl, List.forall_mem_cons.mpr ⟨rfl, fun _ h => absurd h List.not_mem_nil⟩⟩⟩⟩⟩⟩⟩⟩) ?_
                            exact L21341 12 (-99999999) 0 trivial (rW (c := (-99999999)) (d := 9) (rR (x := (-99999999))) rfl) (rW (c := 0) (d := 10) (rR (x := 0)) rfl) (nxI.start vc_X10_tieBetween_v_23) vc_X12_sends_20
                        refine mr_lvS (lv' := [(0, .ref 106), (1, iv p1), (2, iv z18279), (3, iv z18279), (4, iv 0)]) (List.forall_mem_cons.mpr ⟨rfl, List.forall_mem_cons.mpr ⟨rfl, List.forall_mem_cons.mpr ⟨rfl, List.forall_mem_cons.mpr ⟨rfl, List.forall_mem_cons.mpr ⟨rfl, fun _ h => absurd h List.not_mem_nil⟩⟩⟩⟩⟩) ?_
                        exact L21166 11 z18279 0 trivial h18290 (rW (c := 0) (d := 9) (rR (x := 0)) rfl) (vc_X12_ring_v_57 h11855 h20915 h20912 h20914.1 h20916 h20907 h20917 h20910) (show _ = _ from rfl) vc_X8_isFirstOfGroup_7
                      refine mr_ldc (pc := 173) (z := (-99999999)) dX12_ring_173 wG_X12_29 (by decide) ?_
                      exact mr_iret dX12_ring_175 rfl (le_t rfl) (le_t rfl) T20770 (mF.call (mF.call (mF.call mF.refl F18284 rfl) F19224 rfl) F20771 rfl) ⟨(rW (c := (-2147483648)) (d := 2147483647) (rR (x := (-99999999))) rfl), (rgZ.far R18286 (vc_X12_ring_v_60 h18289 h20906 h20914.1 h18291 h18290 h20907 h20913 h20910) h20914.2 (vc_X12_ring_v_61 h11855 h20912 h20914.1 h20915 h20906 h18291 h11856 h20907 h20913 h20910) (vc_X12_ring_v_62 h20912 h20914.1 h20915 h11855 h20906 h18291 h11856 h20907 h20913 h20910)), trivial⟩
                    have h21372 : (-99999999) ≤ z20908 ∧ z20908 ≤ (-99999999) := (vc_X12_ring_v_63 h20912 h20911 h20910)
                    refine sv_goto (pc := 160) (tgt := 266) dX12_ring_160 (by decide) ?_
                    refine mr_iinc (pc := 266) (lv' := [(2, iv (z18279 + 1)), (0, .ref 106), (1, iv p1), (3, iv z20766)]) dX12_ring_266 rfl (by decide) rfl ?_
                    refine sv_goto (pc := 269) (tgt := 9) dX12_ring_269 (by decide) ?_
                    refine mr_lvS (lv' := [(0, .ref 106), (1, iv p1), (2, iv (z18279 + 1))]) (List.forall_mem_cons.mpr ⟨rfl, List.forall_mem_cons.mpr ⟨rfl, List.forall_mem_cons.mpr ⟨rfl, fun _ h => absurd h List.not_mem_nil⟩⟩⟩) ?_
                    exact ih18288 (z18279 + 1) μ20767 T20770 (mF.call (mF.call (mF.call mF.refl F18284 rfl) F19224 rfl) F20771 rfl) (rW (c := 0) (d := 10) (rAdd (e := 1) (f := 10) h18290 (rR (x := 1)) rfl) rfl) (noR.next R18286 (vc_X12_ring_v_65 h18289 h20906 h18291 h18290 h20907) (flV.no (dm := f_dm.toNat) (by have h := R20773 (z18279).toNat (vc_X12_ring_v_13 h18289 h20906 h18291 h18290 h20907); rw [q20909] at h; exact h) (vc_X12_ring_v_66 h20912 h21372 h20910) (vc_X12_ring_v_67 h18289 h20906 h18291 h18290 h20907) (vc_X12_ring_v_68 h18289 h20906 h18291 h18290 h20907) (fun a b e => (edR.lt hw hT hend a b e).1))) (vc_X12_ring_v_64 (nS h18287) h18289 h20906 h18291 h18290 h20907)
                  have h21373 : 1 ≤ z20766 ∧ z20766 ≤ 10 := (vc_X12_ring_v_69 h20906 h18289 h18291 h18290 h20769)
                  refine mr_iconst (pc := 49) (z := 0) dX12_ring_49 ?_
                  refine mr_istore (pc := 50) (lv' := [(4, iv 0), (0, .ref 106), (1, iv p1), (2, iv z18279), (3, iv z20766)]) dX12_ring_50 (by decide) rfl ?_
                  have L21822 : ∀ (nL21822 : Nat) (z21820 : Int) (μ21821 : mM), mT w μ21821 → mF [117999] w μ20767 μ21821 → (0 ≤ z21820 ∧ z21820 ≤ 10) → flA (edgR μ f_n) (z18279).toNat (μ21821 117) z20766 z21820 → (11 - z21820) < (nL21822 : Int) → sV (gG l D c H0 sa) mX12_ring (sRm 3 0 0) (sZ (gG l D c H0 sa) 0 0 (qI w [117999] μ (fun z μ1 => ((-2147483648) ≤ z ∧ z ≤ 2147483647) ∧ (rgZ (edgR μ f_n) f_dm.toNat p1 z) ∧ True))) 52 [(0, .ref 106), (1, iv p1), (2, iv z18279), (3, iv z20766), (4, iv z21820)] [] (mk w μ21821) 0 0 := by
                    intro nL21822
                    induction nL21822 with
                    | zero => intro z21820 μ21821 T21824 F21825 h21823 R21827 h21828; exact ((vc_X12_sends_1 h21828 h21823)).elim
                    | succ nL21822 ih21829 =>
                      intro z21820 μ21821 T21824 F21825 h21823 R21827 h21828
                      refine mr_iload (pc := 52) (z := z21820) dX12_ring_52 rfl ?_
                      refine sv_aload_n (pc := 54) dX12_ring_54 rfl rfl ?_
                      refine gk_X12_5 (pc := 55) dX12_ring_55 wF_X12_34 (A_106 hw) (F21825.f (A_106 hw) rfl (F20771.f (A_106 hw) rfl (F19224.f (A_106 hw) rfl (F18284.f (A_106 hw) rfl q_f_dm)))) ?_
                      refine mr_icmp_ge (pc := 58) (tgt := 143) dX12_ring_58 (by decide) (r32 h21823 rfl) (r32 h18291 rfl) (fun h21892 => ?_) (fun h21892 => ?_)
                      · have h21893 : 1 ≤ z21820 ∧ z21820 ≤ 10 := (vc_X12_ring_v_71 h21892 h18289 h20906 h18291 h18290 h21373 h21823)
                        refine mr_iinc (pc := 143) (lv' := [(3, iv (z20766 + 1)), (0, .ref 106), (1, iv p1), (2, iv z18279), (4, iv z21820)]) dX12_ring_143 rfl (by decide) rfl ?_
                        refine sv_goto (pc := 146) (tgt := 41) dX12_ring_146 (by decide) ?_
                        refine mr_lvS (lv' := [(0, .ref 106), (1, iv p1), (2, iv z18279), (3, iv (z20766 + 1))]) (List.forall_mem_cons.mpr ⟨rfl, List.forall_mem_cons.mpr ⟨rfl, List.forall_mem_cons.mpr ⟨rfl, List.forall_mem_cons.mpr ⟨rfl, fun _ h => absurd h List.not_mem_nil⟩⟩⟩⟩) ?_
                        exact ih20775 (z20766 + 1) μ21821 T21824 (mF.call (mF.call mF.refl F20771 rfl) F21825 rfl) (rW (c := 1) (d := 11) (rAdd (e := 2) (f := 11) h21373 (rR (x := 1)) rfl) rfl) (flA.fin (dm := f_dm.toNat) R21827 (vc_X12_ring_v_73 h18289 h20906 h21892 h18291 h18290 h21373 h21893) (vc_X12_ring_v_74 h20906 h18289 h21892 h18291 h18290 h21373 h21893) (fun a b e => (edR.lt hw hT hend a b e).1)) (vc_X12_ring_v_72 (nS h20774) h20906 h18289 h21892 h18291 h18290 h21373 h21893)
                      have h21894 : 0 ≤ z21820 ∧ z21820 ≤ 9 := (vc_X12_ring_v_75 h21892 h18289 h20906 h18291 h18290 h21373 h21823)
                      refine mr_iconst (pc := 61) (z := 0) dX12_ring_61 ?_
                      refine mr_istore (pc := 62) (lv' := [(5, iv 0), (0, .ref 106), (1, iv p1), (2, iv z18279), (3, iv z20766), (4, iv z21820)]) dX12_ring_62 (by decide) rfl ?_
                      have L22110 : ∀ (nL22110 : Nat) (z22108 : Int) (μ22109 : mM), mT w μ22109 → mF [117999] w μ21821 μ22109 → (0 ≤ z22108 ∧ z22108 ≤ 10) → flC (edgR μ f_n) (z18279).toNat (μ22109 117) z20766 z21820 z22108 → (11 - z22108) < (nL22110 : Int) → sV (gG l D c H0 sa) mX12_ring (sRm 3 0 0) (sZ (gG l D c H0 sa) 0 0 (qI w [117999] μ (fun z μ1 => ((-2147483648) ≤ z ∧ z ≤ 2147483647) ∧ (rgZ (edgR μ f_n) f_dm.toNat p1 z) ∧ True))) 64 [(0, .ref 106), (1, iv p1), (2, iv z18279), (3, iv z20766), (4, iv z21820), (5, iv z22108)] [] (mk w μ22109) 0 0 := by
                        intro nL22110
                        induction nL22110 with
                        | zero => intro z22108 μ22109 T22112 F22113 h22111 R22115 h22116; exact ((vc_X12_sends_1 h22116 h22111)).elim
                        | succ nL22110 ih22117 =>
                          intro z22108 μ22109 T22112 F22113 h22111 R22115 h22116
                          refine mr_iload (pc := 64) (z := z22108) dX12_ring_64 rfl ?_
                          refine sv_aload_n (pc := 66) dX12_ring_66 rfl rfl ?_
                          refine gk_X12_5 (pc := 67) dX12_ring_67 wF_X12_34 (A_106 hw) (F22113.f (A_106 hw) rfl (F21825.f (A_106 hw) rfl (F20771.f (A_106 hw) rfl (F19224.f (A_106 hw) rfl (F18284.f (A_106 hw) rfl q_f_dm))))) ?_
                          refine mr_icmp_ge (pc := 70) (tgt := 137) dX12_ring_70 (by decide) (r32 h22111 rfl) (r32 h18291 rfl) (fun h22118 => ?_) (fun h22118 => ?_)
                          · have h22119 : 1 ≤ z22108 ∧ z22108 ≤ 10 := (vc_X12_ring_v_77 h22118 h18289 h20906 h21892 h18291 h18290 h21373 h21894 h22111)
                            refine mr_iinc (pc := 137) (lv' := [(4, iv (z21820 + 1)), (0, .ref 106), (1, iv p1), (2, iv z18279), (3, iv z20766), (5, iv z22108)]) dX12_ring_137 rfl (by decide) rfl ?_
                            refine sv_goto (pc := 140) (tgt := 52) dX12_ring_140 (by decide) ?_
                            refine mr_lvS (lv' := [(0, .ref 106), (1, iv p1), (2, iv z18279), (3, iv z20766), (4, iv (z21820 + 1))]) (List.forall_mem_cons.mpr ⟨rfl, List.forall_mem_cons.mpr ⟨rfl, List.forall_mem_cons.mpr ⟨rfl, List.forall_mem_cons.mpr ⟨rfl, List.forall_mem_cons.mpr ⟨rfl, fun _ h => absurd h List.not_mem_nil⟩⟩⟩⟩⟩) ?_
                            obtain ⟨z22120, q22121⟩ : ∃ z, μ22109 117 (z21820.toNat) = z := ⟨_, rfl⟩
                            have h22122 : (z22120 = -99999999 ∨ (0 ≤ z22120 ∧ z22120 ≤ 10)) := by rw [← q22121]; exact T22112 117 117 (A_117 hw) (z21820.toNat)
                            have h22123 : (-99999999) ≤ z22120 ∧ z22120 ≤ 10 := (vc_X12_ring_v_11 h22122)
                            exact ih21829 (z21820 + 1) μ22109 T22112 (mF.call (mF.call mF.refl F21825 rfl) F22113 rfl) (rW (c := 0) (d := 10) (rAdd (e := 1) (f := 10) h21894 (rR (x := 1)) rfl) rfl) (flC.fin (dm := f_dm.toNat) R22115 (vc_X12_ring_v_80 h21892 h18289 h20906 h22118 h18291 h18290 h21373 h21894 h22119) q22121 (vc_X12_ring_v_81 h20906 h18289 h21892 h22118 h18291 h18290 h21373 h21894 h22119) (vc_X12_ring_v_82 h18289 h20906 h21892 h22118 h18291 h18290 h21373 h21894 h22119 h22123 h22122) (fun a b e => (edR.lt hw hT hend a b e).2)) (vc_X12_ring_v_78 (nS h21828) h21892 h18289 h20906 h22118 h18291 h18290 h21373 h21894 h22119)
                          have h22124 : 0 ≤ z22108 ∧ z22108 ≤ 9 := (vc_X12_ring_v_83 h22118 h18289 h20906 h21892 h18291 h18290 h21373 h21894 h22111)
                          refine sv_aload_n (pc := 73) dX12_ring_73 rfl rfl ?_
                          refine gf_X12_14 (pc := 74) dX12_ring_74 wF_X12_72 (A_106 hw) T22112 ?_
                          refine mr_iload (pc := 77) (z := z21820) dX12_ring_77 rfl ?_
                          refine la_117 (pc := 79) dX12_ring_79 (A_117 hw) T22112 (rIx (n := 10) h21894 rfl) fun z22125 q22126 h22127 => ?_
                          have h22128 : (-99999999) ≤ z22125 ∧ z22125 ≤ 10 := (vc_X12_ring_v_11 h22127)
                          refine mr_ldc (pc := 80) (z := (-99999999)) dX12_ring_80 wG_X12_29 (by decide) ?_
                          refine mr_icmp_ne (pc := 82) (tgt := 137) dX12_ring_82 (by decide) (r32 h22128 rfl) (r32 (rR (x := (-99999999))) rfl) (fun h22129 => ?_) (fun h22129 => ?_)
                          · have h22130 : 0 ≤ z22125 ∧ z22125 ≤ 10 := (vc_X12_ring_v_12 h22129 h22128 h22127)
                            refine mr_iinc (pc := 137) (lv' := [(4, iv (z21820 + 1)), (0, .ref 106), (1, iv p1), (2, iv z18279), (3, iv z20766), (5, iv z22108)]) dX12_ring_137 rfl (by decide) rfl ?_
                            refine sv_goto (pc := 140) (tgt := 52) dX12_ring_140 (by decide) ?_
                            refine mr_lvS (lv' := [(0, .ref 106), (1, iv p1), (2, iv z18279), (3, iv z20766), (4, iv (z21820 + 1))]) (List.forall_mem_cons.mpr ⟨rfl, List.forall_mem_cons.mpr ⟨rfl, List.forall_mem_cons.mpr ⟨rfl, List.forall_mem_cons.mpr ⟨rfl, List.forall_mem_cons.mpr ⟨rfl, fun _ h => absurd h List.not_mem_nil⟩⟩⟩⟩⟩) ?_
                            exact ih21829 (z21820 + 1) μ22109 T22112 (mF.call (mF.call mF.refl F21825 rfl) F22113 rfl) (rW (c := 0) (d := 10) (rAdd (e := 1) (f := 10) h21894 (rR (x := 1)) rfl) rfl) (flC.fin (dm := f_dm.toNat) R22115 (vc_X12_ring_v_87 h21892 h18289 h20906 h22118 h18291 h18290 h21373 h21894 h22124) q22126 (vc_X12_ring_v_88 h20906 h18289 h21892 h22118 h18291 h18290 h21373 h21894 h22124) (vc_X12_ring_v_89 h18289 h20906 h21892 h22118 h22129 h18291 h18290 h21373 h21894 h22124 h22130 h22127) (fun a b e => (edR.lt hw hT hend a b e).2)) (vc_X12_ring_v_86 (nS h21828) h21892 h18289 h20906 h22118 h18291 h18290 h21373 h21894 h22124)
                          have h22131 : (-99999999) ≤ z22125 ∧ z22125 ≤ (-99999999) := (vc_X12_ring_v_63 h22129 h22128 h22127)
                          refine sv_aload_n (pc := 85) dX12_ring_85 rfl rfl ?_
                          refine mr_iload (pc := 86) (z := z21820) dX12_ring_86 rfl ?_
                          refine mr_iload (pc := 88) (z := z22108) dX12_ring_88 rfl ?_
                          refine mr_cVP (pc := 90) (c_X12_provides_v hw T22112 h21894 h22124 (F22113.f (A_106 hw) rfl (F21825.f (A_106 hw) rfl (F20771.f (A_106 hw) rfl (F19224.f (A_106 hw) rfl (F18284.f (A_106 hw) rfl q_f_n))))) (TUQ.tr htu hw ((mF.call (mF.call (mF.call (mF.call (mF.call mF.refl F18284 rfl) F19224 rfl) F20771 rfl) F21825 rfl) F22113 rfl) : mF [117999] w μ μ22109) rfl)) (gOk _ _ _ _ _) dX12_ring_90 (tX12_provides _ _ _ _ _) ⟨wV_X12_provides, wL_X12_provides⟩ wM_X12_75 (gCX12 _ _ _ _ _) rfl (A_106 hw) rfl ⟨le_t rfl, le_t rfl⟩ ⟨le_t rfl, le_t rfl⟩ rfl (le_t rfl) fun z22136 h22135 => ?_
                          refine mr_if_eq (pc := 93) (tgt := 131) dX12_ring_93 (by decide) (r32 h22135.1 rfl) (fun h22137 => ?_) (fun h22137 => ?_)
                          · have h22138 : 0 ≤ z22136 ∧ z22136 ≤ 0 := (vc_X12_letWay_6 h22137 h22135.1)
                            refine mr_iinc (pc := 131) (lv' := [(5, iv (z22108 + 1)), (0, .ref 106), (1, iv p1), (2, iv z18279), (3, iv z20766), (4, iv z21820)]) dX12_ring_131 rfl (by decide) rfl ?_
                            refine sv_goto (pc := 134) (tgt := 64) dX12_ring_134 (by decide) ?_
                            refine mr_lvS (lv' := [(0, .ref 106), (1, iv p1), (2, iv z18279), (3, iv z20766), (4, iv z21820), (5, iv (z22108 + 1))]) (List.forall_mem_cons.mpr ⟨rfl, List.forall_mem_cons.mpr ⟨rfl, List.forall_mem_cons.mpr ⟨rfl, List.forall_mem_cons.mpr ⟨rfl, List.forall_mem_cons.mpr ⟨rfl, List.forall_mem_cons.mpr ⟨rfl, fun _ h => absurd h List.not_mem_nil⟩⟩⟩⟩⟩⟩) ?_
                            exact ih22117 (z22108 + 1) μ22109 T22112 (mF.call mF.refl F22113 rfl) (rW (c := 0) (d := 10) (rAdd (e := 1) (f := 10) h22124 (rR (x := 1)) rfl) rfl) (flC.no R22115 q22126 (vc_X12_ring_v_66 h22129 h22131 h22127) (vc_X12_ring_v_94 h22118 h18289 h20906 h21892 h18291 h18290 h21373 h21894 h22124) (fun g => (vc_X12_ring_v_46 h22137 h22138) (((show (z22136 = 1 ↔ edgR μ f_n (z21820).toNat (z22108).toNat) from by have h := h22135.2.1; rw [edRB hw ((mF.call (mF.call (mF.call (mF.call (mF.call mF.refl F18284 rfl) F19224 rfl) F20771 rfl) F21825 rfl) F22113 rfl) : mF [117999] w μ μ22109) rfl] at h; exact h)).mpr g.1))) (vc_X12_ring_v_92 (nS h22116) h22118 h18289 h20906 h21892 h18291 h18290 h21373 h21894 h22124)
                          have h22139 : 1 ≤ z22136 ∧ z22136 ≤ 1 := (vc_X12_letWay_11 h22137 h22135.1)
                          refine mr_iload_n (pc := 96) (z := z20766) dX12_ring_96 rfl rfl ?_
                          refine mr_iconst (pc := 97) (z := 1) dX12_ring_97 ?_
                          refine mr_icmp_ne (pc := 98) (tgt := 110) dX12_ring_98 (by decide) (r32 h21373 rfl) (r32 (rR (x := 1)) rfl) (fun h22140 => ?_) (fun h22140 => ?_)
                          · have h22141 : 2 ≤ z20766 ∧ z20766 ≤ 10 := (vc_X12_ring_v_97 h22140 h20906 h18291 h21373)
                            refine sv_aload_n (pc := 110) dX12_ring_110 rfl rfl ?_
                            refine gf_X12_14 (pc := 111) dX12_ring_111 wF_X12_72 (A_106 hw) T22112 ?_
                            refine mr_iload (pc := 114) (z := z22108) dX12_ring_114 rfl ?_
                            refine la_117 (pc := 116) dX12_ring_116 (A_117 hw) T22112 (rIx (n := 10) h22124 rfl) fun z22142 q22143 h22144 => ?_
                            have h22145 : (-99999999) ≤ z22142 ∧ z22142 ≤ 10 := (vc_X12_ring_v_11 h22144)
                            refine mr_iload_n (pc := 117) (z := z20766) dX12_ring_117 rfl rfl ?_
                            refine mr_iconst (pc := 118) (z := 1) dX12_ring_118 ?_
                            refine mr_isub (pc := 119) (x := z20766) (y := 1) dX12_ring_119 ?_
                            refine mr_icmp_ne (pc := 120) (tgt := 131) dX12_ring_120 (by decide) (r32 h22145 rfl) (r32 (rSub (e := 1) (f := 9) h22141 (rR (x := 1)) rfl) rfl) (fun h22146 => ?_) (fun h22146 => ?_)
                            · refine mr_iinc (pc := 131) (lv' := [(5, iv (z22108 + 1)), (0, .ref 106), (1, iv p1), (2, iv z18279), (3, iv z20766), (4, iv z21820)]) dX12_ring_131 rfl (by decide) rfl ?_
                              refine sv_goto (pc := 134) (tgt := 64) dX12_ring_134 (by decide) ?_
                              refine mr_lvS (lv' := [(0, .ref 106), (1, iv p1), (2, iv z18279), (3, iv z20766), (4, iv z21820), (5, iv (z22108 + 1))]) (List.forall_mem_cons.mpr ⟨rfl, List.forall_mem_cons.mpr ⟨rfl, List.forall_mem_cons.mpr ⟨rfl, List.forall_mem_cons.mpr ⟨rfl, List.forall_mem_cons.mpr ⟨rfl, List.forall_mem_cons.mpr ⟨rfl, fun _ h => absurd h List.not_mem_nil⟩⟩⟩⟩⟩⟩) ?_
                              exact ih22117 (z22108 + 1) μ22109 T22112 (mF.call mF.refl F22113 rfl) (rW (c := 0) (d := 10) (rAdd (e := 1) (f := 10) h22124 (rR (x := 1)) rfl) rfl) (flC.no R22115 q22126 (vc_X12_ring_v_66 h22129 h22131 h22127) (vc_X12_ring_v_100 h22118 h18289 h20906 h21892 h18291 h18290 h22141 h21894 h22124) (fun g => by have h2 := (vc_X12_ring_v_101 h20906 h22140 h22146 h18289 h21892 h22118 h18291 h18290 h22141 h21894 h22124 h22145 h22144); rcases g.2 with ⟨e, _⟩ | ⟨_, e⟩; exact h2 e; exact (vc_X12_ring_v_102 h20906 h22140 h22146 h18289 h21892 h22118 h18291 h18290 h22141 h21894 h22124 h22145 h22144) ((q22143).symm.trans ((flC.is R22115 (vc_X12_ring_v_103 h22118 h18289 h20906 h21892 h18291 h18290 h22141 h21894 h22124) (vc_X12_ring_v_104 h20906 h22140 h22146 h18289 h21892 h22118 h18291 h18290 h22141 h21894 h22124 h22145 h22144)).mpr e)))) (vc_X12_ring_v_99 (nS h22116) h22118 h18289 h20906 h21892 h18291 h18290 h22141 h21894 h22124)
                            have h22147 : 1 ≤ z22142 ∧ z22142 ≤ 9 := (vc_X12_ring_v_105 h22146 h20906 h22140 h18291 h22141 h22145 h22144)
                            refine sv_aload_n (pc := 123) dX12_ring_123 rfl rfl ?_
                            refine gf_X12_14 (pc := 124) dX12_ring_124 wF_X12_72 (A_106 hw) T22112 ?_
                            refine mr_iload (pc := 127) (z := z21820) dX12_ring_127 rfl ?_
                            refine mr_iload_n (pc := 129) (z := z20766) dX12_ring_129 rfl rfl ?_
                            refine ss_117 (pc := 130) dX12_ring_130 (A_117 hw) T22112 (rIx (n := 10) h21894 rfl) (vc_X12_ring_v_106 h20906 h22140 h22146 h18289 h21892 h22118 h18291 h18290 h22141 h21894 h22124 h22147 h22144) fun μ22148 u22149 T22150 => ?_
                            refine mr_iinc (pc := 131) (lv' := [(5, iv (z22108 + 1)), (0, .ref 106), (1, iv p1), (2, iv z18279), (3, iv z20766), (4, iv z21820)]) dX12_ring_131 rfl (by decide) rfl ?_
                            refine sv_goto (pc := 134) (tgt := 64) dX12_ring_134 (by decide) ?_
                            refine mr_lvS (lv' := [(0, .ref 106), (1, iv p1), (2, iv z18279), (3, iv z20766), (4, iv z21820), (5, iv (z22108 + 1))]) (List.forall_mem_cons.mpr ⟨rfl, List.forall_mem_cons.mpr ⟨rfl, List.forall_mem_cons.mpr ⟨rfl, List.forall_mem_cons.mpr ⟨rfl, List.forall_mem_cons.mpr ⟨rfl, List.forall_mem_cons.mpr ⟨rfl, fun _ h => absurd h List.not_mem_nil⟩⟩⟩⟩⟩⟩) ?_
                            exact ih22117 (z22108 + 1) μ22148 T22150 (mF.up (mF.call mF.refl F22113 rfl) (A_117 hw) u22149 rfl) (rW (c := 0) (d := 10) (rAdd (e := 1) (f := 10) h22124 (rR (x := 1)) rfl) rfl) (flC.yes R22115 q22126 (vc_X12_ring_v_66 h22129 h22131 h22127) (vc_X12_ring_v_111 h20906 h22140 h22146 h18289 h21892 h22118 h18291 h18290 h22141 h21894 h22124 h22147 h22144) ⟨(((show (z22136 = 1 ↔ edgR μ f_n (z21820).toNat (z22108).toNat) from by have h := h22135.2.1; rw [edRB hw ((mF.call (mF.call (mF.call (mF.call (mF.call mF.refl F18284 rfl) F19224 rfl) F20771 rfl) F21825 rfl) F22113 rfl) : mF [117999] w μ μ22109) rfl] at h; exact h)).mp (vc_X12_best_l_18 h22137 h22139)), Or.inr ⟨(vc_X12_ring_v_108 h20906 h22140 h22146 h18289 h21892 h22118 h18291 h18290 h22141 h21894 h22124 h22147 h22144), (flC.is R22115 (vc_X12_ring_v_103 h22118 h18289 h20906 h21892 h18291 h18290 h22141 h21894 h22124) (vc_X12_ring_v_109 h20906 h22140 h22146 h18289 h21892 h22118 h18291 h18290 h22141 h21894 h22124 h22147 h22144)).mp ((q22143).trans (vc_X12_ring_v_110 h20906 h22140 h22146 h18289 h21892 h22118 h18291 h18290 h22141 h21894 h22124 h22147 h22144))⟩⟩ u22149.1 (vc_X12_ring_v_112 h20906 h22140 h22146 h18289 h21892 h22118 h18291 h18290 h22141 h21894 h22124 h22147 h22144) (fun i hi => u22149.2 117 i (Or.inr hi))) (vc_X12_ring_v_99 (nS h22116) h22118 h18289 h20906 h21892 h18291 h18290 h22141 h21894 h22124)
                          have h22151 : 1 ≤ z20766 ∧ z20766 ≤ 1 := (vc_X12_ring_v_113 h22140 h20906 h18291 h21373)
                          refine mr_iload (pc := 101) (z := z22108) dX12_ring_101 rfl ?_
                          refine mr_iload_n (pc := 103) (z := z18279) dX12_ring_103 rfl rfl ?_
                          refine mr_icmp_ne (pc := 104) (tgt := 131) dX12_ring_104 (by decide) (r32 h22124 rfl) (r32 h18290 rfl) (fun h22152 => ?_) (fun h22152 => ?_)
                          · refine mr_iinc (pc := 131) (lv' := [(5, iv (z22108 + 1)), (0, .ref 106), (1, iv p1), (2, iv z18279), (3, iv z20766), (4, iv z21820)]) dX12_ring_131 rfl (by decide) rfl ?_
                            refine sv_goto (pc := 134) (tgt := 64) dX12_ring_134 (by decide) ?_
                            refine mr_lvS (lv' := [(0, .ref 106), (1, iv p1), (2, iv z18279), (3, iv z20766), (4, iv z21820), (5, iv (z22108 + 1))]) (List.forall_mem_cons.mpr ⟨rfl, List.forall_mem_cons.mpr ⟨rfl, List.forall_mem_cons.mpr ⟨rfl, List.forall_mem_cons.mpr ⟨rfl, List.forall_mem_cons.mpr ⟨rfl, List.forall_mem_cons.mpr ⟨rfl, fun _ h => absurd h List.not_mem_nil⟩⟩⟩⟩⟩⟩) ?_
                            exact ih22117 (z22108 + 1) μ22109 T22112 (mF.call mF.refl F22113 rfl) (rW (c := 0) (d := 10) (rAdd (e := 1) (f := 10) h22124 (rR (x := 1)) rfl) rfl) (flC.no R22115 q22126 (vc_X12_ring_v_66 h22129 h22131 h22127) (vc_X12_ring_v_115 h22118 h22152 h18289 h20906 h21892 h18291 h18290 h22151 h21894 h22124) (fun g => by have h1 := g.2; have h2 := (vc_X12_ring_v_116 h20906 h22140 h18289 h21892 h22118 h18291 h18290 h22151 h21894 h22124); have h3 := (vc_X12_ring_v_117 h18289 h22118 h22152 h20906 h21892 h18291 h18290 h22151 h21894 h22124); rcases h1 with ⟨_, e⟩ | ⟨e, _⟩; exact h3 e; exact e h2)) (vc_X12_ring_v_114 (nS h22116) h22118 h22152 h18289 h20906 h21892 h18291 h18290 h22151 h21894 h22124)
                          refine sv_goto (pc := 107) (tgt := 123) dX12_ring_107 (by decide) ?_
                          refine sv_aload_n (pc := 123) dX12_ring_123 rfl rfl ?_
                          refine gf_X12_14 (pc := 124) dX12_ring_124 wF_X12_72 (A_106 hw) T22112 ?_
                          refine mr_iload (pc := 127) (z := z21820) dX12_ring_127 rfl ?_
                          refine mr_iload_n (pc := 129) (z := z20766) dX12_ring_129 rfl rfl ?_
                          refine ss_117 (pc := 130) dX12_ring_130 (A_117 hw) T22112 (rIx (n := 10) h21894 rfl) (vc_X12_ring_v_118 h20906 h22140 h18289 h21892 h22118 h18291 h18290 h22151 h21894 h22124) fun μ22153 u22154 T22155 => ?_
                          refine mr_iinc (pc := 131) (lv' := [(5, iv (z22108 + 1)), (0, .ref 106), (1, iv p1), (2, iv z18279), (3, iv z20766), (4, iv z21820)]) dX12_ring_131 rfl (by decide) rfl ?_
                          refine sv_goto (pc := 134) (tgt := 64) dX12_ring_134 (by decide) ?_
                          refine mr_lvS (lv' := [(0, .ref 106), (1, iv p1), (2, iv z18279), (3, iv z20766), (4, iv z21820), (5, iv (z22108 + 1))]) (List.forall_mem_cons.mpr ⟨rfl, List.forall_mem_cons.mpr ⟨rfl, List.forall_mem_cons.mpr ⟨rfl, List.forall_mem_cons.mpr ⟨rfl, List.forall_mem_cons.mpr ⟨rfl, List.forall_mem_cons.mpr ⟨rfl, fun _ h => absurd h List.not_mem_nil⟩⟩⟩⟩⟩⟩) ?_
                          exact ih22117 (z22108 + 1) μ22153 T22155 (mF.up (mF.call mF.refl F22113 rfl) (A_117 hw) u22154 rfl) (rW (c := 0) (d := 10) (rAdd (e := 1) (f := 10) h22124 (rR (x := 1)) rfl) rfl) (flC.yes R22115 q22126 (vc_X12_ring_v_66 h22129 h22131 h22127) (vc_X12_ring_v_122 h20906 h22140 h18289 h21892 h22118 h18291 h18290 h22151 h21894 h22124) ⟨(((show (z22136 = 1 ↔ edgR μ f_n (z21820).toNat (z22108).toNat) from by have h := h22135.2.1; rw [edRB hw ((mF.call (mF.call (mF.call (mF.call (mF.call mF.refl F18284 rfl) F19224 rfl) F20771 rfl) F21825 rfl) F22113 rfl) : mF [117999] w μ μ22109) rfl] at h; exact h)).mp (vc_X12_best_l_18 h22137 h22139)), Or.inl ⟨(vc_X12_ring_v_116 h20906 h22140 h18289 h21892 h22118 h18291 h18290 h22151 h21894 h22124), (vc_X12_ring_v_121 h18289 h22118 h22152 h20906 h21892 h18291 h18290 h22151 h21894 h22124)⟩⟩ u22154.1 (vc_X12_ring_v_123 h20906 h22140 h18289 h21892 h22118 h18291 h18290 h22151 h21894 h22124) (fun i hi => u22154.2 117 i (Or.inr hi))) (vc_X12_ring_v_119 (nS h22116) h22118 h22152 h18289 h20906 h21892 h18291 h18290 h22151 h21894 h22124)
                      refine mr_lvS (lv' := [(0, .ref 106), (1, iv p1), (2, iv z18279), (3, iv z20766), (4, iv z21820), (5, iv 0)]) (List.forall_mem_cons.mpr ⟨rfl, List.forall_mem_cons.mpr ⟨rfl, List.forall_mem_cons.mpr ⟨rfl, List.forall_mem_cons.mpr ⟨rfl, List.forall_mem_cons.mpr ⟨rfl, List.forall_mem_cons.mpr ⟨rfl, fun _ h => absurd h List.not_mem_nil⟩⟩⟩⟩⟩⟩) ?_
                      exact L22110 12 0 μ21821 T21824 mF.refl (rW (c := 0) (d := 10) (rR (x := 0)) rfl) (flC.start R21827 (vc_X12_ring_v_124 h21892 h18289 h20906 h18291 h18290 h21373 h21894) vc_X10_tieBetween_v_23) vc_X12_sends_20
                  refine mr_lvS (lv' := [(0, .ref 106), (1, iv p1), (2, iv z18279), (3, iv z20766), (4, iv 0)]) (List.forall_mem_cons.mpr ⟨rfl, List.forall_mem_cons.mpr ⟨rfl, List.forall_mem_cons.mpr ⟨rfl, List.forall_mem_cons.mpr ⟨rfl, List.forall_mem_cons.mpr ⟨rfl, fun _ h => absurd h List.not_mem_nil⟩⟩⟩⟩⟩) ?_
                  exact L21822 12 0 μ20767 T20770 mF.refl (rW (c := 0) (d := 10) (rR (x := 0)) rfl) (flA.start R20773 vc_X10_tieBetween_v_23) vc_X12_sends_20
              refine mr_lvS (lv' := [(0, .ref 106), (1, iv p1), (2, iv z18279), (3, iv 1)]) (List.forall_mem_cons.mpr ⟨rfl, List.forall_mem_cons.mpr ⟨rfl, List.forall_mem_cons.mpr ⟨rfl, List.forall_mem_cons.mpr ⟨rfl, fun _ h => absurd h List.not_mem_nil⟩⟩⟩⟩) ?_
              exact L20768 12 1 μ19220 T19223 mF.refl (rW (c := 1) (d := 11) (rR (x := 1)) rfl) (fiN.lev R19226 (vc_X12_ring_v_126 h19234 h19235) vc_X12_ring_v_127) vc_X12_ring_v_125
            have h22156 : 0 ≤ z19219 ∧ z19219 ≤ 9 := (vc_X11_prefix_7 h19234 h19222)
            refine sv_aload_n (pc := 25) dX12_ring_25 rfl rfl ?_
            refine gf_X12_14 (pc := 26) dX12_ring_26 wF_X12_72 (A_106 hw) T19223 ?_
            refine mr_iload_n (pc := 29) (z := z19219) dX12_ring_29 rfl rfl ?_
            refine mr_ldc (pc := 30) (z := (-99999999)) dX12_ring_30 wG_X12_29 (by decide) ?_
            refine ss_117 (pc := 32) dX12_ring_32 (A_117 hw) T19223 (rIx (n := 10) h22156 rfl) vc_X12_ring_v_129 fun μ22157 u22158 T22159 => ?_
            refine mr_iinc (pc := 33) (lv' := [(3, iv (z19219 + 1)), (0, .ref 106), (1, iv p1), (2, iv z18279)]) dX12_ring_33 rfl (by decide) rfl ?_
            refine sv_goto (pc := 36) (tgt := 19) dX12_ring_36 (by decide) ?_
            refine mr_lvS (lv' := [(0, .ref 106), (1, iv p1), (2, iv z18279), (3, iv (z19219 + 1))]) (List.forall_mem_cons.mpr ⟨rfl, List.forall_mem_cons.mpr ⟨rfl, List.forall_mem_cons.mpr ⟨rfl, List.forall_mem_cons.mpr ⟨rfl, fun _ h => absurd h List.not_mem_nil⟩⟩⟩⟩) ?_
            exact ih19228 (z19219 + 1) μ22157 T22159 (mF.up (mF.call mF.refl F19224 rfl) (A_117 hw) u22158 rfl) (rW (c := 0) (d := 10) (rAdd (e := 1) (f := 10) h22156 (rR (x := 1)) rfl) rfl) (fiN.next R19226 (vc_X12_ring_v_131 h19234 h22156) u22158) (vc_X12_ring_v_130 (nS h19227) h19234 h22156)
        refine mr_lvS (lv' := [(0, .ref 106), (1, iv p1), (2, iv z18279), (3, iv 0)]) (List.forall_mem_cons.mpr ⟨rfl, List.forall_mem_cons.mpr ⟨rfl, List.forall_mem_cons.mpr ⟨rfl, List.forall_mem_cons.mpr ⟨rfl, fun _ h => absurd h List.not_mem_nil⟩⟩⟩⟩) ?_
        exact L19221 12 0 μ18280 T18283 mF.refl (rW (c := 0) (d := 10) (rR (x := 0)) rfl) (fun i hi => absurd hi (by have h := vc_X10_tieBetween_v_23; omega)) vc_X12_sends_20
    refine mr_lvS (lv' := [(0, .ref 106), (1, iv p1), (2, iv 0)]) (List.forall_mem_cons.mpr ⟨rfl, List.forall_mem_cons.mpr ⟨rfl, List.forall_mem_cons.mpr ⟨rfl, fun _ h => absurd h List.not_mem_nil⟩⟩⟩) ?_
    exact L18281 12 0 μ hT mF.refl (rW (c := 0) (d := 10) (rR (x := 0)) rfl) (noR.zero vc_X10_tieBetween_v_23) vc_X12_sends_20
  have h22160 : (-2147483648) ≤ p1 ∧ p1 ≤ (-1) := (vc_X12_cut_1 h11855 hp1)
  refine mr_ldc (pc := 4) (z := (-99999999)) dX12_ring_4 wG_X12_29 (by decide) ?_
  exact mr_iret dX12_ring_6 rfl (le_t rfl) (le_t rfl) hT mF.refl ⟨(rW (c := (-2147483648)) (d := 2147483647) (rR (x := (-99999999))) rfl), (Or.inl ⟨(vc_X12_tries_114 h11855 h22160), rfl⟩), trivial⟩
