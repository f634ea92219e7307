theorem vc_X10_tieBetween_v_2 {f_n n1 z461 : Int} (h0 : f_n = n1) (h1 : f_n ≤ z461) (h2 : 0 ≤ f_n ∧ f_n ≤ 20) (h3 : 0 ≤ z461 ∧ z461 ≤ 20) : (-1 : Int) < n1 := by omega
theorem vc_X10_tieBetween_v_3 {f_n n1 z461 : Int} (h0 : f_n = n1) (h1 : f_n ≤ z461) (h2 : 0 ≤ f_n ∧ f_n ≤ 20) (h3 : 0 ≤ z461 ∧ z461 ≤ 20) : f_n ≤ z461 := by omega
theorem vc_X10_tieBetween_v_4 {f_n n1 z461 : Int} (h0 : z461 < f_n) (h1 : f_n = n1) (h2 : 0 ≤ f_n ∧ f_n ≤ 20) (h3 : 0 ≤ z461 ∧ z461 ≤ 20) : 0 ≤ z461 ∧ z461 ≤ 19 := by omega
theorem vc_X10_tieBetween_v_5 {f_n n1 z461 : Int} (h0 : z461 < f_n) (h1 : f_n = n1) (h2 : 0 ≤ f_n ∧ f_n ≤ 20) (h3 : 0 ≤ z461 ∧ z461 ≤ 19) : 1 ≤ f_n ∧ f_n ≤ 20 := by omega
theorem vc_X10_tieBetween_v_6 {f_n n1 z461 : Int} (h0 : f_n = n1) (h1 : z461 < f_n) (h2 : 1 ≤ f_n ∧ f_n ≤ 20) (h3 : 0 ≤ z461 ∧ z461 ≤ 19) : z461 < n1 := by omega
theorem vc_X10_tieBetween_v_7 {N f_n n1 z461 : Int} (h0 : (21 - z461) < N + 1) (h1 : z461 < f_n) (h2 : f_n = n1) (h3 : 1 ≤ f_n ∧ f_n ≤ 20) (h4 : 0 ≤ z461 ∧ z461 ≤ 19) : (21 - (z461 + 1)) < N := by omega
theorem vc_X10_tieBetween_v_8 {f_n n1 z461 : Int} (h0 : z461 < f_n) (h1 : f_n = n1) (h2 : 1 ≤ f_n ∧ f_n ≤ 20) (h3 : 0 ≤ z461 ∧ z461 ≤ 19) : 0 ≤ z461 := by omega
theorem vc_X10_tieBetween_v_9 {n0 p1 p2 z476 : Int} (h0 : z476 < n0) (h1 : ¬ z476 = p1) (h2 : ¬ z476 = p2) (h3 : (-2147483648) ≤ p1 ∧ p1 ≤ 2147483647) (h4 : (-2147483648) ≤ p2 ∧ p2 ≤ 2147483647) (h5 : 0 ≤ z476 ∧ z476 ≤ 9) : ¬ z476 = p1 ∧ ¬ z476 = p2 := by omega
theorem vc_X10_tieBetween_v_11 {n0 p1 p2 z476 z483 : Int} (h0 : z476 < n0) (h1 : ¬ z476 = p1) (h2 : z476 = p2) (h3 : z483 < n0) (h4 : ¬ z483 = p1) (h5 : (-2147483648) ≤ p1 ∧ p1 ≤ 2147483647) (h6 : 0 ≤ p2 ∧ p2 ≤ 9) (h7 : 0 ≤ z476 ∧ z476 ≤ 9) (h8 : 0 ≤ z483 ∧ z483 ≤ 9) : ¬ ((z476 = p1 ∧ z483 = p2) ∨ (z476 = p2 ∧ z483 = p1)) := by omega
theorem vc_X10_tieBetween_v_13 {f_n n1 z461 : Int} (h0 : f_n = n1) (h1 : z461 < f_n) (h2 : 1 ≤ f_n ∧ f_n ≤ 20) (h3 : 0 ≤ z461 ∧ z461 ≤ 19) : 0 ≤ z461 ∧ z461 < f_n := by omega
theorem vc_X10_tieBetween_v_14 {n0 p1 p2 z476 z483 : Int} (h0 : z476 < n0) (h1 : ¬ z476 = p1) (h2 : z476 = p2) (h3 : z483 < n0) (h4 : z483 = p1) (h5 : 0 ≤ p1 ∧ p1 ≤ 9) (h6 : 0 ≤ p2 ∧ p2 ≤ 9) (h7 : 0 ≤ z476 ∧ z476 ≤ 9) (h8 : 0 ≤ z483 ∧ z483 ≤ 9) : (z476 = p1 ∧ z483 = p2) ∨ (z476 = p2 ∧ z483 = p1) := by omega
theorem vc_X10_tieBetween_v_17 {n0 p1 p2 z476 z490 : Int} (h0 : z476 < n0) (h1 : z476 = p1) (h2 : z490 < n0) (h3 : z490 = p2) (h4 : 0 ≤ p1 ∧ p1 ≤ 9) (h5 : 0 ≤ p2 ∧ p2 ≤ 9) (h6 : 0 ≤ z476 ∧ z476 ≤ 9) (h7 : 0 ≤ z490 ∧ z490 ≤ 9) : (z476 = p1 ∧ z490 = p2) ∨ (z476 = p2 ∧ z490 = p1) := by omega
theorem vc_X10_tieBetween_v_18 {n0 p1 p2 z476 z490 : Int} (h0 : z476 < n0) (h1 : z476 = p1) (h2 : z490 < n0) (h3 : ¬ z490 = p2) (h4 : ¬ z476 = p2) (h5 : 0 ≤ p1 ∧ p1 ≤ 9) (h6 : (-2147483648) ≤ p2 ∧ p2 ≤ 2147483647) (h7 : 0 ≤ z476 ∧ z476 ≤ 9) (h8 : 0 ≤ z490 ∧ z490 ≤ 9) : ¬ ((z476 = p1 ∧ z490 = p2) ∨ (z476 = p2 ∧ z490 = p1)) := by omega
theorem vc_X10_tieBetween_v_20 {n0 p1 p2 z476 z490 : Int} (h0 : z476 < n0) (h1 : z476 = p1) (h2 : z490 < n0) (h3 : ¬ z490 = p2) (h4 : z476 = p2) (h5 : ¬ z490 = p1) (h6 : 0 ≤ p1 ∧ p1 ≤ 9) (h7 : 0 ≤ p2 ∧ p2 ≤ 9) (h8 : 0 ≤ z476 ∧ z476 ≤ 9) (h9 : 0 ≤ z490 ∧ z490 ≤ 9) : ¬ ((z476 = p1 ∧ z490 = p2) ∨ (z476 = p2 ∧ z490 = p1)) := by omega
theorem vc_X10_tieBetween_v_21 {n0 p1 p2 z476 z490 : Int} (h0 : z476 < n0) (h1 : z476 = p1) (h2 : z490 < n0) (h3 : ¬ z490 = p2) (h4 : z476 = p2) (h5 : z490 = p1) (h6 : 0 ≤ p1 ∧ p1 ≤ 9) (h7 : 0 ≤ p2 ∧ p2 ≤ 9) (h8 : 0 ≤ z476 ∧ z476 ≤ 9) (h9 : 0 ≤ z490 ∧ z490 ≤ 9) : (z476 = p1 ∧ z490 = p2) ∨ (z476 = p2 ∧ z490 = p1) := by omega
theorem vc_X10_tieBetween_v_23  : ((0 : Int) : Int) ≤ (0 : Int) := by omega
set_option maxRecDepth 4000 in
set_option maxHeartbeats 4000000 in
theorem c_X10_tieBetween_v {l : Launch} {D : va_G} {c : Nat → ClassId} {H0 : Heap} {sa : Nat × Nat × (Nat → Int32)} {w : mW} {μ : mM} (hw : mWF w) (hT : mT w μ) {p1 : Int} (hp1 : (-2147483648) ≤ p1 ∧ p1 ≤ 2147483647) {p2 : Int} (hp2 : (-2147483648) ≤ p2 ∧ p2 ≤ 2147483647) {f_n : Int} (q_f_n : μ 6 16 = f_n) : sC (gG l D c H0 sa) mX10_tieBetween 1 0 0 [.ref 6, iv p1, iv p2] (mk w μ) (qP w μ (fun z => ((-1) ≤ z ∧ z ≤ 19) ∧ (z < w.2.2.2 1) ∧ (fndQ (tc μ 0) (tc μ 1) f_n p1 p2 (-1) z) ∧ True)) := by
  refine sC.of rfl (by decide) (le_t rfl) ?_
  have ht_f_n : (f_n = w.2.2.2 1 ∧ 0 ≤ f_n ∧ f_n ≤ 20) := by rw [← q_f_n]; exact hT 6 6 (A_6 hw) 16
  refine mr_lvE (lv' := [(0, .ref 6), (1, iv p1), (2, iv p2)]) rfl ?_
  refine mr_iconst (pc := 0) (z := 0) dX10_tieBetween_0 ?_
  refine mr_istore_n (pc := 1) (lv' := [(3, iv 0), (0, .ref 6), (1, iv p1), (2, iv p2)]) dX10_tieBetween_1 rfl (by decide) rfl ?_
  have L462 : ∀ (nL462 : Nat) (z461 : Int), True → (0 ≤ z461 ∧ z461 ≤ 20) → noneQ (tc μ 0) (tc μ 1) z461 p1 p2 → (21 - z461) < (nL462 : Int) → sV (gG l D c H0 sa) mX10_tieBetween (sRm 1 0 0) (sZ (gG l D c H0 sa) 0 0 (qP w μ (fun z => ((-1) ≤ z ∧ z ≤ 19) ∧ (z < w.2.2.2 1) ∧ (fndQ (tc μ 0) (tc μ 1) f_n p1 p2 (-1) z) ∧ True))) 2 [(0, .ref 6), (1, iv p1), (2, iv p2), (3, iv z461)] [] (mk w μ) 0 0 := by
    intro nL462
    induction nL462 with
    | zero => intro z461 _ h463 R467 h468; exact ((vc_X12_feed_2 h468 h463)).elim
    | succ nL462 ih469 =>
      intro z461 _ h463 R467 h468
      refine mr_iload_n (pc := 2) (z := z461) dX10_tieBetween_2 rfl rfl ?_
      refine sv_aload_n (pc := 3) dX10_tieBetween_3 rfl rfl ?_
      refine gk_X10_16 (pc := 4) dX10_tieBetween_4 wF_X10_72 (A_6 hw) q_f_n ?_
      refine mr_icmp_ge (pc := 7) (tgt := 62) dX10_tieBetween_7 (by decide) (r32 h463 rfl) (r32 ht_f_n.2 rfl) (fun h470 => ?_) (fun h470 => ?_)
      · refine mr_iconst (pc := 62) (z := (-1)) dX10_tieBetween_62 ?_
        exact mr_iretP dX10_tieBetween_63 rfl (le_t rfl) (le_t rfl) ⟨(rW (c := (-1)) (d := 19) (rR (x := (-1))) rfl), (vc_X10_tieBetween_v_2 ht_f_n.1 h470 ht_f_n.2 h463), (fndQ.miss R467 (vc_X10_tieBetween_v_3 ht_f_n.1 h470 ht_f_n.2 h463)), trivial⟩
      have h471 : 0 ≤ z461 ∧ z461 ≤ 19 := (vc_X10_tieBetween_v_4 h470 ht_f_n.1 ht_f_n.2 h463)
      have h472 : 1 ≤ f_n ∧ f_n ≤ 20 := (vc_X10_tieBetween_v_5 h470 ht_f_n.1 ht_f_n.2 h471)
      refine sv_aload_n (pc := 10) dX10_tieBetween_10 rfl rfl ?_
      refine gf_X10_4 (pc := 11) dX10_tieBetween_11 wF_X10_29 (A_6 hw) hT ?_
      refine mr_iload_n (pc := 14) (z := z461) dX10_tieBetween_14 rfl rfl ?_
      refine la_11 (pc := 15) dX10_tieBetween_15 (A_11 hw) hT (rIx (n := 20) h471 rfl) (vc_X10_tieBetween_v_6 ht_f_n.1 h470 h472 h471) fun b473 q474 A475 => ?_
      refine mr_astore (pc := 16) (lv' := [(4, .ref b473), (0, .ref 6), (1, iv p1), (2, iv p2), (3, iv z461)]) dX10_tieBetween_16 (by decide) rfl ?_
      refine sv_aload (pc := 18) dX10_tieBetween_18 rfl ?_
      refine gf_X9_0 (pc := 20) dX10_tieBetween_20 wF_X10_78 A475 hT fun z476 q477 h478 => ?_
      have h479 : 0 ≤ z476 ∧ z476 ≤ 9 := ⟨h478.1, h478.2.1⟩
      refine mr_iload_n (pc := 23) (z := p1) dX10_tieBetween_23 rfl rfl ?_
      refine mr_icmp_ne (pc := 24) (tgt := 36) dX10_tieBetween_24 (by decide) (r32 h479 rfl) hp1 (fun h480 => ?_) (fun h480 => ?_)
      · refine sv_aload (pc := 36) dX10_tieBetween_36 rfl ?_
        refine gk_X9_0 (pc := 38) dX10_tieBetween_38 wF_X10_78 A475 q477 ?_
        refine mr_iload_n (pc := 41) (z := p2) dX10_tieBetween_41 rfl rfl ?_
        refine mr_icmp_ne (pc := 42) (tgt := 56) dX10_tieBetween_42 (by decide) (r32 h479 rfl) hp2 (fun h481 => ?_) (fun h481 => ?_)
        · refine mr_iinc (pc := 56) (lv' := [(3, iv (z461 + 1)), (4, .ref b473), (0, .ref 6), (1, iv p1), (2, iv p2)]) dX10_tieBetween_56 rfl (by decide) rfl ?_
          refine sv_goto (pc := 59) (tgt := 2) dX10_tieBetween_59 (by decide) ?_
          refine mr_lvS (lv' := [(0, .ref 6), (1, iv p1), (2, iv p2), (3, iv (z461 + 1))]) (List.forall_mem_cons.mpr ⟨rfl, List.forall_mem_cons.mpr ⟨rfl, List.forall_mem_cons.mpr ⟨rfl, List.forall_mem_cons.mpr ⟨rfl, fun _ h => absurd h List.not_mem_nil⟩⟩⟩⟩) ?_
          exact ih469 (z461 + 1) trivial (rW (c := 0) (d := 20) (rAdd (e := 1) (f := 20) h471 (rR (x := 1)) rfl) rfl) (noneQ.succ1 R467 (vc_X10_tieBetween_v_8 h470 ht_f_n.1 h472 h471) (tcOf q474 q477) (vc_X10_tieBetween_v_9 h478.2.2 h480 h481 hp1 hp2 h479)) (vc_X10_tieBetween_v_7 (nS h468) h470 ht_f_n.1 h472 h471)
        have h482 : 0 ≤ p2 ∧ p2 ≤ 9 := (vc_X10_tieBetween_7 h481 h478.2.2 h480 hp1 hp2 h479)
        refine sv_aload (pc := 45) dX10_tieBetween_45 rfl ?_
        refine gf_X9_1 (pc := 47) dX10_tieBetween_47 wF_X10_81 A475 hT fun z483 q484 h485 => ?_
        have h486 : 0 ≤ z483 ∧ z483 ≤ 9 := ⟨h485.1, h485.2.1⟩
        refine mr_iload_n (pc := 50) (z := p1) dX10_tieBetween_50 rfl rfl ?_
        refine mr_icmp_ne (pc := 51) (tgt := 56) dX10_tieBetween_51 (by decide) (r32 h486 rfl) hp1 (fun h487 => ?_) (fun h487 => ?_)
        · refine mr_iinc (pc := 56) (lv' := [(3, iv (z461 + 1)), (4, .ref b473), (0, .ref 6), (1, iv p1), (2, iv p2)]) dX10_tieBetween_56 rfl (by decide) rfl ?_
          refine sv_goto (pc := 59) (tgt := 2) dX10_tieBetween_59 (by decide) ?_
          refine mr_lvS (lv' := [(0, .ref 6), (1, iv p1), (2, iv p2), (3, iv (z461 + 1))]) (List.forall_mem_cons.mpr ⟨rfl, List.forall_mem_cons.mpr ⟨rfl, List.forall_mem_cons.mpr ⟨rfl, List.forall_mem_cons.mpr ⟨rfl, fun _ h => absurd h List.not_mem_nil⟩⟩⟩⟩) ?_
          exact ih469 (z461 + 1) trivial (rW (c := 0) (d := 20) (rAdd (e := 1) (f := 20) h471 (rR (x := 1)) rfl) rfl) (noneQ.succ R467 (vc_X10_tieBetween_v_8 h470 ht_f_n.1 h472 h471) (tcOf q474 q477) (tcOf q474 q484) (vc_X10_tieBetween_v_11 h478.2.2 h480 h481 h485.2.2 h487 hp1 h482 h479 h486)) (vc_X10_tieBetween_v_7 (nS h468) h470 ht_f_n.1 h472 h471)
        have h488 : 0 ≤ p1 ∧ p1 ≤ 9 := (vc_X10_tieBetween_8 h487 h480 h485.2.2 hp1 h479 h486)
        refine mr_iload_n (pc := 54) (z := z461) dX10_tieBetween_54 rfl rfl ?_
        exact mr_iretP dX10_tieBetween_55 rfl (le_t rfl) (le_t rfl) ⟨(rW (c := (-1)) (d := 19) h471 rfl), (vc_X10_tieBetween_v_6 ht_f_n.1 h470 h472 h471), (fndQ.hit (vc_X10_tieBetween_v_13 ht_f_n.1 h470 h472 h471) (tcOf q474 q477) (tcOf q474 q484) (vc_X10_tieBetween_v_14 h478.2.2 h480 h481 h485.2.2 h487 h488 h482 h479 h486) R467), trivial⟩
      have h489 : 0 ≤ p1 ∧ p1 ≤ 9 := (vc_X10_tieBetween_9 h480 h478.2.2 hp1 h479)
      refine sv_aload (pc := 27) dX10_tieBetween_27 rfl ?_
      refine gf_X9_1 (pc := 29) dX10_tieBetween_29 wF_X10_81 A475 hT fun z490 q491 h492 => ?_
      have h493 : 0 ≤ z490 ∧ z490 ≤ 9 := ⟨h492.1, h492.2.1⟩
      refine mr_iload_n (pc := 32) (z := p2) dX10_tieBetween_32 rfl rfl ?_
      refine mr_icmp_eq (pc := 33) (tgt := 54) dX10_tieBetween_33 (by decide) (r32 h493 rfl) hp2 (fun h494 => ?_) (fun h494 => ?_)
      · have h495 : 0 ≤ p2 ∧ p2 ≤ 9 := (vc_X10_tieBetween_9 h494 h492.2.2 hp2 h493)
        refine mr_iload_n (pc := 54) (z := z461) dX10_tieBetween_54 rfl rfl ?_
        exact mr_iretP dX10_tieBetween_55 rfl (le_t rfl) (le_t rfl) ⟨(rW (c := (-1)) (d := 19) h471 rfl), (vc_X10_tieBetween_v_6 ht_f_n.1 h470 h472 h471), (fndQ.hit (vc_X10_tieBetween_v_13 ht_f_n.1 h470 h472 h471) (tcOf q474 q477) (tcOf q474 q491) (vc_X10_tieBetween_v_17 h478.2.2 h480 h492.2.2 h494 h489 h495 h479 h493) R467), trivial⟩
      refine sv_aload (pc := 36) dX10_tieBetween_36 rfl ?_
      refine gk_X9_0 (pc := 38) dX10_tieBetween_38 wF_X10_78 A475 q477 ?_
      refine mr_iload_n (pc := 41) (z := p2) dX10_tieBetween_41 rfl rfl ?_
      refine mr_icmp_ne (pc := 42) (tgt := 56) dX10_tieBetween_42 (by decide) (r32 h479 rfl) hp2 (fun h496 => ?_) (fun h496 => ?_)
      · refine mr_iinc (pc := 56) (lv' := [(3, iv (z461 + 1)), (4, .ref b473), (0, .ref 6), (1, iv p1), (2, iv p2)]) dX10_tieBetween_56 rfl (by decide) rfl ?_
        refine sv_goto (pc := 59) (tgt := 2) dX10_tieBetween_59 (by decide) ?_
        refine mr_lvS (lv' := [(0, .ref 6), (1, iv p1), (2, iv p2), (3, iv (z461 + 1))]) (List.forall_mem_cons.mpr ⟨rfl, List.forall_mem_cons.mpr ⟨rfl, List.forall_mem_cons.mpr ⟨rfl, List.forall_mem_cons.mpr ⟨rfl, fun _ h => absurd h List.not_mem_nil⟩⟩⟩⟩) ?_
        exact ih469 (z461 + 1) trivial (rW (c := 0) (d := 20) (rAdd (e := 1) (f := 20) h471 (rR (x := 1)) rfl) rfl) (noneQ.succ R467 (vc_X10_tieBetween_v_8 h470 ht_f_n.1 h472 h471) (tcOf q474 q477) (tcOf q474 q491) (vc_X10_tieBetween_v_18 h478.2.2 h480 h492.2.2 h494 h496 h489 hp2 h479 h493)) (vc_X10_tieBetween_v_7 (nS h468) h470 ht_f_n.1 h472 h471)
      have h497 : 0 ≤ p2 ∧ p2 ≤ 9 := (vc_X10_tieBetween_11 h496 h478.2.2 h480 h494 h489 hp2 h479 h493)
      refine sv_aload (pc := 45) dX10_tieBetween_45 rfl ?_
      refine gk_X9_1 (pc := 47) dX10_tieBetween_47 wF_X10_81 A475 q491 ?_
      refine mr_iload_n (pc := 50) (z := p1) dX10_tieBetween_50 rfl rfl ?_
      refine mr_icmp_ne (pc := 51) (tgt := 56) dX10_tieBetween_51 (by decide) (r32 h493 rfl) (r32 h489 rfl) (fun h498 => ?_) (fun h498 => ?_)
      · refine mr_iinc (pc := 56) (lv' := [(3, iv (z461 + 1)), (4, .ref b473), (0, .ref 6), (1, iv p1), (2, iv p2)]) dX10_tieBetween_56 rfl (by decide) rfl ?_
        refine sv_goto (pc := 59) (tgt := 2) dX10_tieBetween_59 (by decide) ?_
        refine mr_lvS (lv' := [(0, .ref 6), (1, iv p1), (2, iv p2), (3, iv (z461 + 1))]) (List.forall_mem_cons.mpr ⟨rfl, List.forall_mem_cons.mpr ⟨rfl, List.forall_mem_cons.mpr ⟨rfl, List.forall_mem_cons.mpr ⟨rfl, fun _ h => absurd h List.not_mem_nil⟩⟩⟩⟩) ?_
        exact ih469 (z461 + 1) trivial (rW (c := 0) (d := 20) (rAdd (e := 1) (f := 20) h471 (rR (x := 1)) rfl) rfl) (noneQ.succ R467 (vc_X10_tieBetween_v_8 h470 ht_f_n.1 h472 h471) (tcOf q474 q477) (tcOf q474 q491) (vc_X10_tieBetween_v_20 h478.2.2 h480 h492.2.2 h494 h496 h498 h489 h497 h479 h493)) (vc_X10_tieBetween_v_7 (nS h468) h470 ht_f_n.1 h472 h471)
      refine mr_iload_n (pc := 54) (z := z461) dX10_tieBetween_54 rfl rfl ?_
      exact mr_iretP dX10_tieBetween_55 rfl (le_t rfl) (le_t rfl) ⟨(rW (c := (-1)) (d := 19) h471 rfl), (vc_X10_tieBetween_v_6 ht_f_n.1 h470 h472 h471), (fndQ.hit (vc_X10_tieBetween_v_13 ht_f_n.1 h470 h472 h471) (tcOf q474 q477) (tcOf q474 q491) (vc_X10_tieBetween_v_21 h478.2.2 h480 h492.2.2 h494 h496 h498 h489 h497 h479 h493) R467), trivial⟩
  refine mr_lvS (lv' := [(0, .ref 6), (1, iv p1), (2, iv p2), (3, iv 0)]) (List.forall_mem_cons.mpr ⟨rfl, List.forall_mem_cons.mpr ⟨rfl, List.forall_mem_cons.mpr ⟨rfl, List.forall_mem_cons.mpr ⟨rfl, fun _ h => absurd h List.not_mem_nil⟩⟩⟩⟩) ?_
  exact L462 22 0 trivial (rW (c := 0) (d := 20) (rR (x := 0)) rfl) (noneQ.zero vc_X10_tieBetween_v_23) vc_X12_feed_15
theorem vc_X12_tieOf_v_3 {f_n z409 : Int} (h0 : f_n ≤ z409) (h1 : 0 ≤ f_n ∧ f_n ≤ 20) (h2 : 0 ≤ z409 ∧ z409 ≤ 20) : f_n ≤ z409 := by omega
theorem vc_X12_tieOf_v_7 {f_n z409 : Int} (h0 : z409 < f_n) (h1 : 1 ≤ f_n ∧ f_n ≤ 20) (h2 : 0 ≤ z409 ∧ z409 ≤ 19) : 0 ≤ z409 := by omega
theorem vc_X12_tieOf_v_8 {f_n z409 : Int} (h0 : z409 < f_n) (h1 : 1 ≤ f_n ∧ f_n ≤ 20) (h2 : 0 ≤ z409 ∧ z409 ≤ 19) : (2 * z409) = 2 * z409 + ((0 : Nat) : Int) := by omega
theorem vc_X12_tieOf_v_9 {p1 p2 z421 : Int} (h0 : ¬ z421 = p1) (h1 : ¬ z421 = p2) (h2 : (-2147483648) ≤ p1 ∧ p1 ≤ 2147483647) (h3 : (-2147483648) ≤ p2 ∧ p2 ≤ 2147483647) (h4 : 0 ≤ z421 ∧ z421 ≤ 9) : ¬ z421 = p1 ∧ ¬ z421 = p2 := by omega
theorem vc_X12_tieOf_v_11 {f_n z409 : Int} (h0 : z409 < f_n) (h1 : 1 ≤ f_n ∧ f_n ≤ 20) (h2 : 0 ≤ z409 ∧ z409 ≤ 19) : ((2 * z409) + 1) = 2 * z409 + ((1 : Nat) : Int) := by omega
theorem vc_X12_tieOf_v_12 {p1 p2 z421 z427 : Int} (h0 : ¬ z421 = p1) (h1 : z421 = p2) (h2 : ¬ z427 = p1) (h3 : (-2147483648) ≤ p1 ∧ p1 ≤ 2147483647) (h4 : 0 ≤ p2 ∧ p2 ≤ 9) (h5 : 0 ≤ z421 ∧ z421 ≤ 9) (h6 : 0 ≤ z427 ∧ z427 ≤ 9) : ¬ ((z421 = p1 ∧ z427 = p2) ∨ (z421 = p2 ∧ z427 = p1)) := by omega
theorem vc_X12_tieOf_v_15 {f_n z409 : Int} (h0 : z409 < f_n) (h1 : 1 ≤ f_n ∧ f_n ≤ 20) (h2 : 0 ≤ z409 ∧ z409 ≤ 19) : 0 ≤ z409 ∧ z409 < f_n := by omega
theorem vc_X12_tieOf_v_16 {p1 p2 z421 z427 : Int} (h0 : ¬ z421 = p1) (h1 : z421 = p2) (h2 : z427 = p1) (h3 : 0 ≤ p1 ∧ p1 ≤ 9) (h4 : 0 ≤ p2 ∧ p2 ≤ 9) (h5 : 0 ≤ z421 ∧ z421 ≤ 9) (h6 : 0 ≤ z427 ∧ z427 ≤ 9) : (z421 = p1 ∧ z427 = p2) ∨ (z421 = p2 ∧ z427 = p1) := by omega
theorem vc_X12_tieOf_v_19 {p1 p2 z421 z433 : Int} (h0 : z421 = p1) (h1 : z433 = p2) (h2 : 0 ≤ p1 ∧ p1 ≤ 9) (h3 : 0 ≤ p2 ∧ p2 ≤ 9) (h4 : 0 ≤ z421 ∧ z421 ≤ 9) (h5 : 0 ≤ z433 ∧ z433 ≤ 9) : (z421 = p1 ∧ z433 = p2) ∨ (z421 = p2 ∧ z433 = p1) := by omega
theorem vc_X12_tieOf_v_20 {p1 p2 z421 z433 : Int} (h0 : z421 = p1) (h1 : ¬ z433 = p2) (h2 : ¬ z421 = p2) (h3 : 0 ≤ p1 ∧ p1 ≤ 9) (h4 : (-2147483648) ≤ p2 ∧ p2 ≤ 2147483647) (h5 : 0 ≤ z421 ∧ z421 ≤ 9) (h6 : 0 ≤ z433 ∧ z433 ≤ 9) : ¬ ((z421 = p1 ∧ z433 = p2) ∨ (z421 = p2 ∧ z433 = p1)) := by omega
theorem vc_X12_tieOf_v_22 {p1 p2 z421 z433 : Int} (h0 : z421 = p1) (h1 : ¬ z433 = p2) (h2 : z421 = p2) (h3 : ¬ z433 = p1) (h4 : 0 ≤ p1 ∧ p1 ≤ 9) (h5 : 0 ≤ p2 ∧ p2 ≤ 9) (h6 : 0 ≤ z421 ∧ z421 ≤ 9) (h7 : 0 ≤ z433 ∧ z433 ≤ 9) : ¬ ((z421 = p1 ∧ z433 = p2) ∨ (z421 = p2 ∧ z433 = p1)) := by omega
theorem vc_X12_tieOf_v_23 {p1 p2 z421 z433 : Int} (h0 : z421 = p1) (h1 : ¬ z433 = p2) (h2 : z421 = p2) (h3 : z433 = p1) (h4 : 0 ≤ p1 ∧ p1 ≤ 9) (h5 : 0 ≤ p2 ∧ p2 ≤ 9) (h6 : 0 ≤ z421 ∧ z421 ≤ 9) (h7 : 0 ≤ z433 ∧ z433 ≤ 9) : (z421 = p1 ∧ z433 = p2) ∨ (z421 = p2 ∧ z433 = p1) := by omega
set_option maxRecDepth 4000 in
set_option maxHeartbeats 4000000 in
theorem c_X12_tieOf_v {l : Launch} {D : va_G} {c : Nat → ClassId} {H0 : Heap} {sa : Nat × Nat × (Nat → Int32)} {w : mW} {μ : mM} (hw : mWF w) (hT : mT w μ) {p1 : Int} (hp1 : (-2147483648) ≤ p1 ∧ p1 ≤ 2147483647) {p2 : Int} (hp2 : (-2147483648) ≤ p2 ∧ p2 ≤ 2147483647) {f_n : Int} (q_f_n : μ 106 6 = f_n) : sC (gG l D c H0 sa) mX12_tieOf 1 0 0 [.ref 106, iv p1, iv p2] (mk w μ) (qP w μ (fun z => ((-99999999) ≤ z ∧ z ≤ 19) ∧ (z = -99999999 ∨ (0 ≤ z ∧ z ≤ 19)) ∧ (fndQ (tr μ 0) (tr μ 1) f_n p1 p2 (-99999999) z) ∧ True)) := by
  refine sC.of rfl (by decide) (le_t rfl) ?_
  have ht_f_n : (0 ≤ f_n ∧ f_n ≤ 20) := by rw [← q_f_n]; exact hT 106 106 (A_106 hw) 6
  refine mr_lvE (lv' := [(0, .ref 106), (1, iv p1), (2, iv p2)]) rfl ?_
  refine mr_iconst (pc := 0) (z := 0) dX12_tieOf_0 ?_
  refine mr_istore_n (pc := 1) (lv' := [(3, iv 0), (0, .ref 106), (1, iv p1), (2, iv p2)]) dX12_tieOf_1 rfl (by decide) rfl ?_
  have L410 : ∀ (nL410 : Nat) (z409 : Int), True → (0 ≤ z409 ∧ z409 ≤ 20) → noneQ (tr μ 0) (tr μ 1) z409 p1 p2 → (21 - z409) < (nL410 : Int) → sV (gG l D c H0 sa) mX12_tieOf (sRm 1 0 0) (sZ (gG l D c H0 sa) 0 0 (qP w μ (fun z => ((-99999999) ≤ z ∧ z ≤ 19) ∧ (z = -99999999 ∨ (0 ≤ z ∧ z ≤ 19)) ∧ (fndQ (tr μ 0) (tr μ 1) f_n p1 p2 (-99999999) z) ∧ True))) 2 [(0, .ref 106), (1, iv p1), (2, iv p2), (3, iv z409)] [] (mk w μ) 0 0 := by
    intro nL410
    induction nL410 with
    | zero => intro z409 _ h411 R415 h416; exact ((vc_X12_feed_2 h416 h411)).elim
    | succ nL410 ih417 =>
      intro z409 _ h411 R415 h416
      refine mr_iload_n (pc := 2) (z := z409) dX12_tieOf_2 rfl rfl ?_
      refine sv_aload_n (pc := 3) dX12_tieOf_3 rfl rfl ?_
      refine gk_X12_6 (pc := 4) dX12_tieOf_4 wF_X12_37 (A_106 hw) q_f_n ?_
      refine mr_icmp_ge (pc := 7) (tgt := 70) dX12_tieOf_7 (by decide) (r32 h411 rfl) (r32 ht_f_n rfl) (fun h418 => ?_) (fun h418 => ?_)
      · refine mr_ldc (pc := 70) (z := (-99999999)) dX12_tieOf_70 wG_X12_29 (by decide) ?_
        exact mr_iretP dX12_tieOf_72 rfl (le_t rfl) (le_t rfl) ⟨(rW (c := (-99999999)) (d := 19) (rR (x := (-99999999))) rfl), vc_X12_tieOf_2, (fndQ.miss R415 (vc_X12_tieOf_v_3 h418 ht_f_n h411)), trivial⟩
      have h419 : 0 ≤ z409 ∧ z409 ≤ 19 := (vc_X3_putAttributes_10 h418 ht_f_n h411)
      have h420 : 1 ≤ f_n ∧ f_n ≤ 20 := (vc_X3_putAttributes_11 h418 ht_f_n h419)
      refine sv_aload_n (pc := 10) dX12_tieOf_10 rfl rfl ?_
      refine gf_X12_7 (pc := 11) dX12_tieOf_11 wF_X12_40 (A_106 hw) hT ?_
      refine mr_iconst (pc := 14) (z := 2) dX12_tieOf_14 ?_
      refine mr_iload_n (pc := 15) (z := z409) dX12_tieOf_15 rfl rfl ?_
      refine mr_imul (pc := 16) (x := 2) (y := z409) dX12_tieOf_16 ?_
      refine la_110 (pc := 17) dX12_tieOf_17 (A_110 hw) hT (rIx (n := 40) (rMulL (n := 2) (e := 0) (f := 38) h419 rfl) rfl) fun z421 q422 h423 => ?_
      refine mr_iload_n (pc := 18) (z := p1) dX12_tieOf_18 rfl rfl ?_
      refine mr_icmp_ne (pc := 19) (tgt := 36) dX12_tieOf_19 (by decide) (r32 h423 rfl) hp1 (fun h424 => ?_) (fun h424 => ?_)
      · refine sv_aload_n (pc := 36) dX12_tieOf_36 rfl rfl ?_
        refine gf_X12_7 (pc := 37) dX12_tieOf_37 wF_X12_40 (A_106 hw) hT ?_
        refine mr_iconst (pc := 40) (z := 2) dX12_tieOf_40 ?_
        refine mr_iload_n (pc := 41) (z := z409) dX12_tieOf_41 rfl rfl ?_
        refine mr_imul (pc := 42) (x := 2) (y := z409) dX12_tieOf_42 ?_
        refine lk_110 (pc := 43) dX12_tieOf_43 (A_110 hw) (rIx (n := 40) (rMulL (n := 2) (e := 0) (f := 38) h419 rfl) rfl) q422 ?_
        refine mr_iload_n (pc := 44) (z := p2) dX12_tieOf_44 rfl rfl ?_
        refine mr_icmp_ne (pc := 45) (tgt := 64) dX12_tieOf_45 (by decide) (r32 h423 rfl) hp2 (fun h425 => ?_) (fun h425 => ?_)
        · refine mr_iinc (pc := 64) (lv' := [(3, iv (z409 + 1)), (0, .ref 106), (1, iv p1), (2, iv p2)]) dX12_tieOf_64 rfl (by decide) rfl ?_
          refine sv_goto (pc := 67) (tgt := 2) dX12_tieOf_67 (by decide) ?_
          refine mr_lvS (lv' := [(0, .ref 106), (1, iv p1), (2, iv p2), (3, iv (z409 + 1))]) (List.forall_mem_cons.mpr ⟨rfl, List.forall_mem_cons.mpr ⟨rfl, List.forall_mem_cons.mpr ⟨rfl, List.forall_mem_cons.mpr ⟨rfl, fun _ h => absurd h List.not_mem_nil⟩⟩⟩⟩) ?_
          exact ih417 (z409 + 1) trivial (rW (c := 0) (d := 20) (rAdd (e := 1) (f := 20) h419 (rR (x := 1)) rfl) rfl) (noneQ.succ1 R415 (vc_X12_tieOf_v_7 h418 h420 h419) (trOf 0 q422 (vc_X12_tieOf_v_8 h418 h420 h419) (vc_X12_tieOf_v_7 h418 h420 h419)) (vc_X12_tieOf_v_9 h424 h425 hp1 hp2 h423)) (vc_X3_putAttributes_12 (nS h416) h418 h420 h419)
        have h426 : 0 ≤ p2 ∧ p2 ≤ 9 := (vc_X12_tieOf_6 h425 h424 hp1 hp2 h423)
        refine sv_aload_n (pc := 48) dX12_tieOf_48 rfl rfl ?_
        refine gf_X12_7 (pc := 49) dX12_tieOf_49 wF_X12_40 (A_106 hw) hT ?_
        refine mr_iconst (pc := 52) (z := 2) dX12_tieOf_52 ?_
        refine mr_iload_n (pc := 53) (z := z409) dX12_tieOf_53 rfl rfl ?_
        refine mr_imul (pc := 54) (x := 2) (y := z409) dX12_tieOf_54 ?_
        refine mr_iconst (pc := 55) (z := 1) dX12_tieOf_55 ?_
        refine mr_iadd (pc := 56) (x := (2 * z409)) (y := 1) dX12_tieOf_56 ?_
        refine la_110 (pc := 57) dX12_tieOf_57 (A_110 hw) hT (rIx (n := 40) (rAdd (e := 1) (f := 39) (rMulL (n := 2) (e := 0) (f := 38) h419 rfl) (rR (x := 1)) rfl) rfl) fun z427 q428 h429 => ?_
        refine mr_iload_n (pc := 58) (z := p1) dX12_tieOf_58 rfl rfl ?_
        refine mr_icmp_ne (pc := 59) (tgt := 64) dX12_tieOf_59 (by decide) (r32 h429 rfl) hp1 (fun h430 => ?_) (fun h430 => ?_)
        · refine mr_iinc (pc := 64) (lv' := [(3, iv (z409 + 1)), (0, .ref 106), (1, iv p1), (2, iv p2)]) dX12_tieOf_64 rfl (by decide) rfl ?_
          refine sv_goto (pc := 67) (tgt := 2) dX12_tieOf_67 (by decide) ?_
          refine mr_lvS (lv' := [(0, .ref 106), (1, iv p1), (2, iv p2), (3, iv (z409 + 1))]) (List.forall_mem_cons.mpr ⟨rfl, List.forall_mem_cons.mpr ⟨rfl, List.forall_mem_cons.mpr ⟨rfl, List.forall_mem_cons.mpr ⟨rfl, fun _ h => absurd h List.not_mem_nil⟩⟩⟩⟩) ?_
          exact ih417 (z409 + 1) trivial (rW (c := 0) (d := 20) (rAdd (e := 1) (f := 20) h419 (rR (x := 1)) rfl) rfl) (noneQ.succ R415 (vc_X12_tieOf_v_7 h418 h420 h419) (trOf 0 q422 (vc_X12_tieOf_v_8 h418 h420 h419) (vc_X12_tieOf_v_7 h418 h420 h419)) (trOf 1 q428 (vc_X12_tieOf_v_11 h418 h420 h419) (vc_X12_tieOf_v_7 h418 h420 h419)) (vc_X12_tieOf_v_12 h424 h425 h430 hp1 h426 h423 h429)) (vc_X3_putAttributes_12 (nS h416) h418 h420 h419)
        have h431 : 0 ≤ p1 ∧ p1 ≤ 9 := (vc_X12_tieOf_7 h430 h424 hp1 h423 h429)
        refine mr_iload_n (pc := 62) (z := z409) dX12_tieOf_62 rfl rfl ?_
        exact mr_iretP dX12_tieOf_63 rfl (le_t rfl) (le_t rfl) ⟨(rW (c := (-99999999)) (d := 19) h419 rfl), (vc_X12_tieOf_end_8 h418 h420 h419), (fndQ.hit (vc_X12_tieOf_v_15 h418 h420 h419) (trOf 0 q422 (vc_X12_tieOf_v_8 h418 h420 h419) (vc_X12_tieOf_v_7 h418 h420 h419)) (trOf 1 q428 (vc_X12_tieOf_v_11 h418 h420 h419) (vc_X12_tieOf_v_7 h418 h420 h419)) (vc_X12_tieOf_v_16 h424 h425 h430 h431 h426 h423 h429) R415), trivial⟩
      have h432 : 0 ≤ p1 ∧ p1 ≤ 9 := (vc_X12_tieOf_9 h424 hp1 h423)
      refine sv_aload_n (pc := 22) dX12_tieOf_22 rfl rfl ?_
      refine gf_X12_7 (pc := 23) dX12_tieOf_23 wF_X12_40 (A_106 hw) hT ?_
      refine mr_iconst (pc := 26) (z := 2) dX12_tieOf_26 ?_
      refine mr_iload_n (pc := 27) (z := z409) dX12_tieOf_27 rfl rfl ?_
      refine mr_imul (pc := 28) (x := 2) (y := z409) dX12_tieOf_28 ?_
      refine mr_iconst (pc := 29) (z := 1) dX12_tieOf_29 ?_
      refine mr_iadd (pc := 30) (x := (2 * z409)) (y := 1) dX12_tieOf_30 ?_
      refine la_110 (pc := 31) dX12_tieOf_31 (A_110 hw) hT (rIx (n := 40) (rAdd (e := 1) (f := 39) (rMulL (n := 2) (e := 0) (f := 38) h419 rfl) (rR (x := 1)) rfl) rfl) fun z433 q434 h435 => ?_
      refine mr_iload_n (pc := 32) (z := p2) dX12_tieOf_32 rfl rfl ?_
      refine mr_icmp_eq (pc := 33) (tgt := 62) dX12_tieOf_33 (by decide) (r32 h435 rfl) hp2 (fun h436 => ?_) (fun h436 => ?_)
      · have h437 : 0 ≤ p2 ∧ p2 ≤ 9 := (vc_X12_tieOf_9 h436 hp2 h435)
        refine mr_iload_n (pc := 62) (z := z409) dX12_tieOf_62 rfl rfl ?_
        exact mr_iretP dX12_tieOf_63 rfl (le_t rfl) (le_t rfl) ⟨(rW (c := (-99999999)) (d := 19) h419 rfl), (vc_X12_tieOf_end_8 h418 h420 h419), (fndQ.hit (vc_X12_tieOf_v_15 h418 h420 h419) (trOf 0 q422 (vc_X12_tieOf_v_8 h418 h420 h419) (vc_X12_tieOf_v_7 h418 h420 h419)) (trOf 1 q434 (vc_X12_tieOf_v_11 h418 h420 h419) (vc_X12_tieOf_v_7 h418 h420 h419)) (vc_X12_tieOf_v_19 h424 h436 h432 h437 h423 h435) R415), trivial⟩
      refine sv_aload_n (pc := 36) dX12_tieOf_36 rfl rfl ?_
      refine gf_X12_7 (pc := 37) dX12_tieOf_37 wF_X12_40 (A_106 hw) hT ?_
      refine mr_iconst (pc := 40) (z := 2) dX12_tieOf_40 ?_
      refine mr_iload_n (pc := 41) (z := z409) dX12_tieOf_41 rfl rfl ?_
      refine mr_imul (pc := 42) (x := 2) (y := z409) dX12_tieOf_42 ?_
      refine lk_110 (pc := 43) dX12_tieOf_43 (A_110 hw) (rIx (n := 40) (rMulL (n := 2) (e := 0) (f := 38) h419 rfl) rfl) q422 ?_
      refine mr_iload_n (pc := 44) (z := p2) dX12_tieOf_44 rfl rfl ?_
      refine mr_icmp_ne (pc := 45) (tgt := 64) dX12_tieOf_45 (by decide) (r32 h423 rfl) hp2 (fun h438 => ?_) (fun h438 => ?_)
      · refine mr_iinc (pc := 64) (lv' := [(3, iv (z409 + 1)), (0, .ref 106), (1, iv p1), (2, iv p2)]) dX12_tieOf_64 rfl (by decide) rfl ?_
        refine sv_goto (pc := 67) (tgt := 2) dX12_tieOf_67 (by decide) ?_
        refine mr_lvS (lv' := [(0, .ref 106), (1, iv p1), (2, iv p2), (3, iv (z409 + 1))]) (List.forall_mem_cons.mpr ⟨rfl, List.forall_mem_cons.mpr ⟨rfl, List.forall_mem_cons.mpr ⟨rfl, List.forall_mem_cons.mpr ⟨rfl, fun _ h => absurd h List.not_mem_nil⟩⟩⟩⟩) ?_
        exact ih417 (z409 + 1) trivial (rW (c := 0) (d := 20) (rAdd (e := 1) (f := 20) h419 (rR (x := 1)) rfl) rfl) (noneQ.succ R415 (vc_X12_tieOf_v_7 h418 h420 h419) (trOf 0 q422 (vc_X12_tieOf_v_8 h418 h420 h419) (vc_X12_tieOf_v_7 h418 h420 h419)) (trOf 1 q434 (vc_X12_tieOf_v_11 h418 h420 h419) (vc_X12_tieOf_v_7 h418 h420 h419)) (vc_X12_tieOf_v_20 h424 h436 h438 h432 hp2 h423 h435)) (vc_X3_putAttributes_12 (nS h416) h418 h420 h419)
      have h439 : 0 ≤ p2 ∧ p2 ≤ 9 := (vc_X12_tieOf_11 h438 h424 h436 h432 hp2 h423 h435)
      refine sv_aload_n (pc := 48) dX12_tieOf_48 rfl rfl ?_
      refine gf_X12_7 (pc := 49) dX12_tieOf_49 wF_X12_40 (A_106 hw) hT ?_
      refine mr_iconst (pc := 52) (z := 2) dX12_tieOf_52 ?_
      refine mr_iload_n (pc := 53) (z := z409) dX12_tieOf_53 rfl rfl ?_
      refine mr_imul (pc := 54) (x := 2) (y := z409) dX12_tieOf_54 ?_
      refine mr_iconst (pc := 55) (z := 1) dX12_tieOf_55 ?_
      refine mr_iadd (pc := 56) (x := (2 * z409)) (y := 1) dX12_tieOf_56 ?_
      refine lk_110 (pc := 57) dX12_tieOf_57 (A_110 hw) (rIx (n := 40) (rAdd (e := 1) (f := 39) (rMulL (n := 2) (e := 0) (f := 38) h419 rfl) (rR (x := 1)) rfl) rfl) q434 ?_
      refine mr_iload_n (pc := 58) (z := p1) dX12_tieOf_58 rfl rfl ?_
      refine mr_icmp_ne (pc := 59) (tgt := 64) dX12_tieOf_59 (by decide) (r32 h435 rfl) (r32 h432 rfl) (fun h440 => ?_) (fun h440 => ?_)
      · refine mr_iinc (pc := 64) (lv' := [(3, iv (z409 + 1)), (0, .ref 106), (1, iv p1), (2, iv p2)]) dX12_tieOf_64 rfl (by decide) rfl ?_
        refine sv_goto (pc := 67) (tgt := 2) dX12_tieOf_67 (by decide) ?_
        refine mr_lvS (lv' := [(0, .ref 106), (1, iv p1), (2, iv p2), (3, iv (z409 + 1))]) (List.forall_mem_cons.mpr ⟨rfl, List.forall_mem_cons.mpr ⟨rfl, List.forall_mem_cons.mpr ⟨rfl, List.forall_mem_cons.mpr ⟨rfl, fun _ h => absurd h List.not_mem_nil⟩⟩⟩⟩) ?_
        exact ih417 (z409 + 1) trivial (rW (c := 0) (d := 20) (rAdd (e := 1) (f := 20) h419 (rR (x := 1)) rfl) rfl) (noneQ.succ R415 (vc_X12_tieOf_v_7 h418 h420 h419) (trOf 0 q422 (vc_X12_tieOf_v_8 h418 h420 h419) (vc_X12_tieOf_v_7 h418 h420 h419)) (trOf 1 q434 (vc_X12_tieOf_v_11 h418 h420 h419) (vc_X12_tieOf_v_7 h418 h420 h419)) (vc_X12_tieOf_v_22 h424 h436 h438 h440 h432 h439 h423 h435)) (vc_X3_putAttributes_12 (nS h416) h418 h420 h419)
      refine mr_iload_n (pc := 62) (z := z409) dX12_tieOf_62 rfl rfl ?_
      exact mr_iretP dX12_tieOf_63 rfl (le_t rfl) (le_t rfl) ⟨(rW (c := (-99999999)) (d := 19) h419 rfl), (vc_X12_tieOf_end_8 h418 h420 h419), (fndQ.hit (vc_X12_tieOf_v_15 h418 h420 h419) (trOf 0 q422 (vc_X12_tieOf_v_8 h418 h420 h419) (vc_X12_tieOf_v_7 h418 h420 h419)) (trOf 1 q434 (vc_X12_tieOf_v_11 h418 h420 h419) (vc_X12_tieOf_v_7 h418 h420 h419)) (vc_X12_tieOf_v_23 h424 h436 h438 h440 h432 h439 h423 h435) R415), trivial⟩
  refine mr_lvS (lv' := [(0, .ref 106), (1, iv p1), (2, iv p2), (3, iv 0)]) (List.forall_mem_cons.mpr ⟨rfl, List.forall_mem_cons.mpr ⟨rfl, List.forall_mem_cons.mpr ⟨rfl, List.forall_mem_cons.mpr ⟨rfl, fun _ h => absurd h List.not_mem_nil⟩⟩⟩⟩) ?_
  exact L410 22 0 trivial (rW (c := 0) (d := 20) (rR (x := 0)) rfl) (noneQ.zero vc_X10_tieBetween_v_23) vc_X12_feed_15
theorem vc_X11_pace_v_1 {f_t p1 z86 : Int} (h0 : z86 = 0) (h1 : (z86 = 1 → 0 ≤ p1 ∧ p1 < f_t)) (h2 : (z86 = 0 → p1 < 0 ∨ f_t ≤ p1)) (h3 : 0 ≤ f_t ∧ f_t ≤ 20) (h4 : (-2147483648) ≤ p1 ∧ p1 ≤ 2147483647) (h5 : 0 ≤ z86 ∧ z86 ≤ 1) : 0 ≤ z86 ∧ z86 ≤ 0 := by omega
theorem vc_X11_pace_v_2 {f_t n1 p1 z86 : Int} (h0 : (z86 = 1 → 0 ≤ p1 ∧ p1 < f_t)) (h1 : (z86 = 0 → p1 < 0 ∨ f_t ≤ p1)) (h2 : z86 = 0) (h3 : f_t = n1) (h4 : 0 ≤ f_t ∧ f_t ≤ 20) (h5 : (-2147483648) ≤ p1 ∧ p1 ≤ 2147483647) (h6 : 0 ≤ z86 ∧ z86 ≤ 0) : z86 = 0 := by omega
theorem vc_X11_pace_v_3 {f_t n1 p1 p2 p3 z86 : Int} (h0 : f_t = n1) (h1 : (z86 = 1 → 0 ≤ p1 ∧ p1 < f_t)) (h2 : (z86 = 0 → p1 < 0 ∨ f_t ≤ p1)) (h3 : p1 < 0 ∨ f_t ≤ p1) (h4 : z86 = 0) (h5 : 0 ≤ f_t ∧ f_t ≤ 20) (h6 : (-2147483648) ≤ p1 ∧ p1 ≤ 2147483647) (h7 : (-2147483648) ≤ p2 ∧ p2 ≤ 2147483647) (h8 : (-2147483648) ≤ p3 ∧ p3 ≤ 2147483647) (h9 : 0 ≤ z86 ∧ z86 ≤ 0) : p1 < 0 ∨ f_t ≤ p1 ∨ p2 < 1 ∨ 1000 < p2 ∨ p3 < 0 ∨ 1000 < p3 → (-1 : Int) = -1 := by omega
theorem vc_X11_pace_v_4 {f_t n1 p1 p2 p3 z86 : Int} (h0 : f_t = n1) (h1 : (z86 = 1 → 0 ≤ p1 ∧ p1 < f_t)) (h2 : (z86 = 0 → p1 < 0 ∨ f_t ≤ p1)) (h3 : p1 < 0 ∨ f_t ≤ p1) (h4 : z86 = 0) (h5 : 0 ≤ f_t ∧ f_t ≤ 20) (h6 : (-2147483648) ≤ p1 ∧ p1 ≤ 2147483647) (h7 : (-2147483648) ≤ p2 ∧ p2 ≤ 2147483647) (h8 : (-2147483648) ≤ p3 ∧ p3 ≤ 2147483647) (h9 : 0 ≤ z86 ∧ z86 ≤ 0) : 0 ≤ p1 → p1 < f_t → 1 ≤ p2 → p2 ≤ 1000 → 0 ≤ p3 → p3 ≤ 1000 → (-1 : Int) = 0 := by omega
theorem vc_X11_pace_v_5 {f_t p1 z86 : Int} (h0 : ¬ z86 = 0) (h1 : (z86 = 1 → 0 ≤ p1 ∧ p1 < f_t)) (h2 : (z86 = 0 → p1 < 0 ∨ f_t ≤ p1)) (h3 : 0 ≤ f_t ∧ f_t ≤ 20) (h4 : (-2147483648) ≤ p1 ∧ p1 ≤ 2147483647) (h5 : 0 ≤ z86 ∧ z86 ≤ 1) : 1 ≤ z86 ∧ z86 ≤ 1 := by omega
theorem vc_X11_pace_v_6 {f_t n1 p1 z86 : Int} (h0 : (z86 = 1 → 0 ≤ p1 ∧ p1 < f_t)) (h1 : (z86 = 0 → p1 < 0 ∨ f_t ≤ p1)) (h2 : ¬ z86 = 0) (h3 : f_t = n1) (h4 : 0 ≤ f_t ∧ f_t ≤ 20) (h5 : (-2147483648) ≤ p1 ∧ p1 ≤ 2147483647) (h6 : 1 ≤ z86 ∧ z86 ≤ 1) : z86 = 1 := by omega
theorem vc_X11_pace_v_7 {f_t n1 p1 z86 : Int} (h0 : 0 ≤ p1 ∧ p1 < f_t) (h1 : f_t = n1) (h2 : (z86 = 1 → 0 ≤ p1 ∧ p1 < f_t)) (h3 : (z86 = 0 → p1 < 0 ∨ f_t ≤ p1)) (h4 : 0 ≤ f_t ∧ f_t ≤ 20) (h5 : (-2147483648) ≤ p1 ∧ p1 ≤ 2147483647) (h6 : 1 ≤ z86 ∧ z86 ≤ 1) : 0 ≤ p1 ∧ p1 ≤ 19 := by omega
theorem vc_X11_pace_v_9 {f_t n1 p1 p2 p3 z86 : Int} (h0 : f_t = n1) (h1 : (z86 = 1 → 0 ≤ p1 ∧ p1 < f_t)) (h2 : (z86 = 0 → p1 < 0 ∨ f_t ≤ p1)) (h3 : 0 ≤ p1 ∧ p1 < f_t) (h4 : p2 < 1) (h5 : ¬ z86 = 0) (h6 : 0 ≤ f_t ∧ f_t ≤ 20) (h7 : 0 ≤ p1 ∧ p1 ≤ 19) (h8 : (-2147483648) ≤ p2 ∧ p2 ≤ 0) (h9 : (-2147483648) ≤ p3 ∧ p3 ≤ 2147483647) (h10 : 1 ≤ z86 ∧ z86 ≤ 1) : p1 < 0 ∨ f_t ≤ p1 ∨ p2 < 1 ∨ 1000 < p2 ∨ p3 < 0 ∨ 1000 < p3 → (-1 : Int) = -1 := by omega
theorem vc_X11_pace_v_10 {f_t n1 p1 p2 p3 z86 : Int} (h0 : f_t = n1) (h1 : (z86 = 1 → 0 ≤ p1 ∧ p1 < f_t)) (h2 : (z86 = 0 → p1 < 0 ∨ f_t ≤ p1)) (h3 : 0 ≤ p1 ∧ p1 < f_t) (h4 : p2 < 1) (h5 : ¬ z86 = 0) (h6 : 0 ≤ f_t ∧ f_t ≤ 20) (h7 : 0 ≤ p1 ∧ p1 ≤ 19) (h8 : (-2147483648) ≤ p2 ∧ p2 ≤ 0) (h9 : (-2147483648) ≤ p3 ∧ p3 ≤ 2147483647) (h10 : 1 ≤ z86 ∧ z86 ≤ 1) : 0 ≤ p1 → p1 < f_t → 1 ≤ p2 → p2 ≤ 1000 → 0 ≤ p3 → p3 ≤ 1000 → (-1 : Int) = 0 := by omega
theorem vc_X11_pace_v_12 {p2 : Int} (h0 : 1000 < p2) (h1 : 1 ≤ p2) (h2 : 1 ≤ p2 ∧ p2 ≤ 2147483647) : 1001 ≤ p2 ∧ p2 ≤ 2147483647 := by omega
theorem vc_X11_pace_v_13 {f_t n1 p1 p2 p3 z86 : Int} (h0 : f_t = n1) (h1 : (z86 = 1 → 0 ≤ p1 ∧ p1 < f_t)) (h2 : (z86 = 0 → p1 < 0 ∨ f_t ≤ p1)) (h3 : 0 ≤ p1 ∧ p1 < f_t) (h4 : 1 ≤ p2) (h5 : 1000 < p2) (h6 : ¬ z86 = 0) (h7 : 0 ≤ f_t ∧ f_t ≤ 20) (h8 : 0 ≤ p1 ∧ p1 ≤ 19) (h9 : 1001 ≤ p2 ∧ p2 ≤ 2147483647) (h10 : (-2147483648) ≤ p3 ∧ p3 ≤ 2147483647) (h11 : 1 ≤ z86 ∧ z86 ≤ 1) : p1 < 0 ∨ f_t ≤ p1 ∨ p2 < 1 ∨ 1000 < p2 ∨ p3 < 0 ∨ 1000 < p3 → (-1 : Int) = -1 := by omega
theorem vc_X11_pace_v_14 {f_t n1 p1 p2 p3 z86 : Int} (h0 : f_t = n1) (h1 : (z86 = 1 → 0 ≤ p1 ∧ p1 < f_t)) (h2 : (z86 = 0 → p1 < 0 ∨ f_t ≤ p1)) (h3 : 0 ≤ p1 ∧ p1 < f_t) (h4 : 1 ≤ p2) (h5 : 1000 < p2) (h6 : ¬ z86 = 0) (h7 : 0 ≤ f_t ∧ f_t ≤ 20) (h8 : 0 ≤ p1 ∧ p1 ≤ 19) (h9 : 1001 ≤ p2 ∧ p2 ≤ 2147483647) (h10 : (-2147483648) ≤ p3 ∧ p3 ≤ 2147483647) (h11 : 1 ≤ z86 ∧ z86 ≤ 1) : 0 ≤ p1 → p1 < f_t → 1 ≤ p2 → p2 ≤ 1000 → 0 ≤ p3 → p3 ≤ 1000 → (-1 : Int) = 0 := by omega
theorem vc_X11_pace_v_15 {p2 : Int} (h0 : p2 ≤ 1000) (h1 : 1 ≤ p2) (h2 : 1 ≤ p2 ∧ p2 ≤ 2147483647) : 1 ≤ p2 ∧ p2 ≤ 1000 := by omega
theorem vc_X11_pace_v_17 {f_t n1 p1 p2 p3 z86 : Int} (h0 : f_t = n1) (h1 : (z86 = 1 → 0 ≤ p1 ∧ p1 < f_t)) (h2 : (z86 = 0 → p1 < 0 ∨ f_t ≤ p1)) (h3 : 0 ≤ p1 ∧ p1 < f_t) (h4 : 1 ≤ p2) (h5 : p2 ≤ 1000) (h6 : p3 < 0) (h7 : ¬ z86 = 0) (h8 : 0 ≤ f_t ∧ f_t ≤ 20) (h9 : 0 ≤ p1 ∧ p1 ≤ 19) (h10 : 1 ≤ p2 ∧ p2 ≤ 1000) (h11 : (-2147483648) ≤ p3 ∧ p3 ≤ (-1)) (h12 : 1 ≤ z86 ∧ z86 ≤ 1) : p1 < 0 ∨ f_t ≤ p1 ∨ p2 < 1 ∨ 1000 < p2 ∨ p3 < 0 ∨ 1000 < p3 → (-1 : Int) = -1 := by omega
theorem vc_X11_pace_v_18 {f_t n1 p1 p2 p3 z86 : Int} (h0 : f_t = n1) (h1 : (z86 = 1 → 0 ≤ p1 ∧ p1 < f_t)) (h2 : (z86 = 0 → p1 < 0 ∨ f_t ≤ p1)) (h3 : 0 ≤ p1 ∧ p1 < f_t) (h4 : 1 ≤ p2) (h5 : p2 ≤ 1000) (h6 : p3 < 0) (h7 : ¬ z86 = 0) (h8 : 0 ≤ f_t ∧ f_t ≤ 20) (h9 : 0 ≤ p1 ∧ p1 ≤ 19) (h10 : 1 ≤ p2 ∧ p2 ≤ 1000) (h11 : (-2147483648) ≤ p3 ∧ p3 ≤ (-1)) (h12 : 1 ≤ z86 ∧ z86 ≤ 1) : 0 ≤ p1 → p1 < f_t → 1 ≤ p2 → p2 ≤ 1000 → 0 ≤ p3 → p3 ≤ 1000 → (-1 : Int) = 0 := by omega
theorem vc_X11_pace_v_21 {f_t n1 p1 z86 : Int} (h0 : f_t = n1) (h1 : (z86 = 1 → 0 ≤ p1 ∧ p1 < f_t)) (h2 : (z86 = 0 → p1 < 0 ∨ f_t ≤ p1)) (h3 : 0 ≤ p1 ∧ p1 < f_t) (h4 : ¬ z86 = 0) (h5 : 0 ≤ f_t ∧ f_t ≤ 20) (h6 : 0 ≤ p1 ∧ p1 ≤ 19) (h7 : 1 ≤ z86 ∧ z86 ≤ 1) : p1 < n1 := by omega
theorem vc_X11_pace_v_22 {f_t n1 p1 p2 p3 z86 : Int} (h0 : f_t = n1) (h1 : (z86 = 1 → 0 ≤ p1 ∧ p1 < f_t)) (h2 : (z86 = 0 → p1 < 0 ∨ f_t ≤ p1)) (h3 : 0 ≤ p1 ∧ p1 < f_t) (h4 : 1 ≤ p2) (h5 : p2 ≤ 1000) (h6 : 0 ≤ p3) (h7 : p3 ≤ 1000) (h8 : ¬ z86 = 0) (h9 : 0 ≤ f_t ∧ f_t ≤ 20) (h10 : 0 ≤ p1 ∧ p1 ≤ 19) (h11 : 1 ≤ p2 ∧ p2 ≤ 1000) (h12 : 0 ≤ p3 ∧ p3 ≤ 1000) (h13 : 1 ≤ z86 ∧ z86 ≤ 1) : p1 < 0 ∨ f_t ≤ p1 ∨ p2 < 1 ∨ 1000 < p2 ∨ p3 < 0 ∨ 1000 < p3 → (0 : Int) = -1 := by omega
theorem vc_X11_pace_v_23 {f_t n1 p1 p2 p3 z86 : Int} (h0 : f_t = n1) (h1 : (z86 = 1 → 0 ≤ p1 ∧ p1 < f_t)) (h2 : (z86 = 0 → p1 < 0 ∨ f_t ≤ p1)) (h3 : 0 ≤ p1 ∧ p1 < f_t) (h4 : 1 ≤ p2) (h5 : p2 ≤ 1000) (h6 : 0 ≤ p3) (h7 : p3 ≤ 1000) (h8 : ¬ z86 = 0) (h9 : 0 ≤ f_t ∧ f_t ≤ 20) (h10 : 0 ≤ p1 ∧ p1 ≤ 19) (h11 : 1 ≤ p2 ∧ p2 ≤ 1000) (h12 : 0 ≤ p3 ∧ p3 ≤ 1000) (h13 : 1 ≤ z86 ∧ z86 ≤ 1) : 0 ≤ p1 → p1 < f_t → 1 ≤ p2 → p2 ≤ 1000 → 0 ≤ p3 → p3 ≤ 1000 → (0 : Int) = 0 := by omega
theorem vc_X11_pace_v_25 {f_t n1 p1 p2 p3 z86 : Int} (h0 : f_t = n1) (h1 : (z86 = 1 → 0 ≤ p1 ∧ p1 < f_t)) (h2 : (z86 = 0 → p1 < 0 ∨ f_t ≤ p1)) (h3 : 0 ≤ p1 ∧ p1 < f_t) (h4 : 1 ≤ p2) (h5 : p2 ≤ 1000) (h6 : 0 ≤ p3) (h7 : 1000 < p3) (h8 : ¬ z86 = 0) (h9 : 0 ≤ f_t ∧ f_t ≤ 20) (h10 : 0 ≤ p1 ∧ p1 ≤ 19) (h11 : 1 ≤ p2 ∧ p2 ≤ 1000) (h12 : 1001 ≤ p3 ∧ p3 ≤ 2147483647) (h13 : 1 ≤ z86 ∧ z86 ≤ 1) : p1 < 0 ∨ f_t ≤ p1 ∨ p2 < 1 ∨ 1000 < p2 ∨ p3 < 0 ∨ 1000 < p3 → (-1 : Int) = -1 := by omega
theorem vc_X11_pace_v_26 {f_t n1 p1 p2 p3 z86 : Int} (h0 : f_t = n1) (h1 : (z86 = 1 → 0 ≤ p1 ∧ p1 < f_t)) (h2 : (z86 = 0 → p1 < 0 ∨ f_t ≤ p1)) (h3 : 0 ≤ p1 ∧ p1 < f_t) (h4 : 1 ≤ p2) (h5 : p2 ≤ 1000) (h6 : 0 ≤ p3) (h7 : 1000 < p3) (h8 : ¬ z86 = 0) (h9 : 0 ≤ f_t ∧ f_t ≤ 20) (h10 : 0 ≤ p1 ∧ p1 ≤ 19) (h11 : 1 ≤ p2 ∧ p2 ≤ 1000) (h12 : 1001 ≤ p3 ∧ p3 ≤ 2147483647) (h13 : 1 ≤ z86 ∧ z86 ≤ 1) : 0 ≤ p1 → p1 < f_t → 1 ≤ p2 → p2 ≤ 1000 → 0 ≤ p3 → p3 ≤ 1000 → (-1 : Int) = 0 := by omega
set_option maxRecDepth 4000 in
set_option maxHeartbeats 4000000 in
theorem c_X11_pace_v {l : Launch} {D : va_G} {c : Nat → ClassId} {H0 : Heap} {sa : Nat × Nat × (Nat → Int32)} {w : mW} {μ : mM} (hw : mWF w) (hT : mT w μ) {p1 : Int} (hp1 : (-2147483648) ≤ p1 ∧ p1 ≤ 2147483647) {p2 : Int} (hp2 : (-2147483648) ≤ p2 ∧ p2 ≤ 2147483647) {p3 : Int} (hp3 : (-2147483648) ≤ p3 ∧ p3 ≤ 2147483647) {f_t : Int} (q_f_t : μ 6 16 = f_t) : sC (gG l D c H0 sa) mX11_pace 2 0 0 [.ref 0, iv p1, iv p2, iv p3] (mk w μ) (qI w [220007, 220008] μ (fun z μ1 => ((-2147483648) ≤ z ∧ z ≤ 2147483647) ∧ (p1 < 0 ∨ f_t ≤ p1 ∨ p2 < 1 ∨ 1000 < p2 ∨ p3 < 0 ∨ 1000 < p3 → z = -1) ∧ (0 ≤ p1 → p1 < f_t → 1 ≤ p2 → p2 ≤ 1000 → 0 ≤ p3 → p3 ≤ 1000 → z = 0) ∧ True)) := by
  refine sC.of rfl (by decide) (le_t rfl) ?_
  have ht_f_t : (f_t = w.2.2.2 1 ∧ 0 ≤ f_t ∧ f_t ≤ 20) := by rw [← q_f_t]; exact hT 6 6 (A_6 hw) 16
  refine mr_lvE (lv' := [(0, .ref 0), (1, iv p1), (2, iv p2), (3, iv p3)]) rfl ?_
  refine sv_aload_n (pc := 0) dX11_pace_0 rfl rfl ?_
  refine mr_iload_n (pc := 1) (z := p1) dX11_pace_1 rfl rfl ?_
  refine mr_cVP (pc := 2) (c_X11_isTie hw hT hp1 q_f_t) (gOk _ _ _ _ _) dX11_pace_2 (tX11_isTie _ _ _ _ _) ⟨wV_X11_isTie, wL_X11_isTie⟩ wM_X11_119 (gCX11 _ _ _ _ _) rfl (A_0 hw) rfl ⟨le_t rfl, le_t rfl⟩ ⟨le_t rfl, le_t rfl⟩ rfl (le_t rfl) fun z86 h85 => ?_
  refine mr_if_eq (pc := 5) (tgt := 31) dX11_pace_5 (by decide) (r32 h85.1 rfl) (fun h87 => ?_) (fun h87 => ?_)
  · have h88 : 0 ≤ z86 ∧ z86 ≤ 0 := (vc_X11_pace_v_1 h87 h85.2.1 h85.2.2.1 ht_f_t.2 hp1 h85.1)
    have h89 : p1 < 0 ∨ f_t ≤ p1 := (h85.2.2.1 (vc_X11_pace_v_2 h85.2.1 h85.2.2.1 h87 ht_f_t.1 ht_f_t.2 hp1 h88))
    refine mr_iconst (pc := 31) (z := (-1)) dX11_pace_31 ?_
    exact mr_iret dX11_pace_32 rfl (le_t rfl) (le_t rfl) hT mF.refl ⟨(rW (c := (-2147483648)) (d := 2147483647) (rR (x := (-1))) rfl), (vc_X11_pace_v_3 ht_f_t.1 h85.2.1 h85.2.2.1 h89 h87 ht_f_t.2 hp1 hp2 hp3 h88), (vc_X11_pace_v_4 ht_f_t.1 h85.2.1 h85.2.2.1 h89 h87 ht_f_t.2 hp1 hp2 hp3 h88), trivial⟩
  have h90 : 1 ≤ z86 ∧ z86 ≤ 1 := (vc_X11_pace_v_5 h87 h85.2.1 h85.2.2.1 ht_f_t.2 hp1 h85.1)
  have h91 : 0 ≤ p1 ∧ p1 < f_t := (h85.2.1 (vc_X11_pace_v_6 h85.2.1 h85.2.2.1 h87 ht_f_t.1 ht_f_t.2 hp1 h90))
  have h92 : 0 ≤ p1 ∧ p1 ≤ 19 := (vc_X11_pace_v_7 h91 ht_f_t.1 h85.2.1 h85.2.2.1 ht_f_t.2 hp1 h90)
  refine mr_iload_n (pc := 8) (z := p2) dX11_pace_8 rfl rfl ?_
  refine mr_iconst (pc := 9) (z := 1) dX11_pace_9 ?_
  refine mr_icmp_lt (pc := 10) (tgt := 31) dX11_pace_10 (by decide) hp2 (r32 (rR (x := 1)) rfl) (fun h93 => ?_) (fun h93 => ?_)
  · have h94 : (-2147483648) ≤ p2 ∧ p2 ≤ 0 := (vc_X11_go_1 h93 hp2)
    refine mr_iconst (pc := 31) (z := (-1)) dX11_pace_31 ?_
    exact mr_iret dX11_pace_32 rfl (le_t rfl) (le_t rfl) hT mF.refl ⟨(rW (c := (-2147483648)) (d := 2147483647) (rR (x := (-1))) rfl), (vc_X11_pace_v_9 ht_f_t.1 h85.2.1 h85.2.2.1 h91 h93 h87 ht_f_t.2 h92 h94 hp3 h90), (vc_X11_pace_v_10 ht_f_t.1 h85.2.1 h85.2.2.1 h91 h93 h87 ht_f_t.2 h92 h94 hp3 h90), trivial⟩
  have h95 : 1 ≤ p2 ∧ p2 ≤ 2147483647 := (vc_X11_go_2 h93 hp2)
  refine mr_iload_n (pc := 13) (z := p2) dX11_pace_13 rfl rfl ?_
  refine mr_sipush (pc := 14) (z := 1000) dX11_pace_14 (by decide) ?_
  refine mr_icmp_gt (pc := 17) (tgt := 31) dX11_pace_17 (by decide) (r32 h95 rfl) (r32 (rR (x := 1000)) rfl) (fun h96 => ?_) (fun h96 => ?_)
  · have h97 : 1001 ≤ p2 ∧ p2 ≤ 2147483647 := (vc_X11_pace_v_12 h96 h93 h95)
    refine mr_iconst (pc := 31) (z := (-1)) dX11_pace_31 ?_
    exact mr_iret dX11_pace_32 rfl (le_t rfl) (le_t rfl) hT mF.refl ⟨(rW (c := (-2147483648)) (d := 2147483647) (rR (x := (-1))) rfl), (vc_X11_pace_v_13 ht_f_t.1 h85.2.1 h85.2.2.1 h91 h93 h96 h87 ht_f_t.2 h92 h97 hp3 h90), (vc_X11_pace_v_14 ht_f_t.1 h85.2.1 h85.2.2.1 h91 h93 h96 h87 ht_f_t.2 h92 h97 hp3 h90), trivial⟩
  have h98 : 1 ≤ p2 ∧ p2 ≤ 1000 := (vc_X11_pace_v_15 h96 h93 h95)
  refine mr_iload_n (pc := 20) (z := p3) dX11_pace_20 rfl rfl ?_
  refine mr_if_lt (pc := 21) (tgt := 31) dX11_pace_21 (by decide) hp3 (fun h99 => ?_) (fun h99 => ?_)
  · have h100 : (-2147483648) ≤ p3 ∧ p3 ≤ (-1) := (vc_X12_cut_1 h99 hp3)
    refine mr_iconst (pc := 31) (z := (-1)) dX11_pace_31 ?_
    exact mr_iret dX11_pace_32 rfl (le_t rfl) (le_t rfl) hT mF.refl ⟨(rW (c := (-2147483648)) (d := 2147483647) (rR (x := (-1))) rfl), (vc_X11_pace_v_17 ht_f_t.1 h85.2.1 h85.2.2.1 h91 h93 h96 h99 h87 ht_f_t.2 h92 h98 h100 h90), (vc_X11_pace_v_18 ht_f_t.1 h85.2.1 h85.2.2.1 h91 h93 h96 h99 h87 ht_f_t.2 h92 h98 h100 h90), trivial⟩
  have h101 : 0 ≤ p3 ∧ p3 ≤ 2147483647 := (vc_X12_cut_2 h99 hp3)
  refine mr_iload_n (pc := 24) (z := p3) dX11_pace_24 rfl rfl ?_
  refine mr_sipush (pc := 25) (z := 1000) dX11_pace_25 (by decide) ?_
  refine mr_icmp_le (pc := 28) (tgt := 33) dX11_pace_28 (by decide) (r32 h101 rfl) (r32 (rR (x := 1000)) rfl) (fun h102 => ?_) (fun h102 => ?_)
  · have h103 : 0 ≤ p3 ∧ p3 ≤ 1000 := (vc_X11_route_9 h102 h99 h101)
    refine sv_aload_n (pc := 33) dX11_pace_33 rfl rfl ?_
    refine gf_X11_3 (pc := 34) dX11_pace_34 wF_X11_26 (A_0 hw) hT ?_
    refine gf_X10_4 (pc := 37) dX11_pace_37 wF_X11_122 (A_6 hw) hT ?_
    refine mr_iload_n (pc := 40) (z := p1) dX11_pace_40 rfl rfl ?_
    refine la_11 (pc := 41) dX11_pace_41 (A_11 hw) hT (rIx (n := 20) h92 rfl) (vc_X11_pace_v_21 ht_f_t.1 h85.2.1 h85.2.2.1 h91 h87 ht_f_t.2 h92 h90) fun b104 q105 A106 => ?_
    refine mr_iload_n (pc := 42) (z := p2) dX11_pace_42 rfl rfl ?_
    refine pf_X9_7 (pc := 43) dX11_pace_43 wF_X11_126 A106 hT (rW (c := 0) (d := 1000) h98 rfl) fun μ107 u108 T109 => ?_
    refine sv_aload_n (pc := 46) dX11_pace_46 rfl rfl ?_
    refine gf_X11_3 (pc := 47) dX11_pace_47 wF_X11_26 (A_0 hw) T109 ?_
    refine gf_X10_4 (pc := 50) dX11_pace_50 wF_X11_122 (A_6 hw) T109 ?_
    refine mr_iload_n (pc := 53) (z := p1) dX11_pace_53 rfl rfl ?_
    refine lk_11 (pc := 54) dX11_pace_54 (A_11 hw) (rIx (n := 20) h92 rfl) (u108.f (Or.inl (mAt.ne A106 (A_11 hw) rfl)) q105) ?_
    refine mr_iload_n (pc := 55) (z := p3) dX11_pace_55 rfl rfl ?_
    refine pf_X9_8 (pc := 56) dX11_pace_56 wF_X11_131 A106 T109 h103 fun μ110 u111 T112 => ?_
    refine mr_iconst (pc := 59) (z := 0) dX11_pace_59 ?_
    exact mr_iret dX11_pace_60 rfl (le_t rfl) (le_t rfl) T112 (mF.up (mF.up mF.refl A106 u108 rfl) A106 u111 rfl) ⟨(rW (c := (-2147483648)) (d := 2147483647) (rR (x := 0)) rfl), (vc_X11_pace_v_22 ht_f_t.1 h85.2.1 h85.2.2.1 h91 h93 h96 h99 h102 h87 ht_f_t.2 h92 h98 h103 h90), (vc_X11_pace_v_23 ht_f_t.1 h85.2.1 h85.2.2.1 h91 h93 h96 h99 h102 h87 ht_f_t.2 h92 h98 h103 h90), trivial⟩
  have h113 : 1001 ≤ p3 ∧ p3 ≤ 2147483647 := (vc_X11_route_21 h102 h99 h101)
  refine mr_iconst (pc := 31) (z := (-1)) dX11_pace_31 ?_
  exact mr_iret dX11_pace_32 rfl (le_t rfl) (le_t rfl) hT mF.refl ⟨(rW (c := (-2147483648)) (d := 2147483647) (rR (x := (-1))) rfl), (vc_X11_pace_v_25 ht_f_t.1 h85.2.1 h85.2.2.1 h91 h93 h96 h99 h102 h87 ht_f_t.2 h92 h98 h113 h90), (vc_X11_pace_v_26 ht_f_t.1 h85.2.1 h85.2.2.1 h91 h93 h96 h99 h102 h87 ht_f_t.2 h92 h98 h113 h90), trivial⟩
theorem vc_X12_pace_v_2 {f_t p1 z113 : Int} (h0 : (z113 = 1 → 0 ≤ p1 ∧ p1 < f_t)) (h1 : (z113 = 0 → p1 < 0 ∨ f_t ≤ p1)) (h2 : z113 = 0) (h3 : 0 ≤ f_t ∧ f_t ≤ 20) (h4 : (-2147483648) ≤ p1 ∧ p1 ≤ 2147483647) (h5 : 0 ≤ z113 ∧ z113 ≤ 0) : z113 = 0 := by omega
theorem vc_X12_pace_v_3 {f_t p1 p2 p3 z113 : Int} (h0 : (z113 = 1 → 0 ≤ p1 ∧ p1 < f_t)) (h1 : (z113 = 0 → p1 < 0 ∨ f_t ≤ p1)) (h2 : p1 < 0 ∨ f_t ≤ p1) (h3 : z113 = 0) (h4 : 0 ≤ f_t ∧ f_t ≤ 20) (h5 : (-2147483648) ≤ p1 ∧ p1 ≤ 2147483647) (h6 : (-2147483648) ≤ p2 ∧ p2 ≤ 2147483647) (h7 : (-2147483648) ≤ p3 ∧ p3 ≤ 2147483647) (h8 : 0 ≤ z113 ∧ z113 ≤ 0) : p1 < 0 ∨ f_t ≤ p1 ∨ p2 < 1 ∨ 1000 < p2 ∨ p3 < 0 ∨ 1000 < p3 → (-1 : Int) = -1 := by omega
theorem vc_X12_pace_v_4 {f_t p1 p2 p3 z113 : Int} (h0 : (z113 = 1 → 0 ≤ p1 ∧ p1 < f_t)) (h1 : (z113 = 0 → p1 < 0 ∨ f_t ≤ p1)) (h2 : p1 < 0 ∨ f_t ≤ p1) (h3 : z113 = 0) (h4 : 0 ≤ f_t ∧ f_t ≤ 20) (h5 : (-2147483648) ≤ p1 ∧ p1 ≤ 2147483647) (h6 : (-2147483648) ≤ p2 ∧ p2 ≤ 2147483647) (h7 : (-2147483648) ≤ p3 ∧ p3 ≤ 2147483647) (h8 : 0 ≤ z113 ∧ z113 ≤ 0) : 0 ≤ p1 → p1 < f_t → 1 ≤ p2 → p2 ≤ 1000 → 0 ≤ p3 → p3 ≤ 1000 → (-1 : Int) = 0 := by omega
theorem vc_X12_pace_v_6 {f_t p1 z113 : Int} (h0 : (z113 = 1 → 0 ≤ p1 ∧ p1 < f_t)) (h1 : (z113 = 0 → p1 < 0 ∨ f_t ≤ p1)) (h2 : ¬ z113 = 0) (h3 : 0 ≤ f_t ∧ f_t ≤ 20) (h4 : (-2147483648) ≤ p1 ∧ p1 ≤ 2147483647) (h5 : 1 ≤ z113 ∧ z113 ≤ 1) : z113 = 1 := by omega
theorem vc_X12_pace_v_7 {f_t p1 z113 : Int} (h0 : 0 ≤ p1 ∧ p1 < f_t) (h1 : (z113 = 1 → 0 ≤ p1 ∧ p1 < f_t)) (h2 : (z113 = 0 → p1 < 0 ∨ f_t ≤ p1)) (h3 : 0 ≤ f_t ∧ f_t ≤ 20) (h4 : (-2147483648) ≤ p1 ∧ p1 ≤ 2147483647) (h5 : 1 ≤ z113 ∧ z113 ≤ 1) : 0 ≤ p1 ∧ p1 ≤ 19 := by omega
theorem vc_X12_pace_v_8 {p2 z124 : Int} (h0 : z124 = 0) (h1 : (z124 = 1 → (1 : Int) ≤ p2 ∧ p2 ≤ (1000 : Int))) (h2 : (z124 = 0 → p2 < (1 : Int) ∨ (1000 : Int) < p2)) (h3 : (-2147483648) ≤ p2 ∧ p2 ≤ 2147483647) (h4 : 0 ≤ z124 ∧ z124 ≤ 1) : 0 ≤ z124 ∧ z124 ≤ 0 := by omega
theorem vc_X12_pace_v_9 {p2 z124 : Int} (h0 : (z124 = 1 → (1 : Int) ≤ p2 ∧ p2 ≤ (1000 : Int))) (h1 : (z124 = 0 → p2 < (1 : Int) ∨ (1000 : Int) < p2)) (h2 : z124 = 0) (h3 : (-2147483648) ≤ p2 ∧ p2 ≤ 2147483647) (h4 : 0 ≤ z124 ∧ z124 ≤ 0) : z124 = 0 := by omega
theorem vc_X12_pace_v_10 {f_t p1 p2 p3 z113 z124 : Int} (h0 : (z113 = 1 → 0 ≤ p1 ∧ p1 < f_t)) (h1 : (z113 = 0 → p1 < 0 ∨ f_t ≤ p1)) (h2 : 0 ≤ p1 ∧ p1 < f_t) (h3 : (z124 = 1 → (1 : Int) ≤ p2 ∧ p2 ≤ (1000 : Int))) (h4 : (z124 = 0 → p2 < (1 : Int) ∨ (1000 : Int) < p2)) (h5 : p2 < (1 : Int) ∨ (1000 : Int) < p2) (h6 : ¬ z113 = 0) (h7 : z124 = 0) (h8 : 0 ≤ f_t ∧ f_t ≤ 20) (h9 : 0 ≤ p1 ∧ p1 ≤ 19) (h10 : (-2147483648) ≤ p2 ∧ p2 ≤ 2147483647) (h11 : (-2147483648) ≤ p3 ∧ p3 ≤ 2147483647) (h12 : 1 ≤ z113 ∧ z113 ≤ 1) (h13 : 0 ≤ z124 ∧ z124 ≤ 0) : p1 < 0 ∨ f_t ≤ p1 ∨ p2 < 1 ∨ 1000 < p2 ∨ p3 < 0 ∨ 1000 < p3 → (-1 : Int) = -1 := by omega
theorem vc_X12_pace_v_11 {f_t p1 p2 p3 z113 z124 : Int} (h0 : (z113 = 1 → 0 ≤ p1 ∧ p1 < f_t)) (h1 : (z113 = 0 → p1 < 0 ∨ f_t ≤ p1)) (h2 : 0 ≤ p1 ∧ p1 < f_t) (h3 : (z124 = 1 → (1 : Int) ≤ p2 ∧ p2 ≤ (1000 : Int))) (h4 : (z124 = 0 → p2 < (1 : Int) ∨ (1000 : Int) < p2)) (h5 : p2 < (1 : Int) ∨ (1000 : Int) < p2) (h6 : ¬ z113 = 0) (h7 : z124 = 0) (h8 : 0 ≤ f_t ∧ f_t ≤ 20) (h9 : 0 ≤ p1 ∧ p1 ≤ 19) (h10 : (-2147483648) ≤ p2 ∧ p2 ≤ 2147483647) (h11 : (-2147483648) ≤ p3 ∧ p3 ≤ 2147483647) (h12 : 1 ≤ z113 ∧ z113 ≤ 1) (h13 : 0 ≤ z124 ∧ z124 ≤ 0) : 0 ≤ p1 → p1 < f_t → 1 ≤ p2 → p2 ≤ 1000 → 0 ≤ p3 → p3 ≤ 1000 → (-1 : Int) = 0 := by omega
theorem vc_X12_pace_v_12 {p2 z124 : Int} (h0 : ¬ z124 = 0) (h1 : (z124 = 1 → (1 : Int) ≤ p2 ∧ p2 ≤ (1000 : Int))) (h2 : (z124 = 0 → p2 < (1 : Int) ∨ (1000 : Int) < p2)) (h3 : (-2147483648) ≤ p2 ∧ p2 ≤ 2147483647) (h4 : 0 ≤ z124 ∧ z124 ≤ 1) : 1 ≤ z124 ∧ z124 ≤ 1 := by omega
theorem vc_X12_pace_v_13 {p2 z124 : Int} (h0 : (z124 = 1 → (1 : Int) ≤ p2 ∧ p2 ≤ (1000 : Int))) (h1 : (z124 = 0 → p2 < (1 : Int) ∨ (1000 : Int) < p2)) (h2 : ¬ z124 = 0) (h3 : (-2147483648) ≤ p2 ∧ p2 ≤ 2147483647) (h4 : 1 ≤ z124 ∧ z124 ≤ 1) : z124 = 1 := by omega
theorem vc_X12_pace_v_14 {p2 z124 : Int} (h0 : (1 : Int) ≤ p2 ∧ p2 ≤ (1000 : Int)) (h1 : (z124 = 1 → (1 : Int) ≤ p2 ∧ p2 ≤ (1000 : Int))) (h2 : (z124 = 0 → p2 < (1 : Int) ∨ (1000 : Int) < p2)) (h3 : (-2147483648) ≤ p2 ∧ p2 ≤ 2147483647) (h4 : 1 ≤ z124 ∧ z124 ≤ 1) : 1 ≤ p2 ∧ p2 ≤ 1000 := by omega
theorem vc_X12_pace_v_18 {f_t p1 p2 p3 z113 z124 z135 : Int} (h0 : (z113 = 1 → 0 ≤ p1 ∧ p1 < f_t)) (h1 : (z113 = 0 → p1 < 0 ∨ f_t ≤ p1)) (h2 : 0 ≤ p1 ∧ p1 < f_t) (h3 : (z124 = 1 → (1 : Int) ≤ p2 ∧ p2 ≤ (1000 : Int))) (h4 : (z124 = 0 → p2 < (1 : Int) ∨ (1000 : Int) < p2)) (h5 : (1 : Int) ≤ p2 ∧ p2 ≤ (1000 : Int)) (h6 : (z135 = 1 → (0 : Int) ≤ p3 ∧ p3 ≤ (1000 : Int))) (h7 : (z135 = 0 → p3 < (0 : Int) ∨ (1000 : Int) < p3)) (h8 : (0 : Int) ≤ p3 ∧ p3 ≤ (1000 : Int)) (h9 : ¬ z113 = 0) (h10 : ¬ z124 = 0) (h11 : ¬ z135 = 0) (h12 : 0 ≤ f_t ∧ f_t ≤ 20) (h13 : 0 ≤ p1 ∧ p1 ≤ 19) (h14 : 1 ≤ p2 ∧ p2 ≤ 1000) (h15 : 0 ≤ p3 ∧ p3 ≤ 1000) (h16 : 1 ≤ z113 ∧ z113 ≤ 1) (h17 : 1 ≤ z124 ∧ z124 ≤ 1) (h18 : 1 ≤ z135 ∧ z135 ≤ 1) : p1 < 0 ∨ f_t ≤ p1 ∨ p2 < 1 ∨ 1000 < p2 ∨ p3 < 0 ∨ 1000 < p3 → (0 : Int) = -1 := by omega
theorem vc_X12_pace_v_19 {f_t p1 p2 p3 z113 z124 z135 : Int} (h0 : (z113 = 1 → 0 ≤ p1 ∧ p1 < f_t)) (h1 : (z113 = 0 → p1 < 0 ∨ f_t ≤ p1)) (h2 : 0 ≤ p1 ∧ p1 < f_t) (h3 : (z124 = 1 → (1 : Int) ≤ p2 ∧ p2 ≤ (1000 : Int))) (h4 : (z124 = 0 → p2 < (1 : Int) ∨ (1000 : Int) < p2)) (h5 : (1 : Int) ≤ p2 ∧ p2 ≤ (1000 : Int)) (h6 : (z135 = 1 → (0 : Int) ≤ p3 ∧ p3 ≤ (1000 : Int))) (h7 : (z135 = 0 → p3 < (0 : Int) ∨ (1000 : Int) < p3)) (h8 : (0 : Int) ≤ p3 ∧ p3 ≤ (1000 : Int)) (h9 : ¬ z113 = 0) (h10 : ¬ z124 = 0) (h11 : ¬ z135 = 0) (h12 : 0 ≤ f_t ∧ f_t ≤ 20) (h13 : 0 ≤ p1 ∧ p1 ≤ 19) (h14 : 1 ≤ p2 ∧ p2 ≤ 1000) (h15 : 0 ≤ p3 ∧ p3 ≤ 1000) (h16 : 1 ≤ z113 ∧ z113 ≤ 1) (h17 : 1 ≤ z124 ∧ z124 ≤ 1) (h18 : 1 ≤ z135 ∧ z135 ≤ 1) : 0 ≤ p1 → p1 < f_t → 1 ≤ p2 → p2 ≤ 1000 → 0 ≤ p3 → p3 ≤ 1000 → (0 : Int) = 0 := by omega
theorem vc_X12_pace_v_22 {f_t p1 p2 p3 z113 z124 z135 : Int} (h0 : (z113 = 1 → 0 ≤ p1 ∧ p1 < f_t)) (h1 : (z113 = 0 → p1 < 0 ∨ f_t ≤ p1)) (h2 : 0 ≤ p1 ∧ p1 < f_t) (h3 : (z124 = 1 → (1 : Int) ≤ p2 ∧ p2 ≤ (1000 : Int))) (h4 : (z124 = 0 → p2 < (1 : Int) ∨ (1000 : Int) < p2)) (h5 : (1 : Int) ≤ p2 ∧ p2 ≤ (1000 : Int)) (h6 : (z135 = 1 → (0 : Int) ≤ p3 ∧ p3 ≤ (1000 : Int))) (h7 : (z135 = 0 → p3 < (0 : Int) ∨ (1000 : Int) < p3)) (h8 : p3 < (0 : Int) ∨ (1000 : Int) < p3) (h9 : ¬ z113 = 0) (h10 : ¬ z124 = 0) (h11 : z135 = 0) (h12 : 0 ≤ f_t ∧ f_t ≤ 20) (h13 : 0 ≤ p1 ∧ p1 ≤ 19) (h14 : 1 ≤ p2 ∧ p2 ≤ 1000) (h15 : (-2147483648) ≤ p3 ∧ p3 ≤ 2147483647) (h16 : 1 ≤ z113 ∧ z113 ≤ 1) (h17 : 1 ≤ z124 ∧ z124 ≤ 1) (h18 : 0 ≤ z135 ∧ z135 ≤ 0) : p1 < 0 ∨ f_t ≤ p1 ∨ p2 < 1 ∨ 1000 < p2 ∨ p3 < 0 ∨ 1000 < p3 → (-1 : Int) = -1 := by omega
theorem vc_X12_pace_v_23 {f_t p1 p2 p3 z113 z124 z135 : Int} (h0 : (z113 = 1 → 0 ≤ p1 ∧ p1 < f_t)) (h1 : (z113 = 0 → p1 < 0 ∨ f_t ≤ p1)) (h2 : 0 ≤ p1 ∧ p1 < f_t) (h3 : (z124 = 1 → (1 : Int) ≤ p2 ∧ p2 ≤ (1000 : Int))) (h4 : (z124 = 0 → p2 < (1 : Int) ∨ (1000 : Int) < p2)) (h5 : (1 : Int) ≤ p2 ∧ p2 ≤ (1000 : Int)) (h6 : (z135 = 1 → (0 : Int) ≤ p3 ∧ p3 ≤ (1000 : Int))) (h7 : (z135 = 0 → p3 < (0 : Int) ∨ (1000 : Int) < p3)) (h8 : p3 < (0 : Int) ∨ (1000 : Int) < p3) (h9 : ¬ z113 = 0) (h10 : ¬ z124 = 0) (h11 : z135 = 0) (h12 : 0 ≤ f_t ∧ f_t ≤ 20) (h13 : 0 ≤ p1 ∧ p1 ≤ 19) (h14 : 1 ≤ p2 ∧ p2 ≤ 1000) (h15 : (-2147483648) ≤ p3 ∧ p3 ≤ 2147483647) (h16 : 1 ≤ z113 ∧ z113 ≤ 1) (h17 : 1 ≤ z124 ∧ z124 ≤ 1) (h18 : 0 ≤ z135 ∧ z135 ≤ 0) : 0 ≤ p1 → p1 < f_t → 1 ≤ p2 → p2 ≤ 1000 → 0 ≤ p3 → p3 ≤ 1000 → (-1 : Int) = 0 := by omega
set_option maxRecDepth 4000 in
set_option maxHeartbeats 4000000 in
theorem c_X12_pace_v {l : Launch} {D : va_G} {c : Nat → ClassId} {H0 : Heap} {sa : Nat × Nat × (Nat → Int32)} {w : mW} {μ : mM} (hw : mWF w) (hT : mT w μ) {p1 : Int} (hp1 : (-2147483648) ≤ p1 ∧ p1 ≤ 2147483647) {p2 : Int} (hp2 : (-2147483648) ≤ p2 ∧ p2 ≤ 2147483647) {p3 : Int} (hp3 : (-2147483648) ≤ p3 ∧ p3 ≤ 2147483647) {f_t : Int} (q_f_t : μ 106 6 = f_t) : sC (gG l D c H0 sa) mX12_pace 3 0 0 [.ref 106, iv p1, iv p2, iv p3] (mk w μ) (qI w [113999, 114999] μ (fun z μ1 => ((-2147483648) ≤ z ∧ z ≤ 2147483647) ∧ (p1 < 0 ∨ f_t ≤ p1 ∨ p2 < 1 ∨ 1000 < p2 ∨ p3 < 0 ∨ 1000 < p3 → z = -1) ∧ (0 ≤ p1 → p1 < f_t → 1 ≤ p2 → p2 ≤ 1000 → 0 ≤ p3 → p3 ≤ 1000 → z = 0) ∧ True)) := by
  refine sC.of rfl (by decide) (le_t rfl) ?_
  have ht_f_t : (0 ≤ f_t ∧ f_t ≤ 20) := by rw [← q_f_t]; exact hT 106 106 (A_106 hw) 6
  refine mr_lvE (lv' := [(0, .ref 106), (1, iv p1), (2, iv p2), (3, iv p3)]) rfl ?_
  refine sv_aload_n (pc := 0) dX12_pace_0 rfl rfl ?_
  refine mr_iload_n (pc := 1) (z := p1) dX12_pace_1 rfl rfl ?_
  refine mr_cVP (pc := 2) (c_X12_isTie hw hT hp1 q_f_t) (gOk _ _ _ _ _) dX12_pace_2 (tX12_isTie _ _ _ _ _) ⟨wV_X12_isTie, wL_X12_isTie⟩ wM_X12_66 (gCX12 _ _ _ _ _) rfl (A_106 hw) rfl ⟨le_t rfl, le_t rfl⟩ ⟨le_t rfl, le_t rfl⟩ rfl (le_t rfl) fun z113 h112 => ?_
  refine mr_if_eq (pc := 5) (tgt := 30) dX12_pace_5 (by decide) (r32 h112.1 rfl) (fun h114 => ?_) (fun h114 => ?_)
  · have h115 : 0 ≤ z113 ∧ z113 ≤ 0 := (vc_X11_pace_v_1 h114 h112.2.1 h112.2.2.1 ht_f_t hp1 h112.1)
    have h116 : p1 < 0 ∨ f_t ≤ p1 := (h112.2.2.1 (vc_X12_pace_v_2 h112.2.1 h112.2.2.1 h114 ht_f_t hp1 h115))
    refine mr_iconst (pc := 30) (z := (-1)) dX12_pace_30 ?_
    exact mr_iret dX12_pace_31 rfl (le_t rfl) (le_t rfl) hT mF.refl ⟨(rW (c := (-2147483648)) (d := 2147483647) (rR (x := (-1))) rfl), (vc_X12_pace_v_3 h112.2.1 h112.2.2.1 h116 h114 ht_f_t hp1 hp2 hp3 h115), (vc_X12_pace_v_4 h112.2.1 h112.2.2.1 h116 h114 ht_f_t hp1 hp2 hp3 h115), trivial⟩
  have h117 : 1 ≤ z113 ∧ z113 ≤ 1 := (vc_X11_pace_v_5 h114 h112.2.1 h112.2.2.1 ht_f_t hp1 h112.1)
  have h118 : 0 ≤ p1 ∧ p1 < f_t := (h112.2.1 (vc_X12_pace_v_6 h112.2.1 h112.2.2.1 h114 ht_f_t hp1 h117))
  have h119 : 0 ≤ p1 ∧ p1 ≤ 19 := (vc_X12_pace_v_7 h118 h112.2.1 h112.2.2.1 ht_f_t hp1 h117)
  refine mr_iload_n (pc := 8) (z := p2) dX12_pace_8 rfl rfl ?_
  refine mr_iconst (pc := 9) (z := 1) dX12_pace_9 ?_
  refine mr_sipush (pc := 10) (z := 1000) dX12_pace_10 (by decide) ?_
  refine mr_cSP (pc := 13) (c_X12_in hw hT hp2 (rW (c := (-2147483648)) (d := 2147483647) (rR (x := 1)) rfl) (rW (c := (-2147483648)) (d := 2147483647) (rR (x := 1000)) rfl)) (gOk _ _ _ _ _) dX12_pace_13 (tX12_in _ _ _ _ _) wS_X12_in wM_X12_18 ⟨le_t rfl, le_t rfl⟩ ⟨le_t rfl, le_t rfl⟩ rfl (le_t rfl) fun z124 h123 => ?_
  refine mr_if_eq (pc := 16) (tgt := 30) dX12_pace_16 (by decide) (r32 h123.1 rfl) (fun h125 => ?_) (fun h125 => ?_)
  · have h126 : 0 ≤ z124 ∧ z124 ≤ 0 := (vc_X12_pace_v_8 h125 h123.2.1 h123.2.2.1 hp2 h123.1)
    have h127 : p2 < (1 : Int) ∨ (1000 : Int) < p2 := (h123.2.2.1 (vc_X12_pace_v_9 h123.2.1 h123.2.2.1 h125 hp2 h126))
    refine mr_iconst (pc := 30) (z := (-1)) dX12_pace_30 ?_
    exact mr_iret dX12_pace_31 rfl (le_t rfl) (le_t rfl) hT mF.refl ⟨(rW (c := (-2147483648)) (d := 2147483647) (rR (x := (-1))) rfl), (vc_X12_pace_v_10 h112.2.1 h112.2.2.1 h118 h123.2.1 h123.2.2.1 h127 h114 h125 ht_f_t h119 hp2 hp3 h117 h126), (vc_X12_pace_v_11 h112.2.1 h112.2.2.1 h118 h123.2.1 h123.2.2.1 h127 h114 h125 ht_f_t h119 hp2 hp3 h117 h126), trivial⟩
  have h128 : 1 ≤ z124 ∧ z124 ≤ 1 := (vc_X12_pace_v_12 h125 h123.2.1 h123.2.2.1 hp2 h123.1)
  have h129 : (1 : Int) ≤ p2 ∧ p2 ≤ (1000 : Int) := (h123.2.1 (vc_X12_pace_v_13 h123.2.1 h123.2.2.1 h125 hp2 h128))
  have h130 : 1 ≤ p2 ∧ p2 ≤ 1000 := (vc_X12_pace_v_14 h129 h123.2.1 h123.2.2.1 hp2 h128)
  refine mr_iload_n (pc := 19) (z := p3) dX12_pace_19 rfl rfl ?_
  refine mr_iconst (pc := 20) (z := 0) dX12_pace_20 ?_
  refine mr_sipush (pc := 21) (z := 1000) dX12_pace_21 (by decide) ?_
  refine mr_cSP (pc := 24) (c_X12_in hw hT hp3 (rW (c := (-2147483648)) (d := 2147483647) (rR (x := 0)) rfl) (rW (c := (-2147483648)) (d := 2147483647) (rR (x := 1000)) rfl)) (gOk _ _ _ _ _) dX12_pace_24 (tX12_in _ _ _ _ _) wS_X12_in wM_X12_18 ⟨le_t rfl, le_t rfl⟩ ⟨le_t rfl, le_t rfl⟩ rfl (le_t rfl) fun z135 h134 => ?_
  refine mr_if_ne (pc := 27) (tgt := 32) dX12_pace_27 (by decide) (r32 h134.1 rfl) (fun h136 => ?_) (fun h136 => ?_)
  · have h137 : 1 ≤ z135 ∧ z135 ≤ 1 := (vc_X12_route_u_9 h136 h134.2.1 h134.2.2.1 hp3 h134.1)
    have h138 : (0 : Int) ≤ p3 ∧ p3 ≤ (1000 : Int) := (h134.2.1 (vc_X12_route_u_10 h134.2.1 h134.2.2.1 h136 hp3 h137))
    have h139 : 0 ≤ p3 ∧ p3 ≤ 1000 := (vc_X12_route_u_11 h138 h134.2.1 h134.2.2.1 hp3 h137)
    refine sv_aload_n (pc := 32) dX12_pace_32 rfl rfl ?_
    refine gf_X12_10 (pc := 33) dX12_pace_33 wF_X12_57 (A_106 hw) hT ?_
    refine mr_iload_n (pc := 36) (z := p1) dX12_pace_36 rfl rfl ?_
    refine mr_iload_n (pc := 37) (z := p2) dX12_pace_37 rfl rfl ?_
    refine ss_113 (pc := 38) dX12_pace_38 (A_113 hw) hT (rIx (n := 20) h119 rfl) (rW (c := 0) (d := 1000) h130 rfl) fun μ140 u141 T142 => ?_
    refine sv_aload_n (pc := 39) dX12_pace_39 rfl rfl ?_
    refine gf_X12_11 (pc := 40) dX12_pace_40 wF_X12_60 (A_106 hw) T142 ?_
    refine mr_iload_n (pc := 43) (z := p1) dX12_pace_43 rfl rfl ?_
    refine mr_iload_n (pc := 44) (z := p3) dX12_pace_44 rfl rfl ?_
    refine ss_114 (pc := 45) dX12_pace_45 (A_114 hw) T142 (rIx (n := 20) h119 rfl) h139 fun μ143 u144 T145 => ?_
    refine mr_iconst (pc := 46) (z := 0) dX12_pace_46 ?_
    exact mr_iret dX12_pace_47 rfl (le_t rfl) (le_t rfl) T145 (mF.up (mF.up mF.refl (A_113 hw) u141 rfl) (A_114 hw) u144 rfl) ⟨(rW (c := (-2147483648)) (d := 2147483647) (rR (x := 0)) rfl), (vc_X12_pace_v_18 h112.2.1 h112.2.2.1 h118 h123.2.1 h123.2.2.1 h129 h134.2.1 h134.2.2.1 h138 h114 h125 h136 ht_f_t h119 h130 h139 h117 h128 h137), (vc_X12_pace_v_19 h112.2.1 h112.2.2.1 h118 h123.2.1 h123.2.2.1 h129 h134.2.1 h134.2.2.1 h138 h114 h125 h136 ht_f_t h119 h130 h139 h117 h128 h137), trivial⟩
  have h146 : 0 ≤ z135 ∧ z135 ≤ 0 := (vc_X12_route_u_7 h136 h134.2.1 h134.2.2.1 hp3 h134.1)
  have h147 : p3 < (0 : Int) ∨ (1000 : Int) < p3 := (h134.2.2.1 (vc_X12_route_u_8 h134.2.1 h134.2.2.1 h136 hp3 h146))
  refine mr_iconst (pc := 30) (z := (-1)) dX12_pace_30 ?_
  exact mr_iret dX12_pace_31 rfl (le_t rfl) (le_t rfl) hT mF.refl ⟨(rW (c := (-2147483648)) (d := 2147483647) (rR (x := (-1))) rfl), (vc_X12_pace_v_22 h112.2.1 h112.2.2.1 h118 h123.2.1 h123.2.2.1 h129 h134.2.1 h134.2.2.1 h147 h114 h125 h136 ht_f_t h119 h130 hp3 h117 h128 h146), (vc_X12_pace_v_23 h112.2.1 h112.2.2.1 h118 h123.2.1 h123.2.2.1 h129 h134.2.1 h134.2.2.1 h147 h114 h125 h136 ht_f_t h119 h130 hp3 h117 h128 h146), trivial⟩
theorem vc_X12_tie_v_1 {f_dm p1 z250 : Int} (h0 : z250 = 0) (h1 : (z250 = 1 → 0 ≤ p1 ∧ p1 < f_dm)) (h2 : (z250 = 0 → p1 < 0 ∨ f_dm ≤ p1)) (h3 : 0 ≤ f_dm ∧ f_dm ≤ 10) (h4 : (-2147483648) ≤ p1 ∧ p1 ≤ 2147483647) (h5 : 0 ≤ z250 ∧ z250 ≤ 1) : 0 ≤ z250 ∧ z250 ≤ 0 := by omega
theorem vc_X12_tie_v_2 {f_dm p1 z250 : Int} (h0 : (z250 = 1 → 0 ≤ p1 ∧ p1 < f_dm)) (h1 : (z250 = 0 → p1 < 0 ∨ f_dm ≤ p1)) (h2 : z250 = 0) (h3 : 0 ≤ f_dm ∧ f_dm ≤ 10) (h4 : (-2147483648) ≤ p1 ∧ p1 ≤ 2147483647) (h5 : 0 ≤ z250 ∧ z250 ≤ 0) : z250 = 0 := by omega
theorem vc_X12_tie_v_3 {f_dm p1 p2 p3 z250 : Int} (h0 : (z250 = 1 → 0 ≤ p1 ∧ p1 < f_dm)) (h1 : (z250 = 0 → p1 < 0 ∨ f_dm ≤ p1)) (h2 : p1 < 0 ∨ f_dm ≤ p1) (h3 : z250 = 0) (h4 : 0 ≤ f_dm ∧ f_dm ≤ 10) (h5 : (-2147483648) ≤ p1 ∧ p1 ≤ 2147483647) (h6 : (-2147483648) ≤ p2 ∧ p2 ≤ 2147483647) (h7 : (-2147483648) ≤ p3 ∧ p3 ≤ 2147483647) (h8 : 0 ≤ z250 ∧ z250 ≤ 0) : p1 < 0 ∨ f_dm ≤ p1 ∨ p2 < 0 ∨ f_dm ≤ p2 ∨ p1 = p2 ∨ p3 < 0 ∨ 2 < p3 := by omega
theorem vc_X12_tie_v_5 {f_dm p1 z250 : Int} (h0 : ¬ z250 = 0) (h1 : (z250 = 1 → 0 ≤ p1 ∧ p1 < f_dm)) (h2 : (z250 = 0 → p1 < 0 ∨ f_dm ≤ p1)) (h3 : 0 ≤ f_dm ∧ f_dm ≤ 10) (h4 : (-2147483648) ≤ p1 ∧ p1 ≤ 2147483647) (h5 : 0 ≤ z250 ∧ z250 ≤ 1) : 1 ≤ z250 ∧ z250 ≤ 1 := by omega
theorem vc_X12_tie_v_6 {f_dm p1 z250 : Int} (h0 : (z250 = 1 → 0 ≤ p1 ∧ p1 < f_dm)) (h1 : (z250 = 0 → p1 < 0 ∨ f_dm ≤ p1)) (h2 : ¬ z250 = 0) (h3 : 0 ≤ f_dm ∧ f_dm ≤ 10) (h4 : (-2147483648) ≤ p1 ∧ p1 ≤ 2147483647) (h5 : 1 ≤ z250 ∧ z250 ≤ 1) : z250 = 1 := by omega
theorem vc_X12_tie_v_7 {f_dm p1 z250 : Int} (h0 : 0 ≤ p1 ∧ p1 < f_dm) (h1 : (z250 = 1 → 0 ≤ p1 ∧ p1 < f_dm)) (h2 : (z250 = 0 → p1 < 0 ∨ f_dm ≤ p1)) (h3 : 0 ≤ f_dm ∧ f_dm ≤ 10) (h4 : (-2147483648) ≤ p1 ∧ p1 ≤ 2147483647) (h5 : 1 ≤ z250 ∧ z250 ≤ 1) : 0 ≤ p1 ∧ p1 ≤ 9 := by omega
theorem vc_X12_tie_v_9 {f_dm p1 p2 z250 z261 : Int} (h0 : (z261 = 1 → 0 ≤ p2 ∧ p2 < f_dm)) (h1 : (z261 = 0 → p2 < 0 ∨ f_dm ≤ p2)) (h2 : z261 = 0) (h3 : (z250 = 1 → 0 ≤ p1 ∧ p1 < f_dm)) (h4 : (z250 = 0 → p1 < 0 ∨ f_dm ≤ p1)) (h5 : 0 ≤ p1 ∧ p1 < f_dm) (h6 : 0 ≤ f_dm ∧ f_dm ≤ 10) (h7 : 0 ≤ p1 ∧ p1 ≤ 9) (h8 : (-2147483648) ≤ p2 ∧ p2 ≤ 2147483647) (h9 : 1 ≤ z250 ∧ z250 ≤ 1) (h10 : 0 ≤ z261 ∧ z261 ≤ 0) : z261 = 0 := by omega
theorem vc_X12_tie_v_10 {f_dm p1 p2 p3 z250 z261 : Int} (h0 : (z250 = 1 → 0 ≤ p1 ∧ p1 < f_dm)) (h1 : (z250 = 0 → p1 < 0 ∨ f_dm ≤ p1)) (h2 : 0 ≤ p1 ∧ p1 < f_dm) (h3 : (z261 = 1 → 0 ≤ p2 ∧ p2 < f_dm)) (h4 : (z261 = 0 → p2 < 0 ∨ f_dm ≤ p2)) (h5 : p2 < 0 ∨ f_dm ≤ p2) (h6 : ¬ z250 = 0) (h7 : z261 = 0) (h8 : 0 ≤ f_dm ∧ f_dm ≤ 10) (h9 : 0 ≤ p1 ∧ p1 ≤ 9) (h10 : (-2147483648) ≤ p2 ∧ p2 ≤ 2147483647) (h11 : (-2147483648) ≤ p3 ∧ p3 ≤ 2147483647) (h12 : 1 ≤ z250 ∧ z250 ≤ 1) (h13 : 0 ≤ z261 ∧ z261 ≤ 0) : p1 < 0 ∨ f_dm ≤ p1 ∨ p2 < 0 ∨ f_dm ≤ p2 ∨ p1 = p2 ∨ p3 < 0 ∨ 2 < p3 := by omega
theorem vc_X12_tie_v_12 {f_dm p1 p2 z250 z261 : Int} (h0 : (z261 = 1 → 0 ≤ p2 ∧ p2 < f_dm)) (h1 : (z261 = 0 → p2 < 0 ∨ f_dm ≤ p2)) (h2 : ¬ z261 = 0) (h3 : (z250 = 1 → 0 ≤ p1 ∧ p1 < f_dm)) (h4 : (z250 = 0 → p1 < 0 ∨ f_dm ≤ p1)) (h5 : 0 ≤ p1 ∧ p1 < f_dm) (h6 : 0 ≤ f_dm ∧ f_dm ≤ 10) (h7 : 0 ≤ p1 ∧ p1 ≤ 9) (h8 : (-2147483648) ≤ p2 ∧ p2 ≤ 2147483647) (h9 : 1 ≤ z250 ∧ z250 ≤ 1) (h10 : 1 ≤ z261 ∧ z261 ≤ 1) : z261 = 1 := by omega
theorem vc_X12_tie_v_13 {f_dm p1 p2 z250 z261 : Int} (h0 : 0 ≤ p2 ∧ p2 < f_dm) (h1 : (z250 = 1 → 0 ≤ p1 ∧ p1 < f_dm)) (h2 : (z250 = 0 → p1 < 0 ∨ f_dm ≤ p1)) (h3 : 0 ≤ p1 ∧ p1 < f_dm) (h4 : (z261 = 1 → 0 ≤ p2 ∧ p2 < f_dm)) (h5 : (z261 = 0 → p2 < 0 ∨ f_dm ≤ p2)) (h6 : 0 ≤ f_dm ∧ f_dm ≤ 10) (h7 : 0 ≤ p1 ∧ p1 ≤ 9) (h8 : (-2147483648) ≤ p2 ∧ p2 ≤ 2147483647) (h9 : 1 ≤ z250 ∧ z250 ≤ 1) (h10 : 1 ≤ z261 ∧ z261 ≤ 1) : 0 ≤ p2 ∧ p2 ≤ 9 := by omega
theorem vc_X12_tie_v_14 {f_dm p1 p2 p3 z250 z261 : Int} (h0 : (z250 = 1 → 0 ≤ p1 ∧ p1 < f_dm)) (h1 : (z250 = 0 → p1 < 0 ∨ f_dm ≤ p1)) (h2 : 0 ≤ p1 ∧ p1 < f_dm) (h3 : (z261 = 1 → 0 ≤ p2 ∧ p2 < f_dm)) (h4 : (z261 = 0 → p2 < 0 ∨ f_dm ≤ p2)) (h5 : 0 ≤ p2 ∧ p2 < f_dm) (h6 : p1 = p2) (h7 : ¬ z250 = 0) (h8 : ¬ z261 = 0) (h9 : 0 ≤ f_dm ∧ f_dm ≤ 10) (h10 : 0 ≤ p1 ∧ p1 ≤ 9) (h11 : 0 ≤ p2 ∧ p2 ≤ 9) (h12 : (-2147483648) ≤ p3 ∧ p3 ≤ 2147483647) (h13 : 1 ≤ z250 ∧ z250 ≤ 1) (h14 : 1 ≤ z261 ∧ z261 ≤ 1) : p1 < 0 ∨ f_dm ≤ p1 ∨ p2 < 0 ∨ f_dm ≤ p2 ∨ p1 = p2 ∨ p3 < 0 ∨ 2 < p3 := by omega
theorem vc_X12_tie_v_22 {f_t : Int} (h0 : ¬ f_t = 20) (h1 : 0 ≤ f_t ∧ f_t ≤ 19) : f_t ≤ (f_t + 1) := by omega
theorem vc_X12_tie_v_23 {f_t : Int} (h0 : ¬ f_t = 20) (h1 : 0 ≤ f_t ∧ f_t ≤ 19) : (f_t + 1) = f_t + 1 := by omega
theorem vc_X12_tie_v_24 {f_t : Int} (h0 : ¬ f_t = 20) (h1 : 0 ≤ f_t ∧ f_t ≤ 19) : 0 ≤ f_t := by omega
theorem vc_X12_tie_v_25 {z345 : Int} (h0 : 4 ≤ z345) (h1 : 4 ≤ z345 ∧ z345 ≤ 4) : z345 = 4 := by omega
theorem vc_X12_tie_v_26 {f_t : Int} (h0 : ¬ f_t = 20) (h1 : 0 ≤ f_t ∧ f_t ≤ 19) : (2 * f_t).toNat ≠ ((2 * f_t) + 1).toNat := by omega
theorem vc_X12_tie_v_27 {f_dm p1 p2 z250 z261 : Int} (h0 : (z250 = 1 → 0 ≤ p1 ∧ p1 < f_dm)) (h1 : (z250 = 0 → p1 < 0 ∨ f_dm ≤ p1)) (h2 : 0 ≤ p1 ∧ p1 < f_dm) (h3 : (z261 = 1 → 0 ≤ p2 ∧ p2 < f_dm)) (h4 : (z261 = 0 → p2 < 0 ∨ f_dm ≤ p2)) (h5 : 0 ≤ p2 ∧ p2 < f_dm) (h6 : ¬ p1 = p2) (h7 : ¬ z250 = 0) (h8 : ¬ z261 = 0) (h9 : 0 ≤ f_dm ∧ f_dm ≤ 10) (h10 : 0 ≤ p1 ∧ p1 ≤ 9) (h11 : 0 ≤ p2 ∧ p2 ≤ 9) (h12 : 1 ≤ z250 ∧ z250 ≤ 1) (h13 : 1 ≤ z261 ∧ z261 ≤ 1) : p1 < f_dm ∧ p2 < f_dm := by omega
theorem vc_X12_tie_v_28 {f_dm p1 p2 p3 z250 z261 z273 : Int} (h0 : (z250 = 1 → 0 ≤ p1 ∧ p1 < f_dm)) (h1 : (z250 = 0 → p1 < 0 ∨ f_dm ≤ p1)) (h2 : 0 ≤ p1 ∧ p1 < f_dm) (h3 : (z261 = 1 → 0 ≤ p2 ∧ p2 < f_dm)) (h4 : (z261 = 0 → p2 < 0 ∨ f_dm ≤ p2)) (h5 : 0 ≤ p2 ∧ p2 < f_dm) (h6 : ¬ p1 = p2) (h7 : (z273 = 1 → (0 : Int) ≤ p3 ∧ p3 ≤ (2 : Int))) (h8 : (z273 = 0 → p3 < (0 : Int) ∨ (2 : Int) < p3)) (h9 : (0 : Int) ≤ p3 ∧ p3 ≤ (2 : Int)) (h10 : ¬ z250 = 0) (h11 : ¬ z261 = 0) (h12 : ¬ z273 = 0) (h13 : 0 ≤ f_dm ∧ f_dm ≤ 10) (h14 : 0 ≤ p1 ∧ p1 ≤ 9) (h15 : 0 ≤ p2 ∧ p2 ≤ 9) (h16 : 0 ≤ p3 ∧ p3 ≤ 2) (h17 : 1 ≤ z250 ∧ z250 ≤ 1) (h18 : 1 ≤ z261 ∧ z261 ≤ 1) (h19 : 1 ≤ z273 ∧ z273 ≤ 1) : ¬ (p1 < 0 ∨ f_dm ≤ p1 ∨ p2 < 0 ∨ f_dm ≤ p2 ∨ p1 = p2 ∨ p3 < 0 ∨ 2 < p3) := by omega
theorem vc_X12_tie_v_29 {z282 : Int} (h0 : z282 = -99999999 ∨ (0 ≤ z282 ∧ z282 ≤ 19)) (h1 : z282 = (-99999999)) (h2 : (-99999999) ≤ z282 ∧ z282 ≤ (-99999999)) : z282 < 0 := by omega
theorem vc_X12_tie_v_30 {f_t : Int} (h0 : ¬ f_t = 20) (h1 : 0 ≤ f_t ∧ f_t ≤ 19) : f_t < 20 := by omega
theorem vc_X12_tie_v_31 {f_t : Int} (h0 : ¬ f_t = 20) (h1 : 0 ≤ f_t ∧ f_t ≤ 19) : ((f_t + 1) - 1) = f_t := by omega
theorem vc_X12_tie_v_32 {f_t : Int} (h0 : ¬ f_t = 20) (h1 : 0 ≤ f_t ∧ f_t ≤ 19) : 0 ≤ ((f_t + 1) - 1) := by omega
theorem vc_X12_tie_v_33 {f_dm f_t p1 p2 p3 z250 z261 z273 : Int} (h0 : (z250 = 1 → 0 ≤ p1 ∧ p1 < f_dm)) (h1 : (z250 = 0 → p1 < 0 ∨ f_dm ≤ p1)) (h2 : 0 ≤ p1 ∧ p1 < f_dm) (h3 : (z261 = 1 → 0 ≤ p2 ∧ p2 < f_dm)) (h4 : (z261 = 0 → p2 < 0 ∨ f_dm ≤ p2)) (h5 : 0 ≤ p2 ∧ p2 < f_dm) (h6 : ¬ p1 = p2) (h7 : (z273 = 1 → (0 : Int) ≤ p3 ∧ p3 ≤ (2 : Int))) (h8 : (z273 = 0 → p3 < (0 : Int) ∨ (2 : Int) < p3)) (h9 : (0 : Int) ≤ p3 ∧ p3 ≤ (2 : Int)) (h10 : ¬ f_t = 20) (h11 : ¬ z250 = 0) (h12 : ¬ z261 = 0) (h13 : ¬ z273 = 0) (h14 : 0 ≤ f_dm ∧ f_dm ≤ 10) (h15 : 0 ≤ f_t ∧ f_t ≤ 19) (h16 : 0 ≤ p1 ∧ p1 ≤ 9) (h17 : 0 ≤ p2 ∧ p2 ≤ 9) (h18 : 0 ≤ p3 ∧ p3 ≤ 2) (h19 : 1 ≤ z250 ∧ z250 ≤ 1) (h20 : 1 ≤ z261 ∧ z261 ≤ 1) (h21 : 1 ≤ z273 ∧ z273 ≤ 1) : (f_t + 1) = f_t + 1 := by omega
theorem vc_X12_tie_v_34 {f_dm f_t p1 p2 p3 z250 z261 z273 : Int} (h0 : (z250 = 1 → 0 ≤ p1 ∧ p1 < f_dm)) (h1 : (z250 = 0 → p1 < 0 ∨ f_dm ≤ p1)) (h2 : 0 ≤ p1 ∧ p1 < f_dm) (h3 : (z261 = 1 → 0 ≤ p2 ∧ p2 < f_dm)) (h4 : (z261 = 0 → p2 < 0 ∨ f_dm ≤ p2)) (h5 : 0 ≤ p2 ∧ p2 < f_dm) (h6 : ¬ p1 = p2) (h7 : (z273 = 1 → (0 : Int) ≤ p3 ∧ p3 ≤ (2 : Int))) (h8 : (z273 = 0 → p3 < (0 : Int) ∨ (2 : Int) < p3)) (h9 : (0 : Int) ≤ p3 ∧ p3 ≤ (2 : Int)) (h10 : ¬ f_t = 20) (h11 : ¬ z250 = 0) (h12 : ¬ z261 = 0) (h13 : ¬ z273 = 0) (h14 : 0 ≤ f_dm ∧ f_dm ≤ 10) (h15 : 0 ≤ f_t ∧ f_t ≤ 19) (h16 : 0 ≤ p1 ∧ p1 ≤ 9) (h17 : 0 ≤ p2 ∧ p2 ≤ 9) (h18 : 0 ≤ p3 ∧ p3 ≤ 2) (h19 : 1 ≤ z250 ∧ z250 ≤ 1) (h20 : 1 ≤ z261 ∧ z261 ≤ 1) (h21 : 1 ≤ z273 ∧ z273 ≤ 1) : 0 ≤ f_t ∧ (2 * f_t) = 2 * f_t ∧ ((2 * f_t) + 1) = 2 * f_t + 1 ∧ p1 = p1 ∧ p2 = p2 ∧ p3 = p3 := by omega
theorem vc_X12_tie_v_36  : ((-99999999) : Int) = -(99999999 : Int) ∨ ((0 : Int) ≤ ((-99999999) : Int) ∧ ((-99999999) : Int) ≤ (11 : Int)) := by omega
theorem vc_X12_tie_v_37 {z380 : Int} (h0 : 0 ≤ z380 ∧ z380 ≤ 12) : ((-99999999) : Int) = -99999999 ∨ (0 ≤ ((-99999999) : Int) ∧ ((-99999999) : Int) < z380) := by omega
theorem vc_X12_tie_v_39 {f_t z345 : Int} (h0 : ¬ f_t = 20) (h1 : z345 < 4) (h2 : 0 ≤ f_t ∧ f_t ≤ 19) (h3 : 0 ≤ z345 ∧ z345 ≤ 3) : ((4 * f_t) + z345) = 4 * f_t + z345 := by omega
theorem vc_X12_tie_v_40 {f_t z345 : Int} (h0 : ¬ f_t = 20) (h1 : z345 < 4) (h2 : 0 ≤ f_t ∧ f_t ≤ 19) (h3 : 0 ≤ z345 ∧ z345 ≤ 3) : 0 ≤ f_t ∧ 0 ≤ z345 := by omega
theorem vc_X12_tie_v_41  : (((-99999999) : Int) : Int) = -(99999999 : Int) := by omega
theorem vc_X12_tie_v_42 {z345 : Int} (h0 : z345 < 4) (h1 : 0 ≤ z345 ∧ z345 ≤ 3) : (z345 + 1) = z345 + 1 := by omega
theorem vc_X12_tie_v_43 {f_t z345 : Int} (h0 : ¬ f_t = 20) (h1 : z345 < 4) (h2 : 0 ≤ f_t ∧ f_t ≤ 19) (h3 : 0 ≤ z345 ∧ z345 ≤ 3) : 4 * f_t ≤ ((4 * f_t) + z345) ∧ 0 ≤ ((4 * f_t) + z345) := by omega
theorem vc_X12_tie_v_46 {f_t : Int} (h0 : ¬ f_t = 20) (h1 : 0 ≤ f_t ∧ f_t ≤ 19) : 2 * f_t ≤ (2 * f_t) ∧ 0 ≤ (2 * f_t) := by omega
theorem vc_X12_tie_v_47 {f_t : Int} (h0 : ¬ f_t = 20) (h1 : 0 ≤ f_t ∧ f_t ≤ 19) : 2 * f_t ≤ ((2 * f_t) + 1) ∧ 0 ≤ ((2 * f_t) + 1) := by omega
theorem vc_X12_tie_v_48 {f_t : Int} (h0 : ¬ f_t = 20) (h1 : 0 ≤ f_t ∧ f_t ≤ 19) : 1 * f_t ≤ f_t ∧ 0 ≤ f_t := by omega
theorem vc_X12_tie_v_50 {f_t : Int} (h0 : f_t = 20) (h1 : 20 ≤ f_t ∧ f_t ≤ 20) : 20 ≤ f_t := by omega
theorem vc_X12_tie_v_51  : (((-3) : Int) : Int) < (0 : Int) := by omega
theorem vc_X12_tie_v_54  : (((-2) : Int) : Int) < (0 : Int) := by omega
theorem vc_X12_tie_v_57 {f_dm p1 p2 p3 z250 z261 z273 : Int} (h0 : (z250 = 1 → 0 ≤ p1 ∧ p1 < f_dm)) (h1 : (z250 = 0 → p1 < 0 ∨ f_dm ≤ p1)) (h2 : 0 ≤ p1 ∧ p1 < f_dm) (h3 : (z261 = 1 → 0 ≤ p2 ∧ p2 < f_dm)) (h4 : (z261 = 0 → p2 < 0 ∨ f_dm ≤ p2)) (h5 : 0 ≤ p2 ∧ p2 < f_dm) (h6 : ¬ p1 = p2) (h7 : (z273 = 1 → (0 : Int) ≤ p3 ∧ p3 ≤ (2 : Int))) (h8 : (z273 = 0 → p3 < (0 : Int) ∨ (2 : Int) < p3)) (h9 : p3 < (0 : Int) ∨ (2 : Int) < p3) (h10 : ¬ z250 = 0) (h11 : ¬ z261 = 0) (h12 : z273 = 0) (h13 : 0 ≤ f_dm ∧ f_dm ≤ 10) (h14 : 0 ≤ p1 ∧ p1 ≤ 9) (h15 : 0 ≤ p2 ∧ p2 ≤ 9) (h16 : (-2147483648) ≤ p3 ∧ p3 ≤ 2147483647) (h17 : 1 ≤ z250 ∧ z250 ≤ 1) (h18 : 1 ≤ z261 ∧ z261 ≤ 1) (h19 : 0 ≤ z273 ∧ z273 ≤ 0) : p1 < 0 ∨ f_dm ≤ p1 ∨ p2 < 0 ∨ f_dm ≤ p2 ∨ p1 = p2 ∨ p3 < 0 ∨ 2 < p3 := by omega
set_option maxRecDepth 4000 in
set_option maxHeartbeats 4000000 in
theorem c_X12_tie_v {l : Launch} {D : va_G} {c : Nat → ClassId} {H0 : Heap} {sa : Nat × Nat × (Nat → Int32)} {w : mW} {μ : mM} (hw : mWF w) (hT : mT w μ) {p1 : Int} (hp1 : (-2147483648) ≤ p1 ∧ p1 ≤ 2147483647) {p2 : Int} (hp2 : (-2147483648) ≤ p2 ∧ p2 ≤ 2147483647) {p3 : Int} (hp3 : (-2147483648) ≤ p3 ∧ p3 ≤ 2147483647) {f_t : Int} (q_f_t : μ 106 6 = f_t) {f_dm : Int} (q_f_dm : μ 106 5 = f_dm) (hIJC : JC l D c H0 sa μ) (hIRP : RP μ) (hIEP : EP μ) (hIHP : HP μ) (hIUP : UP l D c H0 sa μ) (hITE : TE μ) (hIPK : PK μ) (hIEV : EV μ) : sC (gG l D c H0 sa) mX12_tie 3 0 0 [.ref 106, iv p1, iv p2, iv p3] (mk w μ) (qI w [106006, 110999, 111999, 112999, 113999, 114999, 115999] μ (fun z μ1 => ((-2147483648) ≤ z ∧ z ≤ 2147483647) ∧ JC l D c H0 sa μ1 ∧ RP μ1 ∧ EP μ1 ∧ HP μ1 ∧ UP l D c H0 sa μ1 ∧ TE μ1 ∧ PK μ1 ∧ EV μ1 ∧ (tieA (noneQ (tr μ 0) (tr μ 1) f_t p1 p2) f_dm f_t p1 p2 p3 z) ∧ (tgR μ μ1 p1 p2 p3 z) ∧ True)) := by
  refine sC.of rfl (by decide) (le_t rfl) ?_
  have ht_f_t : (0 ≤ f_t ∧ f_t ≤ 20) := by rw [← q_f_t]; exact hT 106 106 (A_106 hw) 6
  have ht_f_dm : (0 ≤ f_dm ∧ f_dm ≤ 10) := by rw [← q_f_dm]; exact hT 106 106 (A_106 hw) 5
  refine mr_lvE (lv' := [(0, .ref 106), (1, iv p1), (2, iv p2), (3, iv p3)]) rfl ?_
  refine sv_aload_n (pc := 0) dX12_tie_0 rfl rfl ?_
  refine mr_iload_n (pc := 1) (z := p1) dX12_tie_1 rfl rfl ?_
  refine mr_cVP (pc := 2) (c_X12_isDomain hw hT hp1 q_f_dm) (gOk _ _ _ _ _) dX12_tie_2 (tX12_isDomain _ _ _ _ _) ⟨wV_X12_isDomain, wL_X12_isDomain⟩ wM_X12_49 (gCX12 _ _ _ _ _) rfl (A_106 hw) rfl ⟨le_t rfl, le_t rfl⟩ ⟨le_t rfl, le_t rfl⟩ rfl (le_t rfl) fun z250 h249 => ?_
  refine mr_if_eq (pc := 5) (tgt := 30) dX12_tie_5 (by decide) (r32 h249.1 rfl) (fun h251 => ?_) (fun h251 => ?_)
  · have h252 : 0 ≤ z250 ∧ z250 ≤ 0 := (vc_X12_tie_v_1 h251 h249.2.1 h249.2.2.1 ht_f_dm hp1 h249.1)
    have h253 : p1 < 0 ∨ f_dm ≤ p1 := (h249.2.2.1 (vc_X12_tie_v_2 h249.2.1 h249.2.2.1 h251 ht_f_dm hp1 h252))
    refine mr_iconst (pc := 30) (z := (-1)) dX12_tie_30 ?_
    exact mr_iret dX12_tie_31 rfl (le_t rfl) (le_t rfl) hT mF.refl ⟨(rW (c := (-2147483648)) (d := 2147483647) (rR (x := (-1))) rfl), hIJC, hIRP, hIEP, hIHP, hIUP, hITE, hIPK, hIEV, (Or.inl ⟨(by unfold tieB; exact (vc_X12_tie_v_3 h249.2.1 h249.2.2.1 h253 h251 ht_f_dm hp1 hp2 hp3 h252)), rfl⟩), (Or.inr ⟨vc_X12_raise_u_49, rfl⟩), trivial⟩
  have h254 : 1 ≤ z250 ∧ z250 ≤ 1 := (vc_X12_tie_v_5 h251 h249.2.1 h249.2.2.1 ht_f_dm hp1 h249.1)
  have h255 : 0 ≤ p1 ∧ p1 < f_dm := (h249.2.1 (vc_X12_tie_v_6 h249.2.1 h249.2.2.1 h251 ht_f_dm hp1 h254))
  have h256 : 0 ≤ p1 ∧ p1 ≤ 9 := (vc_X12_tie_v_7 h255 h249.2.1 h249.2.2.1 ht_f_dm hp1 h254)
  refine sv_aload_n (pc := 8) dX12_tie_8 rfl rfl ?_
  refine mr_iload_n (pc := 9) (z := p2) dX12_tie_9 rfl rfl ?_
  refine mr_cVP (pc := 10) (c_X12_isDomain hw hT hp2 q_f_dm) (gOk _ _ _ _ _) dX12_tie_10 (tX12_isDomain _ _ _ _ _) ⟨wV_X12_isDomain, wL_X12_isDomain⟩ wM_X12_49 (gCX12 _ _ _ _ _) rfl (A_106 hw) rfl ⟨le_t rfl, le_t rfl⟩ ⟨le_t rfl, le_t rfl⟩ rfl (le_t rfl) fun z261 h260 => ?_
  refine mr_if_eq (pc := 13) (tgt := 30) dX12_tie_13 (by decide) (r32 h260.1 rfl) (fun h262 => ?_) (fun h262 => ?_)
  · have h263 : 0 ≤ z261 ∧ z261 ≤ 0 := (vc_X12_tie_v_1 h262 h260.2.1 h260.2.2.1 ht_f_dm hp2 h260.1)
    have h264 : p2 < 0 ∨ f_dm ≤ p2 := (h260.2.2.1 (vc_X12_tie_v_9 h260.2.1 h260.2.2.1 h262 h249.2.1 h249.2.2.1 h255 ht_f_dm h256 hp2 h254 h263))
    refine mr_iconst (pc := 30) (z := (-1)) dX12_tie_30 ?_
    exact mr_iret dX12_tie_31 rfl (le_t rfl) (le_t rfl) hT mF.refl ⟨(rW (c := (-2147483648)) (d := 2147483647) (rR (x := (-1))) rfl), hIJC, hIRP, hIEP, hIHP, hIUP, hITE, hIPK, hIEV, (Or.inl ⟨(by unfold tieB; exact (vc_X12_tie_v_10 h249.2.1 h249.2.2.1 h255 h260.2.1 h260.2.2.1 h264 h251 h262 ht_f_dm h256 hp2 hp3 h254 h263)), rfl⟩), (Or.inr ⟨vc_X12_raise_u_49, rfl⟩), trivial⟩
  have h265 : 1 ≤ z261 ∧ z261 ≤ 1 := (vc_X12_tie_v_5 h262 h260.2.1 h260.2.2.1 ht_f_dm hp2 h260.1)
  have h266 : 0 ≤ p2 ∧ p2 < f_dm := (h260.2.1 (vc_X12_tie_v_12 h260.2.1 h260.2.2.1 h262 h249.2.1 h249.2.2.1 h255 ht_f_dm h256 hp2 h254 h265))
  have h267 : 0 ≤ p2 ∧ p2 ≤ 9 := (vc_X12_tie_v_13 h266 h249.2.1 h249.2.2.1 h255 h260.2.1 h260.2.2.1 ht_f_dm h256 hp2 h254 h265)
  refine mr_iload_n (pc := 16) (z := p1) dX12_tie_16 rfl rfl ?_
  refine mr_iload_n (pc := 17) (z := p2) dX12_tie_17 rfl rfl ?_
  refine mr_icmp_eq (pc := 18) (tgt := 30) dX12_tie_18 (by decide) (r32 h256 rfl) (r32 h267 rfl) (fun h268 => ?_) (fun h268 => ?_)
  · refine mr_iconst (pc := 30) (z := (-1)) dX12_tie_30 ?_
    exact mr_iret dX12_tie_31 rfl (le_t rfl) (le_t rfl) hT mF.refl ⟨(rW (c := (-2147483648)) (d := 2147483647) (rR (x := (-1))) rfl), hIJC, hIRP, hIEP, hIHP, hIUP, hITE, hIPK, hIEV, (Or.inl ⟨(by unfold tieB; exact (vc_X12_tie_v_14 h249.2.1 h249.2.2.1 h255 h260.2.1 h260.2.2.1 h266 h268 h251 h262 ht_f_dm h256 h267 hp3 h254 h265)), rfl⟩), (Or.inr ⟨vc_X12_raise_u_49, rfl⟩), trivial⟩
  refine mr_iload_n (pc := 21) (z := p3) dX12_tie_21 rfl rfl ?_
  refine mr_iconst (pc := 22) (z := 0) dX12_tie_22 ?_
  refine mr_iconst (pc := 23) (z := 2) dX12_tie_23 ?_
  refine mr_cSP (pc := 24) (c_X12_in hw hT hp3 (rW (c := (-2147483648)) (d := 2147483647) (rR (x := 0)) rfl) (rW (c := (-2147483648)) (d := 2147483647) (rR (x := 2)) rfl)) (gOk _ _ _ _ _) dX12_tie_24 (tX12_in _ _ _ _ _) wS_X12_in wM_X12_18 ⟨le_t rfl, le_t rfl⟩ ⟨le_t rfl, le_t rfl⟩ rfl (le_t rfl) fun z273 h272 => ?_
  refine mr_if_ne (pc := 27) (tgt := 32) dX12_tie_27 (by decide) (r32 h272.1 rfl) (fun h274 => ?_) (fun h274 => ?_)
  · have h275 : 1 ≤ z273 ∧ z273 ≤ 1 := (vc_X12_units_1 h274 h272.2.1 h272.2.2.1 hp3 h272.1)
    have h276 : (0 : Int) ≤ p3 ∧ p3 ≤ (2 : Int) := (h272.2.1 (vc_X12_units_2 h272.2.1 h272.2.2.1 h274 hp3 h275))
    have h277 : 0 ≤ p3 ∧ p3 ≤ 2 := (vc_X12_units_3 h276 h272.2.1 h272.2.2.1 hp3 h275)
    refine sv_aload_n (pc := 32) dX12_tie_32 rfl rfl ?_
    refine mr_iload_n (pc := 33) (z := p1) dX12_tie_33 rfl rfl ?_
    refine mr_iload_n (pc := 34) (z := p2) dX12_tie_34 rfl rfl ?_
    refine mr_cVP (pc := 35) (c_X12_tieOf_v hw hT (rW (c := (-2147483648)) (d := 2147483647) h256 rfl) (rW (c := (-2147483648)) (d := 2147483647) h267 rfl) q_f_t) (gOk _ _ _ _ _) dX12_tie_35 (tX12_tieOf _ _ _ _ _) ⟨wV_X12_tieOf, wL_X12_tieOf⟩ wM_X12_43 (gCX12 _ _ _ _ _) rfl (A_106 hw) rfl ⟨le_t rfl, le_t rfl⟩ ⟨le_t rfl, le_t rfl⟩ rfl (le_t rfl) fun z282 h281 => ?_
    refine mr_ldc (pc := 38) (z := (-99999999)) dX12_tie_38 wG_X12_29 (by decide) ?_
    refine mr_icmp_eq (pc := 40) (tgt := 46) dX12_tie_40 (by decide) (r32 h281.1 rfl) (r32 (rR (x := (-99999999))) rfl) (fun h283 => ?_) (fun h283 => ?_)
    · have h284 : (-99999999) ≤ z282 ∧ z282 ≤ (-99999999) := (vc_X12_provides_1 h283 h281.2.1 h281.1)
      refine sv_aload_n (pc := 46) dX12_tie_46 rfl rfl ?_
      refine gk_X12_6 (pc := 47) dX12_tie_47 wF_X12_37 (A_106 hw) q_f_t ?_
      refine mr_bipush (pc := 50) (z := 20) dX12_tie_50 (by decide) ?_
      refine mr_icmp_ne (pc := 52) (tgt := 58) dX12_tie_52 (by decide) (r32 ht_f_t rfl) (r32 (rR (x := 20)) rfl) (fun h285 => ?_) (fun h285 => ?_)
      · have h286 : 0 ≤ f_t ∧ f_t ≤ 19 := (vc_X12_walk_5 h285 ht_f_t)
        refine sv_aload_n (pc := 58) dX12_tie_58 rfl rfl ?_
        refine gf_X12_7 (pc := 59) dX12_tie_59 wF_X12_40 (A_106 hw) hT ?_
        refine mr_iconst (pc := 62) (z := 2) dX12_tie_62 ?_
        refine sv_aload_n (pc := 63) dX12_tie_63 rfl rfl ?_
        refine gk_X12_6 (pc := 64) dX12_tie_64 wF_X12_37 (A_106 hw) q_f_t ?_
        refine mr_imul (pc := 67) (x := 2) (y := f_t) dX12_tie_67 ?_
        refine mr_iload_n (pc := 68) (z := p1) dX12_tie_68 rfl rfl ?_
        refine ss_110 (pc := 69) dX12_tie_69 (A_110 hw) hT (rIx (n := 40) (rMulL (n := 2) (e := 0) (f := 38) h286 rfl) rfl) h256 fun μ287 u288 T289 => ?_
        refine sv_aload_n (pc := 70) dX12_tie_70 rfl rfl ?_
        refine gf_X12_7 (pc := 71) dX12_tie_71 wF_X12_40 (A_106 hw) T289 ?_
        refine mr_iconst (pc := 74) (z := 2) dX12_tie_74 ?_
        refine sv_aload_n (pc := 75) dX12_tie_75 rfl rfl ?_
        refine gk_X12_6 (pc := 76) dX12_tie_76 wF_X12_37 (A_106 hw) (u288.f (Or.inl (mAt.ne (A_110 hw) (A_106 hw) rfl)) q_f_t) ?_
        refine mr_imul (pc := 79) (x := 2) (y := f_t) dX12_tie_79 ?_
        refine mr_iconst (pc := 80) (z := 1) dX12_tie_80 ?_
        refine mr_iadd (pc := 81) (x := (2 * f_t)) (y := 1) dX12_tie_81 ?_
        refine mr_iload_n (pc := 82) (z := p2) dX12_tie_82 rfl rfl ?_
        refine ss_110 (pc := 83) dX12_tie_83 (A_110 hw) T289 (rIx (n := 40) (rAdd (e := 1) (f := 39) (rMulL (n := 2) (e := 0) (f := 38) h286 rfl) (rR (x := 1)) rfl) rfl) h267 fun μ290 u291 T292 => ?_
        refine sv_aload_n (pc := 84) dX12_tie_84 rfl rfl ?_
        refine gf_X12_8 (pc := 85) dX12_tie_85 wF_X12_46 (A_106 hw) T292 ?_
        refine sv_aload_n (pc := 88) dX12_tie_88 rfl rfl ?_
        refine gk_X12_6 (pc := 89) dX12_tie_89 wF_X12_37 (A_106 hw) (u291.f (Or.inl (mAt.ne (A_110 hw) (A_106 hw) rfl)) (u288.f (Or.inl (mAt.ne (A_110 hw) (A_106 hw) rfl)) q_f_t)) ?_
        refine mr_iload_n (pc := 92) (z := p3) dX12_tie_92 rfl rfl ?_
        refine ss_111 (pc := 93) dX12_tie_93 (A_111 hw) T292 (rIx (n := 20) h286 rfl) h277 fun μ293 u294 T295 => ?_
        refine sv_aload_n (pc := 94) dX12_tie_94 rfl rfl ?_
        refine gf_X12_9 (pc := 95) dX12_tie_95 wF_X12_53 (A_106 hw) T295 ?_
        refine sv_aload_n (pc := 98) dX12_tie_98 rfl rfl ?_
        refine gk_X12_6 (pc := 99) dX12_tie_99 wF_X12_37 (A_106 hw) (u294.f (Or.inl (mAt.ne (A_111 hw) (A_106 hw) rfl)) (u291.f (Or.inl (mAt.ne (A_110 hw) (A_106 hw) rfl)) (u288.f (Or.inl (mAt.ne (A_110 hw) (A_106 hw) rfl)) q_f_t))) ?_
        refine mr_iconst (pc := 102) (z := 1) dX12_tie_102 ?_
        refine ss_112 (pc := 103) dX12_tie_103 (A_112 hw) T295 (rIx (n := 20) h286 rfl) (rW (c := 0) (d := 1) (rR (x := 1)) rfl) fun μ296 u297 T298 => ?_
        refine sv_aload_n (pc := 104) dX12_tie_104 rfl rfl ?_
        refine gf_X12_10 (pc := 105) dX12_tie_105 wF_X12_57 (A_106 hw) T298 ?_
        refine sv_aload_n (pc := 108) dX12_tie_108 rfl rfl ?_
        refine gk_X12_6 (pc := 109) dX12_tie_109 wF_X12_37 (A_106 hw) (u297.f (Or.inl (mAt.ne (A_112 hw) (A_106 hw) rfl)) (u294.f (Or.inl (mAt.ne (A_111 hw) (A_106 hw) rfl)) (u291.f (Or.inl (mAt.ne (A_110 hw) (A_106 hw) rfl)) (u288.f (Or.inl (mAt.ne (A_110 hw) (A_106 hw) rfl)) q_f_t)))) ?_
        refine mr_iconst (pc := 112) (z := 1) dX12_tie_112 ?_
        refine ss_113 (pc := 113) dX12_tie_113 (A_113 hw) T298 (rIx (n := 20) h286 rfl) (rW (c := 0) (d := 1000) (rR (x := 1)) rfl) fun μ299 u300 T301 => ?_
        refine sv_aload_n (pc := 114) dX12_tie_114 rfl rfl ?_
        refine gf_X12_11 (pc := 115) dX12_tie_115 wF_X12_60 (A_106 hw) T301 ?_
        refine sv_aload_n (pc := 118) dX12_tie_118 rfl rfl ?_
        refine gk_X12_6 (pc := 119) dX12_tie_119 wF_X12_37 (A_106 hw) (u300.f (Or.inl (mAt.ne (A_113 hw) (A_106 hw) rfl)) (u297.f (Or.inl (mAt.ne (A_112 hw) (A_106 hw) rfl)) (u294.f (Or.inl (mAt.ne (A_111 hw) (A_106 hw) rfl)) (u291.f (Or.inl (mAt.ne (A_110 hw) (A_106 hw) rfl)) (u288.f (Or.inl (mAt.ne (A_110 hw) (A_106 hw) rfl)) q_f_t))))) ?_
        refine mr_iconst (pc := 122) (z := 0) dX12_tie_122 ?_
        refine ss_114 (pc := 123) dX12_tie_123 (A_114 hw) T301 (rIx (n := 20) h286 rfl) (rW (c := 0) (d := 1000) (rR (x := 0)) rfl) fun μ302 u303 T304 => ?_
        refine mr_iconst (pc := 124) (z := 0) dX12_tie_124 ?_
        refine mr_istore (pc := 125) (lv' := [(4, iv 0), (0, .ref 106), (1, iv p1), (2, iv p2), (3, iv p3)]) dX12_tie_125 (by decide) rfl ?_
        have L347 : ∀ (nL347 : Nat) (z345 : Int) (μ346 : mM), mT w μ346 → mF [115999] w μ302 μ346 → (0 ≤ z345 ∧ z345 ≤ 4) → JC l D c H0 sa μ346 → RP μ346 → PK μ346 → EV μ346 → pnT μ346 f_t z345 → TI μ μ346 f_t → (5 - z345) < (nL347 : Int) → sV (gG l D c H0 sa) mX12_tie (sRm 3 0 0) (sZ (gG l D c H0 sa) 0 0 (qI w [106006, 110999, 111999, 112999, 113999, 114999, 115999] μ (fun z μ1 => ((-2147483648) ≤ z ∧ z ≤ 2147483647) ∧ JC l D c H0 sa μ1 ∧ RP μ1 ∧ EP μ1 ∧ HP μ1 ∧ UP l D c H0 sa μ1 ∧ TE μ1 ∧ PK μ1 ∧ EV μ1 ∧ (tieA (noneQ (tr μ 0) (tr μ 1) f_t p1 p2) f_dm f_t p1 p2 p3 z) ∧ (tgR μ μ1 p1 p2 p3 z) ∧ True))) 127 [(0, .ref 106), (4, iv z345)] [] (mk w μ346) 0 0 := by
          intro nL347
          induction nL347 with
          | zero => intro z345 μ346 T349 F350 h348 I352 I353 I354 I355 R356 R357 h358; exact ((vc_X3_putPrefix_2 h358 h348)).elim
          | succ nL347 ih359 =>
            intro z345 μ346 T349 F350 h348 I352 I353 I354 I355 R356 R357 h358
            refine mr_iload (pc := 127) (z := z345) dX12_tie_127 rfl ?_
            refine mr_iconst (pc := 129) (z := 4) dX12_tie_129 ?_
            refine mr_icmp_ge (pc := 130) (tgt := 155) dX12_tie_130 (by decide) (r32 h348 rfl) (r32 (rR (x := 4)) rfl) (fun h365 => ?_) (fun h365 => ?_)
            · have h366 : 4 ≤ z345 ∧ z345 ≤ 4 := (vc_X12_addressRead_74 h365 h348)
              refine sv_aload_n (pc := 155) dX12_tie_155 rfl rfl ?_
              refine sv_dup (pc := 156) dX12_tie_156 rfl ?_
              refine gk_X12_6 (pc := 157) dX12_tie_157 wF_X12_37 (A_106 hw) (F350.f (A_106 hw) rfl (u303.f (Or.inl (mAt.ne (A_114 hw) (A_106 hw) rfl)) (u300.f (Or.inl (mAt.ne (A_113 hw) (A_106 hw) rfl)) (u297.f (Or.inl (mAt.ne (A_112 hw) (A_106 hw) rfl)) (u294.f (Or.inl (mAt.ne (A_111 hw) (A_106 hw) rfl)) (u291.f (Or.inl (mAt.ne (A_110 hw) (A_106 hw) rfl)) (u288.f (Or.inl (mAt.ne (A_110 hw) (A_106 hw) rfl)) q_f_t))))))) ?_
              refine mr_iconst (pc := 160) (z := 1) dX12_tie_160 ?_
              refine mr_iadd (pc := 161) (x := f_t) (y := 1) dX12_tie_161 ?_
              refine pf_X12_6 (pc := 162) dX12_tie_162 wF_X12_37 (A_106 hw) T349 (rW (c := 0) (d := 20) (rAdd (e := 1) (f := 20) h286 (rR (x := 1)) rfl) rfl) fun μ367 u368 T369 => ?_
              have I370 : EV μ367 := EV.grow I355 (F350.f (A_106 hw) rfl (u303.f (Or.inl (mAt.ne (A_114 hw) (A_106 hw) rfl)) (u300.f (Or.inl (mAt.ne (A_113 hw) (A_106 hw) rfl)) (u297.f (Or.inl (mAt.ne (A_112 hw) (A_106 hw) rfl)) (u294.f (Or.inl (mAt.ne (A_111 hw) (A_106 hw) rfl)) (u291.f (Or.inl (mAt.ne (A_110 hw) (A_106 hw) rfl)) (u288.f (Or.inl (mAt.ne (A_110 hw) (A_106 hw) rfl)) q_f_t))))))) u368 (vc_X12_tie_v_22 h285 h286)
              have I371 : PK μ367 := PK.grow I354 (F350.f (A_106 hw) rfl (u303.f (Or.inl (mAt.ne (A_114 hw) (A_106 hw) rfl)) (u300.f (Or.inl (mAt.ne (A_113 hw) (A_106 hw) rfl)) (u297.f (Or.inl (mAt.ne (A_112 hw) (A_106 hw) rfl)) (u294.f (Or.inl (mAt.ne (A_111 hw) (A_106 hw) rfl)) (u291.f (Or.inl (mAt.ne (A_110 hw) (A_106 hw) rfl)) (u288.f (Or.inl (mAt.ne (A_110 hw) (A_106 hw) rfl)) q_f_t))))))) u368 (vc_X12_tie_v_23 h285 h286) (vc_X12_tie_v_24 h285 h286) R356 (vc_X12_tie_v_25 h365 h366)
              have I372 : HP μ367 := TI.hp hIHP R357 q_f_t u368 (vc_X12_tie_v_23 h285 h286)
              have I373 : EP μ367 := TI.ep hIEP hIEV R357 q_f_t u368
              have I374 : TE μ367 := TI.te hITE R357 q_f_t (vc_X12_tie_v_24 h285 h286) u368 (vc_X12_tie_v_23 h285 h286) (u368.f (Or.inl (mAt.ne (A_106 hw) (A_110 hw) rfl)) (F350.f (A_110 hw) rfl (u303.f (Or.inl (mAt.ne (A_114 hw) (A_110 hw) rfl)) (u300.f (Or.inl (mAt.ne (A_113 hw) (A_110 hw) rfl)) (u297.f (Or.inl (mAt.ne (A_112 hw) (A_110 hw) rfl)) (u294.f (Or.inl (mAt.ne (A_111 hw) (A_110 hw) rfl)) (u291.f (Or.inr (vc_X12_tie_v_26 h285 h286)) u288.1))))))) (u368.f (Or.inl (mAt.ne (A_106 hw) (A_110 hw) rfl)) (F350.f (A_110 hw) rfl (u303.f (Or.inl (mAt.ne (A_114 hw) (A_110 hw) rfl)) (u300.f (Or.inl (mAt.ne (A_113 hw) (A_110 hw) rfl)) (u297.f (Or.inl (mAt.ne (A_112 hw) (A_110 hw) rfl)) (u294.f (Or.inl (mAt.ne (A_111 hw) (A_110 hw) rfl)) u291.1)))))) (u368.f (Or.inr (by decide)) (F350.f (A_106 hw) rfl (u303.f (Or.inl (mAt.ne (A_114 hw) (A_106 hw) rfl)) (u300.f (Or.inl (mAt.ne (A_113 hw) (A_106 hw) rfl)) (u297.f (Or.inl (mAt.ne (A_112 hw) (A_106 hw) rfl)) (u294.f (Or.inl (mAt.ne (A_111 hw) (A_106 hw) rfl)) (u291.f (Or.inl (mAt.ne (A_110 hw) (A_106 hw) rfl)) (u288.f (Or.inl (mAt.ne (A_110 hw) (A_106 hw) rfl)) q_f_dm)))))))) (vc_X12_tie_v_27 h249.2.1 h249.2.2.1 h255 h260.2.1 h260.2.2.1 h266 h268 h251 h262 ht_f_dm h256 h267 h254 h265)
              have I375 : UP l D c H0 sa μ367 := TI.upx hIUP hIHP R357 hw T369 I371 q_f_t (vc_X12_tie_v_24 h285 h286) u368 (vc_X12_tie_v_23 h285 h286)
              refine sv_aload_n (pc := 165) dX12_tie_165 rfl rfl ?_
              refine gk_X12_6 (pc := 166) dX12_tie_166 wF_X12_37 (A_106 hw) u368.1 ?_
              refine mr_iconst (pc := 169) (z := 1) dX12_tie_169 ?_
              refine mr_isub (pc := 170) (x := (f_t + 1)) (y := 1) dX12_tie_170 ?_
              exact mr_iret dX12_tie_171 rfl (le_t rfl) (le_t rfl) T369 (mF.up (mF.call (mF.up (mF.up (mF.up (mF.up (mF.up (mF.up mF.refl (A_110 hw) u288 rfl) (A_110 hw) u291 rfl) (A_111 hw) u294 rfl) (A_112 hw) u297 rfl) (A_113 hw) u300 rfl) (A_114 hw) u303 rfl) F350 rfl) (A_106 hw) u368 rfl) ⟨(rW (c := (-2147483648)) (d := 2147483647) (rSub (e := 0) (f := 19) (rAdd (e := 1) (f := 20) h286 (rR (x := 1)) rfl) (rR (x := 1)) rfl) rfl), (JC.keepJ I352 hw ((mF.up mF.refl (A_106 hw) u368 rfl) : mF [106006] w μ346 μ367) rfl), (RP.keep I353 hw ((mF.up mF.refl (A_106 hw) u368 rfl) : mF [106006] w μ346 μ367) rfl ((mG.upO mG.refl u368 rfl) : mG [] μ346 μ367) (fun _ h => absurd h List.not_mem_nil)), I373, I372, I375, I374, I371, I370, (Or.inr ⟨(by unfold tieB; exact (vc_X12_tie_v_28 h249.2.1 h249.2.2.1 h255 h260.2.1 h260.2.2.1 h266 h268 h272.2.1 h272.2.2.1 h276 h251 h262 h274 ht_f_dm h256 h267 h277 h254 h265 h275)), Or.inr ⟨((h281.2.2.1).not (by decide) (vc_X12_tie_v_29 h281.2.1 h283 h284)), Or.inr ⟨(vc_X12_tie_v_30 h285 h286), (vc_X12_tie_v_31 h285 h286)⟩⟩⟩), (tgR.add q_f_t (vc_X12_tie_v_32 h285 h286) u368.1 (vc_X12_tie_v_33 h249.2.1 h249.2.2.1 h255 h260.2.1 h260.2.2.1 h266 h268 h272.2.1 h272.2.2.1 h276 h285 h251 h262 h274 ht_f_dm h286 h256 h267 h277 h254 h265 h275) (u368.f (Or.inl (mAt.ne (A_106 hw) (A_110 hw) rfl)) (F350.f (A_110 hw) rfl (u303.f (Or.inl (mAt.ne (A_114 hw) (A_110 hw) rfl)) (u300.f (Or.inl (mAt.ne (A_113 hw) (A_110 hw) rfl)) (u297.f (Or.inl (mAt.ne (A_112 hw) (A_110 hw) rfl)) (u294.f (Or.inl (mAt.ne (A_111 hw) (A_110 hw) rfl)) (u291.f (Or.inr (vc_X12_tie_v_26 h285 h286)) u288.1))))))) (u368.f (Or.inl (mAt.ne (A_106 hw) (A_110 hw) rfl)) (F350.f (A_110 hw) rfl (u303.f (Or.inl (mAt.ne (A_114 hw) (A_110 hw) rfl)) (u300.f (Or.inl (mAt.ne (A_113 hw) (A_110 hw) rfl)) (u297.f (Or.inl (mAt.ne (A_112 hw) (A_110 hw) rfl)) (u294.f (Or.inl (mAt.ne (A_111 hw) (A_110 hw) rfl)) u291.1)))))) (u368.f (Or.inl (mAt.ne (A_106 hw) (A_111 hw) rfl)) (F350.f (A_111 hw) rfl (u303.f (Or.inl (mAt.ne (A_114 hw) (A_111 hw) rfl)) (u300.f (Or.inl (mAt.ne (A_113 hw) (A_111 hw) rfl)) (u297.f (Or.inl (mAt.ne (A_112 hw) (A_111 hw) rfl)) u294.1))))) (vc_X12_tie_v_34 h249.2.1 h249.2.2.1 h255 h260.2.1 h260.2.2.1 h266 h268 h272.2.1 h272.2.2.1 h276 h285 h251 h262 h274 ht_f_dm h286 h256 h267 h277 h254 h265 h275) (TI.trS R357 u368)), trivial⟩
            have h376 : 0 ≤ z345 ∧ z345 ≤ 3 := (vc_X12_addressRead_82 h365 h348)
            refine sv_aload_n (pc := 133) dX12_tie_133 rfl rfl ?_
            refine gf_X12_12 (pc := 134) dX12_tie_134 wF_X12_63 (A_106 hw) T349 ?_
            refine mr_iconst (pc := 137) (z := 4) dX12_tie_137 ?_
            refine sv_aload_n (pc := 138) dX12_tie_138 rfl rfl ?_
            refine gk_X12_6 (pc := 139) dX12_tie_139 wF_X12_37 (A_106 hw) (F350.f (A_106 hw) rfl (u303.f (Or.inl (mAt.ne (A_114 hw) (A_106 hw) rfl)) (u300.f (Or.inl (mAt.ne (A_113 hw) (A_106 hw) rfl)) (u297.f (Or.inl (mAt.ne (A_112 hw) (A_106 hw) rfl)) (u294.f (Or.inl (mAt.ne (A_111 hw) (A_106 hw) rfl)) (u291.f (Or.inl (mAt.ne (A_110 hw) (A_106 hw) rfl)) (u288.f (Or.inl (mAt.ne (A_110 hw) (A_106 hw) rfl)) q_f_t))))))) ?_
            refine mr_imul (pc := 142) (x := 4) (y := f_t) dX12_tie_142 ?_
            refine mr_iload (pc := 143) (z := z345) dX12_tie_143 rfl ?_
            refine mr_iadd (pc := 145) (x := (4 * f_t)) (y := z345) dX12_tie_145 ?_
            refine mr_ldc (pc := 146) (z := (-99999999)) dX12_tie_146 wG_X12_29 (by decide) ?_
            refine ss_115 (pc := 148) dX12_tie_148 (A_115 hw) T349 (rIx (n := 80) (rAdd (e := 0) (f := 79) (rMulL (n := 4) (e := 0) (f := 76) h286 rfl) h376 rfl) rfl) vc_X12_tie_v_36 fun μ377 u378 T379 => ?_
            obtain ⟨z380, q381⟩ : ∃ z, μ377 106 39 = z := ⟨_, rfl⟩
            have h382 : (0 ≤ z380 ∧ z380 ≤ 12) := by rw [← q381]; exact T379 106 106 (A_106 hw) 39
            have I383 : PK μ377 := PK.use I354 u378 (u378.2 106 39 (Or.inl (by decide)) ▸ q381) (vc_X12_tie_v_37 h382)
            refine mr_iinc (pc := 149) (lv' := [(4, iv (z345 + 1)), (0, .ref 106)]) dX12_tie_149 rfl (by decide) rfl ?_
            refine sv_goto (pc := 152) (tgt := 127) dX12_tie_152 (by decide) ?_
            refine mr_lvS (lv' := [(0, .ref 106), (4, iv (z345 + 1))]) (List.forall_mem_cons.mpr ⟨rfl, List.forall_mem_cons.mpr ⟨rfl, fun _ h => absurd h List.not_mem_nil⟩⟩) ?_
            exact ih359 (z345 + 1) μ377 T379 (mF.up (mF.call mF.refl F350 rfl) (A_115 hw) u378 rfl) (rW (c := 0) (d := 4) (rAdd (e := 1) (f := 4) h376 (rR (x := 1)) rfl) rfl) (JC.keepJ I352 hw ((mF.up mF.refl (A_115 hw) u378 rfl) : mF [115999] w μ346 μ377) rfl) (RP.keep I353 hw ((mF.up mF.refl (A_115 hw) u378 rfl) : mF [115999] w μ346 μ377) rfl ((mG.upO mG.refl u378 rfl) : mG [] μ346 μ377) (fun _ h => absurd h List.not_mem_nil)) I383 (EV.keep I355 hw ((mF.up mF.refl (A_115 hw) u378 rfl) : mF [115999] w μ346 μ377) rfl) (pnT.succ R356 u378 (vc_X12_tie_v_39 h285 h365 h286 h376) (vc_X12_tie_v_40 h285 h365 h286 h376) vc_X12_tie_v_41 (vc_X12_tie_v_42 h365 h376)) (TI.up R357 u378 (Or.inr (Or.inr (Or.inr (Or.inr (Or.inr ⟨rfl, (by have h := (vc_X12_tie_v_43 h285 h365 h286 h376); omega)⟩)))))) (vc_X12_message_u_87 (nS h358) h365 h376)
        refine mr_lvS (lv' := [(0, .ref 106), (4, iv 0)]) (List.forall_mem_cons.mpr ⟨rfl, List.forall_mem_cons.mpr ⟨rfl, fun _ h => absurd h List.not_mem_nil⟩⟩) ?_
        exact L347 6 0 μ302 T304 mF.refl (rW (c := 0) (d := 4) (rR (x := 0)) rfl) (JC.keepJ hIJC hw ((mF.up (mF.up (mF.up (mF.up (mF.up (mF.up mF.refl (A_110 hw) u288 rfl) (A_110 hw) u291 rfl) (A_111 hw) u294 rfl) (A_112 hw) u297 rfl) (A_113 hw) u300 rfl) (A_114 hw) u303 rfl) : mF [110999, 111999, 112999, 113999, 114999] w μ μ302) rfl) (RP.keep hIRP hw ((mF.up (mF.up (mF.up (mF.up (mF.up (mF.up mF.refl (A_110 hw) u288 rfl) (A_110 hw) u291 rfl) (A_111 hw) u294 rfl) (A_112 hw) u297 rfl) (A_113 hw) u300 rfl) (A_114 hw) u303 rfl) : mF [110999, 111999, 112999, 113999, 114999] w μ μ302) rfl ((mG.upO (mG.upO (mG.upO (mG.upO (mG.upO (mG.upO mG.refl u288 rfl) u291 rfl) u294 rfl) u297 rfl) u300 rfl) u303 rfl) : mG [] μ μ302) (fun _ h => absurd h List.not_mem_nil)) (PK.keep hIPK hw ((mF.up (mF.up (mF.up (mF.up (mF.up (mF.up mF.refl (A_110 hw) u288 rfl) (A_110 hw) u291 rfl) (A_111 hw) u294 rfl) (A_112 hw) u297 rfl) (A_113 hw) u300 rfl) (A_114 hw) u303 rfl) : mF [110999, 111999, 112999, 113999, 114999] w μ μ302) rfl) (EV.keep hIEV hw ((mF.up (mF.up (mF.up (mF.up (mF.up (mF.up mF.refl (A_110 hw) u288 rfl) (A_110 hw) u291 rfl) (A_111 hw) u294 rfl) (A_112 hw) u297 rfl) (A_113 hw) u300 rfl) (A_114 hw) u303 rfl) : mF [110999, 111999, 112999, 113999, 114999] w μ μ302) rfl) (pnT.zero vc_X3_forget_z_1) (TI.up (TI.up (TI.up (TI.up (TI.up (TI.up TI.refl u288 (Or.inl ⟨rfl, (by have h := (vc_X12_tie_v_46 h285 h286); omega)⟩)) u291 (Or.inl ⟨rfl, (by have h := (vc_X12_tie_v_47 h285 h286); omega)⟩)) u294 (Or.inr (Or.inl ⟨rfl, (by have h := (vc_X12_tie_v_48 h285 h286); omega)⟩))) u297 (Or.inr (Or.inr (Or.inl ⟨rfl, (by have h := (vc_X12_tie_v_48 h285 h286); omega)⟩)))) u300 (Or.inr (Or.inr (Or.inr (Or.inl rfl))))) u303 (Or.inr (Or.inr (Or.inr (Or.inr (Or.inl rfl)))))) vc_X12_prefixOut_14
      have h384 : 20 ≤ f_t ∧ f_t ≤ 20 := (vc_X12_walk_6 h285 ht_f_t)
      refine mr_bipush (pc := 55) (z := (-3)) dX12_tie_55 (by decide) ?_
      exact mr_iret dX12_tie_57 rfl (le_t rfl) (le_t rfl) hT mF.refl ⟨(rW (c := (-2147483648)) (d := 2147483647) (rR (x := (-3))) rfl), hIJC, hIRP, hIEP, hIHP, hIUP, hITE, hIPK, hIEV, (Or.inr ⟨(by unfold tieB; exact (vc_X12_tie_v_28 h249.2.1 h249.2.2.1 h255 h260.2.1 h260.2.2.1 h266 h268 h272.2.1 h272.2.2.1 h276 h251 h262 h274 ht_f_dm h256 h267 h277 h254 h265 h275)), Or.inr ⟨((h281.2.2.1).not (by decide) (vc_X12_tie_v_29 h281.2.1 h283 h284)), Or.inl ⟨(vc_X12_tie_v_50 h285 h384), rfl⟩⟩⟩), (Or.inr ⟨vc_X12_tie_v_51, rfl⟩), trivial⟩
    have h385 : 0 ≤ z282 ∧ z282 ≤ 19 := (vc_X12_provides_2 h283 h281.2.1 h281.1)
    refine mr_bipush (pc := 43) (z := (-2)) dX12_tie_43 (by decide) ?_
    exact mr_iret dX12_tie_45 rfl (le_t rfl) (le_t rfl) hT mF.refl ⟨(rW (c := (-2147483648)) (d := 2147483647) (rR (x := (-2))) rfl), hIJC, hIRP, hIEP, hIHP, hIUP, hITE, hIPK, hIEV, (Or.inr ⟨(by unfold tieB; exact (vc_X12_tie_v_28 h249.2.1 h249.2.2.1 h255 h260.2.1 h260.2.2.1 h266 h268 h272.2.1 h272.2.2.1 h276 h251 h262 h274 ht_f_dm h256 h267 h277 h254 h265 h275)), Or.inl ⟨(h281.2.2.1).has (vc_X12_look_u_6 h281.2.1 h283 h385), rfl⟩⟩), (Or.inr ⟨vc_X12_tie_v_54, rfl⟩), trivial⟩
  have h386 : 0 ≤ z273 ∧ z273 ≤ 0 := (vc_X12_units_9 h274 h272.2.1 h272.2.2.1 hp3 h272.1)
  have h387 : p3 < (0 : Int) ∨ (2 : Int) < p3 := (h272.2.2.1 (vc_X12_units_10 h272.2.1 h272.2.2.1 h274 hp3 h386))
  refine mr_iconst (pc := 30) (z := (-1)) dX12_tie_30 ?_
  exact mr_iret dX12_tie_31 rfl (le_t rfl) (le_t rfl) hT mF.refl ⟨(rW (c := (-2147483648)) (d := 2147483647) (rR (x := (-1))) rfl), hIJC, hIRP, hIEP, hIHP, hIUP, hITE, hIPK, hIEV, (Or.inl ⟨(by unfold tieB; exact (vc_X12_tie_v_57 h249.2.1 h249.2.2.1 h255 h260.2.1 h260.2.2.1 h266 h268 h272.2.1 h272.2.2.1 h387 h251 h262 h274 ht_f_dm h256 h267 hp3 h254 h265 h386)), rfl⟩), (Or.inr ⟨vc_X12_raise_u_49, rfl⟩), trivial⟩
