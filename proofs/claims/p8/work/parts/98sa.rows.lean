theorem vc_X10_tieBetween_v_2 {f_n n1 z461 : Int} (h0 : f_n = n1) (h1 : f_n ≤ z461) (h2 : 0 ≤ f_n ∧ f_n ≤ 20) (h3 : 0 ≤ z461 ∧ z461 ≤ 20) : (-1 : Int) < n1 := by omega
theorem vc_X10_tieBetween_v_3 {f_n n1 z461 : Int} (h0 : f_n = n1) (h1 : f_n ≤ z461) (h2 : 0 ≤ f_n ∧ f_n ≤ 20) (h3 : 0 ≤ z461 ∧ z461 ≤ 20) : f_n ≤ z461 := by omega
theorem vc_X10_tieBetween_v_4 {f_n n1 z461 : Int} (h0 : z461 < f_n) (h1 : f_n = n1) (h2 : 0 ≤ f_n ∧ f_n ≤ 20) (h3 : 0 ≤ z461 ∧ z461 ≤ 20) : 0 ≤ z461 ∧ z461 ≤ 19 := by omega
theorem vc_X10_tieBetween_v_5 {f_n n1 z461 : Int} (h0 : z461 < f_n) (h1 : f_n = n1) (h2 : 0 ≤ f_n ∧ f_n ≤ 20) (h3 : 0 ≤ z461 ∧ z461 ≤ 19) : 1 ≤ f_n ∧ f_n ≤ 20 := by omega
theorem vc_X10_tieBetween_v_6 {f_n n1 z461 : Int} (h0 : f_n = n1) (h1 : z461 < f_n) (h2 : 1 ≤ f_n ∧ f_n ≤ 20) (h3 : 0 ≤ z461 ∧ z461 ≤ 19) : z461 < n1 := by omega
theorem vc_X10_tieBetween_v_7 {N f_n n1 z461 : Int} (h0 : (21 - z461) < N + 1) (h1 : z461 < f_n) (h2 : f_n = n1) (h3 : 1 ≤ f_n ∧ f_n ≤ 20) (h4 : 0 ≤ z461 ∧ z461 ≤ 19) : (21 - (z461 + 1)) < N := by omega
theorem vc_X10_tieBetween_v_8 {f_n n1 z461 : Int} (h0 : z461 < f_n) (h1 : f_n = n1) (h2 : 1 ≤ f_n ∧ f_n ≤ 20) (h3 : 0 ≤ z461 ∧ z461 ≤ 19) : 0 ≤ z461 := by omega
theorem vc_X10_tieBetween_v_9 {n0 p1 p2 z476 : Int} (h0 : z476 < n0) (h1 : ¬ z476 = p1) (h2 : ¬ z476 = p2) (h3 : (-2147483648) ≤ p1 ∧ p1 ≤ 2147483647) (h4 : (-2147483648) ≤ p2 ∧ p2 ≤ 2147483647) (h5 : 0 ≤ z476 ∧ z476 ≤ 9) : ¬ z476 = p1 ∧ ¬ z476 = p2 := by omega
theorem vc_X10_tieBetween_v_11 {n0 p1 p2 z476 z483 : Int} (h0 : z476 < n0) (h1 : ¬ z476 = p1) (h2 : z476 = p2) (h3 : z483 < n0) (h4 : ¬ z483 = p1) (h5 : (-2147483648) ≤ p1 ∧ p1 ≤ 2147483647) (h6 : 0 ≤ p2 ∧ p2 ≤ 9) (h7 : 0 ≤ z476 ∧ z476 ≤ 9) (h8 : 0 ≤ z483 ∧ z483 ≤ 9) : ¬ ((z476 = p1 ∧ z483 = p2) ∨ (z476 = p2 ∧ z483 = p1)) := by omega
theorem vc_X10_tieBetween_v_13 {f_n n1 z461 : Int} (h0 : f_n = n1) (h1 : z461 < f_n) (h2 : 1 ≤ f_n ∧ f_n ≤ 20) (h3 : 0 ≤ z461 ∧ z461 ≤ 19) : 0 ≤ z461 ∧ z461 < f_n := by omega
theorem vc_X10_tieBetween_v_14 {n0 p1 p2 z476 z483 : Int} (h0 : z476 < n0) (h1 : ¬ z476 = p1) (h2 : z476 = p2) (h3 : z483 < n0) (h4 : z483 = p1) (h5 : 0 ≤ p1 ∧ p1 ≤ 9) (h6 : 0 ≤ p2 ∧ p2 ≤ 9) (h7 : 0 ≤ z476 ∧ z476 ≤ 9) (h8 : 0 ≤ z483 ∧ z483 ≤ 9) : (z476 = p1 ∧ z483 = p2) ∨ (z476 = p2 ∧ z483 = p1) := by omega
theorem vc_X10_tieBetween_v_17 {n0 p1 p2 z476 z490 : Int} (h0 : z476 < n0) (h1 : z476 = p1) (h2 : z490 < n0) (h3 : z490 = p2) (h4 : 0 ≤ p1 ∧ p1 ≤ 9) (h5 : 0 ≤ p2 ∧ p2 ≤ 9) (h6 : 0 ≤ z476 ∧ z476 ≤ 9) (h7 : 0 ≤ z490 ∧ z490 ≤ 9) : (z476 = p1 ∧ z490 = p2) ∨ (z476 = p2 ∧ z490 = p1) := by omega
theorem vc_X10_tieBetween_v_18 {n0 p1 p2 z476 z490 : Int} (h0 : z476 < n0) (h1 : z476 = p1) (h2 : z490 < n0) (h3 : ¬ z490 = p2) (h4 : ¬ z476 = p2) (h5 : 0 ≤ p1 ∧ p1 ≤ 9) (h6 : (-2147483648) ≤ p2 ∧ p2 ≤ 2147483647) (h7 : 0 ≤ z476 ∧ z476 ≤ 9) (h8 : 0 ≤ z490 ∧ z490 ≤ 9) : ¬ ((z476 = p1 ∧ z490 = p2) ∨ (z476 = p2 ∧ z490 = p1)) := by omega
theorem vc_X10_tieBetween_v_20 {n0 p1 p2 z476 z490 : Int} (h0 : z476 < n0) (h1 : z476 = p1) (h2 : z490 < n0) (h3 : ¬ z490 = p2) (h4 : z476 = p2) (h5 : ¬ z490 = p1) (h6 : 0 ≤ p1 ∧ p1 ≤ 9) (h7 : 0 ≤ p2 ∧ p2 ≤ 9) (h8 : 0 ≤ z476 ∧ z476 ≤ 9) (h9 : 0 ≤ z490 ∧ z490 ≤ 9) : ¬ ((z476 = p1 ∧ z490 = p2) ∨ (z476 = p2 ∧ z490 = p1)) := by omega
theorem vc_X10_tieBetween_v_21 {n0 p1 p2 z476 z490 : Int} (h0 : z476 < n0) (h1 : z476 = p1) (h2 : z490 < n0) (h3 : ¬ z490 = p2) (h4 : z476 = p2) (h5 : z490 = p1) (h6 : 0 ≤ p1 ∧ p1 ≤ 9) (h7 : 0 ≤ p2 ∧ p2 ≤ 9) (h8 : 0 ≤ z476 ∧ z476 ≤ 9) (h9 : 0 ≤ z490 ∧ z490 ≤ 9) : (z476 = p1 ∧ z490 = p2) ∨ (z476 = p2 ∧ z490 = p1) := by omega
theorem vc_X10_tieBetween_v_23  : ((0 : Int) : Int) ≤ (0 : Int) := by omega
set_option maxRecDepth 4000 in
set_option maxHeartbeats 4000000 in
theorem c_X10_tieBetween_v {l : Launch} {D : va_G} {c : Nat → ClassId} {H0 : Heap} {sa : Nat × Nat × (Nat → Int32)} {w : mW} {μ : mM} (hw : mWF w) (hT : mT w μ) {p1 : Int} (hp1 : (-2147483648) ≤ p1 ∧ p1 ≤ 2147483647) {p2 : Int} (hp2 : (-2147483648) ≤ p2 ∧ p2 ≤ 2147483647) {f_n : Int} (q_f_n : μ 6 16 = f_n) : sC (gG l D c H0 sa) mX10_tieBetween 1 0 0 [.ref 6, iv p1, iv p2] (mk w μ) (qP w μ (fun z => ((-1) ≤ z ∧ z ≤ 19) ∧ (z < w.2.2.2 1) ∧ (fndQ (tc μ 0) (tc μ 1) f_n p1 p2 (-1) z) ∧ True)) := by
  refine sC.of rfl (by decide) (le_t rfl) ?_
  have ht_f_n : (f_n = w.2.2.2 1 ∧ 0 ≤ f_n ∧ f_n ≤ 20) := by rw [← q_f_n]; exact hT 6 6 (A_6 hw) 16
  refine mr_lvE (lv' := [(0, .ref 6), (1, iv p1), (2, iv p2)]) rfl ?_
  refine mr_iconst (pc := 0) (z := 0) dX10_tieBetween_0 ?_
  refine mr_istore_n (pc := 1) (lv' := [(3, iv 0), (0, .ref 6), (1, iv p1), (2, iv p2)]) dX10_tieBetween_1 rfl (by decide) rfl ?_
  have L462 : ∀ (nL462 : Nat) (z461 : Int), True → (0 ≤ z461 ∧ z461 ≤ 20) → noneQ (tc μ 0) (tc μ 1) z461 p1 p2 → (21 - z461) < (nL462 : Int) → sV (gG l D c H0 sa) mX10_tieBetween (sRm 1 0 0) (sZ (gG l D c H0 sa) 0 0 (qP w μ (fun z => ((-1) ≤ z ∧ z ≤ 19) ∧ (z < w.2.2.2 1) ∧ (fndQ (tc μ 0) (tc μ 1) f_n p1 p2 (-1) z) ∧ True))) 2 [(0, .ref 6), (1, iv p1), (2, iv p2), (3, iv z461)] [] (mk w μ) 0 0 := by
    intro nL462
    induction nL462 with
    | zero => intro z461 _ h463 R467 h468; exact ((vc_X12_feed_2 h468 h463)).elim
    | succ nL462 ih469 =>
      intro z461 _ h463 R467 h468
      refine mr_iload_n (pc := 2) (z := z461) dX10_tieBetween_2 rfl rfl ?_
      refine sv_aload_n (pc := 3) dX10_tieBetween_3 rfl rfl ?_
      refine gk_X10_16 (pc := 4) dX10_tieBetween_4 wF_X10_72 (A_6 hw) q_f_n ?_
      refine mr_icmp_ge (pc := 7) (tgt := 62) dX10_tieBetween_7 (by decide) (r32 h463 rfl) (r32 ht_f_n.2 rfl) (fun h470 => ?_) (fun h470 => ?_)
      · refine mr_iconst (pc := 62) (z := (-1)) dX10_tieBetween_62 ?_
        exact mr_iretP dX10_tieBetween_63 rfl (le_t rfl) (le_t rfl) ⟨(rW (c := (-1)) (d := 19) (rR (x := (-1))) rfl), (vc_X10_tieBetween_v_2 ht_f_n.1 h470 ht_f_n.2 h463), (fndQ.miss R467 (vc_X10_tieBetween_v_3 ht_f_n.1 h470 ht_f_n.2 h463)), trivial⟩
      have h471 : 0 ≤ z461 ∧ z461 ≤ 19 := (vc_X10_tieBetween_v_4 h470 ht_f_n.1 ht_f_n.2 h463)
      have h472 : 1 ≤ f_n ∧ f_n ≤ 20 := (vc_X10_tieBetween_v_5 h470 ht_f_n.1 ht_f_n.2 h471)
      refine sv_aload_n (pc := 10) dX10_tieBetween_10 rfl rfl ?_
      refine gf_X10_4 (pc := 11) dX10_tieBetween_11 wF_X10_29 (A_6 hw) hT ?_
      refine mr_iload_n (pc := 14) (z := z461) dX10_tieBetween_14 rfl rfl ?_
      refine la_11 (pc := 15) dX10_tieBetween_15 (A_11 hw) hT (rIx (n := 20) h471 rfl) (vc_X10_tieBetween_v_6 ht_f_n.1 h470 h472 h471) fun b473 q474 A475 => ?_
      refine mr_astore (pc := 16) (lv' := [(4, .ref b473), (0, .ref 6), (1, iv p1), (2, iv p2), (3, iv z461)]) dX10_tieBetween_16 (by decide) rfl ?_
      refine sv_aload (pc := 18) dX10_tieBetween_18 rfl ?_
      refine gf_X9_0 (pc := 20) dX10_tieBetween_20 wF_X10_78 A475 hT fun z476 q477 h478 => ?_
      have h479 : 0 ≤ z476 ∧ z476 ≤ 9 := ⟨h478.1, h478.2.1⟩
      refine mr_iload_n (pc := 23) (z := p1) dX10_tieBetween_23 rfl rfl ?_
      refine mr_icmp_ne (pc := 24) (tgt := 36) dX10_tieBetween_24 (by decide) (r32 h479 rfl) hp1 (fun h480 => ?_) (fun h480 => ?_)
      · refine sv_aload (pc := 36) dX10_tieBetween_36 rfl ?_
        refine gk_X9_0 (pc := 38) dX10_tieBetween_38 wF_X10_78 A475 q477 ?_
        refine mr_iload_n (pc := 41) (z := p2) dX10_tieBetween_41 rfl rfl ?_
        refine mr_icmp_ne (pc := 42) (tgt := 56) dX10_tieBetween_42 (by decide) (r32 h479 rfl) hp2 (fun h481 => ?_) (fun h481 => ?_)
        · refine mr_iinc (pc := 56) (lv' := [(3, iv (z461 + 1)), (4, .ref b473), (0, .ref 6), (1, iv p1), (2, iv p2)]) dX10_tieBetween_56 rfl (by decide) rfl ?_
          refine sv_goto (pc := 59) (tgt := 2) dX10_tieBetween_59 (by decide) ?_
          refine mr_lvS (lv' := [(0, .ref 6), (1, iv p1), (2, iv p2), (3, iv (z461 + 1))]) (List.forall_mem_cons.mpr ⟨rfl, List.forall_mem_cons.mpr ⟨rfl, List.forall_mem_cons.mpr ⟨rfl, List.forall_mem_cons.mpr ⟨rfl, fun _ h => absurd h List.not_mem_nil⟩⟩⟩⟩) ?_
          exact ih469 (z461 + 1) trivial (rW (c := 0) (d := 20) (rAdd (e := 1) (f := 20) h471 (rR (x := 1)) rfl) rfl) (noneQ.succ1 R467 (vc_X10_tieBetween_v_8 h470 ht_f_n.1 h472 h471) (tcOf q474 q477) (vc_X10_tieBetween_v_9 h478.2.2 h480 h481 hp1 hp2 h479)) (vc_X10_tieBetween_v_7 (nS h468) h470 ht_f_n.1 h472 h471)
        have h482 : 0 ≤ p2 ∧ p2 ≤ 9 := (vc_X10_tieBetween_7 h481 h478.2.2 h480 hp1 hp2 h479)
        refine sv_aload (pc := 45) dX10_tieBetween_45 rfl ?_
        refine gf_X9_1 (pc := 47) dX10_tieBetween_47 wF_X10_81 A475 hT fun z483 q484 h485 => ?_
        have h486 : 0 ≤ z483 ∧ z483 ≤ 9 := ⟨h485.1, h485.2.1⟩
        refine mr_iload_n (pc := 50) (z := p1) dX10_tieBetween_50 rfl rfl ?_
        refine mr_icmp_ne (pc := 51) (tgt := 56) dX10_tieBetween_51 (by decide) (r32 h486 rfl) hp1 (fun h487 => ?_) (fun h487 => ?_)
        · refine mr_iinc (pc := 56) (lv' := [(3, iv (z461 + 1)), (4, .ref b473), (0, .ref 6), (1, iv p1), (2, iv p2)]) dX10_tieBetween_56 rfl (by decide) rfl ?_
          refine sv_goto (pc := 59) (tgt := 2) dX10_tieBetween_59 (by decide) ?_
          refine mr_lvS (lv' := [(0, .ref 6), (1, iv p1), (2, iv p2), (3, iv (z461 + 1))]) (List.forall_mem_cons.mpr ⟨rfl, List.forall_mem_cons.mpr ⟨rfl, List.forall_mem_cons.mpr ⟨rfl, List.forall_mem_cons.mpr ⟨rfl, fun _ h => absurd h List.not_mem_nil⟩⟩⟩⟩) ?_
          exact ih469 (z461 + 1) trivial (rW (c := 0) (d := 20) (rAdd (e := 1) (f := 20) h471 (rR (x := 1)) rfl) rfl) (noneQ.succ R467 (vc_X10_tieBetween_v_8 h470 ht_f_n.1 h472 h471) (tcOf q474 q477) (tcOf q474 q484) (vc_X10_tieBetween_v_11 h478.2.2 h480 h481 h485.2.2 h487 hp1 h482 h479 h486)) (vc_X10_tieBetween_v_7 (nS h468) h470 ht_f_n.1 h472 h471)
        have h488 : 0 ≤ p1 ∧ p1 ≤ 9 := (vc_X10_tieBetween_8 h487 h480 h485.2.2 hp1 h479 h486)
        refine mr_iload_n (pc := 54) (z := z461) dX10_tieBetween_54 rfl rfl ?_
        exact mr_iretP dX10_tieBetween_55 rfl (le_t rfl) (le_t rfl) ⟨(rW (c := (-1)) (d := 19) h471 rfl), (vc_X10_tieBetween_v_6 ht_f_n.1 h470 h472 h471), (fndQ.hit (vc_X10_tieBetween_v_13 ht_f_n.1 h470 h472 h471) (tcOf q474 q477) (tcOf q474 q484) (vc_X10_tieBetween_v_14 h478.2.2 h480 h481 h485.2.2 h487 h488 h482 h479 h486) R467), trivial⟩
      have h489 : 0 ≤ p1 ∧ p1 ≤ 9 := (vc_X10_tieBetween_9 h480 h478.2.2 hp1 h479)
      refine sv_aload (pc := 27) dX10_tieBetween_27 rfl ?_
      refine gf_X9_1 (pc := 29) dX10_tieBetween_29 wF_X10_81 A475 hT fun z490 q491 h492 => ?_
      have h493 : 0 ≤ z490 ∧ z490 ≤ 9 := ⟨h492.1, h492.2.1⟩
      refine mr_iload_n (pc := 32) (z := p2) dX10_tieBetween_32 rfl rfl ?_
      refine mr_icmp_eq (pc := 33) (tgt := 54) dX10_tieBetween_33 (by decide) (r32 h493 rfl) hp2 (fun h494 => ?_) (fun h494 => ?_)
      · have h495 : 0 ≤ p2 ∧ p2 ≤ 9 := (vc_X10_tieBetween_9 h494 h492.2.2 hp2 h493)
        refine mr_iload_n (pc := 54) (z := z461) dX10_tieBetween_54 rfl rfl ?_
        exact mr_iretP dX10_tieBetween_55 rfl (le_t rfl) (le_t rfl) ⟨(rW (c := (-1)) (d := 19) h471 rfl), (vc_X10_tieBetween_v_6 ht_f_n.1 h470 h472 h471), (fndQ.hit (vc_X10_tieBetween_v_13 ht_f_n.1 h470 h472 h471) (tcOf q474 q477) (tcOf q474 q491) (vc_X10_tieBetween_v_17 h478.2.2 h480 h492.2.2 h494 h489 h495 h479 h493) R467), trivial⟩
      refine sv_aload (pc := 36) dX10_tieBetween_36 rfl ?_
      refine gk_X9_0 (pc := 38) dX10_tieBetween_38 wF_X10_78 A475 q477 ?_
      refine mr_iload_n (pc := 41) (z := p2) dX10_tieBetween_41 rfl rfl ?_
      refine mr_icmp_ne (pc := 42) (tgt := 56) dX10_tieBetween_42 (by decide) (r32 h479 rfl) hp2 (fun h496 => ?_) (fun h496 => ?_)
      · refine mr_iinc (pc := 56) (lv' := [(3, iv (z461 + 1)), (4, .ref b473), (0, .ref 6), (1, iv p1), (2, iv p2)]) dX10_tieBetween_56 rfl (by decide) rfl ?_
        refine sv_goto (pc := 59) (tgt := 2) dX10_tieBetween_59 (by decide) ?_
        refine mr_lvS (lv' := [(0, .ref 6), (1, iv p1), (2, iv p2), (3, iv (z461 + 1))]) (List.forall_mem_cons.mpr ⟨rfl, List.forall_mem_cons.mpr ⟨rfl, List.forall_mem_cons.mpr ⟨rfl, List.forall_mem_cons.mpr ⟨rfl, fun _ h => absurd h List.not_mem_nil⟩⟩⟩⟩) ?_
        exact ih469 (z461 + 1) trivial (rW (c := 0) (d := 20) (rAdd (e := 1) (f := 20) h471 (rR (x := 1)) rfl) rfl) (noneQ.succ R467 (vc_X10_tieBetween_v_8 h470 ht_f_n.1 h472 h471) (tcOf q474 q477) (tcOf q474 q491) (vc_X10_tieBetween_v_18 h478.2.2 h480 h492.2.2 h494 h496 h489 hp2 h479 h493)) (vc_X10_tieBetween_v_7 (nS h468) h470 ht_f_n.1 h472 h471)
      have h497 : 0 ≤ p2 ∧ p2 ≤ 9 := (vc_X10_tieBetween_11 h496 h478.2.2 h480 h494 h489 hp2 h479 h493)
      refine sv_aload (pc := 45) dX10_tieBetween_45 rfl ?_
      refine gk_X9_1 (pc := 47) dX10_tieBetween_47 wF_X10_81 A475 q491 ?_
      refine mr_iload_n (pc := 50) (z := p1) dX10_tieBetween_50 rfl rfl ?_
      refine mr_icmp_ne (pc := 51) (tgt := 56) dX10_tieBetween_51 (by decide) (r32 h493 rfl) (r32 h489 rfl) (fun h498 => ?_) (fun h498 => ?_)
      · refine mr_iinc (pc := 56) (lv' := [(3, iv (z461 + 1)), (4, .ref b473), (0, .ref 6), (1, iv p1), (2, iv p2)]) dX10_tieBetween_56 rfl (by decide) rfl ?_
        refine sv_goto (pc := 59) (tgt := 2) dX10_tieBetween_59 (by decide) ?_
        refine mr_lvS (lv' := [(0, .ref 6), (1, iv p1), (2, iv p2), (3, iv (z461 + 1))]) (List.forall_mem_cons.mpr ⟨rfl, List.forall_mem_cons.mpr ⟨rfl, List.forall_mem_cons.mpr ⟨rfl, List.forall_mem_cons.mpr ⟨rfl, fun _ h => absurd h List.not_mem_nil⟩⟩⟩⟩) ?_
        exact ih469 (z461 + 1) trivial (rW (c := 0) (d := 20) (rAdd (e := 1) (f := 20) h471 (rR (x := 1)) rfl) rfl) (noneQ.succ R467 (vc_X10_tieBetween_v_8 h470 ht_f_n.1 h472 h471) (tcOf q474 q477) (tcOf q474 q491) (vc_X10_tieBetween_v_20 h478.2.2 h480 h492.2.2 h494 h496 h498 h489 h497 h479 h493)) (vc_X10_tieBetween_v_7 (nS h468) h470 ht_f_n.1 h472 h471)
      refine mr_iload_n (pc := 54) (z := z461) dX10_tieBetween_54 rfl rfl ?_
      exact mr_iretP dX10_tieBetween_55 rfl (le_t rfl) (le_t rfl) ⟨(rW (c := (-1)) (d := 19) h471 rfl), (vc_X10_tieBetween_v_6 ht_f_n.1 h470 h472 h471), (fndQ.hit (vc_X10_tieBetween_v_13 ht_f_n.1 h470 h472 h471) (tcOf q474 q477) (tcOf q474 q491) (vc_X10_tieBetween_v_21 h478.2.2 h480 h492.2.2 h494 h496 h498 h489 h497 h479 h493) R467), trivial⟩
  refine mr_lvS (lv' := [(0, .ref 6), (1, iv p1), (2, iv p2), (3, iv 0)]) (List.forall_mem_cons.mpr ⟨rfl, List.forall_mem_cons.mpr ⟨rfl, List.forall_mem_cons.mpr ⟨rfl, List.forall_mem_cons.mpr ⟨rfl, fun _ h => absurd h List.not_mem_nil⟩⟩⟩⟩) ?_
  exact L462 22 0 trivial (rW (c := 0) (d := 20) (rR (x := 0)) rfl) (noneQ.zero vc_X10_tieBetween_v_23) vc_X12_feed_15
theorem vc_X12_tieOf_v_3 {f_n z409 : Int} (h0 : f_n ≤ z409) (h1 : 0 ≤ f_n ∧ f_n ≤ 20) (h2 : 0 ≤ z409 ∧ z409 ≤ 20) : f_n ≤ z409 := by omega
theorem vc_X12_tieOf_v_7 {f_n z409 : Int} (h0 : z409 < f_n) (h1 : 1 ≤ f_n ∧ f_n ≤ 20) (h2 : 0 ≤ z409 ∧ z409 ≤ 19) : 0 ≤ z409 := by omega
theorem vc_X12_tieOf_v_8 {f_n z409 : Int} (h0 : z409 < f_n) (h1 : 1 ≤ f_n ∧ f_n ≤ 20) (h2 : 0 ≤ z409 ∧ z409 ≤ 19) : (2 * z409) = 2 * z409 + ((0 : Nat) : Int) := by omega
theorem vc_X12_tieOf_v_9 {p1 p2 z421 : Int} (h0 : ¬ z421 = p1) (h1 : ¬ z421 = p2) (h2 : (-2147483648) ≤ p1 ∧ p1 ≤ 2147483647) (h3 : (-2147483648) ≤ p2 ∧ p2 ≤ 2147483647) (h4 : 0 ≤ z421 ∧ z421 ≤ 9) : ¬ z421 = p1 ∧ ¬ z421 = p2 := by omega
theorem vc_X12_tieOf_v_11 {f_n z409 : Int} (h0 : z409 < f_n) (h1 : 1 ≤ f_n ∧ f_n ≤ 20) (h2 : 0 ≤ z409 ∧ z409 ≤ 19) : ((2 * z409) + 1) = 2 * z409 + ((1 : Nat) : Int) := by omega
theorem vc_X12_tieOf_v_12 {p1 p2 z421 z427 : Int} (h0 : ¬ z421 = p1) (h1 : z421 = p2) (h2 : ¬ z427 = p1) (h3 : (-2147483648) ≤ p1 ∧ p1 ≤ 2147483647) (h4 : 0 ≤ p2 ∧ p2 ≤ 9) (h5 : 0 ≤ z421 ∧ z421 ≤ 9) (h6 : 0 ≤ z427 ∧ z427 ≤ 9) : ¬ ((z421 = p1 ∧ z427 = p2) ∨ (z421 = p2 ∧ z427 = p1)) := by omega
theorem vc_X12_tieOf_v_15 {f_n z409 : Int} (h0 : z409 < f_n) (h1 : 1 ≤ f_n ∧ f_n ≤ 20) (h2 : 0 ≤ z409 ∧ z409 ≤ 19) : 0 ≤ z409 ∧ z409 < f_n := by omega
theorem vc_X12_tieOf_v_16 {p1 p2 z421 z427 : Int} (h0 : ¬ z421 = p1) (h1 : z421 = p2) (h2 : z427 = p1) (h3 : 0 ≤ p1 ∧ p1 ≤ 9) (h4 : 0 ≤ p2 ∧ p2 ≤ 9) (h5 : 0 ≤ z421 ∧ z421 ≤ 9) (h6 : 0 ≤ z427 ∧ z427 ≤ 9) : (z421 = p1 ∧ z427 = p2) ∨ (z421 = p2 ∧ z427 = p1) := by omega
theorem vc_X12_tieOf_v_19 {p1 p2 z421 z433 : Int} (h0 : z421 = p1) (h1 : z433 = p2) (h2 : 0 ≤ p1 ∧ p1 ≤ 9) (h3 : 0 ≤ p2 ∧ p2 ≤ 9) (h4 : 0 ≤ z421 ∧ z421 ≤ 9) (h5 : 0 ≤ z433 ∧ z433 ≤ 9) : (z421 = p1 ∧ z433 = p2) ∨ (z421 = p2 ∧ z433 = p1) := by omega
theorem vc_X12_tieOf_v_20 {p1 p2 z421 z433 : Int} (h0 : z421 = p1) (h1 : ¬ z433 = p2) (h2 : ¬ z421 = p2) (h3 : 0 ≤ p1 ∧ p1 ≤ 9) (h4 : (-2147483648) ≤ p2 ∧ p2 ≤ 2147483647) (h5 : 0 ≤ z421 ∧ z421 ≤ 9) (h6 : 0 ≤ z433 ∧ z433 ≤ 9) : ¬ ((z421 = p1 ∧ z433 = p2) ∨ (z421 = p2 ∧ z433 = p1)) := by omega
theorem vc_X12_tieOf_v_22 {p1 p2 z421 z433 : Int} (h0 : z421 = p1) (h1 : ¬ z433 = p2) (h2 : z421 = p2) (h3 : ¬ z433 = p1) (h4 : 0 ≤ p1 ∧ p1 ≤ 9) (h5 : 0 ≤ p2 ∧ p2 ≤ 9) (h6 : 0 ≤ z421 ∧ z421 ≤ 9) (h7 : 0 ≤ z433 ∧ z433 ≤ 9) : ¬ ((z421 = p1 ∧ z433 = p2) ∨ (z421 = p2 ∧ z433 = p1)) := by omega
theorem vc_X12_tieOf_v_23 {p1 p2 z421 z433 : Int} (h0 : z421 = p1) (h1 : ¬ z433 = p2) (h2 : z421 = p2) (h3 : z433 = p1) (h4 : 0 ≤ p1 ∧ p1 ≤ 9) (h5 : 0 ≤ p2 ∧ p2 ≤ 9) (h6 : 0 ≤ z421 ∧ z421 ≤ 9) (h7 : 0 ≤ z433 ∧ z433 ≤ 9) : (z421 = p1 ∧ z433 = p2) ∨ (z421 = p2 ∧ z433 = p1) := by omega
set_option maxRecDepth 4000 in
set_option maxHeartbeats 4000000 in
theorem c_X12_tieOf_v {l : Launch} {D : va_G} {c : Nat → ClassId} {H0 : Heap} {sa : Nat × Nat × (Nat → Int32)} {w : mW} {μ : mM} (hw : mWF w) (hT : mT w μ) {p1 : Int} (hp1 : (-2147483648) ≤ p1 ∧ p1 ≤ 2147483647) {p2 : Int} (hp2 : (-2147483648) ≤ p2 ∧ p2 ≤ 2147483647) {f_n : Int} (q_f_n : μ 106 6 = f_n) : sC (gG l D c H0 sa) mX12_tieOf 1 0 0 [.ref 106, iv p1, iv p2] (mk w μ) (qP w μ (fun z => ((-99999999) ≤ z ∧ z ≤ 19) ∧ (z = -99999999 ∨ (0 ≤ z ∧ z ≤ 19)) ∧ (fndQ (tr μ 0) (tr μ 1) f_n p1 p2 (-99999999) z) ∧ True)) := by
  refine sC.of rfl (by decide) (le_t rfl) ?_
  have ht_f_n : (0 ≤ f_n ∧ f_n ≤ 20) := by rw [← q_f_n]; exact hT 106 106 (A_106 hw) 6
  refine mr_lvE (lv' := [(0, .ref 106), (1, iv p1), (2, iv p2)]) rfl ?_
  refine mr_iconst (pc := 0) (z := 0) dX12_tieOf_0 ?_
  refine mr_istore_n (pc := 1) (lv' := [(3, iv 0), (0, .ref 106), (1, iv p1), (2, iv p2)]) dX12_tieOf_1 rfl (by decide) rfl ?_
  have L410 : ∀ (nL410 : Nat) (z409 : Int), True → (0 ≤ z409 ∧ z409 ≤ 20) → noneQ (tr μ 0) (tr μ 1) z409 p1 p2 → (21 - z409) < (nL410 : Int) → sV (gG l D c H0 sa) mX12_tieOf (sRm 1 0 0) (sZ (gG l D c H0 sa) 0 0 (qP w μ (fun z => ((-99999999) ≤ z ∧ z ≤ 19) ∧ (z = -99999999 ∨ (0 ≤ z ∧ z ≤ 19)) ∧ (fndQ (tr μ 0) (tr μ 1) f_n p1 p2 (-99999999) z) ∧ True))) 2 [(0, .ref 106), (1, iv p1), (2, iv p2), (3, iv z409)] [] (mk w μ) 0 0 := by
    intro nL410
    induction nL410 with
    | zero => intro z409 _ h411 R415 h416; exact ((vc_X12_feed_2 h416 h411)).elim
    | succ nL410 ih417 =>
      intro z409 _ h411 R415 h416
      refine mr_iload_n (pc := 2) (z := z409) dX12_tieOf_2 rfl rfl ?_
      refine sv_aload_n (pc := 3) dX12_tieOf_3 rfl rfl ?_
      refine gk_X12_6 (pc := 4) dX12_tieOf_4 wF_X12_37 (A_106 hw) q_f_n ?_
      refine mr_icmp_ge (pc := 7) (tgt := 70) dX12_tieOf_7 (by decide) (r32 h411 rfl) (r32 ht_f_n rfl) (fun h418 => ?_) (fun h418 => ?_)
      · refine mr_ldc (pc := 70) (z := (-99999999)) dX12_tieOf_70 wG_X12_29 (by decide) ?_
        exact mr_iretP dX12_tieOf_72 rfl (le_t rfl) (le_t rfl) ⟨(rW (c := (-99999999)) (d := 19) (rR (x := (-99999999))) rfl), vc_X12_tieOf_2, (fndQ.miss R415 (vc_X12_tieOf_v_3 h418 ht_f_n h411)), trivial⟩
      have h419 : 0 ≤ z409 ∧ z409 ≤ 19 := (vc_X3_putAttributes_10 h418 ht_f_n h411)
      have h420 : 1 ≤ f_n ∧ f_n ≤ 20 := (vc_X3_putAttributes_11 h418 ht_f_n h419)
      refine sv_aload_n (pc := 10) dX12_tieOf_10 rfl rfl ?_
      refine gf_X12_7 (pc := 11) dX12_tieOf_11 wF_X12_40 (A_106 hw) hT ?_
      refine mr_iconst (pc := 14) (z := 2) dX12_tieOf_14 ?_
      refine mr_iload_n (pc := 15) (z := z409) dX12_tieOf_15 rfl rfl ?_
      refine mr_imul (pc := 16) (x := 2) (y := z409) dX12_tieOf_16 ?_
      refine la_110 (pc := 17) dX12_tieOf_17 (A_110 hw) hT (rIx (n := 40) (rMulL (n := 2) (e := 0) (f := 38) h419 rfl) rfl) fun z421 q422 h423 => ?_
      refine mr_iload_n (pc := 18) (z := p1) dX12_tieOf_18 rfl rfl ?_
      refine mr_icmp_ne (pc := 19) (tgt := 36) dX12_tieOf_19 (by decide) (r32 h423 rfl) hp1 (fun h424 => ?_) (fun h424 => ?_)
      · refine sv_aload_n (pc := 36) dX12_tieOf_36 rfl rfl ?_
        refine gf_X12_7 (pc := 37) dX12_tieOf_37 wF_X12_40 (A_106 hw) hT ?_
        refine mr_iconst (pc := 40) (z := 2) dX12_tieOf_40 ?_
        refine mr_iload_n (pc := 41) (z := z409) dX12_tieOf_41 rfl rfl ?_
        refine mr_imul (pc := 42) (x := 2) (y := z409) dX12_tieOf_42 ?_
        refine lk_110 (pc := 43) dX12_tieOf_43 (A_110 hw) (rIx (n := 40) (rMulL (n := 2) (e := 0) (f := 38) h419 rfl) rfl) q422 ?_
        refine mr_iload_n (pc := 44) (z := p2) dX12_tieOf_44 rfl rfl ?_
        refine mr_icmp_ne (pc := 45) (tgt := 64) dX12_tieOf_45 (by decide) (r32 h423 rfl) hp2 (fun h425 => ?_) (fun h425 => ?_)
        · refine mr_iinc (pc := 64) (lv' := [(3, iv (z409 + 1)), (0, .ref 106), (1, iv p1), (2, iv p2)]) dX12_tieOf_64 rfl (by decide) rfl ?_
          refine sv_goto (pc := 67) (tgt := 2) dX12_tieOf_67 (by decide) ?_
          refine mr_lvS (lv' := [(0, .ref 106), (1, iv p1), (2, iv p2), (3, iv (z409 + 1))]) (List.forall_mem_cons.mpr ⟨rfl, List.forall_mem_cons.mpr ⟨rfl, List.forall_mem_cons.mpr ⟨rfl, List.forall_mem_cons.mpr ⟨rfl, fun _ h => absurd h List.not_mem_nil⟩⟩⟩⟩) ?_
          exact ih417 (z409 + 1) trivial (rW (c := 0) (d := 20) (rAdd (e := 1) (f := 20) h419 (rR (x := 1)) rfl) rfl) (noneQ.succ1 R415 (vc_X12_tieOf_v_7 h418 h420 h419) (trOf 0 q422 (vc_X12_tieOf_v_8 h418 h420 h419) (vc_X12_tieOf_v_7 h418 h420 h419)) (vc_X12_tieOf_v_9 h424 h425 hp1 hp2 h423)) (vc_X3_putAttributes_12 (nS h416) h418 h420 h419)
        have h426 : 0 ≤ p2 ∧ p2 ≤ 9 := (vc_X12_tieOf_6 h425 h424 hp1 hp2 h423)
        refine sv_aload_n (pc := 48) dX12_tieOf_48 rfl rfl ?_
        refine gf_X12_7 (pc := 49) dX12_tieOf_49 wF_X12_40 (A_106 hw) hT ?_
        refine mr_iconst (pc := 52) (z := 2) dX12_tieOf_52 ?_
        refine mr_iload_n (pc := 53) (z := z409) dX12_tieOf_53 rfl rfl ?_
        refine mr_imul (pc := 54) (x := 2) (y := z409) dX12_tieOf_54 ?_
        refine mr_iconst (pc := 55) (z := 1) dX12_tieOf_55 ?_
        refine mr_iadd (pc := 56) (x := (2 * z409)) (y := 1) dX12_tieOf_56 ?_
        refine la_110 (pc := 57) dX12_tieOf_57 (A_110 hw) hT (rIx (n := 40) (rAdd (e := 1) (f := 39) (rMulL (n := 2) (e := 0) (f := 38) h419 rfl) (rR (x := 1)) rfl) rfl) fun z427 q428 h429 => ?_
        refine mr_iload_n (pc := 58) (z := p1) dX12_tieOf_58 rfl rfl ?_
        refine mr_icmp_ne (pc := 59) (tgt := 64) dX12_tieOf_59 (by decide) (r32 h429 rfl) hp1 (fun h430 => ?_) (fun h430 => ?_)
        · refine mr_iinc (pc := 64) (lv' := [(3, iv (z409 + 1)), (0, .ref 106), (1, iv p1), (2, iv p2)]) dX12_tieOf_64 rfl (by decide) rfl ?_
          refine sv_goto (pc := 67) (tgt := 2) dX12_tieOf_67 (by decide) ?_
          refine mr_lvS (lv' := [(0, .ref 106), (1, iv p1), (2, iv p2), (3, iv (z409 + 1))]) (List.forall_mem_cons.mpr ⟨rfl, List.forall_mem_cons.mpr ⟨rfl, List.forall_mem_cons.mpr ⟨rfl, List.forall_mem_cons.mpr ⟨rfl, fun _ h => absurd h List.not_mem_nil⟩⟩⟩⟩) ?_
          exact ih417 (z409 + 1) trivial (rW (c := 0) (d := 20) (rAdd (e := 1) (f := 20) h419 (rR (x := 1)) rfl) rfl) (noneQ.succ R415 (vc_X12_tieOf_v_7 h418 h420 h419) (trOf 0 q422 (vc_X12_tieOf_v_8 h418 h420 h419) (vc_X12_tieOf_v_7 h418 h420 h419)) (trOf 1 q428 (vc_X12_tieOf_v_11 h418 h420 h419) (vc_X12_tieOf_v_7 h418 h420 h419)) (vc_X12_tieOf_v_12 h424 h425 h430 hp1 h426 h423 h429)) (vc_X3_putAttributes_12 (nS h416) h418 h420 h419)
        have h431 : 0 ≤ p1 ∧ p1 ≤ 9 := (vc_X12_tieOf_7 h430 h424 hp1 h423 h429)
        refine mr_iload_n (pc := 62) (z := z409) dX12_tieOf_62 rfl rfl ?_
        exact mr_iretP dX12_tieOf_63 rfl (le_t rfl) (le_t rfl) ⟨(rW (c := (-99999999)) (d := 19) h419 rfl), (vc_X12_tieOf_end_8 h418 h420 h419), (fndQ.hit (vc_X12_tieOf_v_15 h418 h420 h419) (trOf 0 q422 (vc_X12_tieOf_v_8 h418 h420 h419) (vc_X12_tieOf_v_7 h418 h420 h419)) (trOf 1 q428 (vc_X12_tieOf_v_11 h418 h420 h419) (vc_X12_tieOf_v_7 h418 h420 h419)) (vc_X12_tieOf_v_16 h424 h425 h430 h431 h426 h423 h429) R415), trivial⟩
      have h432 : 0 ≤ p1 ∧ p1 ≤ 9 := (vc_X12_tieOf_9 h424 hp1 h423)
      refine sv_aload_n (pc := 22) dX12_tieOf_22 rfl rfl ?_
      refine gf_X12_7 (pc := 23) dX12_tieOf_23 wF_X12_40 (A_106 hw) hT ?_
      refine mr_iconst (pc := 26) (z := 2) dX12_tieOf_26 ?_
      refine mr_iload_n (pc := 27) (z := z409) dX12_tieOf_27 rfl rfl ?_
      refine mr_imul (pc := 28) (x := 2) (y := z409) dX12_tieOf_28 ?_
      refine mr_iconst (pc := 29) (z := 1) dX12_tieOf_29 ?_
      refine mr_iadd (pc := 30) (x := (2 * z409)) (y := 1) dX12_tieOf_30 ?_
      refine la_110 (pc := 31) dX12_tieOf_31 (A_110 hw) hT (rIx (n := 40) (rAdd (e := 1) (f := 39) (rMulL (n := 2) (e := 0) (f := 38) h419 rfl) (rR (x := 1)) rfl) rfl) fun z433 q434 h435 => ?_
      refine mr_iload_n (pc := 32) (z := p2) dX12_tieOf_32 rfl rfl ?_
      refine mr_icmp_eq (pc := 33) (tgt := 62) dX12_tieOf_33 (by decide) (r32 h435 rfl) hp2 (fun h436 => ?_) (fun h436 => ?_)
      · have h437 : 0 ≤ p2 ∧ p2 ≤ 9 := (vc_X12_tieOf_9 h436 hp2 h435)
        refine mr_iload_n (pc := 62) (z := z409) dX12_tieOf_62 rfl rfl ?_
        exact mr_iretP dX12_tieOf_63 rfl (le_t rfl) (le_t rfl) ⟨(rW (c := (-99999999)) (d := 19) h419 rfl), (vc_X12_tieOf_end_8 h418 h420 h419), (fndQ.hit (vc_X12_tieOf_v_15 h418 h420 h419) (trOf 0 q422 (vc_X12_tieOf_v_8 h418 h420 h419) (vc_X12_tieOf_v_7 h418 h420 h419)) (trOf 1 q434 (vc_X12_tieOf_v_11 h418 h420 h419) (vc_X12_tieOf_v_7 h418 h420 h419)) (vc_X12_tieOf_v_19 h424 h436 h432 h437 h423 h435) R415), trivial⟩
      refine sv_aload_n (pc := 36) dX12_tieOf_36 rfl rfl ?_
      refine gf_X12_7 (pc := 37) dX12_tieOf_37 wF_X12_40 (A_106 hw) hT ?_
      refine mr_iconst (pc := 40) (z := 2) dX12_tieOf_40 ?_
      refine mr_iload_n (pc := 41) (z := z409) dX12_tieOf_41 rfl rfl ?_
      refine mr_imul (pc := 42) (x := 2) (y := z409) dX12_tieOf_42 ?_
      refine lk_110 (pc := 43) dX12_tieOf_43 (A_110 hw) (rIx (n := 40) (rMulL (n := 2) (e := 0) (f := 38) h419 rfl) rfl) q422 ?_
      refine mr_iload_n (pc := 44) (z := p2) dX12_tieOf_44 rfl rfl ?_
      refine mr_icmp_ne (pc := 45) (tgt := 64) dX12_tieOf_45 (by decide) (r32 h423 rfl) hp2 (fun h438 => ?_) (fun h438 => ?_)
      · refine mr_iinc (pc := 64) (lv' := [(3, iv (z409 + 1)), (0, .ref 106), (1, iv p1), (2, iv p2)]) dX12_tieOf_64 rfl (by decide) rfl ?_
        refine sv_goto (pc := 67) (tgt := 2) dX12_tieOf_67 (by decide) ?_
        refine mr_lvS (lv' := [(0, .ref 106), (1, iv p1), (2, iv p2), (3, iv (z409 + 1))]) (List.forall_mem_cons.mpr ⟨rfl, List.forall_mem_cons.mpr ⟨rfl, List.forall_mem_cons.mpr ⟨rfl, List.forall_mem_cons.mpr ⟨rfl, fun _ h => absurd h List.not_mem_nil⟩⟩⟩⟩) ?_
        exact ih417 (z409 + 1) trivial (rW (c := 0) (d := 20) (rAdd (e := 1) (f := 20) h419 (rR (x := 1)) rfl) rfl) (noneQ.succ R415 (vc_X12_tieOf_v_7 h418 h420 h419) (trOf 0 q422 (vc_X12_tieOf_v_8 h418 h420 h419) (vc_X12_tieOf_v_7 h418 h420 h419)) (trOf 1 q434 (vc_X12_tieOf_v_11 h418 h420 h419) (vc_X12_tieOf_v_7 h418 h420 h419)) (vc_X12_tieOf_v_20 h424 h436 h438 h432 hp2 h423 h435)) (vc_X3_putAttributes_12 (nS h416) h418 h420 h419)
      have h439 : 0 ≤ p2 ∧ p2 ≤ 9 := (vc_X12_tieOf_11 h438 h424 h436 h432 hp2 h423 h435)
      refine sv_aload_n (pc := 48) dX12_tieOf_48 rfl rfl ?_
      refine gf_X12_7 (pc := 49) dX12_tieOf_49 wF_X12_40 (A_106 hw) hT ?_
      refine mr_iconst (pc := 52) (z := 2) dX12_tieOf_52 ?_
      refine mr_iload_n (pc := 53) (z := z409) dX12_tieOf_53 rfl rfl ?_
      refine mr_imul (pc := 54) (x := 2) (y := z409) dX12_tieOf_54 ?_
      refine mr_iconst (pc := 55) (z := 1) dX12_tieOf_55 ?_
      refine mr_iadd (pc := 56) (x := (2 * z409)) (y := 1) dX12_tieOf_56 ?_
      refine lk_110 (pc := 57) dX12_tieOf_57 (A_110 hw) (rIx (n := 40) (rAdd (e := 1) (f := 39) (rMulL (n := 2) (e := 0) (f := 38) h419 rfl) (rR (x := 1)) rfl) rfl) q434 ?_
      refine mr_iload_n (pc := 58) (z := p1) dX12_tieOf_58 rfl rfl ?_
      refine mr_icmp_ne (pc := 59) (tgt := 64) dX12_tieOf_59 (by decide) (r32 h435 rfl) (r32 h432 rfl) (fun h440 => ?_) (fun h440 => ?_)
      · refine mr_iinc (pc := 64) (lv' := [(3, iv (z409 + 1)), (0, .ref 106), (1, iv p1), (2, iv p2)]) dX12_tieOf_64 rfl (by decide) rfl ?_
        refine sv_goto (pc := 67) (tgt := 2) dX12_tieOf_67 (by decide) ?_
        refine mr_lvS (lv' := [(0, .ref 106), (1, iv p1), (2, iv p2), (3, iv (z409 + 1))]) (List.forall_mem_cons.mpr ⟨rfl, List.forall_mem_cons.mpr ⟨rfl, List.forall_mem_cons.mpr ⟨rfl, List.forall_mem_cons.mpr ⟨rfl, fun _ h => absurd h List.not_mem_nil⟩⟩⟩⟩) ?_
        exact ih417 (z409 + 1) trivial (rW (c := 0) (d := 20) (rAdd (e := 1) (f := 20) h419 (rR (x := 1)) rfl) rfl) (noneQ.succ R415 (vc_X12_tieOf_v_7 h418 h420 h419) (trOf 0 q422 (vc_X12_tieOf_v_8 h418 h420 h419) (vc_X12_tieOf_v_7 h418 h420 h419)) (trOf 1 q434 (vc_X12_tieOf_v_11 h418 h420 h419) (vc_X12_tieOf_v_7 h418 h420 h419)) (vc_X12_tieOf_v_22 h424 h436 h438 h440 h432 h439 h423 h435)) (vc_X3_putAttributes_12 (nS h416) h418 h420 h419)
      refine mr_iload_n (pc := 62) (z := z409) dX12_tieOf_62 rfl rfl ?_
      exact mr_iretP dX12_tieOf_63 rfl (le_t rfl) (le_t rfl) ⟨(rW (c := (-99999999)) (d := 19) h419 rfl), (vc_X12_tieOf_end_8 h418 h420 h419), (fndQ.hit (vc_X12_tieOf_v_15 h418 h420 h419) (trOf 0 q422 (vc_X12_tieOf_v_8 h418 h420 h419) (vc_X12_tieOf_v_7 h418 h420 h419)) (trOf 1 q434 (vc_X12_tieOf_v_11 h418 h420 h419) (vc_X12_tieOf_v_7 h418 h420 h419)) (vc_X12_tieOf_v_23 h424 h436 h438 h440 h432 h439 h423 h435) R415), trivial⟩
  refine mr_lvS (lv' := [(0, .ref 106), (1, iv p1), (2, iv p2), (3, iv 0)]) (List.forall_mem_cons.mpr ⟨rfl, List.forall_mem_cons.mpr ⟨rfl, List.forall_mem_cons.mpr ⟨rfl, List.forall_mem_cons.mpr ⟨rfl, fun _ h => absurd h List.not_mem_nil⟩⟩⟩⟩) ?_
  exact L410 22 0 trivial (rW (c := 0) (d := 20) (rR (x := 0)) rfl) (noneQ.zero vc_X10_tieBetween_v_23) vc_X12_feed_15
theorem vc_X12_tie_v_1 {f_dm p1 z250 : Int} (h0 : z250 = 0) (h1 : (z250 = 1 → 0 ≤ p1 ∧ p1 < f_dm)) (h2 : (z250 = 0 → p1 < 0 ∨ f_dm ≤ p1)) (h3 : 0 ≤ f_dm ∧ f_dm ≤ 10) (h4 : (-2147483648) ≤ p1 ∧ p1 ≤ 2147483647) (h5 : 0 ≤ z250 ∧ z250 ≤ 1) : 0 ≤ z250 ∧ z250 ≤ 0 := by omega
theorem vc_X12_tie_v_2 {f_dm p1 z250 : Int} (h0 : (z250 = 1 → 0 ≤ p1 ∧ p1 < f_dm)) (h1 : (z250 = 0 → p1 < 0 ∨ f_dm ≤ p1)) (h2 : z250 = 0) (h3 : 0 ≤ f_dm ∧ f_dm ≤ 10) (h4 : (-2147483648) ≤ p1 ∧ p1 ≤ 2147483647) (h5 : 0 ≤ z250 ∧ z250 ≤ 0) : z250 = 0 := by omega
theorem vc_X12_tie_v_3 {f_dm p1 p2 p3 z250 : Int} (h0 : (z250 = 1 → 0 ≤ p1 ∧ p1 < f_dm)) (h1 : (z250 = 0 → p1 < 0 ∨ f_dm ≤ p1)) (h2 : p1 < 0 ∨ f_dm ≤ p1) (h3 : z250 = 0) (h4 : 0 ≤ f_dm ∧ f_dm ≤ 10) (h5 : (-2147483648) ≤ p1 ∧ p1 ≤ 2147483647) (h6 : (-2147483648) ≤ p2 ∧ p2 ≤ 2147483647) (h7 : (-2147483648) ≤ p3 ∧ p3 ≤ 2147483647) (h8 : 0 ≤ z250 ∧ z250 ≤ 0) : p1 < 0 ∨ f_dm ≤ p1 ∨ p2 < 0 ∨ f_dm ≤ p2 ∨ p1 = p2 ∨ p3 < 0 ∨ 2 < p3 := by omega
theorem vc_X12_tie_v_5 {f_dm p1 z250 : Int} (h0 : ¬ z250 = 0) (h1 : (z250 = 1 → 0 ≤ p1 ∧ p1 < f_dm)) (h2 : (z250 = 0 → p1 < 0 ∨ f_dm ≤ p1)) (h3 : 0 ≤ f_dm ∧ f_dm ≤ 10) (h4 : (-2147483648) ≤ p1 ∧ p1 ≤ 2147483647) (h5 : 0 ≤ z250 ∧ z250 ≤ 1) : 1 ≤ z250 ∧ z250 ≤ 1 := by omega
theorem vc_X12_tie_v_6 {f_dm p1 z250 : Int} (h0 : (z250 = 1 → 0 ≤ p1 ∧ p1 < f_dm)) (h1 : (z250 = 0 → p1 < 0 ∨ f_dm ≤ p1)) (h2 : ¬ z250 = 0) (h3 : 0 ≤ f_dm ∧ f_dm ≤ 10) (h4 : (-2147483648) ≤ p1 ∧ p1 ≤ 2147483647) (h5 : 1 ≤ z250 ∧ z250 ≤ 1) : z250 = 1 := by omega
theorem vc_X12_tie_v_7 {f_dm p1 z250 : Int} (h0 : 0 ≤ p1 ∧ p1 < f_dm) (h1 : (z250 = 1 → 0 ≤ p1 ∧ p1 < f_dm)) (h2 : (z250 = 0 → p1 < 0 ∨ f_dm ≤ p1)) (h3 : 0 ≤ f_dm ∧ f_dm ≤ 10) (h4 : (-2147483648) ≤ p1 ∧ p1 ≤ 2147483647) (h5 : 1 ≤ z250 ∧ z250 ≤ 1) : 0 ≤ p1 ∧ p1 ≤ 9 := by omega
theorem vc_X12_tie_v_9 {f_dm p1 p2 z250 z261 : Int} (h0 : (z261 = 1 → 0 ≤ p2 ∧ p2 < f_dm)) (h1 : (z261 = 0 → p2 < 0 ∨ f_dm ≤ p2)) (h2 : z261 = 0) (h3 : (z250 = 1 → 0 ≤ p1 ∧ p1 < f_dm)) (h4 : (z250 = 0 → p1 < 0 ∨ f_dm ≤ p1)) (h5 : 0 ≤ p1 ∧ p1 < f_dm) (h6 : 0 ≤ f_dm ∧ f_dm ≤ 10) (h7 : 0 ≤ p1 ∧ p1 ≤ 9) (h8 : (-2147483648) ≤ p2 ∧ p2 ≤ 2147483647) (h9 : 1 ≤ z250 ∧ z250 ≤ 1) (h10 : 0 ≤ z261 ∧ z261 ≤ 0) : z261 = 0 := by omega
theorem vc_X12_tie_v_10 {f_dm p1 p2 p3 z250 z261 : Int} (h0 : (z250 = 1 → 0 ≤ p1 ∧ p1 < f_dm)) (h1 : (z250 = 0 → p1 < 0 ∨ f_dm ≤ p1)) (h2 : 0 ≤ p1 ∧ p1 < f_dm) (h3 : (z261 = 1 → 0 ≤ p2 ∧ p2 < f_dm)) (h4 : (z261 = 0 → p2 < 0 ∨ f_dm ≤ p2)) (h5 : p2 < 0 ∨ f_dm ≤ p2) (h6 : ¬ z250 = 0) (h7 : z261 = 0) (h8 : 0 ≤ f_dm ∧ f_dm ≤ 10) (h9 : 0 ≤ p1 ∧ p1 ≤ 9) (h10 : (-2147483648) ≤ p2 ∧ p2 ≤ 2147483647) (h11 : (-2147483648) ≤ p3 ∧ p3 ≤ 2147483647) (h12 : 1 ≤ z250 ∧ z250 ≤ 1) (h13 : 0 ≤ z261 ∧ z261 ≤ 0) : p1 < 0 ∨ f_dm ≤ p1 ∨ p2 < 0 ∨ f_dm ≤ p2 ∨ p1 = p2 ∨ p3 < 0 ∨ 2 < p3 := by omega
theorem vc_X12_tie_v_12 {f_dm p1 p2 z250 z261 : Int} (h0 : (z261 = 1 → 0 ≤ p2 ∧ p2 < f_dm)) (h1 : (z261 = 0 → p2 < 0 ∨ f_dm ≤ p2)) (h2 : ¬ z261 = 0) (h3 : (z250 = 1 → 0 ≤ p1 ∧ p1 < f_dm)) (h4 : (z250 = 0 → p1 < 0 ∨ f_dm ≤ p1)) (h5 : 0 ≤ p1 ∧ p1 < f_dm) (h6 : 0 ≤ f_dm ∧ f_dm ≤ 10) (h7 : 0 ≤ p1 ∧ p1 ≤ 9) (h8 : (-2147483648) ≤ p2 ∧ p2 ≤ 2147483647) (h9 : 1 ≤ z250 ∧ z250 ≤ 1) (h10 : 1 ≤ z261 ∧ z261 ≤ 1) : z261 = 1 := by omega
theorem vc_X12_tie_v_13 {f_dm p1 p2 z250 z261 : Int} (h0 : 0 ≤ p2 ∧ p2 < f_dm) (h1 : (z250 = 1 → 0 ≤ p1 ∧ p1 < f_dm)) (h2 : (z250 = 0 → p1 < 0 ∨ f_dm ≤ p1)) (h3 : 0 ≤ p1 ∧ p1 < f_dm) (h4 : (z261 = 1 → 0 ≤ p2 ∧ p2 < f_dm)) (h5 : (z261 = 0 → p2 < 0 ∨ f_dm ≤ p2)) (h6 : 0 ≤ f_dm ∧ f_dm ≤ 10) (h7 : 0 ≤ p1 ∧ p1 ≤ 9) (h8 : (-2147483648) ≤ p2 ∧ p2 ≤ 2147483647) (h9 : 1 ≤ z250 ∧ z250 ≤ 1) (h10 : 1 ≤ z261 ∧ z261 ≤ 1) : 0 ≤ p2 ∧ p2 ≤ 9 := by omega
theorem vc_X12_tie_v_14 {f_dm p1 p2 p3 z250 z261 : Int} (h0 : (z250 = 1 → 0 ≤ p1 ∧ p1 < f_dm)) (h1 : (z250 = 0 → p1 < 0 ∨ f_dm ≤ p1)) (h2 : 0 ≤ p1 ∧ p1 < f_dm) (h3 : (z261 = 1 → 0 ≤ p2 ∧ p2 < f_dm)) (h4 : (z261 = 0 → p2 < 0 ∨ f_dm ≤ p2)) (h5 : 0 ≤ p2 ∧ p2 < f_dm) (h6 : p1 = p2) (h7 : ¬ z250 = 0) (h8 : ¬ z261 = 0) (h9 : 0 ≤ f_dm ∧ f_dm ≤ 10) (h10 : 0 ≤ p1 ∧ p1 ≤ 9) (h11 : 0 ≤ p2 ∧ p2 ≤ 9) (h12 : (-2147483648) ≤ p3 ∧ p3 ≤ 2147483647) (h13 : 1 ≤ z250 ∧ z250 ≤ 1) (h14 : 1 ≤ z261 ∧ z261 ≤ 1) : p1 < 0 ∨ f_dm ≤ p1 ∨ p2 < 0 ∨ f_dm ≤ p2 ∨ p1 = p2 ∨ p3 < 0 ∨ 2 < p3 := by omega
theorem vc_X12_tie_v_22 {f_t : Int} (h0 : ¬ f_t = 20) (h1 : 0 ≤ f_t ∧ f_t ≤ 19) : f_t ≤ (f_t + 1) := by omega
theorem vc_X12_tie_v_23 {f_t : Int} (h0 : ¬ f_t = 20) (h1 : 0 ≤ f_t ∧ f_t ≤ 19) : (f_t + 1) = f_t + 1 := by omega
theorem vc_X12_tie_v_24 {f_t : Int} (h0 : ¬ f_t = 20) (h1 : 0 ≤ f_t ∧ f_t ≤ 19) : 0 ≤ f_t := by omega
theorem vc_X12_tie_v_25 {z345 : Int} (h0 : 4 ≤ z345) (h1 : 4 ≤ z345 ∧ z345 ≤ 4) : z345 = 4 := by omega
theorem vc_X12_tie_v_26 {f_t : Int} (h0 : ¬ f_t = 20) (h1 : 0 ≤ f_t ∧ f_t ≤ 19) : (2 * f_t).toNat ≠ ((2 * f_t) + 1).toNat := by omega
theorem vc_X12_tie_v_27 {f_dm p1 p2 z250 z261 : Int} (h0 : (z250 = 1 → 0 ≤ p1 ∧ p1 < f_dm)) (h1 : (z250 = 0 → p1 < 0 ∨ f_dm ≤ p1)) (h2 : 0 ≤ p1 ∧ p1 < f_dm) (h3 : (z261 = 1 → 0 ≤ p2 ∧ p2 < f_dm)) (h4 : (z261 = 0 → p2 < 0 ∨ f_dm ≤ p2)) (h5 : 0 ≤ p2 ∧ p2 < f_dm) (h6 : ¬ p1 = p2) (h7 : ¬ z250 = 0) (h8 : ¬ z261 = 0) (h9 : 0 ≤ f_dm ∧ f_dm ≤ 10) (h10 : 0 ≤ p1 ∧ p1 ≤ 9) (h11 : 0 ≤ p2 ∧ p2 ≤ 9) (h12 : 1 ≤ z250 ∧ z250 ≤ 1) (h13 : 1 ≤ z261 ∧ z261 ≤ 1) : p1 < f_dm ∧ p2 < f_dm := by omega
theorem vc_X12_tie_v_28 {f_dm p1 p2 p3 z250 z261 z273 : Int} (h0 : (z250 = 1 → 0 ≤ p1 ∧ p1 < f_dm)) (h1 : (z250 = 0 → p1 < 0 ∨ f_dm ≤ p1)) (h2 : 0 ≤ p1 ∧ p1 < f_dm) (h3 : (z261 = 1 → 0 ≤ p2 ∧ p2 < f_dm)) (h4 : (z261 = 0 → p2 < 0 ∨ f_dm ≤ p2)) (h5 : 0 ≤ p2 ∧ p2 < f_dm) (h6 : ¬ p1 = p2) (h7 : (z273 = 1 → (0 : Int) ≤ p3 ∧ p3 ≤ (2 : Int))) (h8 : (z273 = 0 → p3 < (0 : Int) ∨ (2 : Int) < p3)) (h9 : (0 : Int) ≤ p3 ∧ p3 ≤ (2 : Int)) (h10 : ¬ z250 = 0) (h11 : ¬ z261 = 0) (h12 : ¬ z273 = 0) (h13 : 0 ≤ f_dm ∧ f_dm ≤ 10) (h14 : 0 ≤ p1 ∧ p1 ≤ 9) (h15 : 0 ≤ p2 ∧ p2 ≤ 9) (h16 : 0 ≤ p3 ∧ p3 ≤ 2) (h17 : 1 ≤ z250 ∧ z250 ≤ 1) (h18 : 1 ≤ z261 ∧ z261 ≤ 1) (h19 : 1 ≤ z273 ∧ z273 ≤ 1) : ¬ (p1 < 0 ∨ f_dm ≤ p1 ∨ p2 < 0 ∨ f_dm ≤ p2 ∨ p1 = p2 ∨ p3 < 0 ∨ 2 < p3) := by omega
theorem vc_X12_tie_v_29 {z282 : Int} (h0 : z282 = -99999999 ∨ (0 ≤ z282 ∧ z282 ≤ 19)) (h1 : z282 = (-99999999)) (h2 : (-99999999) ≤ z282 ∧ z282 ≤ (-99999999)) : z282 < 0 := by omega
theorem vc_X12_tie_v_30 {f_t : Int} (h0 : ¬ f_t = 20) (h1 : 0 ≤ f_t ∧ f_t ≤ 19) : f_t < 20 := by omega
theorem vc_X12_tie_v_31 {f_t : Int} (h0 : ¬ f_t = 20) (h1 : 0 ≤ f_t ∧ f_t ≤ 19) : ((f_t + 1) - 1) = f_t := by omega
theorem vc_X12_tie_v_32 {f_t : Int} (h0 : ¬ f_t = 20) (h1 : 0 ≤ f_t ∧ f_t ≤ 19) : 0 ≤ ((f_t + 1) - 1) := by omega
theorem vc_X12_tie_v_33 {f_dm f_t p1 p2 p3 z250 z261 z273 : Int} (h0 : (z250 = 1 → 0 ≤ p1 ∧ p1 < f_dm)) (h1 : (z250 = 0 → p1 < 0 ∨ f_dm ≤ p1)) (h2 : 0 ≤ p1 ∧ p1 < f_dm) (h3 : (z261 = 1 → 0 ≤ p2 ∧ p2 < f_dm)) (h4 : (z261 = 0 → p2 < 0 ∨ f_dm ≤ p2)) (h5 : 0 ≤ p2 ∧ p2 < f_dm) (h6 : ¬ p1 = p2) (h7 : (z273 = 1 → (0 : Int) ≤ p3 ∧ p3 ≤ (2 : Int))) (h8 : (z273 = 0 → p3 < (0 : Int) ∨ (2 : Int) < p3)) (h9 : (0 : Int) ≤ p3 ∧ p3 ≤ (2 : Int)) (h10 : ¬ f_t = 20) (h11 : ¬ z250 = 0) (h12 : ¬ z261 = 0) (h13 : ¬ z273 = 0) (h14 : 0 ≤ f_dm ∧ f_dm ≤ 10) (h15 : 0 ≤ f_t ∧ f_t ≤ 19) (h16 : 0 ≤ p1 ∧ p1 ≤ 9) (h17 : 0 ≤ p2 ∧ p2 ≤ 9) (h18 : 0 ≤ p3 ∧ p3 ≤ 2) (h19 : 1 ≤ z250 ∧ z250 ≤ 1) (h20 : 1 ≤ z261 ∧ z261 ≤ 1) (h21 : 1 ≤ z273 ∧ z273 ≤ 1) : (f_t + 1) = f_t + 1 := by omega
theorem vc_X12_tie_v_34 {f_dm f_t p1 p2 p3 z250 z261 z273 : Int} (h0 : (z250 = 1 → 0 ≤ p1 ∧ p1 < f_dm)) (h1 : (z250 = 0 → p1 < 0 ∨ f_dm ≤ p1)) (h2 : 0 ≤ p1 ∧ p1 < f_dm) (h3 : (z261 = 1 → 0 ≤ p2 ∧ p2 < f_dm)) (h4 : (z261 = 0 → p2 < 0 ∨ f_dm ≤ p2)) (h5 : 0 ≤ p2 ∧ p2 < f_dm) (h6 : ¬ p1 = p2) (h7 : (z273 = 1 → (0 : Int) ≤ p3 ∧ p3 ≤ (2 : Int))) (h8 : (z273 = 0 → p3 < (0 : Int) ∨ (2 : Int) < p3)) (h9 : (0 : Int) ≤ p3 ∧ p3 ≤ (2 : Int)) (h10 : ¬ f_t = 20) (h11 : ¬ z250 = 0) (h12 : ¬ z261 = 0) (h13 : ¬ z273 = 0) (h14 : 0 ≤ f_dm ∧ f_dm ≤ 10) (h15 : 0 ≤ f_t ∧ f_t ≤ 19) (h16 : 0 ≤ p1 ∧ p1 ≤ 9) (h17 : 0 ≤ p2 ∧ p2 ≤ 9) (h18 : 0 ≤ p3 ∧ p3 ≤ 2) (h19 : 1 ≤ z250 ∧ z250 ≤ 1) (h20 : 1 ≤ z261 ∧ z261 ≤ 1) (h21 : 1 ≤ z273 ∧ z273 ≤ 1) : 0 ≤ f_t ∧ (2 * f_t) = 2 * f_t ∧ ((2 * f_t) + 1) = 2 * f_t + 1 ∧ p1 = p1 ∧ p2 = p2 ∧ p3 = p3 := by omega
theorem vc_X12_tie_v_35  : ((1 : Int) : Int) = (1 : Int) := by omega
theorem vc_X12_tie_v_37  : ((-99999999) : Int) = -(99999999 : Int) ∨ ((0 : Int) ≤ ((-99999999) : Int) ∧ ((-99999999) : Int) ≤ (11 : Int)) := by omega
theorem vc_X12_tie_v_38 {z380 : Int} (h0 : 0 ≤ z380 ∧ z380 ≤ 12) : ((-99999999) : Int) = -99999999 ∨ (0 ≤ ((-99999999) : Int) ∧ ((-99999999) : Int) < z380) := by omega
theorem vc_X12_tie_v_40 {f_t z345 : Int} (h0 : ¬ f_t = 20) (h1 : z345 < 4) (h2 : 0 ≤ f_t ∧ f_t ≤ 19) (h3 : 0 ≤ z345 ∧ z345 ≤ 3) : ((4 * f_t) + z345) = 4 * f_t + z345 := by omega
theorem vc_X12_tie_v_41 {f_t z345 : Int} (h0 : ¬ f_t = 20) (h1 : z345 < 4) (h2 : 0 ≤ f_t ∧ f_t ≤ 19) (h3 : 0 ≤ z345 ∧ z345 ≤ 3) : 0 ≤ f_t ∧ 0 ≤ z345 := by omega
theorem vc_X12_tie_v_42  : (((-99999999) : Int) : Int) = -(99999999 : Int) := by omega
theorem vc_X12_tie_v_43 {z345 : Int} (h0 : z345 < 4) (h1 : 0 ≤ z345 ∧ z345 ≤ 3) : (z345 + 1) = z345 + 1 := by omega
theorem vc_X12_tie_v_44 {f_t z345 : Int} (h0 : ¬ f_t = 20) (h1 : z345 < 4) (h2 : 0 ≤ f_t ∧ f_t ≤ 19) (h3 : 0 ≤ z345 ∧ z345 ≤ 3) : 4 * f_t ≤ ((4 * f_t) + z345) ∧ 0 ≤ ((4 * f_t) + z345) := by omega
theorem vc_X12_tie_v_47 {f_t : Int} (h0 : ¬ f_t = 20) (h1 : 0 ≤ f_t ∧ f_t ≤ 19) : 2 * f_t ≤ (2 * f_t) ∧ 0 ≤ (2 * f_t) := by omega
theorem vc_X12_tie_v_48 {f_t : Int} (h0 : ¬ f_t = 20) (h1 : 0 ≤ f_t ∧ f_t ≤ 19) : 2 * f_t ≤ ((2 * f_t) + 1) ∧ 0 ≤ ((2 * f_t) + 1) := by omega
theorem vc_X12_tie_v_49 {f_t : Int} (h0 : ¬ f_t = 20) (h1 : 0 ≤ f_t ∧ f_t ≤ 19) : 1 * f_t ≤ f_t ∧ 0 ≤ f_t := by omega
theorem vc_X12_tie_v_51 {f_t : Int} (h0 : f_t = 20) (h1 : 20 ≤ f_t ∧ f_t ≤ 20) : 20 ≤ f_t := by omega
theorem vc_X12_tie_v_52  : (((-3) : Int) : Int) < (0 : Int) := by omega
theorem vc_X12_tie_v_55  : (((-2) : Int) : Int) < (0 : Int) := by omega
theorem vc_X12_tie_v_58 {f_dm p1 p2 p3 z250 z261 z273 : Int} (h0 : (z250 = 1 → 0 ≤ p1 ∧ p1 < f_dm)) (h1 : (z250 = 0 → p1 < 0 ∨ f_dm ≤ p1)) (h2 : 0 ≤ p1 ∧ p1 < f_dm) (h3 : (z261 = 1 → 0 ≤ p2 ∧ p2 < f_dm)) (h4 : (z261 = 0 → p2 < 0 ∨ f_dm ≤ p2)) (h5 : 0 ≤ p2 ∧ p2 < f_dm) (h6 : ¬ p1 = p2) (h7 : (z273 = 1 → (0 : Int) ≤ p3 ∧ p3 ≤ (2 : Int))) (h8 : (z273 = 0 → p3 < (0 : Int) ∨ (2 : Int) < p3)) (h9 : p3 < (0 : Int) ∨ (2 : Int) < p3) (h10 : ¬ z250 = 0) (h11 : ¬ z261 = 0) (h12 : z273 = 0) (h13 : 0 ≤ f_dm ∧ f_dm ≤ 10) (h14 : 0 ≤ p1 ∧ p1 ≤ 9) (h15 : 0 ≤ p2 ∧ p2 ≤ 9) (h16 : (-2147483648) ≤ p3 ∧ p3 ≤ 2147483647) (h17 : 1 ≤ z250 ∧ z250 ≤ 1) (h18 : 1 ≤ z261 ∧ z261 ≤ 1) (h19 : 0 ≤ z273 ∧ z273 ≤ 0) : p1 < 0 ∨ f_dm ≤ p1 ∨ p2 < 0 ∨ f_dm ≤ p2 ∨ p1 = p2 ∨ p3 < 0 ∨ 2 < p3 := by omega
set_option maxRecDepth 4000 in
set_option maxHeartbeats 4000000 in
theorem c_X12_tie_v {l : Launch} {D : va_G} {c : Nat → ClassId} {H0 : Heap} {sa : Nat × Nat × (Nat → Int32)} {w : mW} {μ : mM} (hw : mWF w) (hT : mT w μ) {p1 : Int} (hp1 : (-2147483648) ≤ p1 ∧ p1 ≤ 2147483647) {p2 : Int} (hp2 : (-2147483648) ≤ p2 ∧ p2 ≤ 2147483647) {p3 : Int} (hp3 : (-2147483648) ≤ p3 ∧ p3 ≤ 2147483647) {f_t : Int} (q_f_t : μ 106 6 = f_t) {f_dm : Int} (q_f_dm : μ 106 5 = f_dm) (hIJC : JC l D c H0 sa μ) (hIRP : RP μ) (hIEP : EP μ) (hIHP : HP μ) (hIUP : UP l D c H0 sa μ) (hITE : TE μ) (hIPK : PK μ) (hIEV : EV μ) : sC (gG l D c H0 sa) mX12_tie 3 0 0 [.ref 106, iv p1, iv p2, iv p3] (mk w μ) (qI w [106006, 110999, 111999, 112999, 113999, 114999, 115999] μ (fun z μ1 => ((-2147483648) ≤ z ∧ z ≤ 2147483647) ∧ JC l D c H0 sa μ1 ∧ RP μ1 ∧ EP μ1 ∧ HP μ1 ∧ UP l D c H0 sa μ1 ∧ TE μ1 ∧ PK μ1 ∧ EV μ1 ∧ (tieA (noneQ (tr μ 0) (tr μ 1) f_t p1 p2) f_dm f_t p1 p2 p3 z) ∧ (tgR μ μ1 p1 p2 p3 z) ∧ (tuR μ μ1 z) ∧ True)) := by
  refine sC.of rfl (by decide) (le_t rfl) ?_
  have ht_f_t : (0 ≤ f_t ∧ f_t ≤ 20) := by rw [← q_f_t]; exact hT 106 106 (A_106 hw) 6
  have ht_f_dm : (0 ≤ f_dm ∧ f_dm ≤ 10) := by rw [← q_f_dm]; exact hT 106 106 (A_106 hw) 5
  refine mr_lvE (lv' := [(0, .ref 106), (1, iv p1), (2, iv p2), (3, iv p3)]) rfl ?_
  refine sv_aload_n (pc := 0) dX12_tie_0 rfl rfl ?_
  refine mr_iload_n (pc := 1) (z := p1) dX12_tie_1 rfl rfl ?_
  refine mr_cVP (pc := 2) (c_X12_isDomain hw hT hp1 q_f_dm) (gOk _ _ _ _ _) dX12_tie_2 (tX12_isDomain _ _ _ _ _) ⟨wV_X12_isDomain, wL_X12_isDomain⟩ wM_X12_49 (gCX12 _ _ _ _ _) rfl (A_106 hw) rfl ⟨le_t rfl, le_t rfl⟩ ⟨le_t rfl, le_t rfl⟩ rfl (le_t rfl) fun z250 h249 => ?_
  refine mr_if_eq (pc := 5) (tgt := 30) dX12_tie_5 (by decide) (r32 h249.1 rfl) (fun h251 => ?_) (fun h251 => ?_)
  · have h252 : 0 ≤ z250 ∧ z250 ≤ 0 := (vc_X12_tie_v_1 h251 h249.2.1 h249.2.2.1 ht_f_dm hp1 h249.1)
    have h253 : p1 < 0 ∨ f_dm ≤ p1 := (h249.2.2.1 (vc_X12_tie_v_2 h249.2.1 h249.2.2.1 h251 ht_f_dm hp1 h252))
    refine mr_iconst (pc := 30) (z := (-1)) dX12_tie_30 ?_
    exact mr_iret dX12_tie_31 rfl (le_t rfl) (le_t rfl) hT mF.refl ⟨(rW (c := (-2147483648)) (d := 2147483647) (rR (x := (-1))) rfl), hIJC, hIRP, hIEP, hIHP, hIUP, hITE, hIPK, hIEV, (Or.inl ⟨(by unfold tieB; exact (vc_X12_tie_v_3 h249.2.1 h249.2.2.1 h253 h251 ht_f_dm hp1 hp2 hp3 h252)), rfl⟩), (Or.inr ⟨vc_X12_doEvent_u_11, rfl⟩), (Or.inr ⟨vc_X12_doEvent_u_11, rfl⟩), trivial⟩
  have h254 : 1 ≤ z250 ∧ z250 ≤ 1 := (vc_X12_tie_v_5 h251 h249.2.1 h249.2.2.1 ht_f_dm hp1 h249.1)
  have h255 : 0 ≤ p1 ∧ p1 < f_dm := (h249.2.1 (vc_X12_tie_v_6 h249.2.1 h249.2.2.1 h251 ht_f_dm hp1 h254))
  have h256 : 0 ≤ p1 ∧ p1 ≤ 9 := (vc_X12_tie_v_7 h255 h249.2.1 h249.2.2.1 ht_f_dm hp1 h254)
  refine sv_aload_n (pc := 8) dX12_tie_8 rfl rfl ?_
  refine mr_iload_n (pc := 9) (z := p2) dX12_tie_9 rfl rfl ?_
  refine mr_cVP (pc := 10) (c_X12_isDomain hw hT hp2 q_f_dm) (gOk _ _ _ _ _) dX12_tie_10 (tX12_isDomain _ _ _ _ _) ⟨wV_X12_isDomain, wL_X12_isDomain⟩ wM_X12_49 (gCX12 _ _ _ _ _) rfl (A_106 hw) rfl ⟨le_t rfl, le_t rfl⟩ ⟨le_t rfl, le_t rfl⟩ rfl (le_t rfl) fun z261 h260 => ?_
  refine mr_if_eq (pc := 13) (tgt := 30) dX12_tie_13 (by decide) (r32 h260.1 rfl) (fun h262 => ?_) (fun h262 => ?_)
  · have h263 : 0 ≤ z261 ∧ z261 ≤ 0 := (vc_X12_tie_v_1 h262 h260.2.1 h260.2.2.1 ht_f_dm hp2 h260.1)
    have h264 : p2 < 0 ∨ f_dm ≤ p2 := (h260.2.2.1 (vc_X12_tie_v_9 h260.2.1 h260.2.2.1 h262 h249.2.1 h249.2.2.1 h255 ht_f_dm h256 hp2 h254 h263))
    refine mr_iconst (pc := 30) (z := (-1)) dX12_tie_30 ?_
    exact mr_iret dX12_tie_31 rfl (le_t rfl) (le_t rfl) hT mF.refl ⟨(rW (c := (-2147483648)) (d := 2147483647) (rR (x := (-1))) rfl), hIJC, hIRP, hIEP, hIHP, hIUP, hITE, hIPK, hIEV, (Or.inl ⟨(by unfold tieB; exact (vc_X12_tie_v_10 h249.2.1 h249.2.2.1 h255 h260.2.1 h260.2.2.1 h264 h251 h262 ht_f_dm h256 hp2 hp3 h254 h263)), rfl⟩), (Or.inr ⟨vc_X12_doEvent_u_11, rfl⟩), (Or.inr ⟨vc_X12_doEvent_u_11, rfl⟩), trivial⟩
  have h265 : 1 ≤ z261 ∧ z261 ≤ 1 := (vc_X12_tie_v_5 h262 h260.2.1 h260.2.2.1 ht_f_dm hp2 h260.1)
  have h266 : 0 ≤ p2 ∧ p2 < f_dm := (h260.2.1 (vc_X12_tie_v_12 h260.2.1 h260.2.2.1 h262 h249.2.1 h249.2.2.1 h255 ht_f_dm h256 hp2 h254 h265))
  have h267 : 0 ≤ p2 ∧ p2 ≤ 9 := (vc_X12_tie_v_13 h266 h249.2.1 h249.2.2.1 h255 h260.2.1 h260.2.2.1 ht_f_dm h256 hp2 h254 h265)
  refine mr_iload_n (pc := 16) (z := p1) dX12_tie_16 rfl rfl ?_
  refine mr_iload_n (pc := 17) (z := p2) dX12_tie_17 rfl rfl ?_
  refine mr_icmp_eq (pc := 18) (tgt := 30) dX12_tie_18 (by decide) (r32 h256 rfl) (r32 h267 rfl) (fun h268 => ?_) (fun h268 => ?_)
  · refine mr_iconst (pc := 30) (z := (-1)) dX12_tie_30 ?_
    exact mr_iret dX12_tie_31 rfl (le_t rfl) (le_t rfl) hT mF.refl ⟨(rW (c := (-2147483648)) (d := 2147483647) (rR (x := (-1))) rfl), hIJC, hIRP, hIEP, hIHP, hIUP, hITE, hIPK, hIEV, (Or.inl ⟨(by unfold tieB; exact (vc_X12_tie_v_14 h249.2.1 h249.2.2.1 h255 h260.2.1 h260.2.2.1 h266 h268 h251 h262 ht_f_dm h256 h267 hp3 h254 h265)), rfl⟩), (Or.inr ⟨vc_X12_doEvent_u_11, rfl⟩), (Or.inr ⟨vc_X12_doEvent_u_11, rfl⟩), trivial⟩
  refine mr_iload_n (pc := 21) (z := p3) dX12_tie_21 rfl rfl ?_
  refine mr_iconst (pc := 22) (z := 0) dX12_tie_22 ?_
  refine mr_iconst (pc := 23) (z := 2) dX12_tie_23 ?_
  refine mr_cSP (pc := 24) (c_X12_in hw hT hp3 (rW (c := (-2147483648)) (d := 2147483647) (rR (x := 0)) rfl) (rW (c := (-2147483648)) (d := 2147483647) (rR (x := 2)) rfl)) (gOk _ _ _ _ _) dX12_tie_24 (tX12_in _ _ _ _ _) wS_X12_in wM_X12_18 ⟨le_t rfl, le_t rfl⟩ ⟨le_t rfl, le_t rfl⟩ rfl (le_t rfl) fun z273 h272 => ?_
  refine mr_if_ne (pc := 27) (tgt := 32) dX12_tie_27 (by decide) (r32 h272.1 rfl) (fun h274 => ?_) (fun h274 => ?_)
  · have h275 : 1 ≤ z273 ∧ z273 ≤ 1 := (vc_X12_units_1 h274 h272.2.1 h272.2.2.1 hp3 h272.1)
    have h276 : (0 : Int) ≤ p3 ∧ p3 ≤ (2 : Int) := (h272.2.1 (vc_X12_units_2 h272.2.1 h272.2.2.1 h274 hp3 h275))
    have h277 : 0 ≤ p3 ∧ p3 ≤ 2 := (vc_X12_units_3 h276 h272.2.1 h272.2.2.1 hp3 h275)
    refine sv_aload_n (pc := 32) dX12_tie_32 rfl rfl ?_
    refine mr_iload_n (pc := 33) (z := p1) dX12_tie_33 rfl rfl ?_
    refine mr_iload_n (pc := 34) (z := p2) dX12_tie_34 rfl rfl ?_
    refine mr_cVP (pc := 35) (c_X12_tieOf_v hw hT (rW (c := (-2147483648)) (d := 2147483647) h256 rfl) (rW (c := (-2147483648)) (d := 2147483647) h267 rfl) q_f_t) (gOk _ _ _ _ _) dX12_tie_35 (tX12_tieOf _ _ _ _ _) ⟨wV_X12_tieOf, wL_X12_tieOf⟩ wM_X12_43 (gCX12 _ _ _ _ _) rfl (A_106 hw) rfl ⟨le_t rfl, le_t rfl⟩ ⟨le_t rfl, le_t rfl⟩ rfl (le_t rfl) fun z282 h281 => ?_
    refine mr_ldc (pc := 38) (z := (-99999999)) dX12_tie_38 wG_X12_29 (by decide) ?_
    refine mr_icmp_eq (pc := 40) (tgt := 46) dX12_tie_40 (by decide) (r32 h281.1 rfl) (r32 (rR (x := (-99999999))) rfl) (fun h283 => ?_) (fun h283 => ?_)
    · have h284 : (-99999999) ≤ z282 ∧ z282 ≤ (-99999999) := (vc_X12_provides_1 h283 h281.2.1 h281.1)
      refine sv_aload_n (pc := 46) dX12_tie_46 rfl rfl ?_
      refine gk_X12_6 (pc := 47) dX12_tie_47 wF_X12_37 (A_106 hw) q_f_t ?_
      refine mr_bipush (pc := 50) (z := 20) dX12_tie_50 (by decide) ?_
      refine mr_icmp_ne (pc := 52) (tgt := 58) dX12_tie_52 (by decide) (r32 ht_f_t rfl) (r32 (rR (x := 20)) rfl) (fun h285 => ?_) (fun h285 => ?_)
      · have h286 : 0 ≤ f_t ∧ f_t ≤ 19 := (vc_X12_walk_5 h285 ht_f_t)
        refine sv_aload_n (pc := 58) dX12_tie_58 rfl rfl ?_
        refine gf_X12_7 (pc := 59) dX12_tie_59 wF_X12_40 (A_106 hw) hT ?_
        refine mr_iconst (pc := 62) (z := 2) dX12_tie_62 ?_
        refine sv_aload_n (pc := 63) dX12_tie_63 rfl rfl ?_
        refine gk_X12_6 (pc := 64) dX12_tie_64 wF_X12_37 (A_106 hw) q_f_t ?_
        refine mr_imul (pc := 67) (x := 2) (y := f_t) dX12_tie_67 ?_
        refine mr_iload_n (pc := 68) (z := p1) dX12_tie_68 rfl rfl ?_
        refine ss_110 (pc := 69) dX12_tie_69 (A_110 hw) hT (rIx (n := 40) (rMulL (n := 2) (e := 0) (f := 38) h286 rfl) rfl) h256 fun μ287 u288 T289 => ?_
        refine sv_aload_n (pc := 70) dX12_tie_70 rfl rfl ?_
        refine gf_X12_7 (pc := 71) dX12_tie_71 wF_X12_40 (A_106 hw) T289 ?_
        refine mr_iconst (pc := 74) (z := 2) dX12_tie_74 ?_
        refine sv_aload_n (pc := 75) dX12_tie_75 rfl rfl ?_
        refine gk_X12_6 (pc := 76) dX12_tie_76 wF_X12_37 (A_106 hw) (u288.f (Or.inl (mAt.ne (A_110 hw) (A_106 hw) rfl)) q_f_t) ?_
        refine mr_imul (pc := 79) (x := 2) (y := f_t) dX12_tie_79 ?_
        refine mr_iconst (pc := 80) (z := 1) dX12_tie_80 ?_
        refine mr_iadd (pc := 81) (x := (2 * f_t)) (y := 1) dX12_tie_81 ?_
        refine mr_iload_n (pc := 82) (z := p2) dX12_tie_82 rfl rfl ?_
        refine ss_110 (pc := 83) dX12_tie_83 (A_110 hw) T289 (rIx (n := 40) (rAdd (e := 1) (f := 39) (rMulL (n := 2) (e := 0) (f := 38) h286 rfl) (rR (x := 1)) rfl) rfl) h267 fun μ290 u291 T292 => ?_
        refine sv_aload_n (pc := 84) dX12_tie_84 rfl rfl ?_
        refine gf_X12_8 (pc := 85) dX12_tie_85 wF_X12_46 (A_106 hw) T292 ?_
        refine sv_aload_n (pc := 88) dX12_tie_88 rfl rfl ?_
        refine gk_X12_6 (pc := 89) dX12_tie_89 wF_X12_37 (A_106 hw) (u291.f (Or.inl (mAt.ne (A_110 hw) (A_106 hw) rfl)) (u288.f (Or.inl (mAt.ne (A_110 hw) (A_106 hw) rfl)) q_f_t)) ?_
        refine mr_iload_n (pc := 92) (z := p3) dX12_tie_92 rfl rfl ?_
        refine ss_111 (pc := 93) dX12_tie_93 (A_111 hw) T292 (rIx (n := 20) h286 rfl) h277 fun μ293 u294 T295 => ?_
        refine sv_aload_n (pc := 94) dX12_tie_94 rfl rfl ?_
        refine gf_X12_9 (pc := 95) dX12_tie_95 wF_X12_53 (A_106 hw) T295 ?_
        refine sv_aload_n (pc := 98) dX12_tie_98 rfl rfl ?_
        refine gk_X12_6 (pc := 99) dX12_tie_99 wF_X12_37 (A_106 hw) (u294.f (Or.inl (mAt.ne (A_111 hw) (A_106 hw) rfl)) (u291.f (Or.inl (mAt.ne (A_110 hw) (A_106 hw) rfl)) (u288.f (Or.inl (mAt.ne (A_110 hw) (A_106 hw) rfl)) q_f_t))) ?_
        refine mr_iconst (pc := 102) (z := 1) dX12_tie_102 ?_
        refine ss_112 (pc := 103) dX12_tie_103 (A_112 hw) T295 (rIx (n := 20) h286 rfl) (rW (c := 0) (d := 1) (rR (x := 1)) rfl) fun μ296 u297 T298 => ?_
        refine sv_aload_n (pc := 104) dX12_tie_104 rfl rfl ?_
        refine gf_X12_10 (pc := 105) dX12_tie_105 wF_X12_57 (A_106 hw) T298 ?_
        refine sv_aload_n (pc := 108) dX12_tie_108 rfl rfl ?_
        refine gk_X12_6 (pc := 109) dX12_tie_109 wF_X12_37 (A_106 hw) (u297.f (Or.inl (mAt.ne (A_112 hw) (A_106 hw) rfl)) (u294.f (Or.inl (mAt.ne (A_111 hw) (A_106 hw) rfl)) (u291.f (Or.inl (mAt.ne (A_110 hw) (A_106 hw) rfl)) (u288.f (Or.inl (mAt.ne (A_110 hw) (A_106 hw) rfl)) q_f_t)))) ?_
        refine mr_iconst (pc := 112) (z := 1) dX12_tie_112 ?_
        refine ss_113 (pc := 113) dX12_tie_113 (A_113 hw) T298 (rIx (n := 20) h286 rfl) (rW (c := 0) (d := 1000) (rR (x := 1)) rfl) fun μ299 u300 T301 => ?_
        refine sv_aload_n (pc := 114) dX12_tie_114 rfl rfl ?_
        refine gf_X12_11 (pc := 115) dX12_tie_115 wF_X12_60 (A_106 hw) T301 ?_
        refine sv_aload_n (pc := 118) dX12_tie_118 rfl rfl ?_
        refine gk_X12_6 (pc := 119) dX12_tie_119 wF_X12_37 (A_106 hw) (u300.f (Or.inl (mAt.ne (A_113 hw) (A_106 hw) rfl)) (u297.f (Or.inl (mAt.ne (A_112 hw) (A_106 hw) rfl)) (u294.f (Or.inl (mAt.ne (A_111 hw) (A_106 hw) rfl)) (u291.f (Or.inl (mAt.ne (A_110 hw) (A_106 hw) rfl)) (u288.f (Or.inl (mAt.ne (A_110 hw) (A_106 hw) rfl)) q_f_t))))) ?_
        refine mr_iconst (pc := 122) (z := 0) dX12_tie_122 ?_
        refine ss_114 (pc := 123) dX12_tie_123 (A_114 hw) T301 (rIx (n := 20) h286 rfl) (rW (c := 0) (d := 1000) (rR (x := 0)) rfl) fun μ302 u303 T304 => ?_
        refine mr_iconst (pc := 124) (z := 0) dX12_tie_124 ?_
        refine mr_istore (pc := 125) (lv' := [(4, iv 0), (0, .ref 106), (1, iv p1), (2, iv p2), (3, iv p3)]) dX12_tie_125 (by decide) rfl ?_
        have L347 : ∀ (nL347 : Nat) (z345 : Int) (μ346 : mM), mT w μ346 → mF [115999] w μ302 μ346 → (0 ≤ z345 ∧ z345 ≤ 4) → JC l D c H0 sa μ346 → RP μ346 → PK μ346 → EV μ346 → pnT μ346 f_t z345 → TI μ μ346 f_t → (5 - z345) < (nL347 : Int) → sV (gG l D c H0 sa) mX12_tie (sRm 3 0 0) (sZ (gG l D c H0 sa) 0 0 (qI w [106006, 110999, 111999, 112999, 113999, 114999, 115999] μ (fun z μ1 => ((-2147483648) ≤ z ∧ z ≤ 2147483647) ∧ JC l D c H0 sa μ1 ∧ RP μ1 ∧ EP μ1 ∧ HP μ1 ∧ UP l D c H0 sa μ1 ∧ TE μ1 ∧ PK μ1 ∧ EV μ1 ∧ (tieA (noneQ (tr μ 0) (tr μ 1) f_t p1 p2) f_dm f_t p1 p2 p3 z) ∧ (tgR μ μ1 p1 p2 p3 z) ∧ (tuR μ μ1 z) ∧ True))) 127 [(0, .ref 106), (4, iv z345)] [] (mk w μ346) 0 0 := by
          intro nL347
          induction nL347 with
          | zero => intro z345 μ346 T349 F350 h348 I352 I353 I354 I355 R356 R357 h358; exact ((vc_X3_putPrefix_2 h358 h348)).elim
          | succ nL347 ih359 =>
            intro z345 μ346 T349 F350 h348 I352 I353 I354 I355 R356 R357 h358
            refine mr_iload (pc := 127) (z := z345) dX12_tie_127 rfl ?_
            refine mr_iconst (pc := 129) (z := 4) dX12_tie_129 ?_
            refine mr_icmp_ge (pc := 130) (tgt := 155) dX12_tie_130 (by decide) (r32 h348 rfl) (r32 (rR (x := 4)) rfl) (fun h365 => ?_) (fun h365 => ?_)
            · have h366 : 4 ≤ z345 ∧ z345 ≤ 4 := (vc_X12_addressRead_74 h365 h348)
              refine sv_aload_n (pc := 155) dX12_tie_155 rfl rfl ?_
              refine sv_dup (pc := 156) dX12_tie_156 rfl ?_
              refine gk_X12_6 (pc := 157) dX12_tie_157 wF_X12_37 (A_106 hw) (F350.f (A_106 hw) rfl (u303.f (Or.inl (mAt.ne (A_114 hw) (A_106 hw) rfl)) (u300.f (Or.inl (mAt.ne (A_113 hw) (A_106 hw) rfl)) (u297.f (Or.inl (mAt.ne (A_112 hw) (A_106 hw) rfl)) (u294.f (Or.inl (mAt.ne (A_111 hw) (A_106 hw) rfl)) (u291.f (Or.inl (mAt.ne (A_110 hw) (A_106 hw) rfl)) (u288.f (Or.inl (mAt.ne (A_110 hw) (A_106 hw) rfl)) q_f_t))))))) ?_
              refine mr_iconst (pc := 160) (z := 1) dX12_tie_160 ?_
              refine mr_iadd (pc := 161) (x := f_t) (y := 1) dX12_tie_161 ?_
              refine pf_X12_6 (pc := 162) dX12_tie_162 wF_X12_37 (A_106 hw) T349 (rW (c := 0) (d := 20) (rAdd (e := 1) (f := 20) h286 (rR (x := 1)) rfl) rfl) fun μ367 u368 T369 => ?_
              have I370 : EV μ367 := EV.grow I355 (F350.f (A_106 hw) rfl (u303.f (Or.inl (mAt.ne (A_114 hw) (A_106 hw) rfl)) (u300.f (Or.inl (mAt.ne (A_113 hw) (A_106 hw) rfl)) (u297.f (Or.inl (mAt.ne (A_112 hw) (A_106 hw) rfl)) (u294.f (Or.inl (mAt.ne (A_111 hw) (A_106 hw) rfl)) (u291.f (Or.inl (mAt.ne (A_110 hw) (A_106 hw) rfl)) (u288.f (Or.inl (mAt.ne (A_110 hw) (A_106 hw) rfl)) q_f_t))))))) u368 (vc_X12_tie_v_22 h285 h286)
              have I371 : PK μ367 := PK.grow I354 (F350.f (A_106 hw) rfl (u303.f (Or.inl (mAt.ne (A_114 hw) (A_106 hw) rfl)) (u300.f (Or.inl (mAt.ne (A_113 hw) (A_106 hw) rfl)) (u297.f (Or.inl (mAt.ne (A_112 hw) (A_106 hw) rfl)) (u294.f (Or.inl (mAt.ne (A_111 hw) (A_106 hw) rfl)) (u291.f (Or.inl (mAt.ne (A_110 hw) (A_106 hw) rfl)) (u288.f (Or.inl (mAt.ne (A_110 hw) (A_106 hw) rfl)) q_f_t))))))) u368 (vc_X12_tie_v_23 h285 h286) (vc_X12_tie_v_24 h285 h286) R356 (vc_X12_tie_v_25 h365 h366)
              have I372 : HP μ367 := TI.hp hIHP R357 q_f_t u368 (vc_X12_tie_v_23 h285 h286)
              have I373 : EP μ367 := TI.ep hIEP hIEV R357 q_f_t u368
              have I374 : TE μ367 := TI.te hITE R357 q_f_t (vc_X12_tie_v_24 h285 h286) u368 (vc_X12_tie_v_23 h285 h286) (u368.f (Or.inl (mAt.ne (A_106 hw) (A_110 hw) rfl)) (F350.f (A_110 hw) rfl (u303.f (Or.inl (mAt.ne (A_114 hw) (A_110 hw) rfl)) (u300.f (Or.inl (mAt.ne (A_113 hw) (A_110 hw) rfl)) (u297.f (Or.inl (mAt.ne (A_112 hw) (A_110 hw) rfl)) (u294.f (Or.inl (mAt.ne (A_111 hw) (A_110 hw) rfl)) (u291.f (Or.inr (vc_X12_tie_v_26 h285 h286)) u288.1))))))) (u368.f (Or.inl (mAt.ne (A_106 hw) (A_110 hw) rfl)) (F350.f (A_110 hw) rfl (u303.f (Or.inl (mAt.ne (A_114 hw) (A_110 hw) rfl)) (u300.f (Or.inl (mAt.ne (A_113 hw) (A_110 hw) rfl)) (u297.f (Or.inl (mAt.ne (A_112 hw) (A_110 hw) rfl)) (u294.f (Or.inl (mAt.ne (A_111 hw) (A_110 hw) rfl)) u291.1)))))) (u368.f (Or.inr (by decide)) (F350.f (A_106 hw) rfl (u303.f (Or.inl (mAt.ne (A_114 hw) (A_106 hw) rfl)) (u300.f (Or.inl (mAt.ne (A_113 hw) (A_106 hw) rfl)) (u297.f (Or.inl (mAt.ne (A_112 hw) (A_106 hw) rfl)) (u294.f (Or.inl (mAt.ne (A_111 hw) (A_106 hw) rfl)) (u291.f (Or.inl (mAt.ne (A_110 hw) (A_106 hw) rfl)) (u288.f (Or.inl (mAt.ne (A_110 hw) (A_106 hw) rfl)) q_f_dm)))))))) (vc_X12_tie_v_27 h249.2.1 h249.2.2.1 h255 h260.2.1 h260.2.2.1 h266 h268 h251 h262 ht_f_dm h256 h267 h254 h265)
              have I375 : UP l D c H0 sa μ367 := TI.upx hIUP hIHP R357 hw T369 I371 q_f_t (vc_X12_tie_v_24 h285 h286) u368 (vc_X12_tie_v_23 h285 h286)
              refine sv_aload_n (pc := 165) dX12_tie_165 rfl rfl ?_
              refine gk_X12_6 (pc := 166) dX12_tie_166 wF_X12_37 (A_106 hw) u368.1 ?_
              refine mr_iconst (pc := 169) (z := 1) dX12_tie_169 ?_
              refine mr_isub (pc := 170) (x := (f_t + 1)) (y := 1) dX12_tie_170 ?_
              exact mr_iret dX12_tie_171 rfl (le_t rfl) (le_t rfl) T369 (mF.up (mF.call (mF.up (mF.up (mF.up (mF.up (mF.up (mF.up mF.refl (A_110 hw) u288 rfl) (A_110 hw) u291 rfl) (A_111 hw) u294 rfl) (A_112 hw) u297 rfl) (A_113 hw) u300 rfl) (A_114 hw) u303 rfl) F350 rfl) (A_106 hw) u368 rfl) ⟨(rW (c := (-2147483648)) (d := 2147483647) (rSub (e := 0) (f := 19) (rAdd (e := 1) (f := 20) h286 (rR (x := 1)) rfl) (rR (x := 1)) rfl) rfl), (JC.keepJ I352 hw ((mF.up mF.refl (A_106 hw) u368 rfl) : mF [106006] w μ346 μ367) rfl), (RP.keep I353 hw ((mF.up mF.refl (A_106 hw) u368 rfl) : mF [106006] w μ346 μ367) rfl ((mG.upO mG.refl u368 rfl) : mG [] μ346 μ367) (fun _ h => absurd h List.not_mem_nil)), I373, I372, I375, I374, I371, I370, (Or.inr ⟨(by unfold tieB; exact (vc_X12_tie_v_28 h249.2.1 h249.2.2.1 h255 h260.2.1 h260.2.2.1 h266 h268 h272.2.1 h272.2.2.1 h276 h251 h262 h274 ht_f_dm h256 h267 h277 h254 h265 h275)), Or.inr ⟨((h281.2.2.1).not (by decide) (vc_X12_tie_v_29 h281.2.1 h283 h284)), Or.inr ⟨(vc_X12_tie_v_30 h285 h286), (vc_X12_tie_v_31 h285 h286)⟩⟩⟩), (tgR.add q_f_t (vc_X12_tie_v_32 h285 h286) u368.1 (vc_X12_tie_v_33 h249.2.1 h249.2.2.1 h255 h260.2.1 h260.2.2.1 h266 h268 h272.2.1 h272.2.2.1 h276 h285 h251 h262 h274 ht_f_dm h286 h256 h267 h277 h254 h265 h275) (u368.f (Or.inl (mAt.ne (A_106 hw) (A_110 hw) rfl)) (F350.f (A_110 hw) rfl (u303.f (Or.inl (mAt.ne (A_114 hw) (A_110 hw) rfl)) (u300.f (Or.inl (mAt.ne (A_113 hw) (A_110 hw) rfl)) (u297.f (Or.inl (mAt.ne (A_112 hw) (A_110 hw) rfl)) (u294.f (Or.inl (mAt.ne (A_111 hw) (A_110 hw) rfl)) (u291.f (Or.inr (vc_X12_tie_v_26 h285 h286)) u288.1))))))) (u368.f (Or.inl (mAt.ne (A_106 hw) (A_110 hw) rfl)) (F350.f (A_110 hw) rfl (u303.f (Or.inl (mAt.ne (A_114 hw) (A_110 hw) rfl)) (u300.f (Or.inl (mAt.ne (A_113 hw) (A_110 hw) rfl)) (u297.f (Or.inl (mAt.ne (A_112 hw) (A_110 hw) rfl)) (u294.f (Or.inl (mAt.ne (A_111 hw) (A_110 hw) rfl)) u291.1)))))) (u368.f (Or.inl (mAt.ne (A_106 hw) (A_111 hw) rfl)) (F350.f (A_111 hw) rfl (u303.f (Or.inl (mAt.ne (A_114 hw) (A_111 hw) rfl)) (u300.f (Or.inl (mAt.ne (A_113 hw) (A_111 hw) rfl)) (u297.f (Or.inl (mAt.ne (A_112 hw) (A_111 hw) rfl)) u294.1))))) (vc_X12_tie_v_34 h249.2.1 h249.2.2.1 h255 h260.2.1 h260.2.2.1 h266 h268 h272.2.1 h272.2.2.1 h276 h285 h251 h262 h274 ht_f_dm h286 h256 h267 h277 h254 h265 h275) (TI.trS R357 u368)), (tuR.add q_f_t (vc_X12_tie_v_32 h285 h286) (u368.f (Or.inl (mAt.ne (A_106 hw) (A_112 hw) rfl)) (F350.f (A_112 hw) rfl (u303.f (Or.inl (mAt.ne (A_114 hw) (A_112 hw) rfl)) (u300.f (Or.inl (mAt.ne (A_113 hw) (A_112 hw) rfl)) u297.1)))) vc_X12_tie_v_35 R357 u368), trivial⟩
            have h376 : 0 ≤ z345 ∧ z345 ≤ 3 := (vc_X12_addressRead_82 h365 h348)
            refine sv_aload_n (pc := 133) dX12_tie_133 rfl rfl ?_
            refine gf_X12_12 (pc := 134) dX12_tie_134 wF_X12_63 (A_106 hw) T349 ?_
            refine mr_iconst (pc := 137) (z := 4) dX12_tie_137 ?_
            refine sv_aload_n (pc := 138) dX12_tie_138 rfl rfl ?_
            refine gk_X12_6 (pc := 139) dX12_tie_139 wF_X12_37 (A_106 hw) (F350.f (A_106 hw) rfl (u303.f (Or.inl (mAt.ne (A_114 hw) (A_106 hw) rfl)) (u300.f (Or.inl (mAt.ne (A_113 hw) (A_106 hw) rfl)) (u297.f (Or.inl (mAt.ne (A_112 hw) (A_106 hw) rfl)) (u294.f (Or.inl (mAt.ne (A_111 hw) (A_106 hw) rfl)) (u291.f (Or.inl (mAt.ne (A_110 hw) (A_106 hw) rfl)) (u288.f (Or.inl (mAt.ne (A_110 hw) (A_106 hw) rfl)) q_f_t))))))) ?_
            refine mr_imul (pc := 142) (x := 4) (y := f_t) dX12_tie_142 ?_
            refine mr_iload (pc := 143) (z := z345) dX12_tie_143 rfl ?_
            refine mr_iadd (pc := 145) (x := (4 * f_t)) (y := z345) dX12_tie_145 ?_
            refine mr_ldc (pc := 146) (z := (-99999999)) dX12_tie_146 wG_X12_29 (by decide) ?_
            refine ss_115 (pc := 148) dX12_tie_148 (A_115 hw) T349 (rIx (n := 80) (rAdd (e := 0) (f := 79) (rMulL (n := 4) (e := 0) (f := 76) h286 rfl) h376 rfl) rfl) vc_X12_tie_v_37 fun μ377 u378 T379 => ?_
            obtain ⟨z380, q381⟩ : ∃ z, μ377 106 39 = z := ⟨_, rfl⟩
            have h382 : (0 ≤ z380 ∧ z380 ≤ 12) := by rw [← q381]; exact T379 106 106 (A_106 hw) 39
            have I383 : PK μ377 := PK.use I354 u378 (u378.2 106 39 (Or.inl (by decide)) ▸ q381) (vc_X12_tie_v_38 h382)
            refine mr_iinc (pc := 149) (lv' := [(4, iv (z345 + 1)), (0, .ref 106)]) dX12_tie_149 rfl (by decide) rfl ?_
            refine sv_goto (pc := 152) (tgt := 127) dX12_tie_152 (by decide) ?_
            refine mr_lvS (lv' := [(0, .ref 106), (4, iv (z345 + 1))]) (List.forall_mem_cons.mpr ⟨rfl, List.forall_mem_cons.mpr ⟨rfl, fun _ h => absurd h List.not_mem_nil⟩⟩) ?_
            exact ih359 (z345 + 1) μ377 T379 (mF.up (mF.call mF.refl F350 rfl) (A_115 hw) u378 rfl) (rW (c := 0) (d := 4) (rAdd (e := 1) (f := 4) h376 (rR (x := 1)) rfl) rfl) (JC.keepJ I352 hw ((mF.up mF.refl (A_115 hw) u378 rfl) : mF [115999] w μ346 μ377) rfl) (RP.keep I353 hw ((mF.up mF.refl (A_115 hw) u378 rfl) : mF [115999] w μ346 μ377) rfl ((mG.upO mG.refl u378 rfl) : mG [] μ346 μ377) (fun _ h => absurd h List.not_mem_nil)) I383 (EV.keep I355 hw ((mF.up mF.refl (A_115 hw) u378 rfl) : mF [115999] w μ346 μ377) rfl) (pnT.succ R356 u378 (vc_X12_tie_v_40 h285 h365 h286 h376) (vc_X12_tie_v_41 h285 h365 h286 h376) vc_X12_tie_v_42 (vc_X12_tie_v_43 h365 h376)) (TI.up R357 u378 (Or.inr (Or.inr (Or.inr (Or.inr (Or.inr ⟨rfl, (by have h := (vc_X12_tie_v_44 h285 h365 h286 h376); omega)⟩)))))) (vc_X12_message_u_87 (nS h358) h365 h376)
        refine mr_lvS (lv' := [(0, .ref 106), (4, iv 0)]) (List.forall_mem_cons.mpr ⟨rfl, List.forall_mem_cons.mpr ⟨rfl, fun _ h => absurd h List.not_mem_nil⟩⟩) ?_
        exact L347 6 0 μ302 T304 mF.refl (rW (c := 0) (d := 4) (rR (x := 0)) rfl) (JC.keepJ hIJC hw ((mF.up (mF.up (mF.up (mF.up (mF.up (mF.up mF.refl (A_110 hw) u288 rfl) (A_110 hw) u291 rfl) (A_111 hw) u294 rfl) (A_112 hw) u297 rfl) (A_113 hw) u300 rfl) (A_114 hw) u303 rfl) : mF [110999, 111999, 112999, 113999, 114999] w μ μ302) rfl) (RP.keep hIRP hw ((mF.up (mF.up (mF.up (mF.up (mF.up (mF.up mF.refl (A_110 hw) u288 rfl) (A_110 hw) u291 rfl) (A_111 hw) u294 rfl) (A_112 hw) u297 rfl) (A_113 hw) u300 rfl) (A_114 hw) u303 rfl) : mF [110999, 111999, 112999, 113999, 114999] w μ μ302) rfl ((mG.upO (mG.upO (mG.upO (mG.upO (mG.upO (mG.upO mG.refl u288 rfl) u291 rfl) u294 rfl) u297 rfl) u300 rfl) u303 rfl) : mG [] μ μ302) (fun _ h => absurd h List.not_mem_nil)) (PK.keep hIPK hw ((mF.up (mF.up (mF.up (mF.up (mF.up (mF.up mF.refl (A_110 hw) u288 rfl) (A_110 hw) u291 rfl) (A_111 hw) u294 rfl) (A_112 hw) u297 rfl) (A_113 hw) u300 rfl) (A_114 hw) u303 rfl) : mF [110999, 111999, 112999, 113999, 114999] w μ μ302) rfl) (EV.keep hIEV hw ((mF.up (mF.up (mF.up (mF.up (mF.up (mF.up mF.refl (A_110 hw) u288 rfl) (A_110 hw) u291 rfl) (A_111 hw) u294 rfl) (A_112 hw) u297 rfl) (A_113 hw) u300 rfl) (A_114 hw) u303 rfl) : mF [110999, 111999, 112999, 113999, 114999] w μ μ302) rfl) (pnT.zero vc_X3_forget_z_1) (TI.up (TI.up (TI.up (TI.up (TI.up (TI.up TI.refl u288 (Or.inl ⟨rfl, (by have h := (vc_X12_tie_v_47 h285 h286); omega)⟩)) u291 (Or.inl ⟨rfl, (by have h := (vc_X12_tie_v_48 h285 h286); omega)⟩)) u294 (Or.inr (Or.inl ⟨rfl, (by have h := (vc_X12_tie_v_49 h285 h286); omega)⟩))) u297 (Or.inr (Or.inr (Or.inl ⟨rfl, (by have h := (vc_X12_tie_v_49 h285 h286); omega)⟩)))) u300 (Or.inr (Or.inr (Or.inr (Or.inl rfl))))) u303 (Or.inr (Or.inr (Or.inr (Or.inr (Or.inl rfl)))))) vc_X12_prefixOut_14
      have h384 : 20 ≤ f_t ∧ f_t ≤ 20 := (vc_X12_walk_6 h285 ht_f_t)
      refine mr_bipush (pc := 55) (z := (-3)) dX12_tie_55 (by decide) ?_
      exact mr_iret dX12_tie_57 rfl (le_t rfl) (le_t rfl) hT mF.refl ⟨(rW (c := (-2147483648)) (d := 2147483647) (rR (x := (-3))) rfl), hIJC, hIRP, hIEP, hIHP, hIUP, hITE, hIPK, hIEV, (Or.inr ⟨(by unfold tieB; exact (vc_X12_tie_v_28 h249.2.1 h249.2.2.1 h255 h260.2.1 h260.2.2.1 h266 h268 h272.2.1 h272.2.2.1 h276 h251 h262 h274 ht_f_dm h256 h267 h277 h254 h265 h275)), Or.inr ⟨((h281.2.2.1).not (by decide) (vc_X12_tie_v_29 h281.2.1 h283 h284)), Or.inl ⟨(vc_X12_tie_v_51 h285 h384), rfl⟩⟩⟩), (Or.inr ⟨vc_X12_tie_v_52, rfl⟩), (Or.inr ⟨vc_X12_tie_v_52, rfl⟩), trivial⟩
    have h385 : 0 ≤ z282 ∧ z282 ≤ 19 := (vc_X12_provides_2 h283 h281.2.1 h281.1)
    refine mr_bipush (pc := 43) (z := (-2)) dX12_tie_43 (by decide) ?_
    exact mr_iret dX12_tie_45 rfl (le_t rfl) (le_t rfl) hT mF.refl ⟨(rW (c := (-2147483648)) (d := 2147483647) (rR (x := (-2))) rfl), hIJC, hIRP, hIEP, hIHP, hIUP, hITE, hIPK, hIEV, (Or.inr ⟨(by unfold tieB; exact (vc_X12_tie_v_28 h249.2.1 h249.2.2.1 h255 h260.2.1 h260.2.2.1 h266 h268 h272.2.1 h272.2.2.1 h276 h251 h262 h274 ht_f_dm h256 h267 h277 h254 h265 h275)), Or.inl ⟨(h281.2.2.1).has (vc_X12_look_u_6 h281.2.1 h283 h385), rfl⟩⟩), (Or.inr ⟨vc_X12_tie_v_55, rfl⟩), (Or.inr ⟨vc_X12_tie_v_55, rfl⟩), trivial⟩
  have h386 : 0 ≤ z273 ∧ z273 ≤ 0 := (vc_X12_units_9 h274 h272.2.1 h272.2.2.1 hp3 h272.1)
  have h387 : p3 < (0 : Int) ∨ (2 : Int) < p3 := (h272.2.2.1 (vc_X12_units_10 h272.2.1 h272.2.2.1 h274 hp3 h386))
  refine mr_iconst (pc := 30) (z := (-1)) dX12_tie_30 ?_
  exact mr_iret dX12_tie_31 rfl (le_t rfl) (le_t rfl) hT mF.refl ⟨(rW (c := (-2147483648)) (d := 2147483647) (rR (x := (-1))) rfl), hIJC, hIRP, hIEP, hIHP, hIUP, hITE, hIPK, hIEV, (Or.inl ⟨(by unfold tieB; exact (vc_X12_tie_v_58 h249.2.1 h249.2.2.1 h255 h260.2.1 h260.2.2.1 h266 h268 h272.2.1 h272.2.2.1 h387 h251 h262 h274 ht_f_dm h256 h267 hp3 h254 h265 h386)), rfl⟩), (Or.inr ⟨vc_X12_doEvent_u_11, rfl⟩), (Or.inr ⟨vc_X12_doEvent_u_11, rfl⟩), trivial⟩
theorem vc_X8_silence_v_4 {n1 p1 z262 : Int} (h0 : z262 = ((((40 * p1) + (20 * 0)) + (2 * 0)) + 0)) (h1 : p1 < n1) (h2 : 0 ≤ p1 ∧ p1 ≤ 19) (h3 : 0 ≤ z262 ∧ z262 ≤ 839) : 0 ≤ z262 ∧ z262 ≤ 760 := by omega
theorem vc_X8_silence_v_5 {n1 p1 z262 z268 : Int} (h0 : z268 = ((((40 * (p1 + 1)) + (20 * 0)) + (2 * 0)) + 0)) (h1 : p1 < n1) (h2 : z262 = ((((40 * p1) + (20 * 0)) + (2 * 0)) + 0)) (h3 : 0 ≤ p1 ∧ p1 ≤ 19) (h4 : 0 ≤ z262 ∧ z262 ≤ 760) (h5 : 0 ≤ z268 ∧ z268 ≤ 839) : 40 ≤ z268 ∧ z268 ≤ 800 := by omega
theorem vc_X8_silence_v_7 {p1 z268 z310 : Int} (h0 : z268 ≤ z310) (h1 : z268 = ((((40 * (p1 + 1)) + (20 * 0)) + (2 * 0)) + 0)) (h2 : 0 ≤ p1 ∧ p1 ≤ 19) (h3 : 40 ≤ z268 ∧ z268 ≤ 800) (h4 : 0 ≤ z310 ∧ z310 ≤ 800) : 40 ≤ z310 ∧ z310 ≤ 800 := by omega
theorem vc_X8_silence_v_8 {p1 z268 z310 : Int} (h0 : z310 < z268) (h1 : z268 = ((((40 * (p1 + 1)) + (20 * 0)) + (2 * 0)) + 0)) (h2 : 0 ≤ p1 ∧ p1 ≤ 19) (h3 : 40 ≤ z268 ∧ z268 ≤ 800) (h4 : 0 ≤ z310 ∧ z310 ≤ 800) : 0 ≤ z310 ∧ z310 ≤ 799 := by omega
theorem vc_X8_silence_v_9 {N p1 z268 z310 : Int} (h0 : (801 - z310) < N + 1) (h1 : z310 < z268) (h2 : z268 = ((((40 * (p1 + 1)) + (20 * 0)) + (2 * 0)) + 0)) (h3 : 0 ≤ p1 ∧ p1 ≤ 19) (h4 : 40 ≤ z268 ∧ z268 ≤ 800) (h5 : 0 ≤ z310 ∧ z310 ≤ 799) : (801 - (z310 + 1)) < N := by omega
theorem vc_X8_silence_v_10 {n1 p1 z262 z268 : Int} (h0 : z262 = ((((40 * p1) + (20 * 0)) + (2 * 0)) + 0)) (h1 : p1 < n1) (h2 : z268 = ((((40 * (p1 + 1)) + (20 * 0)) + (2 * 0)) + 0)) (h3 : 0 ≤ p1 ∧ p1 ≤ 19) (h4 : 0 ≤ z262 ∧ z262 ≤ 760) (h5 : 40 ≤ z268 ∧ z268 ≤ 800) : (801 - z262) < ((802 : Nat) : Int) := by omega
theorem vc_X8_silence_v_12 {N z229 : Int} (h0 : (21 - z229) < N + 1) (h1 : z229 < 20) (h2 : 0 ≤ z229 ∧ z229 ≤ 19) : (21 - (z229 + 1)) < N := by omega
set_option maxRecDepth 4000 in
set_option maxHeartbeats 4000000 in
theorem c_X8_silence_v {l : Launch} {D : va_G} {c : Nat → ClassId} {H0 : Heap} {sa : Nat × Nat × (Nat → Int32)} {w : mW} {μ : mM} (hw : mWF w) (hT : mT w μ) {p1 : Int} (hp1 : 0 ≤ p1 ∧ p1 ≤ 19) (hq0 : p1 < w.2.2.2 1) : sC (gG l D c H0 sa) mX8_silence 4 0 0 [.ref 32, iv p1] (mk w μ) (qV w [32010, 33999, 34999, 200002, 200009, 220006] μ (fun μ1 => (siC w μ μ1 p1) ∧ True)) := by
  refine sC.of rfl (by decide) (le_t rfl) ?_
  refine mr_lvE (lv' := [(0, .ref 32), (1, iv p1)]) rfl ?_
  refine sv_aload_n (pc := 0) dX8_silence_0 rfl rfl ?_
  refine gf_X8_0 (pc := 1) dX8_silence_1 wF_X8_9 (A_32 hw) hT ?_
  refine gf_X10_4 (pc := 4) dX8_silence_4 wF_X8_76 (A_6 hw) hT ?_
  refine mr_iload_n (pc := 7) (z := p1) dX8_silence_7 rfl rfl ?_
  refine la_11 (pc := 8) dX8_silence_8 (A_11 hw) hT (rIx (n := 20) hp1 rfl) (vc_X8_say_1 hq0 hp1) fun b1 q2 A3 => ?_
  refine mr_astore_n (pc := 9) (lv' := [(2, .ref b1), (0, .ref 32), (1, iv p1)]) dX8_silence_9 rfl (by decide) rfl ?_
  refine sv_aload_n (pc := 10) dX8_silence_10 rfl rfl ?_
  refine mr_iconst (pc := 11) (z := 0) dX8_silence_11 ?_
  refine pf_X9_6 (pc := 12) dX8_silence_12 wF_X8_136 A3 hT (rW (c := 0) (d := 1) (rR (x := 0)) rfl) fun μ4 u5 T6 => ?_
  refine mr_iconst (pc := 15) (z := 0) dX8_silence_15 ?_
  refine mr_istore_n (pc := 16) (lv' := [(3, iv 0), (2, .ref b1), (0, .ref 32), (1, iv p1)]) dX8_silence_16 rfl (by decide) rfl ?_
  have L231 : ∀ (nL231 : Nat) (z229 : Int) (μ230 : mM), mT w μ230 → mF [200002, 200009] w μ4 μ230 → (0 ≤ z229 ∧ z229 ≤ 20) → (21 - z229) < (nL231 : Int) → sV (gG l D c H0 sa) mX8_silence (sRm 4 0 0) (sZ (gG l D c H0 sa) 0 0 (qV w [32010, 33999, 34999, 200002, 200009, 220006] μ (fun μ1 => (siC w μ μ1 p1) ∧ True))) 17 [(0, .ref 32), (1, iv p1), (2, .ref b1), (3, iv z229)] [] (mk w μ230) 0 0 := by
    intro nL231
    induction nL231 with
    | zero => intro z229 μ230 T233 F234 h232 h236; exact ((vc_X12_feed_2 h236 h232)).elim
    | succ nL231 ih237 =>
      intro z229 μ230 T233 F234 h232 h236
      refine mr_iload_n (pc := 17) (z := z229) dX8_silence_17 rfl rfl ?_
      refine mr_bipush (pc := 18) (z := 20) dX8_silence_18 (by decide) ?_
      refine mr_icmp_ge (pc := 20) (tgt := 47) dX8_silence_20 (by decide) (r32 h232 rfl) (r32 (rR (x := 20)) rfl) (fun h256 => ?_) (fun h256 => ?_)
      · have h257 : 20 ≤ z229 ∧ z229 ≤ 20 := (vc_X12_feed_3 h256 h232)
        refine mr_iload_n (pc := 47) (z := p1) dX8_silence_47 rfl rfl ?_
        refine mr_iconst (pc := 48) (z := 0) dX8_silence_48 ?_
        refine mr_iconst (pc := 49) (z := 0) dX8_silence_49 ?_
        refine mr_iconst (pc := 50) (z := 0) dX8_silence_50 ?_
        refine mr_cSP (pc := 51) (c_X8_slotOf hw T233 (rW (c := 0) (d := 20) hp1 rfl) (rW (c := 0) (d := 1) (rR (x := 0)) rfl) (rW (c := 0) (d := 9) (rR (x := 0)) rfl) (rW (c := 0) (d := 1) (rR (x := 0)) rfl)) (gOk _ _ _ _ _) dX8_silence_51 (tX8_slotOf _ _ _ _ _) wS_X8_slotOf wM_X8_143 ⟨le_t rfl, le_t rfl⟩ ⟨le_t rfl, le_t rfl⟩ rfl (le_t rfl) fun z262 h261 => ?_
        have h263 : 0 ≤ z262 ∧ z262 ≤ 760 := (vc_X8_silence_v_4 h261.2.1 hq0 hp1 h261.1)
        refine mr_istore_n (pc := 54) (lv' := [(3, iv z262), (0, .ref 32), (1, iv p1), (2, .ref b1)]) dX8_silence_54 rfl (by decide) rfl ?_
        refine mr_iload_n (pc := 55) (z := p1) dX8_silence_55 rfl rfl ?_
        refine mr_iconst (pc := 56) (z := 1) dX8_silence_56 ?_
        refine mr_iadd (pc := 57) (x := p1) (y := 1) dX8_silence_57 ?_
        refine mr_iconst (pc := 58) (z := 0) dX8_silence_58 ?_
        refine mr_iconst (pc := 59) (z := 0) dX8_silence_59 ?_
        refine mr_iconst (pc := 60) (z := 0) dX8_silence_60 ?_
        refine mr_cSP (pc := 61) (c_X8_slotOf hw T233 (rW (c := 0) (d := 20) (rAdd (e := 1) (f := 20) hp1 (rR (x := 1)) rfl) rfl) (rW (c := 0) (d := 1) (rR (x := 0)) rfl) (rW (c := 0) (d := 9) (rR (x := 0)) rfl) (rW (c := 0) (d := 1) (rR (x := 0)) rfl)) (gOk _ _ _ _ _) dX8_silence_61 (tX8_slotOf _ _ _ _ _) wS_X8_slotOf wM_X8_143 ⟨le_t rfl, le_t rfl⟩ ⟨le_t rfl, le_t rfl⟩ rfl (le_t rfl) fun z268 h267 => ?_
        have h269 : 40 ≤ z268 ∧ z268 ≤ 800 := (vc_X8_silence_v_5 h267.2.1 hq0 h261.2.1 hp1 h263 h267.1)
        refine mr_istore (pc := 64) (lv' := [(4, iv z268), (3, iv z262), (0, .ref 32), (1, iv p1), (2, .ref b1)]) dX8_silence_64 (by decide) rfl ?_
        refine mr_iload_n (pc := 66) (z := z262) dX8_silence_66 rfl rfl ?_
        refine mr_istore (pc := 67) (lv' := [(5, iv z262), (4, iv z268), (3, iv z262), (0, .ref 32), (1, iv p1), (2, .ref b1)]) dX8_silence_67 (by decide) rfl ?_
        have L312 : ∀ (nL312 : Nat) (z310 : Int) (μ311 : mM), mT w μ311 → mF [32010, 33999, 34999] w μ230 μ311 → (0 ≤ z310 ∧ z310 ≤ 800) → (801 - z310) < (nL312 : Int) → sV (gG l D c H0 sa) mX8_silence (sRm 4 0 0) (sZ (gG l D c H0 sa) 0 0 (qV w [32010, 33999, 34999, 200002, 200009, 220006] μ (fun μ1 => (siC w μ μ1 p1) ∧ True))) 69 [(0, .ref 32), (4, iv z268), (5, iv z310)] [] (mk w μ311) 0 0 := by
          intro nL312
          induction nL312 with
          | zero => intro z310 μ311 T314 F315 h313 h317; exact ((vc_X8_cancel_2 h317 h313)).elim
          | succ nL312 ih318 =>
            intro z310 μ311 T314 F315 h313 h317
            refine mr_iload (pc := 69) (z := z310) dX8_silence_69 rfl ?_
            refine mr_iload (pc := 71) (z := z268) dX8_silence_71 rfl ?_
            refine mr_icmp_ge (pc := 73) (tgt := 88) dX8_silence_73 (by decide) (r32 h313 rfl) (r32 h269 rfl) (fun h325 => ?_) (fun h325 => ?_)
            · have h326 : 40 ≤ z310 ∧ z310 ≤ 800 := (vc_X8_silence_v_7 h325 h267.2.1 hp1 h269 h313)
              exact mr_vret dX8_silence_88 rfl (le_t rfl) (le_t rfl) T314 (mF.call (mF.call (mF.up mF.refl A3 u5 rfl) F234 rfl) F315 rfl) ⟨⟨b1, q2, (oneF.fr (oneF.fr (oneF.up oneF.refl u5) F234 rfl rfl) F315 rfl rfl), (F315.f A3 rfl (F234.f A3 rfl u5.1))⟩, trivial⟩
            have h327 : 0 ≤ z310 ∧ z310 ≤ 799 := (vc_X8_silence_v_8 h325 h267.2.1 hp1 h269 h313)
            refine sv_aload_n (pc := 76) dX8_silence_76 rfl rfl ?_
            refine mr_iload (pc := 77) (z := z310) dX8_silence_77 rfl ?_
            refine mr_cVV (pc := 79) (c_X8_cancel hw T314 h327) (gOk _ _ _ _ _) dX8_silence_79 (tX8_cancel _ _ _ _ _) ⟨wV_X8_cancel, wL_X8_cancel⟩ wM_X8_65 (gCX8 _ _ _ _ _) rfl (A_32 hw) rfl ⟨le_t rfl, le_t rfl⟩ ⟨le_t rfl, le_t rfl⟩ rfl (le_t rfl) fun μ328 T329 F330 h331 => ?_
            refine mr_iinc (pc := 82) (lv' := [(5, iv (z310 + 1)), (0, .ref 32), (4, iv z268)]) dX8_silence_82 rfl (by decide) rfl ?_
            refine sv_goto (pc := 85) (tgt := 69) dX8_silence_85 (by decide) ?_
            refine mr_lvS (lv' := [(0, .ref 32), (4, iv z268), (5, iv (z310 + 1))]) (List.forall_mem_cons.mpr ⟨rfl, List.forall_mem_cons.mpr ⟨rfl, List.forall_mem_cons.mpr ⟨rfl, fun _ h => absurd h List.not_mem_nil⟩⟩⟩) ?_
            exact ih318 (z310 + 1) μ328 T329 (mF.call (mF.call mF.refl F315 rfl) F330 rfl) (rW (c := 0) (d := 800) (rAdd (e := 1) (f := 800) h327 (rR (x := 1)) rfl) rfl) (vc_X8_silence_v_9 (nS h317) h325 h267.2.1 hp1 h269 h327)
        refine mr_lvS (lv' := [(0, .ref 32), (4, iv z268), (5, iv z262)]) (List.forall_mem_cons.mpr ⟨rfl, List.forall_mem_cons.mpr ⟨rfl, List.forall_mem_cons.mpr ⟨rfl, fun _ h => absurd h List.not_mem_nil⟩⟩⟩) ?_
        exact L312 802 z262 μ230 T233 mF.refl (rW (c := 0) (d := 800) h263 rfl) (vc_X8_silence_v_10 h261.2.1 hq0 h267.2.1 hp1 h263 h269)
      have h332 : 0 ≤ z229 ∧ z229 ≤ 19 := (vc_X12_feed_4 h256 h232)
      refine sv_aload_n (pc := 23) dX8_silence_23 rfl rfl ?_
      refine gf_X9_4 (pc := 24) dX8_silence_24 wF_X8_96 A3 T233 fun A333 => ?_
      refine mr_iload_n (pc := 27) (z := z229) dX8_silence_27 rfl rfl ?_
      refine la_222 (pc := 28) dX8_silence_28 A333 T233 (rIx (n := 20) h332 rfl) fun b334 q335 A336 => ?_
      refine mr_cVV (pc := 29) (c_X7_vanish hw T233 A336) (gOk _ _ _ _ _) dX8_silence_29 (tX7_vanish _ _ _ _ _) ⟨wV_X7_vanish, wL_X7_vanish⟩ wM_X8_140 (gCX7 _ _ _ _ _) rfl A336 rfl ⟨le_t rfl, le_t rfl⟩ ⟨le_t rfl, le_t rfl⟩ rfl (le_t rfl) fun μ337 T338 F339 h340 => ?_
      refine sv_aload_n (pc := 32) dX8_silence_32 rfl rfl ?_
      refine gf_X9_5 (pc := 33) dX8_silence_33 wF_X8_103 A3 T338 fun A341 => ?_
      refine mr_iload_n (pc := 36) (z := z229) dX8_silence_36 rfl rfl ?_
      refine la_223 (pc := 37) dX8_silence_37 A341 T338 (rIx (n := 20) h332 rfl) fun b342 q343 A344 => ?_
      refine mr_cVV (pc := 38) (c_X7_vanish hw T338 A344) (gOk _ _ _ _ _) dX8_silence_38 (tX7_vanish _ _ _ _ _) ⟨wV_X7_vanish, wL_X7_vanish⟩ wM_X8_140 (gCX7 _ _ _ _ _) rfl A344 rfl ⟨le_t rfl, le_t rfl⟩ ⟨le_t rfl, le_t rfl⟩ rfl (le_t rfl) fun μ345 T346 F347 h348 => ?_
      refine mr_iinc (pc := 41) (lv' := [(3, iv (z229 + 1)), (0, .ref 32), (1, iv p1), (2, .ref b1)]) dX8_silence_41 rfl (by decide) rfl ?_
      refine sv_goto (pc := 44) (tgt := 17) dX8_silence_44 (by decide) ?_
      refine mr_lvS (lv' := [(0, .ref 32), (1, iv p1), (2, .ref b1), (3, iv (z229 + 1))]) (List.forall_mem_cons.mpr ⟨rfl, List.forall_mem_cons.mpr ⟨rfl, List.forall_mem_cons.mpr ⟨rfl, List.forall_mem_cons.mpr ⟨rfl, fun _ h => absurd h List.not_mem_nil⟩⟩⟩⟩) ?_
      exact ih237 (z229 + 1) μ345 T346 (mF.call (mF.call (mF.call mF.refl F234 rfl) F339 rfl) F347 rfl) (rW (c := 0) (d := 20) (rAdd (e := 1) (f := 20) h332 (rR (x := 1)) rfl) rfl) (vc_X8_silence_v_12 (nS h236) h256 h332)
  refine mr_lvS (lv' := [(0, .ref 32), (1, iv p1), (2, .ref b1), (3, iv 0)]) (List.forall_mem_cons.mpr ⟨rfl, List.forall_mem_cons.mpr ⟨rfl, List.forall_mem_cons.mpr ⟨rfl, List.forall_mem_cons.mpr ⟨rfl, fun _ h => absurd h List.not_mem_nil⟩⟩⟩⟩) ?_
  exact L231 22 0 μ4 T6 mF.refl (rW (c := 0) (d := 20) (rR (x := 0)) rfl) vc_X12_feed_15
theorem vc_X11_raise_v_1 {f_t p1 z197 : Int} (h0 : ¬ z197 = 0) (h1 : (z197 = 1 → 0 ≤ p1 ∧ p1 < f_t)) (h2 : (z197 = 0 → p1 < 0 ∨ f_t ≤ p1)) (h3 : 0 ≤ f_t ∧ f_t ≤ 20) (h4 : (-2147483648) ≤ p1 ∧ p1 ≤ 2147483647) (h5 : 0 ≤ z197 ∧ z197 ≤ 1) : 1 ≤ z197 ∧ z197 ≤ 1 := by omega
theorem vc_X11_raise_v_2 {f_t n1 p1 z197 : Int} (h0 : (z197 = 1 → 0 ≤ p1 ∧ p1 < f_t)) (h1 : (z197 = 0 → p1 < 0 ∨ f_t ≤ p1)) (h2 : ¬ z197 = 0) (h3 : f_t = n1) (h4 : 0 ≤ f_t ∧ f_t ≤ 20) (h5 : (-2147483648) ≤ p1 ∧ p1 ≤ 2147483647) (h6 : 1 ≤ z197 ∧ z197 ≤ 1) : z197 = 1 := by omega
theorem vc_X11_raise_v_3 {f_t n1 p1 z197 : Int} (h0 : 0 ≤ p1 ∧ p1 < f_t) (h1 : f_t = n1) (h2 : (z197 = 1 → 0 ≤ p1 ∧ p1 < f_t)) (h3 : (z197 = 0 → p1 < 0 ∨ f_t ≤ p1)) (h4 : 0 ≤ f_t ∧ f_t ≤ 20) (h5 : (-2147483648) ≤ p1 ∧ p1 ≤ 2147483647) (h6 : 1 ≤ z197 ∧ z197 ≤ 1) : 0 ≤ p1 ∧ p1 ≤ 19 := by omega
theorem vc_X11_raise_v_4 {f_t n1 p1 z197 : Int} (h0 : f_t = n1) (h1 : (z197 = 1 → 0 ≤ p1 ∧ p1 < f_t)) (h2 : (z197 = 0 → p1 < 0 ∨ f_t ≤ p1)) (h3 : 0 ≤ p1 ∧ p1 < f_t) (h4 : ¬ z197 = 0) (h5 : 0 ≤ f_t ∧ f_t ≤ 20) (h6 : 0 ≤ p1 ∧ p1 ≤ 19) (h7 : 1 ≤ z197 ∧ z197 ≤ 1) : p1 < n1 := by omega
theorem vc_X11_raise_v_7 (h0 : (0 : Int) = (1 : Int)) : False := by omega
theorem vc_X11_raise_v_8 {f_t n1 p1 z197 : Int} (h0 : (z197 = 1 → 0 ≤ p1 ∧ p1 < f_t)) (h1 : (z197 = 0 → p1 < 0 ∨ f_t ≤ p1)) (h2 : 0 ≤ p1 ∧ p1 < f_t) (h3 : f_t = n1) (h4 : ¬ z197 = 0) (h5 : 0 ≤ f_t ∧ f_t ≤ 20) (h6 : 0 ≤ p1 ∧ p1 ≤ 19) (h7 : 1 ≤ z197 ∧ z197 ≤ 1) : 0 ≤ p1 := by omega
theorem vc_X11_raise_v_9 {f_t n1 p1 z197 : Int} (h0 : f_t = n1) (h1 : (z197 = 1 → 0 ≤ p1 ∧ p1 < f_t)) (h2 : (z197 = 0 → p1 < 0 ∨ f_t ≤ p1)) (h3 : 0 ≤ p1 ∧ p1 < f_t) (h4 : ¬ z197 = 0) (h5 : 0 ≤ f_t ∧ f_t ≤ 20) (h6 : 0 ≤ p1 ∧ p1 ≤ 19) (h7 : 1 ≤ z197 ∧ z197 ≤ 1) : p1 < f_t := by omega
theorem vc_X11_raise_v_10 {z205 : Int} (h0 : z205 = 0) (h1 : 0 ≤ z205 ∧ z205 ≤ 0) : (0 : Int) = z205 := by omega
theorem vc_X11_raise_v_11 {p2 z205 : Int} (h0 : z205 = 0) (h1 : p2 = 0) (h2 : 0 ≤ p2 ∧ p2 ≤ 0) (h3 : 0 ≤ z205 ∧ z205 ≤ 0) : z205 = p2 := by omega
theorem vc_X11_raise_v_13 {p2 z205 : Int} (h0 : z205 = 0) (h1 : ¬ p2 = 0) (h2 : 1 ≤ p2 ∧ p2 ≤ 1) (h3 : 0 ≤ z205 ∧ z205 ≤ 0) : (1 : Int) = p2 := by omega
theorem vc_X11_raise_v_18 {z205 : Int} (h0 : ¬ z205 = 0) (h1 : 1 ≤ z205 ∧ z205 ≤ 1) : (1 : Int) = z205 := by omega
theorem vc_X11_raise_v_19 {p2 z205 : Int} (h0 : ¬ z205 = 0) (h1 : p2 = 0) (h2 : 0 ≤ p2 ∧ p2 ≤ 0) (h3 : 1 ≤ z205 ∧ z205 ≤ 1) : (0 : Int) = p2 := by omega
theorem vc_X11_raise_v_20 {p2 z205 : Int} (h0 : ¬ z205 = 0) (h1 : ¬ p2 = 0) (h2 : 1 ≤ p2 ∧ p2 ≤ 1) (h3 : 1 ≤ z205 ∧ z205 ≤ 1) : (1 : Int) = p2 := by omega
theorem vc_X11_raise_v_21 {f_t p1 z197 : Int} (h0 : z197 = 0) (h1 : (z197 = 1 → 0 ≤ p1 ∧ p1 < f_t)) (h2 : (z197 = 0 → p1 < 0 ∨ f_t ≤ p1)) (h3 : 0 ≤ f_t ∧ f_t ≤ 20) (h4 : (-2147483648) ≤ p1 ∧ p1 ≤ 2147483647) (h5 : 0 ≤ z197 ∧ z197 ≤ 1) : 0 ≤ z197 ∧ z197 ≤ 0 := by omega
theorem vc_X11_raise_v_22 {f_t n1 p1 z197 : Int} (h0 : (z197 = 1 → 0 ≤ p1 ∧ p1 < f_t)) (h1 : (z197 = 0 → p1 < 0 ∨ f_t ≤ p1)) (h2 : z197 = 0) (h3 : f_t = n1) (h4 : 0 ≤ f_t ∧ f_t ≤ 20) (h5 : (-2147483648) ≤ p1 ∧ p1 ≤ 2147483647) (h6 : 0 ≤ z197 ∧ z197 ≤ 0) : z197 = 0 := by omega
theorem vc_X11_raise_v_23 {f_t n1 p1 z197 : Int} (h0 : f_t = n1) (h1 : (z197 = 1 → 0 ≤ p1 ∧ p1 < f_t)) (h2 : (z197 = 0 → p1 < 0 ∨ f_t ≤ p1)) (h3 : p1 < 0 ∨ f_t ≤ p1) (h4 : z197 = 0) (h5 : 0 ≤ f_t ∧ f_t ≤ 20) (h6 : (-2147483648) ≤ p1 ∧ p1 ≤ 2147483647) (h7 : 0 ≤ z197 ∧ z197 ≤ 0) : p1 < 0 ∨ f_t ≤ p1 := by omega
set_option maxRecDepth 4000 in
set_option maxHeartbeats 4000000 in
theorem c_X11_raise_v {l : Launch} {D : va_G} {c : Nat → ClassId} {H0 : Heap} {sa : Nat × Nat × (Nat → Int32)} {w : mW} {μ : mM} (hw : mWF w) (hT : mT w μ) {p1 : Int} (hp1 : (-2147483648) ≤ p1 ∧ p1 ≤ 2147483647) {p2 : Int} (hp2 : 0 ≤ p2 ∧ p2 ≤ 1) {f_t : Int} (q_f_t : μ 6 16 = f_t) (hIPC : PC w μ) : sC (gG l D c H0 sa) mX11_raise 44 0 0 [.ref 0, iv p1, iv p2] (mk w μ) (qI w [21002, 21003, 21004, 21005, 21006, 21007, 32009, 32010, 33999, 34999, 66999, 200002, 200003, 200004, 200005, 200006, 200007, 200008, 200009, 200010, 200011, 201999, 202999, 213999, 220006] μ (fun z μ1 => ((-2147483648) ≤ z ∧ z ≤ 2147483647) ∧ (riC w μ μ1 f_t p1 p2 z) ∧ True)) := by
  refine sC.of rfl (by decide) (le_t rfl) ?_
  have ht_f_t : (f_t = w.2.2.2 1 ∧ 0 ≤ f_t ∧ f_t ≤ 20) := by rw [← q_f_t]; exact hT 6 6 (A_6 hw) 16
  refine mr_lvE (lv' := [(0, .ref 0), (1, iv p1), (2, iv p2)]) rfl ?_
  refine sv_aload_n (pc := 0) dX11_raise_0 rfl rfl ?_
  refine mr_iload_n (pc := 1) (z := p1) dX11_raise_1 rfl rfl ?_
  refine mr_cVP (pc := 2) (c_X11_isTie hw hT hp1 q_f_t) (gOk _ _ _ _ _) dX11_raise_2 (tX11_isTie _ _ _ _ _) ⟨wV_X11_isTie, wL_X11_isTie⟩ wM_X11_119 (gCX11 _ _ _ _ _) rfl (A_0 hw) rfl ⟨le_t rfl, le_t rfl⟩ ⟨le_t rfl, le_t rfl⟩ rfl (le_t rfl) fun z197 h196 => ?_
  refine mr_if_ne (pc := 5) (tgt := 10) dX11_raise_5 (by decide) (r32 h196.1 rfl) (fun h198 => ?_) (fun h198 => ?_)
  · have h199 : 1 ≤ z197 ∧ z197 ≤ 1 := (vc_X11_raise_v_1 h198 h196.2.1 h196.2.2.1 ht_f_t.2 hp1 h196.1)
    have h200 : 0 ≤ p1 ∧ p1 < f_t := (h196.2.1 (vc_X11_raise_v_2 h196.2.1 h196.2.2.1 h198 ht_f_t.1 ht_f_t.2 hp1 h199))
    have h201 : 0 ≤ p1 ∧ p1 ≤ 19 := (vc_X11_raise_v_3 h200 ht_f_t.1 h196.2.1 h196.2.2.1 ht_f_t.2 hp1 h199)
    refine sv_aload_n (pc := 10) dX11_raise_10 rfl rfl ?_
    refine gf_X11_3 (pc := 11) dX11_raise_11 wF_X11_26 (A_0 hw) hT ?_
    refine gf_X10_4 (pc := 14) dX11_raise_14 wF_X11_122 (A_6 hw) hT ?_
    refine mr_iload_n (pc := 17) (z := p1) dX11_raise_17 rfl rfl ?_
    refine la_11 (pc := 18) dX11_raise_18 (A_11 hw) hT (rIx (n := 20) h201 rfl) (vc_X11_raise_v_4 ht_f_t.1 h196.2.1 h196.2.2.1 h200 h198 ht_f_t.2 h201 h199) fun b202 q203 A204 => ?_
    refine gf_X9_6 (pc := 19) dX11_raise_19 wF_X11_134 A204 hT fun z205 q206 h207 => ?_
    refine mr_if_eq (pc := 22) (tgt := 29) dX11_raise_22 (by decide) (r32 h207 rfl) (fun h208 => ?_) (fun h208 => ?_)
    · have h209 : 0 ≤ z205 ∧ z205 ≤ 0 := (vc_X12_ring_22 h208 h207)
      refine mr_iconst (pc := 29) (z := 0) dX11_raise_29 ?_
      refine mr_istore_n (pc := 30) (lv' := [(3, iv 0), (0, .ref 0), (1, iv p1), (2, iv p2)]) dX11_raise_30 rfl (by decide) rfl ?_
      refine mr_iload_n (pc := 31) (z := p2) dX11_raise_31 rfl rfl ?_
      refine mr_if_eq (pc := 32) (tgt := 69) dX11_raise_32 (by decide) (r32 hp2 rfl) (fun h210 => ?_) (fun h210 => ?_)
      · have h211 : 0 ≤ p2 ∧ p2 ≤ 0 := (vc_X12_ring_22 h210 hp2)
        refine mr_iload_n (pc := 69) (z := 0) dX11_raise_69 rfl rfl ?_
        refine mr_iconst (pc := 70) (z := 1) dX11_raise_70 ?_
        refine mr_icmp_ne (pc := 71) (tgt := 120) dX11_raise_71 (by decide) (r32 (rR (x := 0)) rfl) (r32 (rR (x := 1)) rfl) (fun _ => ?_) (fun h => ((vc_X11_raise_v_7 h)).elim)
        refine mr_iload_n (pc := 120) (z := 0) dX11_raise_120 rfl rfl ?_
        exact mr_iret dX11_raise_121 rfl (le_t rfl) (le_t rfl) hT mF.refl ⟨(rW (c := (-2147483648)) (d := 2147483647) (rR (x := 0)) rfl), (Or.inr ⟨(vc_X11_raise_v_8 h196.2.1 h196.2.2.1 h200 ht_f_t.1 h198 ht_f_t.2 h201 h199), (vc_X11_raise_v_9 ht_f_t.1 h196.2.1 h196.2.2.1 h200 h198 ht_f_t.2 h201 h199), b202, q203, (by rw [q206]; exact (vc_X11_raise_v_10 h208 h209)), oneF.refl, q206.trans (vc_X11_raise_v_11 h208 h210 h211 h209)⟩), trivial⟩
      have h212 : 1 ≤ p2 ∧ p2 ≤ 1 := (vc_X12_ring_24 h210 hp2)
      refine sv_aload_n (pc := 35) dX11_raise_35 rfl rfl ?_
      refine gf_X11_3 (pc := 36) dX11_raise_36 wF_X11_26 (A_0 hw) hT ?_
      refine gf_X10_4 (pc := 39) dX11_raise_39 wF_X11_122 (A_6 hw) hT ?_
      refine mr_iload_n (pc := 42) (z := p1) dX11_raise_42 rfl rfl ?_
      refine lk_11 (pc := 43) dX11_raise_43 (A_11 hw) (rIx (n := 20) h201 rfl) q203 ?_
      refine mr_iconst (pc := 44) (z := 1) dX11_raise_44 ?_
      refine pf_X9_6 (pc := 45) dX11_raise_45 wF_X11_134 A204 hT (rW (c := 0) (d := 1) (rR (x := 1)) rfl) fun μ213 u214 T215 => ?_
      refine sv_aload_n (pc := 48) dX11_raise_48 rfl rfl ?_
      refine gf_X11_6 (pc := 49) dX11_raise_49 wF_X11_51 (A_0 hw) T215 ?_
      refine mr_iload_n (pc := 52) (z := p1) dX11_raise_52 rfl rfl ?_
      refine mr_iconst (pc := 53) (z := 0) dX11_raise_53 ?_
      refine mr_cVV (pc := 54) (c_X8_sayAll hw T215 h201 (rW (c := 0) (d := 1) (rR (x := 0)) rfl) (vc_X11_raise_v_4 ht_f_t.1 h196.2.1 h196.2.2.1 h200 h198 ht_f_t.2 h201 h199) (PC.keep hIPC hw ((mF.up mF.refl A204 u214 rfl) : mF [220006] w μ μ213) rfl)) (gOk _ _ _ _ _) dX11_raise_54 (tX8_sayAll _ _ _ _ _) ⟨wV_X8_sayAll, wL_X8_sayAll⟩ wM_X11_138 (gCX8 _ _ _ _ _) rfl (A_32 hw) rfl ⟨le_t rfl, le_t rfl⟩ ⟨le_t rfl, le_t rfl⟩ rfl (le_t rfl) fun μ216 T217 F218 h219 => ?_
      refine sv_aload_n (pc := 57) dX11_raise_57 rfl rfl ?_
      refine gf_X11_6 (pc := 58) dX11_raise_58 wF_X11_51 (A_0 hw) T217 ?_
      refine mr_iload_n (pc := 61) (z := p1) dX11_raise_61 rfl rfl ?_
      refine mr_iconst (pc := 62) (z := 1) dX11_raise_62 ?_
      refine mr_cVV (pc := 63) (c_X8_sayAll hw T217 h201 (rW (c := 0) (d := 1) (rR (x := 1)) rfl) (vc_X11_raise_v_4 ht_f_t.1 h196.2.1 h196.2.2.1 h200 h198 ht_f_t.2 h201 h199) (PC.keep hIPC hw ((mF.call (mF.up mF.refl A204 u214 rfl) F218 rfl) : mF [21002, 21003, 21004, 21005, 21006, 21007, 32010, 33999, 34999, 200002, 200003, 200004, 200005, 200006, 200007, 200008, 200009, 201999, 202999, 220006] w μ μ216) rfl)) (gOk _ _ _ _ _) dX11_raise_63 (tX8_sayAll _ _ _ _ _) ⟨wV_X8_sayAll, wL_X8_sayAll⟩ wM_X11_138 (gCX8 _ _ _ _ _) rfl (A_32 hw) rfl ⟨le_t rfl, le_t rfl⟩ ⟨le_t rfl, le_t rfl⟩ rfl (le_t rfl) fun μ220 T221 F222 h223 => ?_
      refine sv_goto (pc := 66) (tgt := 120) dX11_raise_66 (by decide) ?_
      refine mr_iload_n (pc := 120) (z := 0) dX11_raise_120 rfl rfl ?_
      exact mr_iret dX11_raise_121 rfl (le_t rfl) (le_t rfl) T221 (mF.call (mF.call (mF.up mF.refl A204 u214 rfl) F218 rfl) F222 rfl) ⟨(rW (c := (-2147483648)) (d := 2147483647) (rR (x := 0)) rfl), (Or.inr ⟨(vc_X11_raise_v_8 h196.2.1 h196.2.2.1 h200 ht_f_t.1 h198 ht_f_t.2 h201 h199), (vc_X11_raise_v_9 ht_f_t.1 h196.2.1 h196.2.2.1 h200 h198 ht_f_t.2 h201 h199), b202, q203, (by rw [q206]; exact (vc_X11_raise_v_10 h208 h209)), (oneF.fr (oneF.fr (oneF.up oneF.refl u214) F218 rfl rfl) F222 rfl rfl), (F222.f A204 rfl (F218.f A204 rfl u214.1)).trans (vc_X11_raise_v_13 h208 h210 h212 h209)⟩), trivial⟩
    have h224 : 1 ≤ z205 ∧ z205 ≤ 1 := (vc_X12_ring_24 h208 h207)
    refine mr_iconst (pc := 25) (z := 1) dX11_raise_25 ?_
    refine sv_goto (pc := 26) (tgt := 30) dX11_raise_26 (by decide) ?_
    refine mr_istore_n (pc := 30) (lv' := [(3, iv 1), (0, .ref 0), (1, iv p1), (2, iv p2)]) dX11_raise_30 rfl (by decide) rfl ?_
    refine mr_iload_n (pc := 31) (z := p2) dX11_raise_31 rfl rfl ?_
    refine mr_if_eq (pc := 32) (tgt := 69) dX11_raise_32 (by decide) (r32 hp2 rfl) (fun h225 => ?_) (fun h225 => ?_)
    · have h226 : 0 ≤ p2 ∧ p2 ≤ 0 := (vc_X12_ring_22 h225 hp2)
      refine mr_iload_n (pc := 69) (z := 1) dX11_raise_69 rfl rfl ?_
      refine mr_iconst (pc := 70) (z := 1) dX11_raise_70 ?_
      refine mr_icmp_ne (pc := 71) (tgt := 120) dX11_raise_71 (by decide) (r32 (rR (x := 1)) rfl) (r32 (rR (x := 1)) rfl) (fun h => ((vc_X12_next_206 h)).elim) (fun _ => ?_)
      refine sv_aload_n (pc := 74) dX11_raise_74 rfl rfl ?_
      refine gf_X11_6 (pc := 75) dX11_raise_75 wF_X11_51 (A_0 hw) hT ?_
      refine mr_iload_n (pc := 78) (z := p1) dX11_raise_78 rfl rfl ?_
      refine mr_cVV (pc := 79) (c_X8_silence_v hw hT h201 (vc_X11_raise_v_4 ht_f_t.1 h196.2.1 h196.2.2.1 h200 h198 ht_f_t.2 h201 h199)) (gOk _ _ _ _ _) dX11_raise_79 (tX8_silence _ _ _ _ _) ⟨wV_X8_silence, wL_X8_silence⟩ wM_X11_142 (gCX8 _ _ _ _ _) rfl (A_32 hw) rfl ⟨le_t rfl, le_t rfl⟩ ⟨le_t rfl, le_t rfl⟩ rfl (le_t rfl) fun μ227 T228 F229 h230 => ?_
      have h231 := siC.tr h230.1 q203
      refine sv_aload_n (pc := 82) dX11_raise_82 rfl rfl ?_
      refine gf_X11_6 (pc := 83) dX11_raise_83 wF_X11_51 (A_0 hw) T228 ?_
      refine sv_aload_n (pc := 86) dX11_raise_86 rfl rfl ?_
      refine gf_X11_3 (pc := 87) dX11_raise_87 wF_X11_26 (A_0 hw) T228 ?_
      refine gf_X10_4 (pc := 90) dX11_raise_90 wF_X11_122 (A_6 hw) T228 ?_
      refine mr_iload_n (pc := 93) (z := p1) dX11_raise_93 rfl rfl ?_
      refine lk_11 (pc := 94) dX11_raise_94 (A_11 hw) (rIx (n := 20) h201 rfl) (F229.f (A_11 hw) rfl q203) ?_
      refine gf_X9_0 (pc := 95) dX11_raise_95 wF_X11_145 A204 T228 fun z232 q233 h234 => ?_
      have h235 : 0 ≤ z232 ∧ z232 ≤ 9 := ⟨h234.1, h234.2.1⟩
      refine mr_cVV (pc := 98) (c_X8_lookAtAll hw T228 h235 (vc_X9_end_1 h234.2.2 h235) (PC.keep hIPC hw ((mF.call mF.refl F229 rfl) : mF [32010, 33999, 34999, 200002, 200009, 220006] w μ μ227) rfl)) (gOk _ _ _ _ _) dX11_raise_98 (tX8_lookAtAll _ _ _ _ _) ⟨wV_X8_lookAtAll, wL_X8_lookAtAll⟩ wM_X11_148 (gCX8 _ _ _ _ _) rfl (A_32 hw) rfl ⟨le_t rfl, le_t rfl⟩ ⟨le_t rfl, le_t rfl⟩ rfl (le_t rfl) fun μ236 T237 F238 h239 => ?_
      refine sv_aload_n (pc := 101) dX11_raise_101 rfl rfl ?_
      refine gf_X11_6 (pc := 102) dX11_raise_102 wF_X11_51 (A_0 hw) T237 ?_
      refine sv_aload_n (pc := 105) dX11_raise_105 rfl rfl ?_
      refine gf_X11_3 (pc := 106) dX11_raise_106 wF_X11_26 (A_0 hw) T237 ?_
      refine gf_X10_4 (pc := 109) dX11_raise_109 wF_X11_122 (A_6 hw) T237 ?_
      refine mr_iload_n (pc := 112) (z := p1) dX11_raise_112 rfl rfl ?_
      refine lk_11 (pc := 113) dX11_raise_113 (A_11 hw) (rIx (n := 20) h201 rfl) (F238.f (A_11 hw) rfl (F229.f (A_11 hw) rfl q203)) ?_
      refine gf_X9_1 (pc := 114) dX11_raise_114 wF_X11_151 A204 T237 fun z240 q241 h242 => ?_
      have h243 : 0 ≤ z240 ∧ z240 ≤ 9 := ⟨h242.1, h242.2.1⟩
      refine mr_cVV (pc := 117) (c_X8_lookAtAll hw T237 h243 (vc_X2_partnerFor_5 h234.2.2 h242.2.2 h235 h243) (PC.keep hIPC hw ((mF.call (mF.call mF.refl F229 rfl) F238 rfl) : mF [21002, 21003, 21004, 21005, 21006, 21007, 32009, 32010, 33999, 34999, 66999, 200002, 200003, 200004, 200005, 200006, 200007, 200008, 200009, 200010, 200011, 201999, 202999, 213999, 220006] w μ μ236) rfl)) (gOk _ _ _ _ _) dX11_raise_117 (tX8_lookAtAll _ _ _ _ _) ⟨wV_X8_lookAtAll, wL_X8_lookAtAll⟩ wM_X11_148 (gCX8 _ _ _ _ _) rfl (A_32 hw) rfl ⟨le_t rfl, le_t rfl⟩ ⟨le_t rfl, le_t rfl⟩ rfl (le_t rfl) fun μ244 T245 F246 h247 => ?_
      refine mr_iload_n (pc := 120) (z := 1) dX11_raise_120 rfl rfl ?_
      exact mr_iret dX11_raise_121 rfl (le_t rfl) (le_t rfl) T245 (mF.call (mF.call (mF.call mF.refl F229 rfl) F238 rfl) F246 rfl) ⟨(rW (c := (-2147483648)) (d := 2147483647) (rR (x := 1)) rfl), (Or.inr ⟨(vc_X11_raise_v_8 h196.2.1 h196.2.2.1 h200 ht_f_t.1 h198 ht_f_t.2 h201 h199), (vc_X11_raise_v_9 ht_f_t.1 h196.2.1 h196.2.2.1 h200 h198 ht_f_t.2 h201 h199), b202, q203, (by rw [q206]; exact (vc_X11_raise_v_18 h208 h224)), (oneF.fr (oneF.fr (oneF.trans oneF.refl h231.1) F238 rfl rfl) F246 rfl rfl), (F246.f A204 rfl (F238.f A204 rfl h231.2)).trans (vc_X11_raise_v_19 h208 h225 h226 h224)⟩), trivial⟩
    have h248 : 1 ≤ p2 ∧ p2 ≤ 1 := (vc_X12_ring_24 h225 hp2)
    refine sv_aload_n (pc := 35) dX11_raise_35 rfl rfl ?_
    refine gf_X11_3 (pc := 36) dX11_raise_36 wF_X11_26 (A_0 hw) hT ?_
    refine gf_X10_4 (pc := 39) dX11_raise_39 wF_X11_122 (A_6 hw) hT ?_
    refine mr_iload_n (pc := 42) (z := p1) dX11_raise_42 rfl rfl ?_
    refine lk_11 (pc := 43) dX11_raise_43 (A_11 hw) (rIx (n := 20) h201 rfl) q203 ?_
    refine mr_iconst (pc := 44) (z := 1) dX11_raise_44 ?_
    refine pf_X9_6 (pc := 45) dX11_raise_45 wF_X11_134 A204 hT (rW (c := 0) (d := 1) (rR (x := 1)) rfl) fun μ249 u250 T251 => ?_
    refine sv_aload_n (pc := 48) dX11_raise_48 rfl rfl ?_
    refine gf_X11_6 (pc := 49) dX11_raise_49 wF_X11_51 (A_0 hw) T251 ?_
    refine mr_iload_n (pc := 52) (z := p1) dX11_raise_52 rfl rfl ?_
    refine mr_iconst (pc := 53) (z := 0) dX11_raise_53 ?_
    refine mr_cVV (pc := 54) (c_X8_sayAll hw T251 h201 (rW (c := 0) (d := 1) (rR (x := 0)) rfl) (vc_X11_raise_v_4 ht_f_t.1 h196.2.1 h196.2.2.1 h200 h198 ht_f_t.2 h201 h199) (PC.keep hIPC hw ((mF.up mF.refl A204 u250 rfl) : mF [220006] w μ μ249) rfl)) (gOk _ _ _ _ _) dX11_raise_54 (tX8_sayAll _ _ _ _ _) ⟨wV_X8_sayAll, wL_X8_sayAll⟩ wM_X11_138 (gCX8 _ _ _ _ _) rfl (A_32 hw) rfl ⟨le_t rfl, le_t rfl⟩ ⟨le_t rfl, le_t rfl⟩ rfl (le_t rfl) fun μ252 T253 F254 h255 => ?_
    refine sv_aload_n (pc := 57) dX11_raise_57 rfl rfl ?_
    refine gf_X11_6 (pc := 58) dX11_raise_58 wF_X11_51 (A_0 hw) T253 ?_
    refine mr_iload_n (pc := 61) (z := p1) dX11_raise_61 rfl rfl ?_
    refine mr_iconst (pc := 62) (z := 1) dX11_raise_62 ?_
    refine mr_cVV (pc := 63) (c_X8_sayAll hw T253 h201 (rW (c := 0) (d := 1) (rR (x := 1)) rfl) (vc_X11_raise_v_4 ht_f_t.1 h196.2.1 h196.2.2.1 h200 h198 ht_f_t.2 h201 h199) (PC.keep hIPC hw ((mF.call (mF.up mF.refl A204 u250 rfl) F254 rfl) : mF [21002, 21003, 21004, 21005, 21006, 21007, 32010, 33999, 34999, 200002, 200003, 200004, 200005, 200006, 200007, 200008, 200009, 201999, 202999, 220006] w μ μ252) rfl)) (gOk _ _ _ _ _) dX11_raise_63 (tX8_sayAll _ _ _ _ _) ⟨wV_X8_sayAll, wL_X8_sayAll⟩ wM_X11_138 (gCX8 _ _ _ _ _) rfl (A_32 hw) rfl ⟨le_t rfl, le_t rfl⟩ ⟨le_t rfl, le_t rfl⟩ rfl (le_t rfl) fun μ256 T257 F258 h259 => ?_
    refine sv_goto (pc := 66) (tgt := 120) dX11_raise_66 (by decide) ?_
    refine mr_iload_n (pc := 120) (z := 1) dX11_raise_120 rfl rfl ?_
    exact mr_iret dX11_raise_121 rfl (le_t rfl) (le_t rfl) T257 (mF.call (mF.call (mF.up mF.refl A204 u250 rfl) F254 rfl) F258 rfl) ⟨(rW (c := (-2147483648)) (d := 2147483647) (rR (x := 1)) rfl), (Or.inr ⟨(vc_X11_raise_v_8 h196.2.1 h196.2.2.1 h200 ht_f_t.1 h198 ht_f_t.2 h201 h199), (vc_X11_raise_v_9 ht_f_t.1 h196.2.1 h196.2.2.1 h200 h198 ht_f_t.2 h201 h199), b202, q203, (by rw [q206]; exact (vc_X11_raise_v_18 h208 h224)), (oneF.fr (oneF.fr (oneF.up oneF.refl u250) F254 rfl rfl) F258 rfl rfl), (F258.f A204 rfl (F254.f A204 rfl u250.1)).trans (vc_X11_raise_v_20 h208 h225 h248 h224)⟩), trivial⟩
  have h260 : 0 ≤ z197 ∧ z197 ≤ 0 := (vc_X11_raise_v_21 h198 h196.2.1 h196.2.2.1 ht_f_t.2 hp1 h196.1)
  have h261 : p1 < 0 ∨ f_t ≤ p1 := (h196.2.2.1 (vc_X11_raise_v_22 h196.2.1 h196.2.2.1 h198 ht_f_t.1 ht_f_t.2 hp1 h260))
  refine mr_iconst (pc := 8) (z := (-1)) dX11_raise_8 ?_
  exact mr_iret dX11_raise_9 rfl (le_t rfl) (le_t rfl) hT mF.refl ⟨(rW (c := (-2147483648)) (d := 2147483647) (rR (x := (-1))) rfl), (Or.inl ⟨(vc_X11_raise_v_23 ht_f_t.1 h196.2.1 h196.2.2.1 h261 h198 ht_f_t.2 hp1 h260), rfl, rfl⟩), trivial⟩
theorem vc_X12_raise_v_2 {f_t p1 z722 : Int} (h0 : (z722 = 1 → 0 ≤ p1 ∧ p1 < f_t)) (h1 : (z722 = 0 → p1 < 0 ∨ f_t ≤ p1)) (h2 : ¬ z722 = 0) (h3 : 0 ≤ f_t ∧ f_t ≤ 20) (h4 : (-2147483648) ≤ p1 ∧ p1 ≤ 2147483647) (h5 : 1 ≤ z722 ∧ z722 ≤ 1) : z722 = 1 := by omega
theorem vc_X12_raise_v_3 {f_t p1 z722 : Int} (h0 : 0 ≤ p1 ∧ p1 < f_t) (h1 : (z722 = 1 → 0 ≤ p1 ∧ p1 < f_t)) (h2 : (z722 = 0 → p1 < 0 ∨ f_t ≤ p1)) (h3 : 0 ≤ f_t ∧ f_t ≤ 20) (h4 : (-2147483648) ≤ p1 ∧ p1 ≤ 2147483647) (h5 : 1 ≤ z722 ∧ z722 ≤ 1) : 0 ≤ p1 ∧ p1 ≤ 19 := by omega
theorem vc_X12_raise_v_8 {p2 z727 : Int} (h0 : z727 = 0) (h1 : ¬ p2 = 0) (h2 : 1 ≤ p2 ∧ p2 ≤ 1) (h3 : 0 ≤ z727 ∧ z727 ≤ 0) : z727 = 0 ∨ z727 = p2 := by omega
theorem vc_X12_raise_v_9 {f_t p1 z722 : Int} (h0 : (z722 = 1 → 0 ≤ p1 ∧ p1 < f_t)) (h1 : (z722 = 0 → p1 < 0 ∨ f_t ≤ p1)) (h2 : 0 ≤ p1 ∧ p1 < f_t) (h3 : ¬ z722 = 0) (h4 : 0 ≤ f_t ∧ f_t ≤ 20) (h5 : 0 ≤ p1 ∧ p1 ≤ 19) (h6 : 1 ≤ z722 ∧ z722 ≤ 1) : p1 < f_t := by omega
theorem vc_X12_raise_v_16 {f_t p1 z722 : Int} (h0 : (z722 = 1 → 0 ≤ p1 ∧ p1 < f_t)) (h1 : (z722 = 0 → p1 < 0 ∨ f_t ≤ p1)) (h2 : 0 ≤ p1 ∧ p1 < f_t) (h3 : ¬ z722 = 0) (h4 : 0 ≤ f_t ∧ f_t ≤ 20) (h5 : 0 ≤ p1 ∧ p1 ≤ 19) (h6 : 1 ≤ z722 ∧ z722 ≤ 1) : 0 ≤ p1 := by omega
theorem vc_X12_raise_v_18 {p2 z727 : Int} (h0 : z727 = 0) (h1 : ¬ p2 = 0) (h2 : 1 ≤ p2 ∧ p2 ≤ 1) (h3 : 0 ≤ z727 ∧ z727 ≤ 0) : p2 = p2 := by omega
theorem vc_X12_raise_v_23 {p2 z727 : Int} (h0 : ¬ z727 = 0) (h1 : ¬ p2 = 0) (h2 : 1 ≤ p2 ∧ p2 ≤ 1) (h3 : 1 ≤ z727 ∧ z727 ≤ 1) : z727 = 0 ∨ z727 = p2 := by omega
theorem vc_X12_raise_v_27 {p2 z727 : Int} (h0 : ¬ z727 = 0) (h1 : ¬ p2 = 0) (h2 : 1 ≤ p2 ∧ p2 ≤ 1) (h3 : 1 ≤ z727 ∧ z727 ≤ 1) : p2 = p2 := by omega
theorem vc_X12_raise_v_30 {f_t p1 z722 z786 : Int} (h0 : z786 = (((20 * p1) + (10 * 0)) + 0)) (h1 : (z722 = 1 → 0 ≤ p1 ∧ p1 < f_t)) (h2 : (z722 = 0 → p1 < 0 ∨ f_t ≤ p1)) (h3 : 0 ≤ p1 ∧ p1 < f_t) (h4 : 0 ≤ f_t ∧ f_t ≤ 20) (h5 : 0 ≤ p1 ∧ p1 ≤ 19) (h6 : 1 ≤ z722 ∧ z722 ≤ 1) (h7 : 0 ≤ z786 ∧ z786 ≤ 449) : 0 ≤ z786 ∧ z786 ≤ 380 := by omega
theorem vc_X12_raise_v_31 {f_t p1 z1083 z722 z786 : Int} (h0 : (401 - z1083) < ((0 : Nat) : Int)) (h1 : 20 * p1 ≤ z1083) (h2 : (z722 = 1 → 0 ≤ p1 ∧ p1 < f_t)) (h3 : (z722 = 0 → p1 < 0 ∨ f_t ≤ p1)) (h4 : 0 ≤ p1 ∧ p1 < f_t) (h5 : z786 = (((20 * p1) + (10 * 0)) + 0)) (h6 : 0 ≤ f_t ∧ f_t ≤ 20) (h7 : 0 ≤ p1 ∧ p1 ≤ 19) (h8 : 0 ≤ z1083 ∧ z1083 ≤ 400) (h9 : 1 ≤ z722 ∧ z722 ≤ 1) (h10 : 0 ≤ z786 ∧ z786 ≤ 380) : False := by omega
theorem vc_X12_raise_v_32 {f_t p1 z1083 z1104 z722 z786 : Int} (h0 : z1104 = (((20 * p1) + (10 * 2)) + 0)) (h1 : (z722 = 1 → 0 ≤ p1 ∧ p1 < f_t)) (h2 : (z722 = 0 → p1 < 0 ∨ f_t ≤ p1)) (h3 : 0 ≤ p1 ∧ p1 < f_t) (h4 : z786 = (((20 * p1) + (10 * 0)) + 0)) (h5 : 20 * p1 ≤ z1083) (h6 : 0 ≤ f_t ∧ f_t ≤ 20) (h7 : 0 ≤ p1 ∧ p1 ≤ 19) (h8 : 0 ≤ z1083 ∧ z1083 ≤ 400) (h9 : 0 ≤ z1104 ∧ z1104 ≤ 449) (h10 : 1 ≤ z722 ∧ z722 ≤ 1) (h11 : 0 ≤ z786 ∧ z786 ≤ 380) : 20 ≤ z1104 ∧ z1104 ≤ 400 := by omega
theorem vc_X12_raise_v_33 {p1 z1083 z1104 : Int} (h0 : z1104 ≤ z1083) (h1 : 20 * p1 ≤ z1083) (h2 : z1104 = (((20 * p1) + (10 * 2)) + 0)) (h3 : 0 ≤ p1 ∧ p1 ≤ 19) (h4 : 0 ≤ z1083 ∧ z1083 ≤ 400) (h5 : 20 ≤ z1104 ∧ z1104 ≤ 400) : 20 ≤ z1083 ∧ z1083 ≤ 400 := by omega
theorem vc_X12_raise_v_34 {f_t p1 z1083 z1104 z722 z786 : Int} (h0 : (z722 = 1 → 0 ≤ p1 ∧ p1 < f_t)) (h1 : (z722 = 0 → p1 < 0 ∨ f_t ≤ p1)) (h2 : 0 ≤ p1 ∧ p1 < f_t) (h3 : z786 = (((20 * p1) + (10 * 0)) + 0)) (h4 : 20 * p1 ≤ z1083) (h5 : z1104 = (((20 * p1) + (10 * 2)) + 0)) (h6 : z1104 ≤ z1083) (h7 : ¬ z722 = 0) (h8 : 0 ≤ f_t ∧ f_t ≤ 20) (h9 : 0 ≤ p1 ∧ p1 ≤ 19) (h10 : 20 ≤ z1083 ∧ z1083 ≤ 400) (h11 : 20 ≤ z1104 ∧ z1104 ≤ 400) (h12 : 1 ≤ z722 ∧ z722 ≤ 1) (h13 : 0 ≤ z786 ∧ z786 ≤ 380) : 20 * p1 + 20 ≤ z1083 := by omega
theorem vc_X12_raise_v_41 {f_t p1 z1083 z1104 z722 z786 : Int} (h0 : (z722 = 1 → 0 ≤ p1 ∧ p1 < f_t)) (h1 : (z722 = 0 → p1 < 0 ∨ f_t ≤ p1)) (h2 : 0 ≤ p1 ∧ p1 < f_t) (h3 : z786 = (((20 * p1) + (10 * 0)) + 0)) (h4 : 20 * p1 ≤ z1083) (h5 : z1104 = (((20 * p1) + (10 * 2)) + 0)) (h6 : ¬ z722 = 0) (h7 : z1104 ≤ z1083) (h8 : 0 ≤ f_t ∧ f_t ≤ 20) (h9 : 0 ≤ p1 ∧ p1 ≤ 19) (h10 : 20 ≤ z1083 ∧ z1083 ≤ 400) (h11 : 20 ≤ z1104 ∧ z1104 ≤ 400) (h12 : 1 ≤ z722 ∧ z722 ≤ 1) (h13 : 0 ≤ z786 ∧ z786 ≤ 380) : 0 ≤ p1 := by omega
theorem vc_X12_raise_v_42 {f_t p1 z1083 z1104 z722 z786 : Int} (h0 : (z722 = 1 → 0 ≤ p1 ∧ p1 < f_t)) (h1 : (z722 = 0 → p1 < 0 ∨ f_t ≤ p1)) (h2 : 0 ≤ p1 ∧ p1 < f_t) (h3 : z786 = (((20 * p1) + (10 * 0)) + 0)) (h4 : 20 * p1 ≤ z1083) (h5 : z1104 = (((20 * p1) + (10 * 2)) + 0)) (h6 : ¬ z722 = 0) (h7 : z1104 ≤ z1083) (h8 : 0 ≤ f_t ∧ f_t ≤ 20) (h9 : 0 ≤ p1 ∧ p1 ≤ 19) (h10 : 20 ≤ z1083 ∧ z1083 ≤ 400) (h11 : 20 ≤ z1104 ∧ z1104 ≤ 400) (h12 : 1 ≤ z722 ∧ z722 ≤ 1) (h13 : 0 ≤ z786 ∧ z786 ≤ 380) : p1 < f_t := by omega
theorem vc_X12_raise_v_43 {p2 z727 : Int} (h0 : ¬ z727 = 0) (h1 : p2 = 0) (h2 : 0 ≤ p2 ∧ p2 ≤ 0) (h3 : 1 ≤ z727 ∧ z727 ≤ 1) : p2 = p2 := by omega
theorem vc_X12_raise_v_44 {p1 z1083 z1104 : Int} (h0 : z1083 < z1104) (h1 : 20 * p1 ≤ z1083) (h2 : z1104 = (((20 * p1) + (10 * 2)) + 0)) (h3 : 0 ≤ p1 ∧ p1 ≤ 19) (h4 : 0 ≤ z1083 ∧ z1083 ≤ 400) (h5 : 20 ≤ z1104 ∧ z1104 ≤ 400) : 0 ≤ z1083 ∧ z1083 ≤ 399 := by omega
theorem vc_X12_raise_v_45 {f_t p1 z1083 z1104 z722 z786 : Int} (h0 : 20 * p1 ≤ z1083) (h1 : z1083 < z1104) (h2 : (z722 = 1 → 0 ≤ p1 ∧ p1 < f_t)) (h3 : (z722 = 0 → p1 < 0 ∨ f_t ≤ p1)) (h4 : 0 ≤ p1 ∧ p1 < f_t) (h5 : z786 = (((20 * p1) + (10 * 0)) + 0)) (h6 : z1104 = (((20 * p1) + (10 * 2)) + 0)) (h7 : 0 ≤ f_t ∧ f_t ≤ 20) (h8 : 0 ≤ p1 ∧ p1 ≤ 19) (h9 : 0 ≤ z1083 ∧ z1083 ≤ 399) (h10 : 20 ≤ z1104 ∧ z1104 ≤ 400) (h11 : 1 ≤ z722 ∧ z722 ≤ 1) (h12 : 0 ≤ z786 ∧ z786 ≤ 380) : 0 ≤ (40 * (130 + z1083)) := by omega
theorem vc_X12_raise_v_46 {f_t p1 z1083 z1104 z722 z786 : Int} (h0 : 20 * p1 ≤ z1083) (h1 : z1083 < z1104) (h2 : (z722 = 1 → 0 ≤ p1 ∧ p1 < f_t)) (h3 : (z722 = 0 → p1 < 0 ∨ f_t ≤ p1)) (h4 : 0 ≤ p1 ∧ p1 < f_t) (h5 : z786 = (((20 * p1) + (10 * 0)) + 0)) (h6 : z1104 = (((20 * p1) + (10 * 2)) + 0)) (h7 : 0 ≤ f_t ∧ f_t ≤ 20) (h8 : 0 ≤ p1 ∧ p1 ≤ 19) (h9 : 0 ≤ z1083 ∧ z1083 ≤ 399) (h10 : 20 ≤ z1104 ∧ z1104 ≤ 400) (h11 : 1 ≤ z722 ∧ z722 ≤ 1) (h12 : 0 ≤ z786 ∧ z786 ≤ 380) : (40 * (130 + z1083)) % 40 = 0 := by omega
theorem vc_X12_raise_v_48 {f_t p1 z1083 z1104 z722 z786 : Int} (h0 : 20 * p1 ≤ z1083) (h1 : z1083 < z1104) (h2 : (z722 = 1 → 0 ≤ p1 ∧ p1 < f_t)) (h3 : (z722 = 0 → p1 < 0 ∨ f_t ≤ p1)) (h4 : 0 ≤ p1 ∧ p1 < f_t) (h5 : z786 = (((20 * p1) + (10 * 0)) + 0)) (h6 : z1104 = (((20 * p1) + (10 * 2)) + 0)) (h7 : 0 ≤ f_t ∧ f_t ≤ 20) (h8 : 0 ≤ p1 ∧ p1 ≤ 19) (h9 : 0 ≤ z1083 ∧ z1083 ≤ 399) (h10 : 20 ≤ z1104 ∧ z1104 ≤ 400) (h11 : 1 ≤ z722 ∧ z722 ≤ 1) (h12 : 0 ≤ z786 ∧ z786 ≤ 380) : 0 ≤ (40 * (530 + z1083)) := by omega
theorem vc_X12_raise_v_49 {f_t p1 z1083 z1104 z722 z786 : Int} (h0 : 20 * p1 ≤ z1083) (h1 : z1083 < z1104) (h2 : (z722 = 1 → 0 ≤ p1 ∧ p1 < f_t)) (h3 : (z722 = 0 → p1 < 0 ∨ f_t ≤ p1)) (h4 : 0 ≤ p1 ∧ p1 < f_t) (h5 : z786 = (((20 * p1) + (10 * 0)) + 0)) (h6 : z1104 = (((20 * p1) + (10 * 2)) + 0)) (h7 : 0 ≤ f_t ∧ f_t ≤ 20) (h8 : 0 ≤ p1 ∧ p1 ≤ 19) (h9 : 0 ≤ z1083 ∧ z1083 ≤ 399) (h10 : 20 ≤ z1104 ∧ z1104 ≤ 400) (h11 : 1 ≤ z722 ∧ z722 ≤ 1) (h12 : 0 ≤ z786 ∧ z786 ≤ 380) : (40 * (530 + z1083)) % 40 = 0 := by omega
theorem vc_X12_raise_v_51 {f_t p1 z1083 z1104 z722 z786 : Int} (h0 : 20 * p1 ≤ z1083) (h1 : z1083 < z1104) (h2 : (z722 = 1 → 0 ≤ p1 ∧ p1 < f_t)) (h3 : (z722 = 0 → p1 < 0 ∨ f_t ≤ p1)) (h4 : 0 ≤ p1 ∧ p1 < f_t) (h5 : z786 = (((20 * p1) + (10 * 0)) + 0)) (h6 : z1104 = (((20 * p1) + (10 * 2)) + 0)) (h7 : 0 ≤ f_t ∧ f_t ≤ 20) (h8 : 0 ≤ p1 ∧ p1 ≤ 19) (h9 : 0 ≤ z1083 ∧ z1083 ≤ 399) (h10 : 20 ≤ z1104 ∧ z1104 ≤ 400) (h11 : 1 ≤ z722 ∧ z722 ≤ 1) (h12 : 0 ≤ z786 ∧ z786 ≤ 380) : 0 ≤ z1083 := by omega
theorem vc_X12_raise_v_52 {f_t p1 z1083 z1104 z722 z786 : Int} (h0 : (z722 = 1 → 0 ≤ p1 ∧ p1 < f_t)) (h1 : (z722 = 0 → p1 < 0 ∨ f_t ≤ p1)) (h2 : 0 ≤ p1 ∧ p1 < f_t) (h3 : 20 * p1 ≤ z1083) (h4 : z1083 < z1104) (h5 : ¬ z722 = 0) (h6 : z786 = (((20 * p1) + (10 * 0)) + 0)) (h7 : z1104 = (((20 * p1) + (10 * 2)) + 0)) (h8 : 0 ≤ f_t ∧ f_t ≤ 20) (h9 : 0 ≤ p1 ∧ p1 ≤ 19) (h10 : 0 ≤ z1083 ∧ z1083 ≤ 399) (h11 : 20 ≤ z1104 ∧ z1104 ≤ 400) (h12 : 1 ≤ z722 ∧ z722 ≤ 1) (h13 : 0 ≤ z786 ∧ z786 ≤ 380) : ((-1) : Int) < 0 ∨ z1083 < 20 * f_t := by omega
theorem vc_X12_raise_v_53 {f_t p1 z1083 z1104 z722 z786 : Int} (h0 : (z722 = 1 → 0 ≤ p1 ∧ p1 < f_t)) (h1 : (z722 = 0 → p1 < 0 ∨ f_t ≤ p1)) (h2 : 0 ≤ p1 ∧ p1 < f_t) (h3 : z786 = (((20 * p1) + (10 * 0)) + 0)) (h4 : 20 * p1 ≤ z1083) (h5 : z1104 = (((20 * p1) + (10 * 2)) + 0)) (h6 : z1083 < z1104) (h7 : ¬ z722 = 0) (h8 : 0 ≤ f_t ∧ f_t ≤ 20) (h9 : 0 ≤ p1 ∧ p1 ≤ 19) (h10 : 0 ≤ z1083 ∧ z1083 ≤ 399) (h11 : 20 ≤ z1104 ∧ z1104 ≤ 400) (h12 : 1 ≤ z722 ∧ z722 ≤ 1) (h13 : 0 ≤ z786 ∧ z786 ≤ 380) : 20 * p1 ≤ (z1083 + 1) := by omega
theorem vc_X12_raise_v_54 {N f_t p1 z1083 z1104 z722 z786 : Int} (h0 : (401 - z1083) < N + 1) (h1 : 20 * p1 ≤ z1083) (h2 : z1083 < z1104) (h3 : (z722 = 1 → 0 ≤ p1 ∧ p1 < f_t)) (h4 : (z722 = 0 → p1 < 0 ∨ f_t ≤ p1)) (h5 : 0 ≤ p1 ∧ p1 < f_t) (h6 : z786 = (((20 * p1) + (10 * 0)) + 0)) (h7 : z1104 = (((20 * p1) + (10 * 2)) + 0)) (h8 : 0 ≤ f_t ∧ f_t ≤ 20) (h9 : 0 ≤ p1 ∧ p1 ≤ 19) (h10 : 0 ≤ z1083 ∧ z1083 ≤ 399) (h11 : 20 ≤ z1104 ∧ z1104 ≤ 400) (h12 : 1 ≤ z722 ∧ z722 ≤ 1) (h13 : 0 ≤ z786 ∧ z786 ≤ 380) : (401 - (z1083 + 1)) < N := by omega
theorem vc_X12_raise_v_55 {f_t p1 z1083 z1104 z722 z786 : Int} (h0 : 20 * p1 ≤ z1083) (h1 : z1083 < z1104) (h2 : (z722 = 1 → 0 ≤ p1 ∧ p1 < f_t)) (h3 : (z722 = 0 → p1 < 0 ∨ f_t ≤ p1)) (h4 : 0 ≤ p1 ∧ p1 < f_t) (h5 : z786 = (((20 * p1) + (10 * 0)) + 0)) (h6 : z1104 = (((20 * p1) + (10 * 2)) + 0)) (h7 : 0 ≤ f_t ∧ f_t ≤ 20) (h8 : 0 ≤ p1 ∧ p1 ≤ 19) (h9 : 0 ≤ z1083 ∧ z1083 ≤ 399) (h10 : 20 ≤ z1104 ∧ z1104 ≤ 400) (h11 : 1 ≤ z722 ∧ z722 ≤ 1) (h12 : 0 ≤ z786 ∧ z786 ≤ 380) : (40 * (130 + z1083)) ≤ (40 * (130 + z1083)) ∧ ((40 * (130 + z1083)) + 1) ≤ ((40 * (130 + z1083)) + 1) := by omega
theorem vc_X12_raise_v_56 {f_t p1 z1083 z1104 z722 z786 : Int} (h0 : 20 * p1 ≤ z1083) (h1 : z1083 < z1104) (h2 : (z722 = 1 → 0 ≤ p1 ∧ p1 < f_t)) (h3 : (z722 = 0 → p1 < 0 ∨ f_t ≤ p1)) (h4 : 0 ≤ p1 ∧ p1 < f_t) (h5 : z786 = (((20 * p1) + (10 * 0)) + 0)) (h6 : z1104 = (((20 * p1) + (10 * 2)) + 0)) (h7 : 0 ≤ f_t ∧ f_t ≤ 20) (h8 : 0 ≤ p1 ∧ p1 ≤ 19) (h9 : 0 ≤ z1083 ∧ z1083 ≤ 399) (h10 : 20 ≤ z1104 ∧ z1104 ≤ 400) (h11 : 1 ≤ z722 ∧ z722 ≤ 1) (h12 : 0 ≤ z786 ∧ z786 ≤ 380) : (40 * (530 + z1083)) ≤ (40 * (530 + z1083)) ∧ ((40 * (530 + z1083)) + 1) ≤ ((40 * (530 + z1083)) + 1) := by omega
theorem vc_X12_raise_v_57 {f_t p1 z1083 z1104 z722 z786 : Int} (h0 : 20 * p1 ≤ z1083) (h1 : z1083 < z1104) (h2 : (z722 = 1 → 0 ≤ p1 ∧ p1 < f_t)) (h3 : (z722 = 0 → p1 < 0 ∨ f_t ≤ p1)) (h4 : 0 ≤ p1 ∧ p1 < f_t) (h5 : z786 = (((20 * p1) + (10 * 0)) + 0)) (h6 : z1104 = (((20 * p1) + (10 * 2)) + 0)) (h7 : 0 ≤ f_t ∧ f_t ≤ 20) (h8 : 0 ≤ p1 ∧ p1 ≤ 19) (h9 : 0 ≤ z1083 ∧ z1083 ≤ 399) (h10 : 20 ≤ z1104 ∧ z1104 ≤ 400) (h11 : 1 ≤ z722 ∧ z722 ≤ 1) (h12 : 0 ≤ z786 ∧ z786 ≤ 380) : (1 ≤ (40 * (530 + z1083)) ∧ ((40 * (530 + z1083)) + 1) ≤ 1200) ∨ 5200 ≤ (40 * (530 + z1083)) := by omega
theorem vc_X12_raise_v_58 {f_t p1 z1083 z1104 z722 z786 : Int} (h0 : 20 * p1 ≤ z1083) (h1 : z1083 < z1104) (h2 : (z722 = 1 → 0 ≤ p1 ∧ p1 < f_t)) (h3 : (z722 = 0 → p1 < 0 ∨ f_t ≤ p1)) (h4 : 0 ≤ p1 ∧ p1 < f_t) (h5 : z786 = (((20 * p1) + (10 * 0)) + 0)) (h6 : z1104 = (((20 * p1) + (10 * 2)) + 0)) (h7 : 0 ≤ f_t ∧ f_t ≤ 20) (h8 : 0 ≤ p1 ∧ p1 ≤ 19) (h9 : 0 ≤ z1083 ∧ z1083 ≤ 399) (h10 : 20 ≤ z1104 ∧ z1104 ≤ 400) (h11 : 1 ≤ z722 ∧ z722 ≤ 1) (h12 : 0 ≤ z786 ∧ z786 ≤ 380) : (1 ≤ (40 * (130 + z1083)) ∧ ((40 * (130 + z1083)) + 1) ≤ 1200) ∨ 5200 ≤ (40 * (130 + z1083)) := by omega
theorem vc_X12_raise_v_59 {f_t p1 z1083 z1104 z722 z786 : Int} (h0 : 20 * p1 ≤ z1083) (h1 : z1083 < z1104) (h2 : (z722 = 1 → 0 ≤ p1 ∧ p1 < f_t)) (h3 : (z722 = 0 → p1 < 0 ∨ f_t ≤ p1)) (h4 : 0 ≤ p1 ∧ p1 < f_t) (h5 : z786 = (((20 * p1) + (10 * 0)) + 0)) (h6 : z1104 = (((20 * p1) + (10 * 2)) + 0)) (h7 : 0 ≤ f_t ∧ f_t ≤ 20) (h8 : 0 ≤ p1 ∧ p1 ≤ 19) (h9 : 0 ≤ z1083 ∧ z1083 ≤ 399) (h10 : 20 ≤ z1104 ∧ z1104 ≤ 400) (h11 : 1 ≤ z722 ∧ z722 ≤ 1) (h12 : 0 ≤ z786 ∧ z786 ≤ 380) : (40 * (130 + z1083)) < (40 * (530 + z1083)) ∨ ((40 * (530 + z1083)) + 1) ≤ (40 * (130 + z1083)) := by omega
theorem vc_X12_raise_v_60 {f_t p1 z1083 z1104 z722 z786 : Int} (h0 : 20 * p1 ≤ z1083) (h1 : z1083 < z1104) (h2 : (z722 = 1 → 0 ≤ p1 ∧ p1 < f_t)) (h3 : (z722 = 0 → p1 < 0 ∨ f_t ≤ p1)) (h4 : 0 ≤ p1 ∧ p1 < f_t) (h5 : z786 = (((20 * p1) + (10 * 0)) + 0)) (h6 : z1104 = (((20 * p1) + (10 * 2)) + 0)) (h7 : 0 ≤ f_t ∧ f_t ≤ 20) (h8 : 0 ≤ p1 ∧ p1 ≤ 19) (h9 : 0 ≤ z1083 ∧ z1083 ≤ 399) (h10 : 20 ≤ z1104 ∧ z1104 ≤ 400) (h11 : 1 ≤ z722 ∧ z722 ≤ 1) (h12 : 0 ≤ z786 ∧ z786 ≤ 380) : ((40 * (530 + z1083)) + 1) ≤ 5200 ∨ 21200 ≤ (40 * (530 + z1083)) ∨ (40 * (130 + z1083) ≤ (40 * (530 + z1083)) ∧ ((40 * (530 + z1083)) + 1) ≤ 40 * (130 + z1083) + 40) := by omega
theorem vc_X12_raise_v_61 {f_t p1 z1083 z1104 z722 z786 : Int} (h0 : 20 * p1 ≤ z1083) (h1 : z1083 < z1104) (h2 : (z722 = 1 → 0 ≤ p1 ∧ p1 < f_t)) (h3 : (z722 = 0 → p1 < 0 ∨ f_t ≤ p1)) (h4 : 0 ≤ p1 ∧ p1 < f_t) (h5 : z786 = (((20 * p1) + (10 * 0)) + 0)) (h6 : z1104 = (((20 * p1) + (10 * 2)) + 0)) (h7 : 0 ≤ f_t ∧ f_t ≤ 20) (h8 : 0 ≤ p1 ∧ p1 ≤ 19) (h9 : 0 ≤ z1083 ∧ z1083 ≤ 399) (h10 : 20 ≤ z1104 ∧ z1104 ≤ 400) (h11 : 1 ≤ z722 ∧ z722 ≤ 1) (h12 : 0 ≤ z786 ∧ z786 ≤ 380) : ((40 * (130 + z1083)) + 1) ≤ 5200 ∨ 21200 ≤ (40 * (130 + z1083)) ∨ (40 * (130 + z1083) ≤ (40 * (130 + z1083)) ∧ ((40 * (130 + z1083)) + 1) ≤ 40 * (130 + z1083) + 40) := by omega
theorem vc_X12_raise_v_62 {f_t p1 z1083 z1104 z722 z786 : Int} (h0 : (z722 = 1 → 0 ≤ p1 ∧ p1 < f_t)) (h1 : (z722 = 0 → p1 < 0 ∨ f_t ≤ p1)) (h2 : 0 ≤ p1 ∧ p1 < f_t) (h3 : z786 = (((20 * p1) + (10 * 0)) + 0)) (h4 : 20 * p1 ≤ z1083) (h5 : z1104 = (((20 * p1) + (10 * 2)) + 0)) (h6 : z1083 < z1104) (h7 : ¬ z722 = 0) (h8 : 0 ≤ f_t ∧ f_t ≤ 20) (h9 : 0 ≤ p1 ∧ p1 ≤ 19) (h10 : 0 ≤ z1083 ∧ z1083 ≤ 399) (h11 : 20 ≤ z1104 ∧ z1104 ≤ 400) (h12 : 1 ≤ z722 ∧ z722 ≤ 1) (h13 : 0 ≤ z786 ∧ z786 ≤ 380) : 20 * p1 ≤ z1083 ∧ z1083 < 20 * p1 + 20 := by omega
theorem vc_X12_raise_v_64 {f_t p1 z1083 z1104 z722 z786 : Int} (h0 : (z722 = 1 → 0 ≤ p1 ∧ p1 < f_t)) (h1 : (z722 = 0 → p1 < 0 ∨ f_t ≤ p1)) (h2 : 0 ≤ p1 ∧ p1 < f_t) (h3 : z786 = (((20 * p1) + (10 * 0)) + 0)) (h4 : 20 * p1 ≤ z1083) (h5 : z1104 = (((20 * p1) + (10 * 2)) + 0)) (h6 : z1083 < z1104) (h7 : ¬ z722 = 0) (h8 : 0 ≤ f_t ∧ f_t ≤ 20) (h9 : 0 ≤ p1 ∧ p1 ≤ 19) (h10 : 0 ≤ z1083 ∧ z1083 ≤ 399) (h11 : 20 ≤ z1104 ∧ z1104 ≤ 400) (h12 : 1 ≤ z722 ∧ z722 ≤ 1) (h13 : 0 ≤ z786 ∧ z786 ≤ 380) : ((40 * (530 + z1083)) + 1) ≤ 5200 ∨ 21200 ≤ (40 * (530 + z1083)) ∨ (40 * (130 + 20 * p1) ≤ (40 * (530 + z1083)) ∧ ((40 * (530 + z1083)) + 1) ≤ 40 * (130 + 20 * p1) + 800) := by omega
theorem vc_X12_raise_v_65 {f_t p1 z1083 z1104 z722 z786 : Int} (h0 : (z722 = 1 → 0 ≤ p1 ∧ p1 < f_t)) (h1 : (z722 = 0 → p1 < 0 ∨ f_t ≤ p1)) (h2 : 0 ≤ p1 ∧ p1 < f_t) (h3 : z786 = (((20 * p1) + (10 * 0)) + 0)) (h4 : 20 * p1 ≤ z1083) (h5 : z1104 = (((20 * p1) + (10 * 2)) + 0)) (h6 : z1083 < z1104) (h7 : ¬ z722 = 0) (h8 : 0 ≤ f_t ∧ f_t ≤ 20) (h9 : 0 ≤ p1 ∧ p1 ≤ 19) (h10 : 0 ≤ z1083 ∧ z1083 ≤ 399) (h11 : 20 ≤ z1104 ∧ z1104 ≤ 400) (h12 : 1 ≤ z722 ∧ z722 ≤ 1) (h13 : 0 ≤ z786 ∧ z786 ≤ 380) : ((40 * (130 + z1083)) + 1) ≤ 5200 ∨ 21200 ≤ (40 * (130 + z1083)) ∨ (40 * (130 + 20 * p1) ≤ (40 * (130 + z1083)) ∧ ((40 * (130 + z1083)) + 1) ≤ 40 * (130 + 20 * p1) + 800) := by omega
theorem vc_X12_raise_v_66 {f_t p1 z1083 z1104 z722 z786 : Int} (h0 : (z722 = 1 → 0 ≤ p1 ∧ p1 < f_t)) (h1 : (z722 = 0 → p1 < 0 ∨ f_t ≤ p1)) (h2 : 0 ≤ p1 ∧ p1 < f_t) (h3 : z786 = (((20 * p1) + (10 * 0)) + 0)) (h4 : 20 * p1 ≤ z1083) (h5 : z1104 = (((20 * p1) + (10 * 2)) + 0)) (h6 : ¬ z722 = 0) (h7 : z1083 < z1104) (h8 : 0 ≤ f_t ∧ f_t ≤ 20) (h9 : 0 ≤ p1 ∧ p1 ≤ 19) (h10 : 0 ≤ z1083 ∧ z1083 ≤ 399) (h11 : 20 ≤ z1104 ∧ z1104 ≤ 400) (h12 : 1 ≤ z722 ∧ z722 ≤ 1) (h13 : 0 ≤ z786 ∧ z786 ≤ 380) : 0 ≤ p1 := by omega
theorem vc_X12_raise_v_67 {f_t p1 z722 z786 : Int} (h0 : (z722 = 1 → 0 ≤ p1 ∧ p1 < f_t)) (h1 : (z722 = 0 → p1 < 0 ∨ f_t ≤ p1)) (h2 : 0 ≤ p1 ∧ p1 < f_t) (h3 : z786 = (((20 * p1) + (10 * 0)) + 0)) (h4 : ¬ z722 = 0) (h5 : 0 ≤ f_t ∧ f_t ≤ 20) (h6 : 0 ≤ p1 ∧ p1 ≤ 19) (h7 : 1 ≤ z722 ∧ z722 ≤ 1) (h8 : 0 ≤ z786 ∧ z786 ≤ 380) : 20 * p1 ≤ z786 := by omega
theorem vc_X12_raise_v_68 {f_t p1 z722 z786 : Int} (h0 : z786 = (((20 * p1) + (10 * 0)) + 0)) (h1 : (z722 = 1 → 0 ≤ p1 ∧ p1 < f_t)) (h2 : (z722 = 0 → p1 < 0 ∨ f_t ≤ p1)) (h3 : 0 ≤ p1 ∧ p1 < f_t) (h4 : 0 ≤ f_t ∧ f_t ≤ 20) (h5 : 0 ≤ p1 ∧ p1 ≤ 19) (h6 : 1 ≤ z722 ∧ z722 ≤ 1) (h7 : 0 ≤ z786 ∧ z786 ≤ 380) : (401 - z786) < ((402 : Nat) : Int) := by omega
theorem vc_X12_raise_v_69 {f_t p1 z722 z786 : Int} (h0 : (z722 = 1 → 0 ≤ p1 ∧ p1 < f_t)) (h1 : (z722 = 0 → p1 < 0 ∨ f_t ≤ p1)) (h2 : 0 ≤ p1 ∧ p1 < f_t) (h3 : z786 = (((20 * p1) + (10 * 0)) + 0)) (h4 : ¬ z722 = 0) (h5 : 0 ≤ f_t ∧ f_t ≤ 20) (h6 : 0 ≤ p1 ∧ p1 ≤ 19) (h7 : 1 ≤ z722 ∧ z722 ≤ 1) (h8 : 0 ≤ z786 ∧ z786 ≤ 380) : 20 * p1 = z786 := by omega
theorem vc_X12_raise_v_70 {f_t p1 z722 z786 : Int} (h0 : (z722 = 1 → 0 ≤ p1 ∧ p1 < f_t)) (h1 : (z722 = 0 → p1 < 0 ∨ f_t ≤ p1)) (h2 : 0 ≤ p1 ∧ p1 < f_t) (h3 : z786 = (((20 * p1) + (10 * 0)) + 0)) (h4 : ¬ z722 = 0) (h5 : 0 ≤ f_t ∧ f_t ≤ 20) (h6 : 0 ≤ p1 ∧ p1 ≤ 19) (h7 : 1 ≤ z722 ∧ z722 ≤ 1) (h8 : 0 ≤ z786 ∧ z786 ≤ 380) : 0 ≤ p1 := by omega
theorem vc_X12_raise_v_72 {f_t p1 z722 : Int} (h0 : (z722 = 1 → 0 ≤ p1 ∧ p1 < f_t)) (h1 : (z722 = 0 → p1 < 0 ∨ f_t ≤ p1)) (h2 : z722 = 0) (h3 : 0 ≤ f_t ∧ f_t ≤ 20) (h4 : (-2147483648) ≤ p1 ∧ p1 ≤ 2147483647) (h5 : 0 ≤ z722 ∧ z722 ≤ 0) : z722 = 0 := by omega
theorem vc_X12_raise_v_73 {f_t p1 z722 : Int} (h0 : (z722 = 1 → 0 ≤ p1 ∧ p1 < f_t)) (h1 : (z722 = 0 → p1 < 0 ∨ f_t ≤ p1)) (h2 : p1 < 0 ∨ f_t ≤ p1) (h3 : z722 = 0) (h4 : 0 ≤ f_t ∧ f_t ≤ 20) (h5 : (-2147483648) ≤ p1 ∧ p1 ≤ 2147483647) (h6 : 0 ≤ z722 ∧ z722 ≤ 0) : p1 < 0 ∨ f_t ≤ p1 := by omega
set_option maxRecDepth 4000 in
set_option maxHeartbeats 4000000 in
theorem c_X12_raise_v {l : Launch} {D : va_G} {c : Nat → ClassId} {H0 : Heap} {sa : Nat × Nat × (Nat → Int32)} {w : mW} {μ : mM} (hw : mWF w) (hT : mT w μ) {p1 : Int} (hp1 : (-2147483648) ≤ p1 ∧ p1 ≤ 2147483647) {p2 : Int} (hp2 : 0 ≤ p2 ∧ p2 ≤ 1) {f_t : Int} (q_f_t : μ 106 6 = f_t) (hIJC : JC l D c H0 sa μ) (hIRP : RP μ) (hIEP : EP μ) (hIHP : HP μ) (hIUP : UP l D c H0 sa μ) (hIG1 : G1 μ) (hIEV : EV μ) (hIPK : PK μ) : sC (gG l D c H0 sa) mX12_raise 12 0 0 [.ref 106, iv p1, iv p2] (mk w μ) (qI w [106026, 106027, 106028, 106029, 106030, 106031, 106072, 112999, 126999, 151999, 152999, 153999, 155999, 156999, 157999, 158999, 159999, 160999, 161999, 165999] μ (fun z μ1 => ((-2147483648) ≤ z ∧ z ≤ 2147483647) ∧ JC l D c H0 sa μ1 ∧ RP μ1 ∧ EP μ1 ∧ HP μ1 ∧ UP l D c H0 sa μ1 ∧ G1 μ1 ∧ EV μ1 ∧ (riR μ μ1 f_t p1 p2 z) ∧ True)) := by
  refine sC.of rfl (by decide) (le_t rfl) ?_
  have ht_f_t : (0 ≤ f_t ∧ f_t ≤ 20) := by rw [← q_f_t]; exact hT 106 106 (A_106 hw) 6
  refine mr_lvE (lv' := [(0, .ref 106), (1, iv p1), (2, iv p2)]) rfl ?_
  refine sv_aload_n (pc := 0) dX12_raise_0 rfl rfl ?_
  refine mr_iload_n (pc := 1) (z := p1) dX12_raise_1 rfl rfl ?_
  refine mr_cVP (pc := 2) (c_X12_isTie hw hT hp1 q_f_t) (gOk _ _ _ _ _) dX12_raise_2 (tX12_isTie _ _ _ _ _) ⟨wV_X12_isTie, wL_X12_isTie⟩ wM_X12_66 (gCX12 _ _ _ _ _) rfl (A_106 hw) rfl ⟨le_t rfl, le_t rfl⟩ ⟨le_t rfl, le_t rfl⟩ rfl (le_t rfl) fun z722 h721 => ?_
  refine mr_if_ne (pc := 5) (tgt := 10) dX12_raise_5 (by decide) (r32 h721.1 rfl) (fun h723 => ?_) (fun h723 => ?_)
  · have h724 : 1 ≤ z722 ∧ z722 ≤ 1 := (vc_X11_raise_v_1 h723 h721.2.1 h721.2.2.1 ht_f_t hp1 h721.1)
    have h725 : 0 ≤ p1 ∧ p1 < f_t := (h721.2.1 (vc_X12_raise_v_2 h721.2.1 h721.2.2.1 h723 ht_f_t hp1 h724))
    have h726 : 0 ≤ p1 ∧ p1 ≤ 19 := (vc_X12_raise_v_3 h725 h721.2.1 h721.2.2.1 ht_f_t hp1 h724)
    refine sv_aload_n (pc := 10) dX12_raise_10 rfl rfl ?_
    refine gf_X12_9 (pc := 11) dX12_raise_11 wF_X12_53 (A_106 hw) hT ?_
    refine mr_iload_n (pc := 14) (z := p1) dX12_raise_14 rfl rfl ?_
    refine la_112 (pc := 15) dX12_raise_15 (A_112 hw) hT (rIx (n := 20) h726 rfl) fun z727 q728 h729 => ?_
    refine mr_if_eq (pc := 16) (tgt := 23) dX12_raise_16 (by decide) (r32 h729 rfl) (fun h730 => ?_) (fun h730 => ?_)
    · have h731 : 0 ≤ z727 ∧ z727 ≤ 0 := (vc_X12_ring_22 h730 h729)
      refine mr_iconst (pc := 23) (z := 0) dX12_raise_23 ?_
      refine mr_istore_n (pc := 24) (lv' := [(3, iv 0), (0, .ref 106), (1, iv p1), (2, iv p2)]) dX12_raise_24 rfl (by decide) rfl ?_
      refine mr_iload_n (pc := 25) (z := p2) dX12_raise_25 rfl rfl ?_
      refine mr_if_ne (pc := 26) (tgt := 35) dX12_raise_26 (by decide) (r32 hp2 rfl) (fun h732 => ?_) (fun h732 => ?_)
      · have h733 : 1 ≤ p2 ∧ p2 ≤ 1 := (vc_X12_ring_24 h732 hp2)
        refine sv_aload_n (pc := 35) dX12_raise_35 rfl rfl ?_
        refine gf_X12_9 (pc := 36) dX12_raise_36 wF_X12_53 (A_106 hw) hT ?_
        refine mr_iload_n (pc := 39) (z := p1) dX12_raise_39 rfl rfl ?_
        refine mr_iload_n (pc := 40) (z := p2) dX12_raise_40 rfl rfl ?_
        refine ss_112 (pc := 41) dX12_raise_41 (A_112 hw) hT (rIx (n := 20) h726 rfl) (rW (c := 0) (d := 1) h733 rfl) fun μ734 u735 T736 => ?_
        refine mr_iload_n (pc := 42) (z := p2) dX12_raise_42 rfl rfl ?_
        refine mr_if_eq (pc := 43) (tgt := 76) dX12_raise_43 (by decide) (r32 h733 rfl) (fun h => ((vc_X12_letWay_13 h h733)).elim) (fun _ => ?_)
        have I737 : UP l D c H0 sa μ734 := UP.rise hIUP hIHP hw T736 (PK.keep hIPK hw ((mF.up mF.refl (A_112 hw) u735 rfl) : mF [112999] w μ μ734) rfl) h726 u735 (by rw [q728]; exact (vc_X12_raise_v_8 h730 h732 h733 h731))
        have I738 : EP μ734 := EP.tie hIEP u735 (vc_X12_hear_u_37 h732 h733)
        have I739 : HP μ734 := HP.tie hIHP u735 (vc_X12_hear_u_37 h732 h733)
        refine sv_aload_n (pc := 46) dX12_raise_46 rfl rfl ?_
        refine sv_aload_n (pc := 47) dX12_raise_47 rfl rfl ?_
        refine gf_X12_7 (pc := 48) dX12_raise_48 wF_X12_40 (A_106 hw) T736 ?_
        refine mr_iconst (pc := 51) (z := 2) dX12_raise_51 ?_
        refine mr_iload_n (pc := 52) (z := p1) dX12_raise_52 rfl rfl ?_
        refine mr_imul (pc := 53) (x := 2) (y := p1) dX12_raise_53 ?_
        refine la_110 (pc := 54) dX12_raise_54 (A_110 hw) T736 (rIx (n := 40) (rMulL (n := 2) (e := 0) (f := 38) h726 rfl) rfl) fun z740 q741 h742 => ?_
        refine mr_iload_n (pc := 55) (z := p1) dX12_raise_55 rfl rfl ?_
        obtain ⟨z743, q744⟩ : ∃ z, μ734 110 (((2 * p1) + 1).toNat) = z := ⟨_, rfl⟩
        have h745 : (0 ≤ z743 ∧ z743 ≤ 9) := by rw [← q744]; exact T736 110 110 (A_110 hw) (((2 * p1) + 1).toNat)
        refine mr_cVV (pc := 56) (c_X12_sayAll_u hw T736 h742 h726 q741 q744 (u735.f (Or.inl (mAt.ne (A_112 hw) (A_106 hw) rfl)) q_f_t) (vc_X12_raise_v_9 h721.2.1 h721.2.2.1 h725 h723 ht_f_t h726 h724) (vc_X12_use_u_29 h742 h745) (JC.keepJ hIJC hw ((mF.up mF.refl (A_112 hw) u735 rfl) : mF [112999] w μ μ734) rfl) (RP.keep hIRP hw ((mF.up mF.refl (A_112 hw) u735 rfl) : mF [112999] w μ μ734) rfl ((mG.upO mG.refl u735 rfl) : mG [] μ μ734) (fun _ h => absurd h List.not_mem_nil)) I738 (G1.keep hIG1 hw ((mF.up mF.refl (A_112 hw) u735 rfl) : mF [112999] w μ μ734) rfl rfl ((mG.upO mG.refl u735 rfl) : mG [] μ μ734) (fun _ h => absurd h List.not_mem_nil)) (EV.keep hIEV hw ((mF.up mF.refl (A_112 hw) u735 rfl) : mF [112999] w μ μ734) rfl) (PK.keep hIPK hw ((mF.up mF.refl (A_112 hw) u735 rfl) : mF [112999] w μ μ734) rfl)) (gOk _ _ _ _ _) dX12_raise_56 (tX12_sayAll _ _ _ _ _) ⟨wV_X12_sayAll, wL_X12_sayAll⟩ wM_X12_603 (gCX12 _ _ _ _ _) rfl (A_106 hw) rfl ⟨le_t rfl, le_t rfl⟩ ⟨le_t rfl, le_t rfl⟩ rfl (le_t rfl) fun μ746 T747 F748 h749 => ?_
        refine sv_aload_n (pc := 59) dX12_raise_59 rfl rfl ?_
        refine sv_aload_n (pc := 60) dX12_raise_60 rfl rfl ?_
        refine gf_X12_7 (pc := 61) dX12_raise_61 wF_X12_40 (A_106 hw) T747 ?_
        refine mr_iconst (pc := 64) (z := 2) dX12_raise_64 ?_
        refine mr_iload_n (pc := 65) (z := p1) dX12_raise_65 rfl rfl ?_
        refine mr_imul (pc := 66) (x := 2) (y := p1) dX12_raise_66 ?_
        refine mr_iconst (pc := 67) (z := 1) dX12_raise_67 ?_
        refine mr_iadd (pc := 68) (x := (2 * p1)) (y := 1) dX12_raise_68 ?_
        refine lk_110 (pc := 69) dX12_raise_69 (A_110 hw) (rIx (n := 40) (rAdd (e := 1) (f := 39) (rMulL (n := 2) (e := 0) (f := 38) h726 rfl) (rR (x := 1)) rfl) rfl) (F748.f (A_110 hw) rfl q744) ?_
        refine mr_iload_n (pc := 70) (z := p1) dX12_raise_70 rfl rfl ?_
        refine mr_cVV (pc := 71) (c_X12_sayAll_u hw T747 h745 h726 (F748.f (A_110 hw) rfl q741) (F748.f (A_110 hw) rfl q744) (F748.f (A_106 hw) rfl (u735.f (Or.inl (mAt.ne (A_112 hw) (A_106 hw) rfl)) q_f_t)) (vc_X12_raise_v_9 h721.2.1 h721.2.2.1 h725 h723 ht_f_t h726 h724) (vc_X12_use_u_45 h742 h745) h749.2.1 h749.2.2.1 h749.2.2.2.1 h749.2.2.2.2.1 h749.2.2.2.2.2.1 (PK.keep hIPK hw ((mF.call (mF.up mF.refl (A_112 hw) u735 rfl) F748 rfl) : mF [106026, 106027, 106028, 106029, 106030, 106031, 106072, 112999, 126999, 151999, 152999, 153999, 155999, 156999, 157999, 158999, 159999, 160999] w μ μ746) rfl)) (gOk _ _ _ _ _) dX12_raise_71 (tX12_sayAll _ _ _ _ _) ⟨wV_X12_sayAll, wL_X12_sayAll⟩ wM_X12_603 (gCX12 _ _ _ _ _) rfl (A_106 hw) rfl ⟨le_t rfl, le_t rfl⟩ ⟨le_t rfl, le_t rfl⟩ rfl (le_t rfl) fun μ750 T751 F752 h753 => ?_
        refine mr_iload_n (pc := 74) (z := 0) dX12_raise_74 rfl rfl ?_
        exact mr_iret dX12_raise_75 rfl (le_t rfl) (le_t rfl) T751 (mF.call (mF.call (mF.up mF.refl (A_112 hw) u735 rfl) F748 rfl) F752 rfl) ⟨(rW (c := (-2147483648)) (d := 2147483647) (rR (x := 0)) rfl), h753.2.1, h753.2.2.1, h753.2.2.2.1, (HP.keep I739 hw ((mF.call (mF.call mF.refl F748 rfl) F752 rfl) : mF [106026, 106027, 106028, 106029, 106030, 106031, 106072, 126999, 151999, 152999, 153999, 155999, 156999, 157999, 158999, 159999, 160999] w μ734 μ750) rfl ((mG.call (mG.call mG.refl h749.1 (List.forall_mem_cons.mpr ⟨⟨_, List.mem_cons_self, vc_X12_say_u_33⟩, (List.forall_mem_cons.mpr ⟨⟨_, (List.mem_cons_of_mem _ List.mem_cons_self), vc_X12_say_u_34⟩, (fun _ h => absurd h List.not_mem_nil)⟩)⟩)) h753.1 (List.forall_mem_cons.mpr ⟨⟨_, List.mem_cons_self, vc_X12_say_u_33⟩, (List.forall_mem_cons.mpr ⟨⟨_, (List.mem_cons_of_mem _ List.mem_cons_self), vc_X12_say_u_34⟩, (fun _ h => absurd h List.not_mem_nil)⟩)⟩)) : mG [(80, 120), (21200, 53200)] μ734 μ750) (List.forall_mem_cons.mpr ⟨vc_X12_look_u_56, (List.forall_mem_cons.mpr ⟨vc_X12_look_u_55, (fun _ h => absurd h List.not_mem_nil)⟩)⟩)), (UPg.fr I737 hw T751 rfl ((mF.call (mF.call mF.refl F748 rfl) F752 rfl) : mF [106026, 106027, 106028, 106029, 106030, 106031, 106072, 126999, 151999, 152999, 153999, 155999, 156999, 157999, 158999, 159999, 160999] w μ734 μ750) rfl rfl rfl ((mG.call (mG.call mG.refl h749.1 (List.forall_mem_cons.mpr ⟨⟨_, List.mem_cons_self, vc_X12_say_u_33⟩, (List.forall_mem_cons.mpr ⟨⟨_, (List.mem_cons_of_mem _ List.mem_cons_self), vc_X12_say_u_34⟩, (fun _ h => absurd h List.not_mem_nil)⟩)⟩)) h753.1 (List.forall_mem_cons.mpr ⟨⟨_, List.mem_cons_self, vc_X12_say_u_33⟩, (List.forall_mem_cons.mpr ⟨⟨_, (List.mem_cons_of_mem _ List.mem_cons_self), vc_X12_say_u_34⟩, (fun _ h => absurd h List.not_mem_nil)⟩)⟩)) : mG [(80, 120), (21200, 53200)] μ734 μ750) (List.forall_mem_cons.mpr ⟨vc_X12_look_u_56, (List.forall_mem_cons.mpr ⟨vc_X12_look_u_55, (fun _ h => absurd h List.not_mem_nil)⟩)⟩)), h753.2.2.2.2.1, h753.2.2.2.2.2.1, (Or.inr ⟨(vc_X12_raise_v_16 h721.2.1 h721.2.2.1 h725 h723 ht_f_t h726 h724), (vc_X12_raise_v_9 h721.2.1 h721.2.2.1 h725 h723 ht_f_t h726 h724), (by rw [q728]; exact (vc_X11_raise_v_10 h730 h731)), (one.fr (one.fr (one.up one.refl (vc_X12_raise_v_16 h721.2.1 h721.2.2.1 h725 h723 ht_f_t h726 h724) u735) F748 (A_112 hw) rfl rfl) F752 (A_112 hw) rfl rfl), (F752.f (A_112 hw) rfl (F748.f (A_112 hw) rfl u735.1)).trans (vc_X12_raise_v_18 h730 h732 h733 h731)⟩), trivial⟩
      have h754 : 0 ≤ p2 ∧ p2 ≤ 0 := (vc_X12_ring_22 h732 hp2)
      refine mr_iload_n (pc := 29) (z := 0) dX12_raise_29 rfl rfl ?_
      refine mr_if_ne (pc := 30) (tgt := 35) dX12_raise_30 (by decide) (r32 (rR (x := 0)) rfl) (fun h => ((vc_X12_next_469 h)).elim) (fun _ => ?_)
      refine mr_iconst (pc := 33) (z := 0) dX12_raise_33 ?_
      exact mr_iret dX12_raise_34 rfl (le_t rfl) (le_t rfl) hT mF.refl ⟨(rW (c := (-2147483648)) (d := 2147483647) (rR (x := 0)) rfl), hIJC, hIRP, hIEP, hIHP, hIUP, hIG1, hIEV, (Or.inr ⟨(vc_X12_raise_v_16 h721.2.1 h721.2.2.1 h725 h723 ht_f_t h726 h724), (vc_X12_raise_v_9 h721.2.1 h721.2.2.1 h725 h723 ht_f_t h726 h724), (by rw [q728]; exact (vc_X11_raise_v_10 h730 h731)), one.refl, q728.trans (vc_X11_raise_v_11 h730 h732 h754 h731)⟩), trivial⟩
    have h755 : 1 ≤ z727 ∧ z727 ≤ 1 := (vc_X12_ring_24 h730 h729)
    refine mr_iconst (pc := 19) (z := 1) dX12_raise_19 ?_
    refine sv_goto (pc := 20) (tgt := 24) dX12_raise_20 (by decide) ?_
    refine mr_istore_n (pc := 24) (lv' := [(3, iv 1), (0, .ref 106), (1, iv p1), (2, iv p2)]) dX12_raise_24 rfl (by decide) rfl ?_
    refine mr_iload_n (pc := 25) (z := p2) dX12_raise_25 rfl rfl ?_
    refine mr_if_ne (pc := 26) (tgt := 35) dX12_raise_26 (by decide) (r32 hp2 rfl) (fun h756 => ?_) (fun h756 => ?_)
    · have h757 : 1 ≤ p2 ∧ p2 ≤ 1 := (vc_X12_ring_24 h756 hp2)
      refine sv_aload_n (pc := 35) dX12_raise_35 rfl rfl ?_
      refine gf_X12_9 (pc := 36) dX12_raise_36 wF_X12_53 (A_106 hw) hT ?_
      refine mr_iload_n (pc := 39) (z := p1) dX12_raise_39 rfl rfl ?_
      refine mr_iload_n (pc := 40) (z := p2) dX12_raise_40 rfl rfl ?_
      refine ss_112 (pc := 41) dX12_raise_41 (A_112 hw) hT (rIx (n := 20) h726 rfl) (rW (c := 0) (d := 1) h757 rfl) fun μ758 u759 T760 => ?_
      refine mr_iload_n (pc := 42) (z := p2) dX12_raise_42 rfl rfl ?_
      refine mr_if_eq (pc := 43) (tgt := 76) dX12_raise_43 (by decide) (r32 h757 rfl) (fun h => ((vc_X12_letWay_13 h h757)).elim) (fun _ => ?_)
      have I761 : UP l D c H0 sa μ758 := UP.rise hIUP hIHP hw T760 (PK.keep hIPK hw ((mF.up mF.refl (A_112 hw) u759 rfl) : mF [112999] w μ μ758) rfl) h726 u759 (by rw [q728]; exact (vc_X12_raise_v_23 h730 h756 h757 h755))
      have I762 : EP μ758 := EP.tie hIEP u759 (vc_X12_hear_u_37 h756 h757)
      have I763 : HP μ758 := HP.tie hIHP u759 (vc_X12_hear_u_37 h756 h757)
      refine sv_aload_n (pc := 46) dX12_raise_46 rfl rfl ?_
      refine sv_aload_n (pc := 47) dX12_raise_47 rfl rfl ?_
      refine gf_X12_7 (pc := 48) dX12_raise_48 wF_X12_40 (A_106 hw) T760 ?_
      refine mr_iconst (pc := 51) (z := 2) dX12_raise_51 ?_
      refine mr_iload_n (pc := 52) (z := p1) dX12_raise_52 rfl rfl ?_
      refine mr_imul (pc := 53) (x := 2) (y := p1) dX12_raise_53 ?_
      refine la_110 (pc := 54) dX12_raise_54 (A_110 hw) T760 (rIx (n := 40) (rMulL (n := 2) (e := 0) (f := 38) h726 rfl) rfl) fun z764 q765 h766 => ?_
      refine mr_iload_n (pc := 55) (z := p1) dX12_raise_55 rfl rfl ?_
      obtain ⟨z767, q768⟩ : ∃ z, μ758 110 (((2 * p1) + 1).toNat) = z := ⟨_, rfl⟩
      have h769 : (0 ≤ z767 ∧ z767 ≤ 9) := by rw [← q768]; exact T760 110 110 (A_110 hw) (((2 * p1) + 1).toNat)
      refine mr_cVV (pc := 56) (c_X12_sayAll_u hw T760 h766 h726 q765 q768 (u759.f (Or.inl (mAt.ne (A_112 hw) (A_106 hw) rfl)) q_f_t) (vc_X12_raise_v_9 h721.2.1 h721.2.2.1 h725 h723 ht_f_t h726 h724) (vc_X12_use_u_29 h766 h769) (JC.keepJ hIJC hw ((mF.up mF.refl (A_112 hw) u759 rfl) : mF [112999] w μ μ758) rfl) (RP.keep hIRP hw ((mF.up mF.refl (A_112 hw) u759 rfl) : mF [112999] w μ μ758) rfl ((mG.upO mG.refl u759 rfl) : mG [] μ μ758) (fun _ h => absurd h List.not_mem_nil)) I762 (G1.keep hIG1 hw ((mF.up mF.refl (A_112 hw) u759 rfl) : mF [112999] w μ μ758) rfl rfl ((mG.upO mG.refl u759 rfl) : mG [] μ μ758) (fun _ h => absurd h List.not_mem_nil)) (EV.keep hIEV hw ((mF.up mF.refl (A_112 hw) u759 rfl) : mF [112999] w μ μ758) rfl) (PK.keep hIPK hw ((mF.up mF.refl (A_112 hw) u759 rfl) : mF [112999] w μ μ758) rfl)) (gOk _ _ _ _ _) dX12_raise_56 (tX12_sayAll _ _ _ _ _) ⟨wV_X12_sayAll, wL_X12_sayAll⟩ wM_X12_603 (gCX12 _ _ _ _ _) rfl (A_106 hw) rfl ⟨le_t rfl, le_t rfl⟩ ⟨le_t rfl, le_t rfl⟩ rfl (le_t rfl) fun μ770 T771 F772 h773 => ?_
      refine sv_aload_n (pc := 59) dX12_raise_59 rfl rfl ?_
      refine sv_aload_n (pc := 60) dX12_raise_60 rfl rfl ?_
      refine gf_X12_7 (pc := 61) dX12_raise_61 wF_X12_40 (A_106 hw) T771 ?_
      refine mr_iconst (pc := 64) (z := 2) dX12_raise_64 ?_
      refine mr_iload_n (pc := 65) (z := p1) dX12_raise_65 rfl rfl ?_
      refine mr_imul (pc := 66) (x := 2) (y := p1) dX12_raise_66 ?_
      refine mr_iconst (pc := 67) (z := 1) dX12_raise_67 ?_
      refine mr_iadd (pc := 68) (x := (2 * p1)) (y := 1) dX12_raise_68 ?_
      refine lk_110 (pc := 69) dX12_raise_69 (A_110 hw) (rIx (n := 40) (rAdd (e := 1) (f := 39) (rMulL (n := 2) (e := 0) (f := 38) h726 rfl) (rR (x := 1)) rfl) rfl) (F772.f (A_110 hw) rfl q768) ?_
      refine mr_iload_n (pc := 70) (z := p1) dX12_raise_70 rfl rfl ?_
      refine mr_cVV (pc := 71) (c_X12_sayAll_u hw T771 h769 h726 (F772.f (A_110 hw) rfl q765) (F772.f (A_110 hw) rfl q768) (F772.f (A_106 hw) rfl (u759.f (Or.inl (mAt.ne (A_112 hw) (A_106 hw) rfl)) q_f_t)) (vc_X12_raise_v_9 h721.2.1 h721.2.2.1 h725 h723 ht_f_t h726 h724) (vc_X12_use_u_45 h766 h769) h773.2.1 h773.2.2.1 h773.2.2.2.1 h773.2.2.2.2.1 h773.2.2.2.2.2.1 (PK.keep hIPK hw ((mF.call (mF.up mF.refl (A_112 hw) u759 rfl) F772 rfl) : mF [106026, 106027, 106028, 106029, 106030, 106031, 106072, 112999, 126999, 151999, 152999, 153999, 155999, 156999, 157999, 158999, 159999, 160999] w μ μ770) rfl)) (gOk _ _ _ _ _) dX12_raise_71 (tX12_sayAll _ _ _ _ _) ⟨wV_X12_sayAll, wL_X12_sayAll⟩ wM_X12_603 (gCX12 _ _ _ _ _) rfl (A_106 hw) rfl ⟨le_t rfl, le_t rfl⟩ ⟨le_t rfl, le_t rfl⟩ rfl (le_t rfl) fun μ774 T775 F776 h777 => ?_
      refine mr_iload_n (pc := 74) (z := 1) dX12_raise_74 rfl rfl ?_
      exact mr_iret dX12_raise_75 rfl (le_t rfl) (le_t rfl) T775 (mF.call (mF.call (mF.up mF.refl (A_112 hw) u759 rfl) F772 rfl) F776 rfl) ⟨(rW (c := (-2147483648)) (d := 2147483647) (rR (x := 1)) rfl), h777.2.1, h777.2.2.1, h777.2.2.2.1, (HP.keep I763 hw ((mF.call (mF.call mF.refl F772 rfl) F776 rfl) : mF [106026, 106027, 106028, 106029, 106030, 106031, 106072, 126999, 151999, 152999, 153999, 155999, 156999, 157999, 158999, 159999, 160999] w μ758 μ774) rfl ((mG.call (mG.call mG.refl h773.1 (List.forall_mem_cons.mpr ⟨⟨_, List.mem_cons_self, vc_X12_say_u_33⟩, (List.forall_mem_cons.mpr ⟨⟨_, (List.mem_cons_of_mem _ List.mem_cons_self), vc_X12_say_u_34⟩, (fun _ h => absurd h List.not_mem_nil)⟩)⟩)) h777.1 (List.forall_mem_cons.mpr ⟨⟨_, List.mem_cons_self, vc_X12_say_u_33⟩, (List.forall_mem_cons.mpr ⟨⟨_, (List.mem_cons_of_mem _ List.mem_cons_self), vc_X12_say_u_34⟩, (fun _ h => absurd h List.not_mem_nil)⟩)⟩)) : mG [(80, 120), (21200, 53200)] μ758 μ774) (List.forall_mem_cons.mpr ⟨vc_X12_look_u_56, (List.forall_mem_cons.mpr ⟨vc_X12_look_u_55, (fun _ h => absurd h List.not_mem_nil)⟩)⟩)), (UPg.fr I761 hw T775 rfl ((mF.call (mF.call mF.refl F772 rfl) F776 rfl) : mF [106026, 106027, 106028, 106029, 106030, 106031, 106072, 126999, 151999, 152999, 153999, 155999, 156999, 157999, 158999, 159999, 160999] w μ758 μ774) rfl rfl rfl ((mG.call (mG.call mG.refl h773.1 (List.forall_mem_cons.mpr ⟨⟨_, List.mem_cons_self, vc_X12_say_u_33⟩, (List.forall_mem_cons.mpr ⟨⟨_, (List.mem_cons_of_mem _ List.mem_cons_self), vc_X12_say_u_34⟩, (fun _ h => absurd h List.not_mem_nil)⟩)⟩)) h777.1 (List.forall_mem_cons.mpr ⟨⟨_, List.mem_cons_self, vc_X12_say_u_33⟩, (List.forall_mem_cons.mpr ⟨⟨_, (List.mem_cons_of_mem _ List.mem_cons_self), vc_X12_say_u_34⟩, (fun _ h => absurd h List.not_mem_nil)⟩)⟩)) : mG [(80, 120), (21200, 53200)] μ758 μ774) (List.forall_mem_cons.mpr ⟨vc_X12_look_u_56, (List.forall_mem_cons.mpr ⟨vc_X12_look_u_55, (fun _ h => absurd h List.not_mem_nil)⟩)⟩)), h777.2.2.2.2.1, h777.2.2.2.2.2.1, (Or.inr ⟨(vc_X12_raise_v_16 h721.2.1 h721.2.2.1 h725 h723 ht_f_t h726 h724), (vc_X12_raise_v_9 h721.2.1 h721.2.2.1 h725 h723 ht_f_t h726 h724), (by rw [q728]; exact (vc_X11_raise_v_18 h730 h755)), (one.fr (one.fr (one.up one.refl (vc_X12_raise_v_16 h721.2.1 h721.2.2.1 h725 h723 ht_f_t h726 h724) u759) F772 (A_112 hw) rfl rfl) F776 (A_112 hw) rfl rfl), (F776.f (A_112 hw) rfl (F772.f (A_112 hw) rfl u759.1)).trans (vc_X12_raise_v_27 h730 h756 h757 h755)⟩), trivial⟩
    have h778 : 0 ≤ p2 ∧ p2 ≤ 0 := (vc_X12_ring_22 h756 hp2)
    refine mr_iload_n (pc := 29) (z := 1) dX12_raise_29 rfl rfl ?_
    refine mr_if_ne (pc := 30) (tgt := 35) dX12_raise_30 (by decide) (r32 (rR (x := 1)) rfl) (fun _ => ?_) (fun h => ((vc_X12_next_203 h)).elim)
    refine sv_aload_n (pc := 35) dX12_raise_35 rfl rfl ?_
    refine gf_X12_9 (pc := 36) dX12_raise_36 wF_X12_53 (A_106 hw) hT ?_
    refine mr_iload_n (pc := 39) (z := p1) dX12_raise_39 rfl rfl ?_
    refine mr_iload_n (pc := 40) (z := p2) dX12_raise_40 rfl rfl ?_
    refine ss_112 (pc := 41) dX12_raise_41 (A_112 hw) hT (rIx (n := 20) h726 rfl) (rW (c := 0) (d := 1) h778 rfl) fun μ779 u780 T781 => ?_
    refine mr_iload_n (pc := 42) (z := p2) dX12_raise_42 rfl rfl ?_
    refine mr_if_eq (pc := 43) (tgt := 76) dX12_raise_43 (by decide) (r32 h778 rfl) (fun _ => ?_) (fun h => ((vc_X10_firstWrongStep_7 h h778)).elim)
    refine mr_iload_n (pc := 76) (z := p1) dX12_raise_76 rfl rfl ?_
    refine mr_iconst (pc := 77) (z := 0) dX12_raise_77 ?_
    refine mr_iconst (pc := 78) (z := 0) dX12_raise_78 ?_
    refine mr_cSP (pc := 79) (c_X12_slot hw T781 (rW (c := 0) (d := 20) h726 rfl) (rW (c := 0) (d := 2) (rR (x := 0)) rfl) (rW (c := 0) (d := 9) (rR (x := 0)) rfl)) (gOk _ _ _ _ _) dX12_raise_79 (tX12_slot _ _ _ _ _) wS_X12_slot wM_X12_545 ⟨le_t rfl, le_t rfl⟩ ⟨le_t rfl, le_t rfl⟩ rfl (le_t rfl) fun z786 h785 => ?_
    have h787 : 0 ≤ z786 ∧ z786 ≤ 380 := (vc_X12_raise_v_30 h785.2.1 h721.2.1 h721.2.2.1 h725 ht_f_t h726 h724 h785.1)
    refine mr_istore (pc := 82) (lv' := [(4, iv z786), (3, iv 1), (0, .ref 106), (1, iv p1), (2, iv p2)]) dX12_raise_82 (by decide) rfl ?_
    have L1085 : ∀ (nL1085 : Nat) (z1083 : Int) (μ1084 : mM), mT w μ1084 → mF [126999, 155999, 157999, 159999] w μ779 μ1084 → (0 ≤ z1083 ∧ z1083 ≤ 400) → (20 * p1 ≤ z1083) → JC l D c H0 sa μ1084 → RP μ1084 → G1 μ1084 → EV μ1084 → PK μ1084 → RD μ1084 p1 z1083 → UPx l D c H0 sa μ1084 p1 → (401 - z1083) < (nL1085 : Int) → sV (gG l D c H0 sa) mX12_raise (sRm 12 0 0) (sZ (gG l D c H0 sa) 0 0 (qI w [106026, 106027, 106028, 106029, 106030, 106031, 106072, 112999, 126999, 151999, 152999, 153999, 155999, 156999, 157999, 158999, 159999, 160999, 161999, 165999] μ (fun z μ1 => ((-2147483648) ≤ z ∧ z ≤ 2147483647) ∧ JC l D c H0 sa μ1 ∧ RP μ1 ∧ EP μ1 ∧ HP μ1 ∧ UP l D c H0 sa μ1 ∧ G1 μ1 ∧ EV μ1 ∧ (riR μ μ1 f_t p1 p2 z) ∧ True))) 84 [(0, .ref 106), (1, iv p1), (3, iv 1), (4, iv z1083)] [] (mk w μ1084) 0 0 := by
      intro nL1085
      induction nL1085 with
      | zero => intro z1083 μ1084 T1087 F1088 h1086 h1090 I1091 I1092 I1093 I1094 I1095 R1096 R1097 h1098; exact ((vc_X12_raise_v_31 h1098 h1090 h721.2.1 h721.2.2.1 h725 h785.2.1 ht_f_t h726 h1086 h724 h787)).elim
      | succ nL1085 ih1099 =>
        intro z1083 μ1084 T1087 F1088 h1086 h1090 I1091 I1092 I1093 I1094 I1095 R1096 R1097 h1098
        refine mr_iload (pc := 84) (z := z1083) dX12_raise_84 rfl ?_
        refine mr_iload_n (pc := 86) (z := p1) dX12_raise_86 rfl rfl ?_
        refine mr_iconst (pc := 87) (z := 2) dX12_raise_87 ?_
        refine mr_iconst (pc := 88) (z := 0) dX12_raise_88 ?_
        refine mr_cSP (pc := 89) (c_X12_slot hw T1087 (rW (c := 0) (d := 20) h726 rfl) (rW (c := 0) (d := 2) (rR (x := 2)) rfl) (rW (c := 0) (d := 9) (rR (x := 0)) rfl)) (gOk _ _ _ _ _) dX12_raise_89 (tX12_slot _ _ _ _ _) wS_X12_slot wM_X12_545 ⟨le_t rfl, le_t rfl⟩ ⟨le_t rfl, le_t rfl⟩ rfl (le_t rfl) fun z1104 h1103 => ?_
        have h1105 : 20 ≤ z1104 ∧ z1104 ≤ 400 := (vc_X12_raise_v_32 h1103.2.1 h721.2.1 h721.2.2.1 h725 h785.2.1 h1090 ht_f_t h726 h1086 h1103.1 h724 h787)
        refine mr_icmp_ge (pc := 92) (tgt := 145) dX12_raise_92 (by decide) (r32 h1086 rfl) (r32 h1105 rfl) (fun h1139 => ?_) (fun h1139 => ?_)
        · have h1140 : 20 ≤ z1083 ∧ z1083 ≤ 400 := (vc_X12_raise_v_33 h1139 h1090 h1103.2.1 h726 h1086 h1105)
          have I1141 : UP l D c H0 sa μ1084 := UPx.all R1097 hw T1087 I1095 (RD.no R1096 (vc_X12_raise_v_34 h721.2.1 h721.2.2.1 h725 h785.2.1 h1090 h1103.2.1 h1139 h723 ht_f_t h726 h1140 h1105 h724 h787))
          have I1142 : EP μ1084 := RD.ep R1096 (vc_X12_raise_v_34 h721.2.1 h721.2.2.1 h725 h785.2.1 h1090 h1103.2.1 h1139 h723 ht_f_t h726 h1140 h1105 h724 h787)
          have I1143 : HP μ1084 := RD.hp R1096 (vc_X12_raise_v_34 h721.2.1 h721.2.2.1 h725 h785.2.1 h1090 h1103.2.1 h1139 h723 ht_f_t h726 h1140 h1105 h724 h787)
          refine sv_aload_n (pc := 145) dX12_raise_145 rfl rfl ?_
          refine sv_aload_n (pc := 146) dX12_raise_146 rfl rfl ?_
          refine gf_X12_7 (pc := 147) dX12_raise_147 wF_X12_40 (A_106 hw) T1087 ?_
          refine mr_iconst (pc := 150) (z := 2) dX12_raise_150 ?_
          refine mr_iload_n (pc := 151) (z := p1) dX12_raise_151 rfl rfl ?_
          refine mr_imul (pc := 152) (x := 2) (y := p1) dX12_raise_152 ?_
          refine la_110 (pc := 153) dX12_raise_153 (A_110 hw) T1087 (rIx (n := 40) (rMulL (n := 2) (e := 0) (f := 38) h726 rfl) rfl) fun z1144 q1145 h1146 => ?_
          obtain ⟨z1147, q1148⟩ : ∃ z, μ1084 106 2 = z := ⟨_, rfl⟩
          have h1149 : (0 ≤ z1147 ∧ z1147 ≤ 10) := by rw [← q1148]; exact T1087 106 106 (A_106 hw) 2
          refine mr_cVV (pc := 154) (c_X12_lookAll_u hw T1087 h1146 q1148 I1091 I1092 I1142 I1093 I1094 I1095) (gOk _ _ _ _ _) dX12_raise_154 (tX12_lookAll _ _ _ _ _) ⟨wV_X12_lookAll, wL_X12_lookAll⟩ wM_X12_600 (gCX12 _ _ _ _ _) rfl (A_106 hw) rfl ⟨le_t rfl, le_t rfl⟩ ⟨le_t rfl, le_t rfl⟩ rfl (le_t rfl) fun μ1150 T1151 F1152 h1153 => ?_
          have I1154 : UP l D c H0 sa μ1150 := UPg.lookAll I1141 (fun _ _ h => h.elim) h1146 q1148 hw T1087 rfl rfl ((mF.call mF.refl F1152 rfl) : mF [106026, 106027, 106028, 106029, 106030, 106031, 106072, 126999, 151999, 152999, 153999, 155999, 156999, 157999, 158999, 159999, 160999, 161999, 165999] w μ1084 μ1150) rfl rfl rfl ((mG.call mG.refl h1153.1 (List.forall_mem_cons.mpr ⟨⟨_, List.mem_cons_self, vc_X12_look_u_35⟩, (List.forall_mem_cons.mpr ⟨⟨_, (List.mem_cons_of_mem _ List.mem_cons_self), (vc_X12_lookAll_u_3 h1146)⟩, (List.forall_mem_cons.mpr ⟨⟨_, (List.mem_cons_of_mem _ (List.mem_cons_of_mem _ List.mem_cons_self)), vc_X12_say_u_34⟩, (fun _ h => absurd h List.not_mem_nil)⟩)⟩)⟩)) : mG [(80, 960), (((400 * z1144) + 1200), ((400 * z1144) + 1600)), (21200, 53200)] μ1084 μ1150) (List.forall_mem_cons.mpr ⟨vc_X12_lookAll_u_14, (List.forall_mem_cons.mpr ⟨(vc_X12_use_u_39 h1146), (List.forall_mem_cons.mpr ⟨vc_X12_look_u_55, (fun _ h => absurd h List.not_mem_nil)⟩)⟩)⟩) h1153.2.2.2.2.2.2.2.1 h1153.2.2.2.2.2.2.1
          refine sv_aload_n (pc := 157) dX12_raise_157 rfl rfl ?_
          refine sv_aload_n (pc := 158) dX12_raise_158 rfl rfl ?_
          refine gf_X12_7 (pc := 159) dX12_raise_159 wF_X12_40 (A_106 hw) T1151 ?_
          refine mr_iconst (pc := 162) (z := 2) dX12_raise_162 ?_
          refine mr_iload_n (pc := 163) (z := p1) dX12_raise_163 rfl rfl ?_
          refine mr_imul (pc := 164) (x := 2) (y := p1) dX12_raise_164 ?_
          refine mr_iconst (pc := 165) (z := 1) dX12_raise_165 ?_
          refine mr_iadd (pc := 166) (x := (2 * p1)) (y := 1) dX12_raise_166 ?_
          refine la_110 (pc := 167) dX12_raise_167 (A_110 hw) T1151 (rIx (n := 40) (rAdd (e := 1) (f := 39) (rMulL (n := 2) (e := 0) (f := 38) h726 rfl) (rR (x := 1)) rfl) rfl) fun z1155 q1156 h1157 => ?_
          refine mr_cVV (pc := 168) (c_X12_lookAll_u hw T1151 h1157 (F1152.f (A_106 hw) rfl q1148) h1153.2.1 h1153.2.2.1 h1153.2.2.2.1 h1153.2.2.2.2.1 h1153.2.2.2.2.2.1 (PK.keep I1095 hw ((mF.call mF.refl F1152 rfl) : mF [106026, 106027, 106028, 106029, 106030, 106031, 106072, 126999, 151999, 152999, 153999, 155999, 156999, 157999, 158999, 159999, 160999, 161999, 165999] w μ1084 μ1150) rfl)) (gOk _ _ _ _ _) dX12_raise_168 (tX12_lookAll _ _ _ _ _) ⟨wV_X12_lookAll, wL_X12_lookAll⟩ wM_X12_600 (gCX12 _ _ _ _ _) rfl (A_106 hw) rfl ⟨le_t rfl, le_t rfl⟩ ⟨le_t rfl, le_t rfl⟩ rfl (le_t rfl) fun μ1158 T1159 F1160 h1161 => ?_
          have I1162 : UP l D c H0 sa μ1158 := UPg.lookAll I1154 (fun _ _ h => h.elim) h1157 (F1152.f (A_106 hw) rfl q1148) hw T1151 rfl rfl ((mF.call mF.refl F1160 rfl) : mF [106026, 106027, 106028, 106029, 106030, 106031, 106072, 126999, 151999, 152999, 153999, 155999, 156999, 157999, 158999, 159999, 160999, 161999, 165999] w μ1150 μ1158) rfl rfl rfl ((mG.call mG.refl h1161.1 (List.forall_mem_cons.mpr ⟨⟨_, List.mem_cons_self, vc_X12_look_u_35⟩, (List.forall_mem_cons.mpr ⟨⟨_, (List.mem_cons_of_mem _ List.mem_cons_self), (vc_X12_lookAll_u_3 h1157)⟩, (List.forall_mem_cons.mpr ⟨⟨_, (List.mem_cons_of_mem _ (List.mem_cons_of_mem _ List.mem_cons_self)), vc_X12_say_u_34⟩, (fun _ h => absurd h List.not_mem_nil)⟩)⟩)⟩)) : mG [(80, 960), (((400 * z1155) + 1200), ((400 * z1155) + 1600)), (21200, 53200)] μ1150 μ1158) (List.forall_mem_cons.mpr ⟨vc_X12_lookAll_u_14, (List.forall_mem_cons.mpr ⟨(vc_X12_use_u_39 h1157), (List.forall_mem_cons.mpr ⟨vc_X12_look_u_55, (fun _ h => absurd h List.not_mem_nil)⟩)⟩)⟩) h1161.2.2.2.2.2.2.2.1 h1161.2.2.2.2.2.2.1
          refine mr_iload_n (pc := 171) (z := 1) dX12_raise_171 rfl rfl ?_
          exact mr_iret dX12_raise_172 rfl (le_t rfl) (le_t rfl) T1159 (mF.call (mF.call (mF.call (mF.up mF.refl (A_112 hw) u780 rfl) F1088 rfl) F1152 rfl) F1160 rfl) ⟨(rW (c := (-2147483648)) (d := 2147483647) (rR (x := 1)) rfl), h1161.2.1, h1161.2.2.1, h1161.2.2.2.1, (HP.keep I1143 hw ((mF.call (mF.call mF.refl F1152 rfl) F1160 rfl) : mF [106026, 106027, 106028, 106029, 106030, 106031, 106072, 126999, 151999, 152999, 153999, 155999, 156999, 157999, 158999, 159999, 160999, 161999, 165999] w μ1084 μ1158) rfl ((mG.call (mG.call mG.refl h1153.1 (List.forall_mem_cons.mpr ⟨⟨_, List.mem_cons_self, vc_X12_look_u_35⟩, (List.forall_mem_cons.mpr ⟨⟨_, (List.mem_cons_of_mem _ List.mem_cons_self), (vc_X12_lookAll_u_3 h1146)⟩, (List.forall_mem_cons.mpr ⟨⟨_, (List.mem_cons_of_mem _ (List.mem_cons_of_mem _ List.mem_cons_self)), vc_X12_say_u_34⟩, (fun _ h => absurd h List.not_mem_nil)⟩)⟩)⟩)) h1161.1 (List.forall_mem_cons.mpr ⟨⟨_, List.mem_cons_self, vc_X12_look_u_35⟩, (List.forall_mem_cons.mpr ⟨⟨_, (List.mem_cons_of_mem _ (List.mem_cons_of_mem _ (List.mem_cons_of_mem _ List.mem_cons_self))), (vc_X12_lookAll_u_3 h1157)⟩, (List.forall_mem_cons.mpr ⟨⟨_, (List.mem_cons_of_mem _ (List.mem_cons_of_mem _ List.mem_cons_self)), vc_X12_say_u_34⟩, (fun _ h => absurd h List.not_mem_nil)⟩)⟩)⟩)) : mG [(80, 960), (((400 * z1144) + 1200), ((400 * z1144) + 1600)), (21200, 53200), (((400 * z1155) + 1200), ((400 * z1155) + 1600))] μ1084 μ1158) (List.forall_mem_cons.mpr ⟨vc_X12_lookAll_u_14, (List.forall_mem_cons.mpr ⟨(vc_X12_use_u_39 h1146), (List.forall_mem_cons.mpr ⟨vc_X12_look_u_55, (List.forall_mem_cons.mpr ⟨(vc_X12_use_u_39 h1157), (fun _ h => absurd h List.not_mem_nil)⟩)⟩)⟩)⟩)), I1162, h1161.2.2.2.2.1, h1161.2.2.2.2.2.1, (Or.inr ⟨(vc_X12_raise_v_41 h721.2.1 h721.2.2.1 h725 h785.2.1 h1090 h1103.2.1 h723 h1139 ht_f_t h726 h1140 h1105 h724 h787), (vc_X12_raise_v_42 h721.2.1 h721.2.2.1 h725 h785.2.1 h1090 h1103.2.1 h723 h1139 ht_f_t h726 h1140 h1105 h724 h787), (by rw [q728]; exact (vc_X11_raise_v_18 h730 h755)), (one.fr (one.fr (one.fr (one.up one.refl (vc_X12_raise_v_41 h721.2.1 h721.2.2.1 h725 h785.2.1 h1090 h1103.2.1 h723 h1139 ht_f_t h726 h1140 h1105 h724 h787) u780) F1088 (A_112 hw) rfl rfl) F1152 (A_112 hw) rfl rfl) F1160 (A_112 hw) rfl rfl), (F1160.f (A_112 hw) rfl (F1152.f (A_112 hw) rfl (F1088.f (A_112 hw) rfl u780.1))).trans (vc_X12_raise_v_43 h730 h756 h778 h755)⟩), trivial⟩
        have h1163 : 0 ≤ z1083 ∧ z1083 ≤ 399 := (vc_X12_raise_v_44 h1139 h1090 h1103.2.1 h726 h1086 h1105)
        refine sv_aload_n (pc := 95) dX12_raise_95 rfl rfl ?_
        refine mr_sipush (pc := 96) (z := 130) dX12_raise_96 (by decide) ?_
        refine mr_iload (pc := 99) (z := z1083) dX12_raise_99 rfl ?_
        refine mr_iadd (pc := 101) (x := 130) (y := z1083) dX12_raise_101 ?_
        refine mr_cVV (pc := 102) (c_X12_nothing_u hw T1087 (rW (c := 0) (d := 2099) (rAdd (e := 130) (f := 529) (rR (x := 130)) h1163 rfl) rfl) I1092) (gOk _ _ _ _ _) dX12_raise_102 (tX12_nothing _ _ _ _ _) ⟨wV_X12_nothing, wL_X12_nothing⟩ wM_X12_539 (gCX12 _ _ _ _ _) rfl (A_106 hw) rfl ⟨le_t rfl, le_t rfl⟩ ⟨le_t rfl, le_t rfl⟩ rfl (le_t rfl) fun μ1164 T1165 F1166 h1167 => ?_
        obtain ⟨z1168, q1169, h1170⟩ := h1167
        have h1171 := rt7 T1165 (A_126 hw) (vc_X12_raise_v_45 h1090 h1139 h721.2.1 h721.2.2.1 h725 h785.2.1 h1103.2.1 ht_f_t h726 h1163 h1105 h724 h787) q1169
        have h1172 : (-1) ≤ z1168 ∧ z1168 ≤ 9 := h1171.2.1 (vc_X12_raise_v_46 h1090 h1139 h721.2.1 h721.2.2.1 h725 h785.2.1 h1103.2.1 ht_f_t h726 h1163 h1105 h724 h787)
        have q1173 : μ1164 126 ((40 * (130 + z1083)).toNat) = (-1) := q1169.trans h1170.2.2.1
        have h1174 : (-1) ≤ z1168 ∧ z1168 ≤ (-1) := (vc_X12_candidate_4 h1170.2.2.1 h1172)
        refine sv_aload_n (pc := 105) dX12_raise_105 rfl rfl ?_
        refine mr_sipush (pc := 106) (z := 530) dX12_raise_106 (by decide) ?_
        refine mr_iload (pc := 109) (z := z1083) dX12_raise_109 rfl ?_
        refine mr_iadd (pc := 111) (x := 530) (y := z1083) dX12_raise_111 ?_
        refine mr_cVV (pc := 112) (c_X12_nothing_u hw T1165 (rW (c := 0) (d := 2099) (rAdd (e := 530) (f := 929) (rR (x := 530)) h1163 rfl) rfl) h1170.2.1) (gOk _ _ _ _ _) dX12_raise_112 (tX12_nothing _ _ _ _ _) ⟨wV_X12_nothing, wL_X12_nothing⟩ wM_X12_539 (gCX12 _ _ _ _ _) rfl (A_106 hw) rfl ⟨le_t rfl, le_t rfl⟩ ⟨le_t rfl, le_t rfl⟩ rfl (le_t rfl) fun μ1175 T1176 F1177 h1178 => ?_
        obtain ⟨z1179, q1180, h1181⟩ := h1178
        have h1182 := rt7 T1176 (A_126 hw) (vc_X12_raise_v_48 h1090 h1139 h721.2.1 h721.2.2.1 h725 h785.2.1 h1103.2.1 ht_f_t h726 h1163 h1105 h724 h787) q1180
        have h1183 : (-1) ≤ z1179 ∧ z1179 ≤ 9 := h1182.2.1 (vc_X12_raise_v_49 h1090 h1139 h721.2.1 h721.2.2.1 h725 h785.2.1 h1103.2.1 ht_f_t h726 h1163 h1105 h724 h787)
        have q1184 : μ1175 126 ((40 * (530 + z1083)).toNat) = (-1) := q1180.trans h1181.2.2.1
        have h1185 : (-1) ≤ z1179 ∧ z1179 ≤ (-1) := (vc_X12_candidate_4 h1181.2.2.1 h1183)
        refine sv_aload_n (pc := 115) dX12_raise_115 rfl rfl ?_
        refine gf_X12_75 (pc := 116) dX12_raise_116 wF_X12_427 (A_106 hw) T1176 ?_
        refine mr_iload (pc := 119) (z := z1083) dX12_raise_119 rfl ?_
        refine mr_iconst (pc := 121) (z := 0) dX12_raise_121 ?_
        refine ss_155 (pc := 122) dX12_raise_122 (A_155 hw) T1176 (rIx (n := 400) h1163 rfl) (rW (c := 0) (d := 1) (rR (x := 0)) rfl) fun μ1186 u1187 T1188 => ?_
        refine sv_aload_n (pc := 123) dX12_raise_123 rfl rfl ?_
        refine gf_X12_77 (pc := 124) dX12_raise_124 wF_X12_433 (A_106 hw) T1188 ?_
        refine mr_iload (pc := 127) (z := z1083) dX12_raise_127 rfl ?_
        refine mr_iconst (pc := 129) (z := (-1)) dX12_raise_129 ?_
        refine ss_157 (pc := 130) dX12_raise_130 (A_157 hw) T1188 (rIx (n := 400) h1163 rfl) (rW (c := (-1)) (d := 2000001000) (rR (x := (-1))) rfl) fun μ1189 u1190 T1191 => ?_
        have I1192 : EV μ1189 := EV.up1 (EV.keep I1094 hw ((mF.up (mF.call (mF.call mF.refl F1166 rfl) F1177 rfl) (A_155 hw) u1187 rfl) : mF [126999, 155999] w μ1084 μ1186) rfl) u1190 (u1190.f (Or.inl (mAt.ne (A_157 hw) (A_106 hw) rfl)) (u1187.f (Or.inl (mAt.ne (A_155 hw) (A_106 hw) rfl)) (F1177.f (A_106 hw) rfl (F1166.f (A_106 hw) rfl (F1088.f (A_106 hw) rfl (u780.f (Or.inl (mAt.ne (A_112 hw) (A_106 hw) rfl)) q_f_t)))))) (vc_X12_raise_v_51 h1090 h1139 h721.2.1 h721.2.2.1 h725 h785.2.1 h1103.2.1 ht_f_t h726 h1163 h1105 h724 h787) (vc_X12_raise_v_52 h721.2.1 h721.2.2.1 h725 h1090 h1139 h723 h785.2.1 h1103.2.1 ht_f_t h726 h1163 h1105 h724 h787)
        refine sv_aload_n (pc := 131) dX12_raise_131 rfl rfl ?_
        refine gf_X12_79 (pc := 132) dX12_raise_132 wF_X12_439 (A_106 hw) T1191 ?_
        refine mr_iload (pc := 135) (z := z1083) dX12_raise_135 rfl ?_
        refine mr_iconst (pc := 137) (z := (-1)) dX12_raise_137 ?_
        refine ss_159 (pc := 138) dX12_raise_138 (A_159 hw) T1191 (rIx (n := 400) h1163 rfl) (rW (c := (-1)) (d := 2000001000) (rR (x := (-1))) rfl) fun μ1193 u1194 T1195 => ?_
        have I1196 : EV μ1193 := EV.up2 I1192 u1194 (u1194.f (Or.inl (mAt.ne (A_159 hw) (A_106 hw) rfl)) (u1190.f (Or.inl (mAt.ne (A_157 hw) (A_106 hw) rfl)) (u1187.f (Or.inl (mAt.ne (A_155 hw) (A_106 hw) rfl)) (F1177.f (A_106 hw) rfl (F1166.f (A_106 hw) rfl (F1088.f (A_106 hw) rfl (u780.f (Or.inl (mAt.ne (A_112 hw) (A_106 hw) rfl)) q_f_t))))))) (vc_X12_raise_v_51 h1090 h1139 h721.2.1 h721.2.2.1 h725 h785.2.1 h1103.2.1 ht_f_t h726 h1163 h1105 h724 h787) (vc_X12_raise_v_52 h721.2.1 h721.2.2.1 h725 h1090 h1139 h723 h785.2.1 h1103.2.1 ht_f_t h726 h1163 h1105 h724 h787)
        refine mr_iinc (pc := 139) (lv' := [(4, iv (z1083 + 1)), (0, .ref 106), (1, iv p1), (3, iv 1)]) dX12_raise_139 rfl (by decide) rfl ?_
        refine sv_goto (pc := 142) (tgt := 84) dX12_raise_142 (by decide) ?_
        refine mr_lvS (lv' := [(0, .ref 106), (1, iv p1), (3, iv 1), (4, iv (z1083 + 1))]) (List.forall_mem_cons.mpr ⟨rfl, List.forall_mem_cons.mpr ⟨rfl, List.forall_mem_cons.mpr ⟨rfl, List.forall_mem_cons.mpr ⟨rfl, fun _ h => absurd h List.not_mem_nil⟩⟩⟩⟩) ?_
        exact ih1099 (z1083 + 1) μ1193 T1195 (mF.up (mF.up (mF.up (mF.call (mF.call (mF.call mF.refl F1088 rfl) F1166 rfl) F1177 rfl) (A_155 hw) u1187 rfl) (A_157 hw) u1190 rfl) (A_159 hw) u1194 rfl) (rW (c := 0) (d := 400) (rAdd (e := 1) (f := 400) h1163 (rR (x := 1)) rfl) rfl) (vc_X12_raise_v_53 h721.2.1 h721.2.2.1 h725 h785.2.1 h1090 h1103.2.1 h1139 h723 ht_f_t h726 h1163 h1105 h724 h787) (JC.keepJ I1091 hw ((mF.up (mF.up (mF.up (mF.call (mF.call mF.refl F1166 rfl) F1177 rfl) (A_155 hw) u1187 rfl) (A_157 hw) u1190 rfl) (A_159 hw) u1194 rfl) : mF [126999, 155999, 157999, 159999] w μ1084 μ1193) rfl) (RP.keep h1181.2.1 hw ((mF.up (mF.up (mF.up mF.refl (A_155 hw) u1187 rfl) (A_157 hw) u1190 rfl) (A_159 hw) u1194 rfl) : mF [155999, 157999, 159999] w μ1175 μ1193) rfl ((mG.upO (mG.upO (mG.upO mG.refl u1187 rfl) u1190 rfl) u1194 rfl) : mG [] μ1175 μ1193) (fun _ h => absurd h List.not_mem_nil)) (G1.keep I1093 hw ((mF.up (mF.up (mF.up (mF.call (mF.call mF.refl F1166 rfl) F1177 rfl) (A_155 hw) u1187 rfl) (A_157 hw) u1190 rfl) (A_159 hw) u1194 rfl) : mF [126999, 155999, 157999, 159999] w μ1084 μ1193) rfl rfl ((mG.upO (mG.upO (mG.upO (mG.call (mG.call mG.refl h1170.1 (List.forall_mem_cons.mpr ⟨⟨_, List.mem_cons_self, (vc_X12_raise_v_55 h1090 h1139 h721.2.1 h721.2.2.1 h725 h785.2.1 h1103.2.1 ht_f_t h726 h1163 h1105 h724 h787)⟩, (fun _ h => absurd h List.not_mem_nil)⟩)) h1181.1 (List.forall_mem_cons.mpr ⟨⟨_, (List.mem_cons_of_mem _ List.mem_cons_self), (vc_X12_raise_v_56 h1090 h1139 h721.2.1 h721.2.2.1 h725 h785.2.1 h1103.2.1 ht_f_t h726 h1163 h1105 h724 h787)⟩, (fun _ h => absurd h List.not_mem_nil)⟩)) u1187 rfl) u1190 rfl) u1194 rfl) : mG [((40 * (130 + z1083)), ((40 * (130 + z1083)) + 1)), ((40 * (530 + z1083)), ((40 * (530 + z1083)) + 1))] μ1084 μ1193) (List.forall_mem_cons.mpr ⟨(vc_X12_raise_v_58 h1090 h1139 h721.2.1 h721.2.2.1 h725 h785.2.1 h1103.2.1 ht_f_t h726 h1163 h1105 h724 h787), (List.forall_mem_cons.mpr ⟨(vc_X12_raise_v_57 h1090 h1139 h721.2.1 h721.2.2.1 h725 h785.2.1 h1103.2.1 ht_f_t h726 h1163 h1105 h724 h787), (fun _ h => absurd h List.not_mem_nil)⟩)⟩)) I1196 (PK.keep I1095 hw ((mF.up (mF.up (mF.up (mF.call (mF.call mF.refl F1166 rfl) F1177 rfl) (A_155 hw) u1187 rfl) (A_157 hw) u1190 rfl) (A_159 hw) u1194 rfl) : mF [126999, 155999, 157999, 159999] w μ1084 μ1193) rfl) (RD.step R1096 hw ((mF.up (mF.up (mF.up (mF.call (mF.call mF.refl F1166 rfl) F1177 rfl) (A_155 hw) u1187 rfl) (A_157 hw) u1190 rfl) (A_159 hw) u1194 rfl) : mF [126999, 155999, 157999, 159999] w μ1084 μ1193) rfl h726 (vc_X12_raise_v_62 h721.2.1 h721.2.2.1 h725 h785.2.1 h1090 h1103.2.1 h1139 h723 ht_f_t h726 h1163 h1105 h724 h787) ((mG.upO (mG.upO (mG.upO (mG.call (mG.call mG.refl h1170.1 (List.forall_mem_cons.mpr ⟨⟨_, List.mem_cons_self, (vc_X12_raise_v_55 h1090 h1139 h721.2.1 h721.2.2.1 h725 h785.2.1 h1103.2.1 ht_f_t h726 h1163 h1105 h724 h787)⟩, (fun _ h => absurd h List.not_mem_nil)⟩)) h1181.1 (List.forall_mem_cons.mpr ⟨⟨_, (List.mem_cons_of_mem _ List.mem_cons_self), (vc_X12_raise_v_56 h1090 h1139 h721.2.1 h721.2.2.1 h725 h785.2.1 h1103.2.1 ht_f_t h726 h1163 h1105 h724 h787)⟩, (fun _ h => absurd h List.not_mem_nil)⟩)) u1187 rfl) u1190 rfl) u1194 rfl) : mG [((40 * (130 + z1083)), ((40 * (130 + z1083)) + 1)), ((40 * (530 + z1083)), ((40 * (530 + z1083)) + 1))] μ1084 μ1193) (List.forall_mem_cons.mpr ⟨(vc_X12_raise_v_61 h1090 h1139 h721.2.1 h721.2.2.1 h725 h785.2.1 h1103.2.1 ht_f_t h726 h1163 h1105 h724 h787), (List.forall_mem_cons.mpr ⟨(vc_X12_raise_v_60 h1090 h1139 h721.2.1 h721.2.2.1 h725 h785.2.1 h1103.2.1 ht_f_t h726 h1163 h1105 h724 h787), (fun _ h => absurd h List.not_mem_nil)⟩)⟩) (one.oth (one.up (one.oth (one.fr (one.fr one.refl F1166 (A_157 hw) rfl rfl) F1177 (A_157 hw) rfl rfl) u1187 rfl) (vc_X12_raise_v_51 h1090 h1139 h721.2.1 h721.2.2.1 h725 h785.2.1 h1103.2.1 ht_f_t h726 h1163 h1105 h724 h787) u1190) u1194 rfl) (one.up (one.oth (one.oth (one.fr (one.fr one.refl F1166 (A_159 hw) rfl rfl) F1177 (A_159 hw) rfl rfl) u1187 rfl) u1190 rfl) (vc_X12_raise_v_51 h1090 h1139 h721.2.1 h721.2.2.1 h725 h785.2.1 h1103.2.1 ht_f_t h726 h1163 h1105 h724 h787) u1194) (u1194.f (Or.inl (mAt.ne (A_159 hw) (A_157 hw) rfl)) u1190.1) vc_X12_doEvent_u_11 u1194.1 vc_X12_doEvent_u_11 (u1194.f (Or.inl (mAt.ne (A_159 hw) (A_126 hw) rfl)) (u1190.f (Or.inl (mAt.ne (A_157 hw) (A_126 hw) rfl)) (u1187.f (Or.inl (mAt.ne (A_155 hw) (A_126 hw) rfl)) (h1181.1.f (vc_X12_raise_v_45 h1090 h1139 h721.2.1 h721.2.2.1 h725 h785.2.1 h1103.2.1 ht_f_t h726 h1163 h1105 h724 h787) (List.forall_mem_cons.mpr ⟨(vc_X12_raise_v_59 h1090 h1139 h721.2.1 h721.2.2.1 h725 h785.2.1 h1103.2.1 ht_f_t h726 h1163 h1105 h724 h787), (fun _ h => absurd h List.not_mem_nil)⟩) q1173)))) vc_X12_doEvent_u_11) (UPx.fr R1097 hw T1195 (vc_X12_raise_v_66 h721.2.1 h721.2.2.1 h725 h785.2.1 h1090 h1103.2.1 h723 h1139 ht_f_t h726 h1163 h1105 h724 h787) rfl ((mF.up (mF.up (mF.up (mF.call (mF.call mF.refl F1166 rfl) F1177 rfl) (A_155 hw) u1187 rfl) (A_157 hw) u1190 rfl) (A_159 hw) u1194 rfl) : mF [126999, 155999, 157999, 159999] w μ1084 μ1193) rfl rfl rfl ((mG.upO (mG.upO (mG.upO (mG.call (mG.call mG.refl h1170.1 (List.forall_mem_cons.mpr ⟨⟨_, List.mem_cons_self, (vc_X12_raise_v_55 h1090 h1139 h721.2.1 h721.2.2.1 h725 h785.2.1 h1103.2.1 ht_f_t h726 h1163 h1105 h724 h787)⟩, (fun _ h => absurd h List.not_mem_nil)⟩)) h1181.1 (List.forall_mem_cons.mpr ⟨⟨_, (List.mem_cons_of_mem _ List.mem_cons_self), (vc_X12_raise_v_56 h1090 h1139 h721.2.1 h721.2.2.1 h725 h785.2.1 h1103.2.1 ht_f_t h726 h1163 h1105 h724 h787)⟩, (fun _ h => absurd h List.not_mem_nil)⟩)) u1187 rfl) u1190 rfl) u1194 rfl) : mG [((40 * (130 + z1083)), ((40 * (130 + z1083)) + 1)), ((40 * (530 + z1083)), ((40 * (530 + z1083)) + 1))] μ1084 μ1193) (List.forall_mem_cons.mpr ⟨(vc_X12_raise_v_65 h721.2.1 h721.2.2.1 h725 h785.2.1 h1090 h1103.2.1 h1139 h723 ht_f_t h726 h1163 h1105 h724 h787), (List.forall_mem_cons.mpr ⟨(vc_X12_raise_v_64 h721.2.1 h721.2.2.1 h725 h785.2.1 h1090 h1103.2.1 h1139 h723 ht_f_t h726 h1163 h1105 h724 h787), (fun _ h => absurd h List.not_mem_nil)⟩)⟩)) (vc_X12_raise_v_54 (nS h1098) h1090 h1139 h721.2.1 h721.2.2.1 h725 h785.2.1 h1103.2.1 ht_f_t h726 h1163 h1105 h724 h787)
    refine mr_lvS (lv' := [(0, .ref 106), (1, iv p1), (3, iv 1), (4, iv z786)]) (List.forall_mem_cons.mpr ⟨rfl, List.forall_mem_cons.mpr ⟨rfl, List.forall_mem_cons.mpr ⟨rfl, List.forall_mem_cons.mpr ⟨rfl, fun _ h => absurd h List.not_mem_nil⟩⟩⟩⟩) ?_
    exact L1085 402 z786 μ779 T781 mF.refl (rW (c := 0) (d := 400) h787 rfl) (vc_X12_raise_v_67 h721.2.1 h721.2.2.1 h725 h785.2.1 h723 ht_f_t h726 h724 h787) (JC.keepJ hIJC hw ((mF.up mF.refl (A_112 hw) u780 rfl) : mF [112999] w μ μ779) rfl) (RP.keep hIRP hw ((mF.up mF.refl (A_112 hw) u780 rfl) : mF [112999] w μ μ779) rfl ((mG.upO mG.refl u780 rfl) : mG [] μ μ779) (fun _ h => absurd h List.not_mem_nil)) (G1.keep hIG1 hw ((mF.up mF.refl (A_112 hw) u780 rfl) : mF [112999] w μ μ779) rfl rfl ((mG.upO mG.refl u780 rfl) : mG [] μ μ779) (fun _ h => absurd h List.not_mem_nil)) (EV.keep hIEV hw ((mF.up mF.refl (A_112 hw) u780 rfl) : mF [112999] w μ μ779) rfl) (PK.keep hIPK hw ((mF.up mF.refl (A_112 hw) u780 rfl) : mF [112999] w μ μ779) rfl) (RD.eq (RD.begin hIEP hIHP (vc_X12_raise_v_70 h721.2.1 h721.2.2.1 h725 h785.2.1 h723 ht_f_t h726 h724 h787) u780) (vc_X12_raise_v_69 h721.2.1 h721.2.2.1 h725 h785.2.1 h723 ht_f_t h726 h724 h787)) (UPx.tie (UP.x hIUP) u780 (vc_X12_raise_v_70 h721.2.1 h721.2.2.1 h725 h785.2.1 h723 ht_f_t h726 h724 h787)) (vc_X12_raise_v_68 h785.2.1 h721.2.1 h721.2.2.1 h725 ht_f_t h726 h724 h787)
  have h1197 : 0 ≤ z722 ∧ z722 ≤ 0 := (vc_X11_raise_v_21 h723 h721.2.1 h721.2.2.1 ht_f_t hp1 h721.1)
  have h1198 : p1 < 0 ∨ f_t ≤ p1 := (h721.2.2.1 (vc_X12_raise_v_72 h721.2.1 h721.2.2.1 h723 ht_f_t hp1 h1197))
  refine mr_iconst (pc := 8) (z := (-1)) dX12_raise_8 ?_
  exact mr_iret dX12_raise_9 rfl (le_t rfl) (le_t rfl) hT mF.refl ⟨(rW (c := (-2147483648)) (d := 2147483647) (rR (x := (-1))) rfl), hIJC, hIRP, hIEP, hIHP, hIUP, hIG1, hIEV, (Or.inl ⟨(vc_X12_raise_v_73 h721.2.1 h721.2.2.1 h1198 h723 ht_f_t hp1 h1197), rfl, rfl⟩), trivial⟩
