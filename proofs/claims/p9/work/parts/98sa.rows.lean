theorem vc_X10_tieBetween_v_2 {f_n n1 z461 : Int} (h0 : f_n = n1) (h1 : f_n ≤ z461) (h2 : 0 ≤ f_n ∧ f_n ≤ 20) (h3 : 0 ≤ z461 ∧ z461 ≤ 20) : (-1 : Int) < n1 := by omega
theorem vc_X10_tieBetween_v_3 {f_n n1 z461 : Int} (h0 : f_n = n1) (h1 : f_n ≤ z461) (h2 : 0 ≤ f_n ∧ f_n ≤ 20) (h3 : 0 ≤ z461 ∧ z461 ≤ 20) : f_n ≤ z461 := by omega
theorem vc_X10_tieBetween_v_4 {f_n n1 z461 : Int} (h0 : z461 < f_n) (h1 : f_n = n1) (h2 : 0 ≤ f_n ∧ f_n ≤ 20) (h3 : 0 ≤ z461 ∧ z461 ≤ 20) : 0 ≤ z461 ∧ z461 ≤ 19 := by omega
theorem vc_X10_tieBetween_v_5 {f_n n1 z461 : Int} (h0 : z461 < f_n) (h1 : f_n = n1) (h2 : 0 ≤ f_n ∧ f_n ≤ 20) (h3 : 0 ≤ z461 ∧ z461 ≤ 19) : 1 ≤ f_n ∧ f_n ≤ 20 := by omega
theorem vc_X10_tieBetween_v_6 {f_n n1 z461 : Int} (h0 : f_n = n1) (h1 : z461 < f_n) (h2 : 1 ≤ f_n ∧ f_n ≤ 20) (h3 : 0 ≤ z461 ∧ z461 ≤ 19) : z461 < n1 := by omega
theorem vc_X10_tieBetween_v_7 {N f_n n1 z461 : Int} (h0 : (21 - z461) < N + 1) (h1 : z461 < f_n) (h2 : f_n = n1) (h3 : 1 ≤ f_n ∧ f_n ≤ 20) (h4 : 0 ≤ z461 ∧ z461 ≤ 19) : (21 - (z461 + 1)) < N := by omega
theorem vc_X10_tieBetween_v_8 {f_n n1 z461 : Int} (h0 : z461 < f_n) (h1 : f_n = n1) (h2 : 1 ≤ f_n ∧ f_n ≤ 20) (h3 : 0 ≤ z461 ∧ z461 ≤ 19) : 0 ≤ z461 := by omega
theorem vc_X10_tieBetween_v_9 {n0 p1 p2 z476 : Int} (h0 : z476 < n0) (h1 : ¬ z476 = p1) (h2 : ¬ z476 = p2) (h3 : (-2147483648) ≤ p1 ∧ p1 ≤ 2147483647) (h4 : (-2147483648) ≤ p2 ∧ p2 ≤ 2147483647) (h5 : 0 ≤ z476 ∧ z476 ≤ 9) : ¬ z476 = p1 ∧ ¬ z476 = p2 := by omega
theorem vc_X10_tieBetween_v_11 {n0 p1 p2 z476 z483 : Int} (h0 : z476 < n0) (h1 : ¬ z476 = p1) (h2 : z476 = p2) (h3 : z483 < n0) (h4 : ¬ z483 = p1) (h5 : (-2147483648) ≤ p1 ∧ p1 ≤ 2147483647) (h6 : 0 ≤ p2 ∧ p2 ≤ 9) (h7 : 0 ≤ z476 ∧ z476 ≤ 9) (h8 : 0 ≤ z483 ∧ z483 ≤ 9) : ¬ ((z476 = p1 ∧ z483 = p2) ∨ (z476 = p2 ∧ z483 = p1)) := by omega
theorem vc_X10_tieBetween_v_13 {f_n n1 z461 : Int} (h0 : f_n = n1) (h1 : z461 < f_n) (h2 : 1 ≤ f_n ∧ f_n ≤ 20) (h3 : 0 ≤ z461 ∧ z461 ≤ 19) : 0 ≤ z461 ∧ z461 < f_n := by omega
theorem vc_X10_tieBetween_v_14 {n0 p1 p2 z476 z483 : Int} (h0 : z476 < n0) (h1 : ¬ z476 = p1) (h2 : z476 = p2) (h3 : z483 < n0) (h4 : z483 = p1) (h5 : 0 ≤ p1 ∧ p1 ≤ 9) (h6 : 0 ≤ p2 ∧ p2 ≤ 9) (h7 : 0 ≤ z476 ∧ z476 ≤ 9) (h8 : 0 ≤ z483 ∧ z483 ≤ 9) : (z476 = p1 ∧ z483 = p2) ∨ (z476 = p2 ∧ z483 = p1) := by omega
theorem vc_X10_tieBetween_v_17 {n0 p1 p2 z476 z490 : Int} (h0 : z476 < n0) (h1 : z476 = p1) (h2 : z490 < n0) (h3 : z490 = p2) (h4 : 0 ≤ p1 ∧ p1 ≤ 9) (h5 : 0 ≤ p2 ∧ p2 ≤ 9) (h6 : 0 ≤ z476 ∧ z476 ≤ 9) (h7 : 0 ≤ z490 ∧ z490 ≤ 9) : (z476 = p1 ∧ z490 = p2) ∨ (z476 = p2 ∧ z490 = p1) := by omega
theorem vc_X10_tieBetween_v_18 {n0 p1 p2 z476 z490 : Int} (h0 : z476 < n0) (h1 : z476 = p1) (h2 : z490 < n0) (h3 : ¬ z490 = p2) (h4 : ¬ z476 = p2) (h5 : 0 ≤ p1 ∧ p1 ≤ 9) (h6 : (-2147483648) ≤ p2 ∧ p2 ≤ 2147483647) (h7 : 0 ≤ z476 ∧ z476 ≤ 9) (h8 : 0 ≤ z490 ∧ z490 ≤ 9) : ¬ ((z476 = p1 ∧ z490 = p2) ∨ (z476 = p2 ∧ z490 = p1)) := by omega
theorem vc_X10_tieBetween_v_20 {n0 p1 p2 z476 z490 : Int} (h0 : z476 < n0) (h1 : z476 = p1) (h2 : z490 < n0) (h3 : ¬ z490 = p2) (h4 : z476 = p2) (h5 : ¬ z490 = p1) (h6 : 0 ≤ p1 ∧ p1 ≤ 9) (h7 : 0 ≤ p2 ∧ p2 ≤ 9) (h8 : 0 ≤ z476 ∧ z476 ≤ 9) (h9 : 0 ≤ z490 ∧ z490 ≤ 9) : ¬ ((z476 = p1 ∧ z490 = p2) ∨ (z476 = p2 ∧ z490 = p1)) := by omega
theorem vc_X10_tieBetween_v_21 {n0 p1 p2 z476 z490 : Int} (h0 : z476 < n0) (h1 : z476 = p1) (h2 : z490 < n0) (h3 : ¬ z490 = p2) (h4 : z476 = p2) (h5 : z490 = p1) (h6 : 0 ≤ p1 ∧ p1 ≤ 9) (h7 : 0 ≤ p2 ∧ p2 ≤ 9) (h8 : 0 ≤ z476 ∧ z476 ≤ 9) (h9 : 0 ≤ z490 ∧ z490 ≤ 9) : (z476 = p1 ∧ z490 = p2) ∨ (z476 = p2 ∧ z490 = p1) := by omega
theorem vc_X10_tieBetween_v_23  : ((0 : Int) : Int) ≤ (0 : Int) := by omega
set_option maxRecDepth 4000 in
set_option maxHeartbeats 4000000 in
theorem c_X10_tieBetween_v {l : Launch} {D : va_G} {c : Nat → ClassId} {H0 : Heap} {sa : Nat × Nat × (Nat → Int32)} {w : mW} {μ : mM} (hw : mWF w) (hT : mT w μ) {p1 : Int} (hp1 : (-2147483648) ≤ p1 ∧ p1 ≤ 2147483647) {p2 : Int} (hp2 : (-2147483648) ≤ p2 ∧ p2 ≤ 2147483647) {f_n : Int} (q_f_n : μ 6 16 = f_n) : sC (gG l D c H0 sa) mX10_tieBetween 1 0 0 [.ref 6, iv p1, iv p2] (mk w μ) (qP w μ (fun z => ((-1) ≤ z ∧ z ≤ 19) ∧ (z < w.2.2.2 1) ∧ (fndQ (tc μ 0) (tc μ 1) f_n p1 p2 (-1) z) ∧ True)) := by
  refine sC.of rfl (by decide) (le_t rfl) ?_
  have ht_f_n : (f_n = w.2.2.2 1 ∧ 0 ≤ f_n ∧ f_n ≤ 20) := by rw [← q_f_n]; exact hT 6 6 (A_6 hw) 16
  refine mr_lvE (lv' := [(0, .ref 6), (1, iv p1), (2, iv p2)]) rfl ?_
  refine mr_iconst (pc := 0) (z := 0) dX10_tieBetween_0 ?_
  refine mr_istore_n (pc := 1) (lv' := [(3, iv 0), (0, .ref 6), (1, iv p1), (2, iv p2)]) dX10_tieBetween_1 rfl (by decide) rfl ?_
  have L462 : ∀ (nL462 : Nat) (z461 : Int), True → (0 ≤ z461 ∧ z461 ≤ 20) → noneQ (tc μ 0) (tc μ 1) z461 p1 p2 → (21 - z461) < (nL462 : Int) → sV (gG l D c H0 sa) mX10_tieBetween (sRm 1 0 0) (sZ (gG l D c H0 sa) 0 0 (qP w μ (fun z => ((-1) ≤ z ∧ z ≤ 19) ∧ (z < w.2.2.2 1) ∧ (fndQ (tc μ 0) (tc μ 1) f_n p1 p2 (-1) z) ∧ True))) 2 [(0, .ref 6), (1, iv p1), (2, iv p2), (3, iv z461)] [] (mk w μ) 0 0 := by
    intro nL462
    induction nL462 with
    | zero => intro z461 _ h463 R467 h468; exact ((vc_X12_feed_2 h468 h463)).elim
    | succ nL462 ih469 =>
      intro z461 _ h463 R467 h468
      refine mr_iload_n (pc := 2) (z := z461) dX10_tieBetween_2 rfl rfl ?_
      refine sv_aload_n (pc := 3) dX10_tieBetween_3 rfl rfl ?_
      refine gk_X10_16 (pc := 4) dX10_tieBetween_4 wF_X10_72 (A_6 hw) q_f_n ?_
      refine mr_icmp_ge (pc := 7) (tgt := 62) dX10_tieBetween_7 (by decide) (r32 h463 rfl) (r32 ht_f_n.2 rfl) (fun h470 => ?_) (fun h470 => ?_)
      · refine mr_iconst (pc := 62) (z := (-1)) dX10_tieBetween_62 ?_
        exact mr_iretP dX10_tieBetween_63 rfl (le_t rfl) (le_t rfl) ⟨(rW (c := (-1)) (d := 19) (rR (x := (-1))) rfl), (vc_X10_tieBetween_v_2 ht_f_n.1 h470 ht_f_n.2 h463), (fndQ.miss R467 (vc_X10_tieBetween_v_3 ht_f_n.1 h470 ht_f_n.2 h463)), trivial⟩
      have h471 : 0 ≤ z461 ∧ z461 ≤ 19 := (vc_X10_tieBetween_v_4 h470 ht_f_n.1 ht_f_n.2 h463)
      have h472 : 1 ≤ f_n ∧ f_n ≤ 20 := (vc_X10_tieBetween_v_5 h470 ht_f_n.1 ht_f_n.2 h471)
      refine sv_aload_n (pc := 10) dX10_tieBetween_10 rfl rfl ?_
      refine gf_X10_4 (pc := 11) dX10_tieBetween_11 wF_X10_29 (A_6 hw) hT ?_
      refine mr_iload_n (pc := 14) (z := z461) dX10_tieBetween_14 rfl rfl ?_
      refine la_11 (pc := 15) dX10_tieBetween_15 (A_11 hw) hT (rIx (n := 20) h471 rfl) (vc_X10_tieBetween_v_6 ht_f_n.1 h470 h472 h471) fun b473 q474 A475 => ?_
      refine mr_astore (pc := 16) (lv' := [(4, .ref b473), (0, .ref 6), (1, iv p1), (2, iv p2), (3, iv z461)]) dX10_tieBetween_16 (by decide) rfl ?_
      refine sv_aload (pc := 18) dX10_tieBetween_18 rfl ?_
      refine gf_X9_0 (pc := 20) dX10_tieBetween_20 wF_X10_78 A475 hT fun z476 q477 h478 => ?_
      have h479 : 0 ≤ z476 ∧ z476 ≤ 9 := ⟨h478.1, h478.2.1⟩
      refine mr_iload_n (pc := 23) (z := p1) dX10_tieBetween_23 rfl rfl ?_
      refine mr_icmp_ne (pc := 24) (tgt := 36) dX10_tieBetween_24 (by decide) (r32 h479 rfl) hp1 (fun h480 => ?_) (fun h480 => ?_)
      · refine sv_aload (pc := 36) dX10_tieBetween_36 rfl ?_
        refine gk_X9_0 (pc := 38) dX10_tieBetween_38 wF_X10_78 A475 q477 ?_
        refine mr_iload_n (pc := 41) (z := p2) dX10_tieBetween_41 rfl rfl ?_
        refine mr_icmp_ne (pc := 42) (tgt := 56) dX10_tieBetween_42 (by decide) (r32 h479 rfl) hp2 (fun h481 => ?_) (fun h481 => ?_)
        · refine mr_iinc (pc := 56) (lv' := [(3, iv (z461 + 1)), (4, .ref b473), (0, .ref 6), (1, iv p1), (2, iv p2)]) dX10_tieBetween_56 rfl (by decide) rfl ?_
          refine sv_goto (pc := 59) (tgt := 2) dX10_tieBetween_59 (by decide) ?_
          refine mr_lvS (lv' := [(0, .ref 6), (1, iv p1), (2, iv p2), (3, iv (z461 + 1))]) (List.forall_mem_cons.mpr ⟨rfl, List.forall_mem_cons.mpr ⟨rfl, List.forall_mem_cons.mpr ⟨rfl, List.forall_mem_cons.mpr ⟨rfl, fun _ h => absurd h List.not_mem_nil⟩⟩⟩⟩) ?_
          exact ih469 (z461 + 1) trivial (rW (c := 0) (d := 20) (rAdd (e := 1) (f := 20) h471 (rR (x := 1)) rfl) rfl) (noneQ.succ1 R467 (vc_X10_tieBetween_v_8 h470 ht_f_n.1 h472 h471) (tcOf q474 q477) (vc_X10_tieBetween_v_9 h478.2.2 h480 h481 hp1 hp2 h479)) (vc_X10_tieBetween_v_7 (nS h468) h470 ht_f_n.1 h472 h471)
        have h482 : 0 ≤ p2 ∧ p2 ≤ 9 := (vc_X10_tieBetween_7 h481 h478.2.2 h480 hp1 hp2 h479)
        refine sv_aload (pc := 45) dX10_tieBetween_45 rfl ?_
        refine gf_X9_1 (pc := 47) dX10_tieBetween_47 wF_X10_81 A475 hT fun z483 q484 h485 => ?_
        have h486 : 0 ≤ z483 ∧ z483 ≤ 9 := ⟨h485.1, h485.2.1⟩
        refine mr_iload_n (pc := 50) (z := p1) dX10_tieBetween_50 rfl rfl ?_
        refine mr_icmp_ne (pc := 51) (tgt := 56) dX10_tieBetween_51 (by decide) (r32 h486 rfl) hp1 (fun h487 => ?_) (fun h487 => ?_)
        · refine mr_iinc (pc := 56) (lv' := [(3, iv (z461 + 1)), (4, .ref b473), (0, .ref 6), (1, iv p1), (2, iv p2)]) dX10_tieBetween_56 rfl (by decide) rfl ?_
          refine sv_goto (pc := 59) (tgt := 2) dX10_tieBetween_59 (by decide) ?_
          refine mr_lvS (lv' := [(0, .ref 6), (1, iv p1), (2, iv p2), (3, iv (z461 + 1))]) (List.forall_mem_cons.mpr ⟨rfl, List.forall_mem_cons.mpr ⟨rfl, List.forall_mem_cons.mpr ⟨rfl, List.forall_mem_cons.mpr ⟨rfl, fun _ h => absurd h List.not_mem_nil⟩⟩⟩⟩) ?_
          exact ih469 (z461 + 1) trivial (rW (c := 0) (d := 20) (rAdd (e := 1) (f := 20) h471 (rR (x := 1)) rfl) rfl) (noneQ.succ R467 (vc_X10_tieBetween_v_8 h470 ht_f_n.1 h472 h471) (tcOf q474 q477) (tcOf q474 q484) (vc_X10_tieBetween_v_11 h478.2.2 h480 h481 h485.2.2 h487 hp1 h482 h479 h486)) (vc_X10_tieBetween_v_7 (nS h468) h470 ht_f_n.1 h472 h471)
        have h488 : 0 ≤ p1 ∧ p1 ≤ 9 := (vc_X10_tieBetween_8 h487 h480 h485.2.2 hp1 h479 h486)
        refine mr_iload_n (pc := 54) (z := z461) dX10_tieBetween_54 rfl rfl ?_
        exact mr_iretP dX10_tieBetween_55 rfl (le_t rfl) (le_t rfl) ⟨(rW (c := (-1)) (d := 19) h471 rfl), (vc_X10_tieBetween_v_6 ht_f_n.1 h470 h472 h471), (fndQ.hit (vc_X10_tieBetween_v_13 ht_f_n.1 h470 h472 h471) (tcOf q474 q477) (tcOf q474 q484) (vc_X10_tieBetween_v_14 h478.2.2 h480 h481 h485.2.2 h487 h488 h482 h479 h486) R467), trivial⟩
      have h489 : 0 ≤ p1 ∧ p1 ≤ 9 := (vc_X10_tieBetween_9 h480 h478.2.2 hp1 h479)
      refine sv_aload (pc := 27) dX10_tieBetween_27 rfl ?_
      refine gf_X9_1 (pc := 29) dX10_tieBetween_29 wF_X10_81 A475 hT fun z490 q491 h492 => ?_
      have h493 : 0 ≤ z490 ∧ z490 ≤ 9 := ⟨h492.1, h492.2.1⟩
      refine mr_iload_n (pc := 32) (z := p2) dX10_tieBetween_32 rfl rfl ?_
      refine mr_icmp_eq (pc := 33) (tgt := 54) dX10_tieBetween_33 (by decide) (r32 h493 rfl) hp2 (fun h494 => ?_) (fun h494 => ?_)
      · have h495 : 0 ≤ p2 ∧ p2 ≤ 9 := (vc_X10_tieBetween_9 h494 h492.2.2 hp2 h493)
        refine mr_iload_n (pc := 54) (z := z461) dX10_tieBetween_54 rfl rfl ?_
        exact mr_iretP dX10_tieBetween_55 rfl (le_t rfl) (le_t rfl) ⟨(rW (c := (-1)) (d := 19) h471 rfl), (vc_X10_tieBetween_v_6 ht_f_n.1 h470 h472 h471), (fndQ.hit (vc_X10_tieBetween_v_13 ht_f_n.1 h470 h472 h471) (tcOf q474 q477) (tcOf q474 q491) (vc_X10_tieBetween_v_17 h478.2.2 h480 h492.2.2 h494 h489 h495 h479 h493) R467), trivial⟩
      refine sv_aload (pc := 36) dX10_tieBetween_36 rfl ?_
      refine gk_X9_0 (pc := 38) dX10_tieBetween_38 wF_X10_78 A475 q477 ?_
      refine mr_iload_n (pc := 41) (z := p2) dX10_tieBetween_41 rfl rfl ?_
      refine mr_icmp_ne (pc := 42) (tgt := 56) dX10_tieBetween_42 (by decide) (r32 h479 rfl) hp2 (fun h496 => ?_) (fun h496 => ?_)
      · refine mr_iinc (pc := 56) (lv' := [(3, iv (z461 + 1)), (4, .ref b473), (0, .ref 6), (1, iv p1), (2, iv p2)]) dX10_tieBetween_56 rfl (by decide) rfl ?_
        refine sv_goto (pc := 59) (tgt := 2) dX10_tieBetween_59 (by decide) ?_
        refine mr_lvS (lv' := [(0, .ref 6), (1, iv p1), (2, iv p2), (3, iv (z461 + 1))]) (List.forall_mem_cons.mpr ⟨rfl, List.forall_mem_cons.mpr ⟨rfl, List.forall_mem_cons.mpr ⟨rfl, List.forall_mem_cons.mpr ⟨rfl, fun _ h => absurd h List.not_mem_nil⟩⟩⟩⟩) ?_
        exact ih469 (z461 + 1) trivial (rW (c := 0) (d := 20) (rAdd (e := 1) (f := 20) h471 (rR (x := 1)) rfl) rfl) (noneQ.succ R467 (vc_X10_tieBetween_v_8 h470 ht_f_n.1 h472 h471) (tcOf q474 q477) (tcOf q474 q491) (vc_X10_tieBetween_v_18 h478.2.2 h480 h492.2.2 h494 h496 h489 hp2 h479 h493)) (vc_X10_tieBetween_v_7 (nS h468) h470 ht_f_n.1 h472 h471)
      have h497 : 0 ≤ p2 ∧ p2 ≤ 9 := (vc_X10_tieBetween_11 h496 h478.2.2 h480 h494 h489 hp2 h479 h493)
      refine sv_aload (pc := 45) dX10_tieBetween_45 rfl ?_
      refine gk_X9_1 (pc := 47) dX10_tieBetween_47 wF_X10_81 A475 q491 ?_
      refine mr_iload_n (pc := 50) (z := p1) dX10_tieBetween_50 rfl rfl ?_
      refine mr_icmp_ne (pc := 51) (tgt := 56) dX10_tieBetween_51 (by decide) (r32 h493 rfl) (r32 h489 rfl) (fun h498 => ?_) (fun h498 => ?_)
      · refine mr_iinc (pc := 56) (lv' := [(3, iv (z461 + 1)), (4, .ref b473), (0, .ref 6), (1, iv p1), (2, iv p2)]) dX10_tieBetween_56 rfl (by decide) rfl ?_
        refine sv_goto (pc := 59) (tgt := 2) dX10_tieBetween_59 (by decide) ?_
        refine mr_lvS (lv' := [(0, .ref 6), (1, iv p1), (2, iv p2), (3, iv (z461 + 1))]) (List.forall_mem_cons.mpr ⟨rfl, List.forall_mem_cons.mpr ⟨rfl, List.forall_mem_cons.mpr ⟨rfl, List.forall_mem_cons.mpr ⟨rfl, fun _ h => absurd h List.not_mem_nil⟩⟩⟩⟩) ?_
        exact ih469 (z461 + 1) trivial (rW (c := 0) (d := 20) (rAdd (e := 1) (f := 20) h471 (rR (x := 1)) rfl) rfl) (noneQ.succ R467 (vc_X10_tieBetween_v_8 h470 ht_f_n.1 h472 h471) (tcOf q474 q477) (tcOf q474 q491) (vc_X10_tieBetween_v_20 h478.2.2 h480 h492.2.2 h494 h496 h498 h489 h497 h479 h493)) (vc_X10_tieBetween_v_7 (nS h468) h470 ht_f_n.1 h472 h471)
      refine mr_iload_n (pc := 54) (z := z461) dX10_tieBetween_54 rfl rfl ?_
      exact mr_iretP dX10_tieBetween_55 rfl (le_t rfl) (le_t rfl) ⟨(rW (c := (-1)) (d := 19) h471 rfl), (vc_X10_tieBetween_v_6 ht_f_n.1 h470 h472 h471), (fndQ.hit (vc_X10_tieBetween_v_13 ht_f_n.1 h470 h472 h471) (tcOf q474 q477) (tcOf q474 q491) (vc_X10_tieBetween_v_21 h478.2.2 h480 h492.2.2 h494 h496 h498 h489 h497 h479 h493) R467), trivial⟩
  refine mr_lvS (lv' := [(0, .ref 6), (1, iv p1), (2, iv p2), (3, iv 0)]) (List.forall_mem_cons.mpr ⟨rfl, List.forall_mem_cons.mpr ⟨rfl, List.forall_mem_cons.mpr ⟨rfl, List.forall_mem_cons.mpr ⟨rfl, fun _ h => absurd h List.not_mem_nil⟩⟩⟩⟩) ?_
  exact L462 22 0 trivial (rW (c := 0) (d := 20) (rR (x := 0)) rfl) (noneQ.zero vc_X10_tieBetween_v_23) vc_X12_feed_15
theorem vc_X12_tieOf_v_3 {f_n z409 : Int} (h0 : f_n ≤ z409) (h1 : 0 ≤ f_n ∧ f_n ≤ 20) (h2 : 0 ≤ z409 ∧ z409 ≤ 20) : f_n ≤ z409 := by omega
theorem vc_X12_tieOf_v_7 {f_n z409 : Int} (h0 : z409 < f_n) (h1 : 1 ≤ f_n ∧ f_n ≤ 20) (h2 : 0 ≤ z409 ∧ z409 ≤ 19) : 0 ≤ z409 := by omega
theorem vc_X12_tieOf_v_8 {f_n z409 : Int} (h0 : z409 < f_n) (h1 : 1 ≤ f_n ∧ f_n ≤ 20) (h2 : 0 ≤ z409 ∧ z409 ≤ 19) : (2 * z409) = 2 * z409 + ((0 : Nat) : Int) := by omega
theorem vc_X12_tieOf_v_9 {p1 p2 z421 : Int} (h0 : ¬ z421 = p1) (h1 : ¬ z421 = p2) (h2 : (-2147483648) ≤ p1 ∧ p1 ≤ 2147483647) (h3 : (-2147483648) ≤ p2 ∧ p2 ≤ 2147483647) (h4 : 0 ≤ z421 ∧ z421 ≤ 9) : ¬ z421 = p1 ∧ ¬ z421 = p2 := by omega
theorem vc_X12_tieOf_v_11 {f_n z409 : Int} (h0 : z409 < f_n) (h1 : 1 ≤ f_n ∧ f_n ≤ 20) (h2 : 0 ≤ z409 ∧ z409 ≤ 19) : ((2 * z409) + 1) = 2 * z409 + ((1 : Nat) : Int) := by omega
theorem vc_X12_tieOf_v_12 {p1 p2 z421 z427 : Int} (h0 : ¬ z421 = p1) (h1 : z421 = p2) (h2 : ¬ z427 = p1) (h3 : (-2147483648) ≤ p1 ∧ p1 ≤ 2147483647) (h4 : 0 ≤ p2 ∧ p2 ≤ 9) (h5 : 0 ≤ z421 ∧ z421 ≤ 9) (h6 : 0 ≤ z427 ∧ z427 ≤ 9) : ¬ ((z421 = p1 ∧ z427 = p2) ∨ (z421 = p2 ∧ z427 = p1)) := by omega
theorem vc_X12_tieOf_v_15 {f_n z409 : Int} (h0 : z409 < f_n) (h1 : 1 ≤ f_n ∧ f_n ≤ 20) (h2 : 0 ≤ z409 ∧ z409 ≤ 19) : 0 ≤ z409 ∧ z409 < f_n := by omega
theorem vc_X12_tieOf_v_16 {p1 p2 z421 z427 : Int} (h0 : ¬ z421 = p1) (h1 : z421 = p2) (h2 : z427 = p1) (h3 : 0 ≤ p1 ∧ p1 ≤ 9) (h4 : 0 ≤ p2 ∧ p2 ≤ 9) (h5 : 0 ≤ z421 ∧ z421 ≤ 9) (h6 : 0 ≤ z427 ∧ z427 ≤ 9) : (z421 = p1 ∧ z427 = p2) ∨ (z421 = p2 ∧ z427 = p1) := by omega
theorem vc_X12_tieOf_v_19 {p1 p2 z421 z433 : Int} (h0 : z421 = p1) (h1 : z433 = p2) (h2 : 0 ≤ p1 ∧ p1 ≤ 9) (h3 : 0 ≤ p2 ∧ p2 ≤ 9) (h4 : 0 ≤ z421 ∧ z421 ≤ 9) (h5 : 0 ≤ z433 ∧ z433 ≤ 9) : (z421 = p1 ∧ z433 = p2) ∨ (z421 = p2 ∧ z433 = p1) := by omega
theorem vc_X12_tieOf_v_20 {p1 p2 z421 z433 : Int} (h0 : z421 = p1) (h1 : ¬ z433 = p2) (h2 : ¬ z421 = p2) (h3 : 0 ≤ p1 ∧ p1 ≤ 9) (h4 : (-2147483648) ≤ p2 ∧ p2 ≤ 2147483647) (h5 : 0 ≤ z421 ∧ z421 ≤ 9) (h6 : 0 ≤ z433 ∧ z433 ≤ 9) : ¬ ((z421 = p1 ∧ z433 = p2) ∨ (z421 = p2 ∧ z433 = p1)) := by omega
theorem vc_X12_tieOf_v_22 {p1 p2 z421 z433 : Int} (h0 : z421 = p1) (h1 : ¬ z433 = p2) (h2 : z421 = p2) (h3 : ¬ z433 = p1) (h4 : 0 ≤ p1 ∧ p1 ≤ 9) (h5 : 0 ≤ p2 ∧ p2 ≤ 9) (h6 : 0 ≤ z421 ∧ z421 ≤ 9) (h7 : 0 ≤ z433 ∧ z433 ≤ 9) : ¬ ((z421 = p1 ∧ z433 = p2) ∨ (z421 = p2 ∧ z433 = p1)) := by omega
theorem vc_X12_tieOf_v_23 {p1 p2 z421 z433 : Int} (h0 : z421 = p1) (h1 : ¬ z433 = p2) (h2 : z421 = p2) (h3 : z433 = p1) (h4 : 0 ≤ p1 ∧ p1 ≤ 9) (h5 : 0 ≤ p2 ∧ p2 ≤ 9) (h6 : 0 ≤ z421 ∧ z421 ≤ 9) (h7 : 0 ≤ z433 ∧ z433 ≤ 9) : (z421 = p1 ∧ z433 = p2) ∨ (z421 = p2 ∧ z433 = p1) := by omega
set_option maxRecDepth 4000 in
set_option maxHeartbeats 4000000 in
theorem c_X12_tieOf_v {l : Launch} {D : va_G} {c : Nat → ClassId} {H0 : Heap} {sa : Nat × Nat × (Nat → Int32)} {w : mW} {μ : mM} (hw : mWF w) (hT : mT w μ) {p1 : Int} (hp1 : (-2147483648) ≤ p1 ∧ p1 ≤ 2147483647) {p2 : Int} (hp2 : (-2147483648) ≤ p2 ∧ p2 ≤ 2147483647) {f_n : Int} (q_f_n : μ 106 6 = f_n) : sC (gG l D c H0 sa) mX12_tieOf 1 0 0 [.ref 106, iv p1, iv p2] (mk w μ) (qP w μ (fun z => ((-99999999) ≤ z ∧ z ≤ 19) ∧ (z = -99999999 ∨ (0 ≤ z ∧ z ≤ 19)) ∧ (fndQ (tr μ 0) (tr μ 1) f_n p1 p2 (-99999999) z) ∧ True)) := by
  refine sC.of rfl (by decide) (le_t rfl) ?_
  have ht_f_n : (0 ≤ f_n ∧ f_n ≤ 20) := by rw [← q_f_n]; exact hT 106 106 (A_106 hw) 6
  refine mr_lvE (lv' := [(0, .ref 106), (1, iv p1), (2, iv p2)]) rfl ?_
  refine mr_iconst (pc := 0) (z := 0) dX12_tieOf_0 ?_
  refine mr_istore_n (pc := 1) (lv' := [(3, iv 0), (0, .ref 106), (1, iv p1), (2, iv p2)]) dX12_tieOf_1 rfl (by decide) rfl ?_
  have L410 : ∀ (nL410 : Nat) (z409 : Int), True → (0 ≤ z409 ∧ z409 ≤ 20) → noneQ (tr μ 0) (tr μ 1) z409 p1 p2 → (21 - z409) < (nL410 : Int) → sV (gG l D c H0 sa) mX12_tieOf (sRm 1 0 0) (sZ (gG l D c H0 sa) 0 0 (qP w μ (fun z => ((-99999999) ≤ z ∧ z ≤ 19) ∧ (z = -99999999 ∨ (0 ≤ z ∧ z ≤ 19)) ∧ (fndQ (tr μ 0) (tr μ 1) f_n p1 p2 (-99999999) z) ∧ True))) 2 [(0, .ref 106), (1, iv p1), (2, iv p2), (3, iv z409)] [] (mk w μ) 0 0 := by
    intro nL410
    induction nL410 with
    | zero => intro z409 _ h411 R415 h416; exact ((vc_X12_feed_2 h416 h411)).elim
    | succ nL410 ih417 =>
      intro z409 _ h411 R415 h416
      refine mr_iload_n (pc := 2) (z := z409) dX12_tieOf_2 rfl rfl ?_
      refine sv_aload_n (pc := 3) dX12_tieOf_3 rfl rfl ?_
      refine gk_X12_6 (pc := 4) dX12_tieOf_4 wF_X12_37 (A_106 hw) q_f_n ?_
      refine mr_icmp_ge (pc := 7) (tgt := 70) dX12_tieOf_7 (by decide) (r32 h411 rfl) (r32 ht_f_n rfl) (fun h418 => ?_) (fun h418 => ?_)
      · refine mr_ldc (pc := 70) (z := (-99999999)) dX12_tieOf_70 wG_X12_29 (by decide) ?_
        exact mr_iretP dX12_tieOf_72 rfl (le_t rfl) (le_t rfl) ⟨(rW (c := (-99999999)) (d := 19) (rR (x := (-99999999))) rfl), vc_X12_tieOf_2, (fndQ.miss R415 (vc_X12_tieOf_v_3 h418 ht_f_n h411)), trivial⟩
      have h419 : 0 ≤ z409 ∧ z409 ≤ 19 := (vc_X3_putAttributes_10 h418 ht_f_n h411)
      have h420 : 1 ≤ f_n ∧ f_n ≤ 20 := (vc_X3_putAttributes_11 h418 ht_f_n h419)
      refine sv_aload_n (pc := 10) dX12_tieOf_10 rfl rfl ?_
      refine gf_X12_7 (pc := 11) dX12_tieOf_11 wF_X12_40 (A_106 hw) hT ?_
      refine mr_iconst (pc := 14) (z := 2) dX12_tieOf_14 ?_
      refine mr_iload_n (pc := 15) (z := z409) dX12_tieOf_15 rfl rfl ?_
      refine mr_imul (pc := 16) (x := 2) (y := z409) dX12_tieOf_16 ?_
      refine la_110 (pc := 17) dX12_tieOf_17 (A_110 hw) hT (rIx (n := 40) (rMulL (n := 2) (e := 0) (f := 38) h419 rfl) rfl) fun z421 q422 h423 => ?_
      refine mr_iload_n (pc := 18) (z := p1) dX12_tieOf_18 rfl rfl ?_
      refine mr_icmp_ne (pc := 19) (tgt := 36) dX12_tieOf_19 (by decide) (r32 h423 rfl) hp1 (fun h424 => ?_) (fun h424 => ?_)
      · refine sv_aload_n (pc := 36) dX12_tieOf_36 rfl rfl ?_
        refine gf_X12_7 (pc := 37) dX12_tieOf_37 wF_X12_40 (A_106 hw) hT ?_
        refine mr_iconst (pc := 40) (z := 2) dX12_tieOf_40 ?_
        refine mr_iload_n (pc := 41) (z := z409) dX12_tieOf_41 rfl rfl ?_
        refine mr_imul (pc := 42) (x := 2) (y := z409) dX12_tieOf_42 ?_
        refine lk_110 (pc := 43) dX12_tieOf_43 (A_110 hw) (rIx (n := 40) (rMulL (n := 2) (e := 0) (f := 38) h419 rfl) rfl) q422 ?_
        refine mr_iload_n (pc := 44) (z := p2) dX12_tieOf_44 rfl rfl ?_
        refine mr_icmp_ne (pc := 45) (tgt := 64) dX12_tieOf_45 (by decide) (r32 h423 rfl) hp2 (fun h425 => ?_) (fun h425 => ?_)
        · refine mr_iinc (pc := 64) (lv' := [(3, iv (z409 + 1)), (0, .ref 106), (1, iv p1), (2, iv p2)]) dX12_tieOf_64 rfl (by decide) rfl ?_
          refine sv_goto (pc := 67) (tgt := 2) dX12_tieOf_67 (by decide) ?_
          refine mr_lvS (lv' := [(0, .ref 106), (1, iv p1), (2, iv p2), (3, iv (z409 + 1))]) (List.forall_mem_cons.mpr ⟨rfl, List.forall_mem_cons.mpr ⟨rfl, List.forall_mem_cons.mpr ⟨rfl, List.forall_mem_cons.mpr ⟨rfl, fun _ h => absurd h List.not_mem_nil⟩⟩⟩⟩) ?_
          exact ih417 (z409 + 1) trivial (rW (c := 0) (d := 20) (rAdd (e := 1) (f := 20) h419 (rR (x := 1)) rfl) rfl) (noneQ.succ1 R415 (vc_X12_tieOf_v_7 h418 h420 h419) (trOf 0 q422 (vc_X12_tieOf_v_8 h418 h420 h419) (vc_X12_tieOf_v_7 h418 h420 h419)) (vc_X12_tieOf_v_9 h424 h425 hp1 hp2 h423)) (vc_X3_putAttributes_12 (nS h416) h418 h420 h419)
        have h426 : 0 ≤ p2 ∧ p2 ≤ 9 := (vc_X12_tieOf_6 h425 h424 hp1 hp2 h423)
        refine sv_aload_n (pc := 48) dX12_tieOf_48 rfl rfl ?_
        refine gf_X12_7 (pc := 49) dX12_tieOf_49 wF_X12_40 (A_106 hw) hT ?_
        refine mr_iconst (pc := 52) (z := 2) dX12_tieOf_52 ?_
        refine mr_iload_n (pc := 53) (z := z409) dX12_tieOf_53 rfl rfl ?_
        refine mr_imul (pc := 54) (x := 2) (y := z409) dX12_tieOf_54 ?_
        refine mr_iconst (pc := 55) (z := 1) dX12_tieOf_55 ?_
        refine mr_iadd (pc := 56) (x := (2 * z409)) (y := 1) dX12_tieOf_56 ?_
        refine la_110 (pc := 57) dX12_tieOf_57 (A_110 hw) hT (rIx (n := 40) (rAdd (e := 1) (f := 39) (rMulL (n := 2) (e := 0) (f := 38) h419 rfl) (rR (x := 1)) rfl) rfl) fun z427 q428 h429 => ?_
        refine mr_iload_n (pc := 58) (z := p1) dX12_tieOf_58 rfl rfl ?_
        refine mr_icmp_ne (pc := 59) (tgt := 64) dX12_tieOf_59 (by decide) (r32 h429 rfl) hp1 (fun h430 => ?_) (fun h430 => ?_)
        · refine mr_iinc (pc := 64) (lv' := [(3, iv (z409 + 1)), (0, .ref 106), (1, iv p1), (2, iv p2)]) dX12_tieOf_64 rfl (by decide) rfl ?_
          refine sv_goto (pc := 67) (tgt := 2) dX12_tieOf_67 (by decide) ?_
          refine mr_lvS (lv' := [(0, .ref 106), (1, iv p1), (2, iv p2), (3, iv (z409 + 1))]) (List.forall_mem_cons.mpr ⟨rfl, List.forall_mem_cons.mpr ⟨rfl, List.forall_mem_cons.mpr ⟨rfl, List.forall_mem_cons.mpr ⟨rfl, fun _ h => absurd h List.not_mem_nil⟩⟩⟩⟩) ?_
          exact ih417 (z409 + 1) trivial (rW (c := 0) (d := 20) (rAdd (e := 1) (f := 20) h419 (rR (x := 1)) rfl) rfl) (noneQ.succ R415 (vc_X12_tieOf_v_7 h418 h420 h419) (trOf 0 q422 (vc_X12_tieOf_v_8 h418 h420 h419) (vc_X12_tieOf_v_7 h418 h420 h419)) (trOf 1 q428 (vc_X12_tieOf_v_11 h418 h420 h419) (vc_X12_tieOf_v_7 h418 h420 h419)) (vc_X12_tieOf_v_12 h424 h425 h430 hp1 h426 h423 h429)) (vc_X3_putAttributes_12 (nS h416) h418 h420 h419)
        have h431 : 0 ≤ p1 ∧ p1 ≤ 9 := (vc_X12_tieOf_7 h430 h424 hp1 h423 h429)
        refine mr_iload_n (pc := 62) (z := z409) dX12_tieOf_62 rfl rfl ?_
        exact mr_iretP dX12_tieOf_63 rfl (le_t rfl) (le_t rfl) ⟨(rW (c := (-99999999)) (d := 19) h419 rfl), (vc_X12_tieOf_end_8 h418 h420 h419), (fndQ.hit (vc_X12_tieOf_v_15 h418 h420 h419) (trOf 0 q422 (vc_X12_tieOf_v_8 h418 h420 h419) (vc_X12_tieOf_v_7 h418 h420 h419)) (trOf 1 q428 (vc_X12_tieOf_v_11 h418 h420 h419) (vc_X12_tieOf_v_7 h418 h420 h419)) (vc_X12_tieOf_v_16 h424 h425 h430 h431 h426 h423 h429) R415), trivial⟩
      have h432 : 0 ≤ p1 ∧ p1 ≤ 9 := (vc_X12_tieOf_9 h424 hp1 h423)
      refine sv_aload_n (pc := 22) dX12_tieOf_22 rfl rfl ?_
      refine gf_X12_7 (pc := 23) dX12_tieOf_23 wF_X12_40 (A_106 hw) hT ?_
      refine mr_iconst (pc := 26) (z := 2) dX12_tieOf_26 ?_
      refine mr_iload_n (pc := 27) (z := z409) dX12_tieOf_27 rfl rfl ?_
      refine mr_imul (pc := 28) (x := 2) (y := z409) dX12_tieOf_28 ?_
      refine mr_iconst (pc := 29) (z := 1) dX12_tieOf_29 ?_
      refine mr_iadd (pc := 30) (x := (2 * z409)) (y := 1) dX12_tieOf_30 ?_
      refine la_110 (pc := 31) dX12_tieOf_31 (A_110 hw) hT (rIx (n := 40) (rAdd (e := 1) (f := 39) (rMulL (n := 2) (e := 0) (f := 38) h419 rfl) (rR (x := 1)) rfl) rfl) fun z433 q434 h435 => ?_
      refine mr_iload_n (pc := 32) (z := p2) dX12_tieOf_32 rfl rfl ?_
      refine mr_icmp_eq (pc := 33) (tgt := 62) dX12_tieOf_33 (by decide) (r32 h435 rfl) hp2 (fun h436 => ?_) (fun h436 => ?_)
      · have h437 : 0 ≤ p2 ∧ p2 ≤ 9 := (vc_X12_tieOf_9 h436 hp2 h435)
        refine mr_iload_n (pc := 62) (z := z409) dX12_tieOf_62 rfl rfl ?_
        exact mr_iretP dX12_tieOf_63 rfl (le_t rfl) (le_t rfl) ⟨(rW (c := (-99999999)) (d := 19) h419 rfl), (vc_X12_tieOf_end_8 h418 h420 h419), (fndQ.hit (vc_X12_tieOf_v_15 h418 h420 h419) (trOf 0 q422 (vc_X12_tieOf_v_8 h418 h420 h419) (vc_X12_tieOf_v_7 h418 h420 h419)) (trOf 1 q434 (vc_X12_tieOf_v_11 h418 h420 h419) (vc_X12_tieOf_v_7 h418 h420 h419)) (vc_X12_tieOf_v_19 h424 h436 h432 h437 h423 h435) R415), trivial⟩
      refine sv_aload_n (pc := 36) dX12_tieOf_36 rfl rfl ?_
      refine gf_X12_7 (pc := 37) dX12_tieOf_37 wF_X12_40 (A_106 hw) hT ?_
      refine mr_iconst (pc := 40) (z := 2) dX12_tieOf_40 ?_
      refine mr_iload_n (pc := 41) (z := z409) dX12_tieOf_41 rfl rfl ?_
      refine mr_imul (pc := 42) (x := 2) (y := z409) dX12_tieOf_42 ?_
      refine lk_110 (pc := 43) dX12_tieOf_43 (A_110 hw) (rIx (n := 40) (rMulL (n := 2) (e := 0) (f := 38) h419 rfl) rfl) q422 ?_
      refine mr_iload_n (pc := 44) (z := p2) dX12_tieOf_44 rfl rfl ?_
      refine mr_icmp_ne (pc := 45) (tgt := 64) dX12_tieOf_45 (by decide) (r32 h423 rfl) hp2 (fun h438 => ?_) (fun h438 => ?_)
      · refine mr_iinc (pc := 64) (lv' := [(3, iv (z409 + 1)), (0, .ref 106), (1, iv p1), (2, iv p2)]) dX12_tieOf_64 rfl (by decide) rfl ?_
        refine sv_goto (pc := 67) (tgt := 2) dX12_tieOf_67 (by decide) ?_
        refine mr_lvS (lv' := [(0, .ref 106), (1, iv p1), (2, iv p2), (3, iv (z409 + 1))]) (List.forall_mem_cons.mpr ⟨rfl, List.forall_mem_cons.mpr ⟨rfl, List.forall_mem_cons.mpr ⟨rfl, List.forall_mem_cons.mpr ⟨rfl, fun _ h => absurd h List.not_mem_nil⟩⟩⟩⟩) ?_
        exact ih417 (z409 + 1) trivial (rW (c := 0) (d := 20) (rAdd (e := 1) (f := 20) h419 (rR (x := 1)) rfl) rfl) (noneQ.succ R415 (vc_X12_tieOf_v_7 h418 h420 h419) (trOf 0 q422 (vc_X12_tieOf_v_8 h418 h420 h419) (vc_X12_tieOf_v_7 h418 h420 h419)) (trOf 1 q434 (vc_X12_tieOf_v_11 h418 h420 h419) (vc_X12_tieOf_v_7 h418 h420 h419)) (vc_X12_tieOf_v_20 h424 h436 h438 h432 hp2 h423 h435)) (vc_X3_putAttributes_12 (nS h416) h418 h420 h419)
      have h439 : 0 ≤ p2 ∧ p2 ≤ 9 := (vc_X12_tieOf_11 h438 h424 h436 h432 hp2 h423 h435)
      refine sv_aload_n (pc := 48) dX12_tieOf_48 rfl rfl ?_
      refine gf_X12_7 (pc := 49) dX12_tieOf_49 wF_X12_40 (A_106 hw) hT ?_
      refine mr_iconst (pc := 52) (z := 2) dX12_tieOf_52 ?_
      refine mr_iload_n (pc := 53) (z := z409) dX12_tieOf_53 rfl rfl ?_
      refine mr_imul (pc := 54) (x := 2) (y := z409) dX12_tieOf_54 ?_
      refine mr_iconst (pc := 55) (z := 1) dX12_tieOf_55 ?_
      refine mr_iadd (pc := 56) (x := (2 * z409)) (y := 1) dX12_tieOf_56 ?_
      refine lk_110 (pc := 57) dX12_tieOf_57 (A_110 hw) (rIx (n := 40) (rAdd (e := 1) (f := 39) (rMulL (n := 2) (e := 0) (f := 38) h419 rfl) (rR (x := 1)) rfl) rfl) q434 ?_
      refine mr_iload_n (pc := 58) (z := p1) dX12_tieOf_58 rfl rfl ?_
      refine mr_icmp_ne (pc := 59) (tgt := 64) dX12_tieOf_59 (by decide) (r32 h435 rfl) (r32 h432 rfl) (fun h440 => ?_) (fun h440 => ?_)
      · refine mr_iinc (pc := 64) (lv' := [(3, iv (z409 + 1)), (0, .ref 106), (1, iv p1), (2, iv p2)]) dX12_tieOf_64 rfl (by decide) rfl ?_
        refine sv_goto (pc := 67) (tgt := 2) dX12_tieOf_67 (by decide) ?_
        refine mr_lvS (lv' := [(0, .ref 106), (1, iv p1), (2, iv p2), (3, iv (z409 + 1))]) (List.forall_mem_cons.mpr ⟨rfl, List.forall_mem_cons.mpr ⟨rfl, List.forall_mem_cons.mpr ⟨rfl, List.forall_mem_cons.mpr ⟨rfl, fun _ h => absurd h List.not_mem_nil⟩⟩⟩⟩) ?_
        exact ih417 (z409 + 1) trivial (rW (c := 0) (d := 20) (rAdd (e := 1) (f := 20) h419 (rR (x := 1)) rfl) rfl) (noneQ.succ R415 (vc_X12_tieOf_v_7 h418 h420 h419) (trOf 0 q422 (vc_X12_tieOf_v_8 h418 h420 h419) (vc_X12_tieOf_v_7 h418 h420 h419)) (trOf 1 q434 (vc_X12_tieOf_v_11 h418 h420 h419) (vc_X12_tieOf_v_7 h418 h420 h419)) (vc_X12_tieOf_v_22 h424 h436 h438 h440 h432 h439 h423 h435)) (vc_X3_putAttributes_12 (nS h416) h418 h420 h419)
      refine mr_iload_n (pc := 62) (z := z409) dX12_tieOf_62 rfl rfl ?_
      exact mr_iretP dX12_tieOf_63 rfl (le_t rfl) (le_t rfl) ⟨(rW (c := (-99999999)) (d := 19) h419 rfl), (vc_X12_tieOf_end_8 h418 h420 h419), (fndQ.hit (vc_X12_tieOf_v_15 h418 h420 h419) (trOf 0 q422 (vc_X12_tieOf_v_8 h418 h420 h419) (vc_X12_tieOf_v_7 h418 h420 h419)) (trOf 1 q434 (vc_X12_tieOf_v_11 h418 h420 h419) (vc_X12_tieOf_v_7 h418 h420 h419)) (vc_X12_tieOf_v_23 h424 h436 h438 h440 h432 h439 h423 h435) R415), trivial⟩
  refine mr_lvS (lv' := [(0, .ref 106), (1, iv p1), (2, iv p2), (3, iv 0)]) (List.forall_mem_cons.mpr ⟨rfl, List.forall_mem_cons.mpr ⟨rfl, List.forall_mem_cons.mpr ⟨rfl, List.forall_mem_cons.mpr ⟨rfl, fun _ h => absurd h List.not_mem_nil⟩⟩⟩⟩) ?_
  exact L410 22 0 trivial (rW (c := 0) (d := 20) (rR (x := 0)) rfl) (noneQ.zero vc_X10_tieBetween_v_23) vc_X12_feed_15
theorem vc_X12_tie_v_1 {f_dm p1 z250 : Int} (h0 : z250 = 0) (h1 : (z250 = 1 → 0 ≤ p1 ∧ p1 < f_dm)) (h2 : (z250 = 0 → p1 < 0 ∨ f_dm ≤ p1)) (h3 : 0 ≤ f_dm ∧ f_dm ≤ 10) (h4 : (-2147483648) ≤ p1 ∧ p1 ≤ 2147483647) (h5 : 0 ≤ z250 ∧ z250 ≤ 1) : 0 ≤ z250 ∧ z250 ≤ 0 := by omega
theorem vc_X12_tie_v_2 {f_dm p1 z250 : Int} (h0 : (z250 = 1 → 0 ≤ p1 ∧ p1 < f_dm)) (h1 : (z250 = 0 → p1 < 0 ∨ f_dm ≤ p1)) (h2 : z250 = 0) (h3 : 0 ≤ f_dm ∧ f_dm ≤ 10) (h4 : (-2147483648) ≤ p1 ∧ p1 ≤ 2147483647) (h5 : 0 ≤ z250 ∧ z250 ≤ 0) : z250 = 0 := by omega
theorem vc_X12_tie_v_3 {f_dm p1 p2 p3 z250 : Int} (h0 : (z250 = 1 → 0 ≤ p1 ∧ p1 < f_dm)) (h1 : (z250 = 0 → p1 < 0 ∨ f_dm ≤ p1)) (h2 : p1 < 0 ∨ f_dm ≤ p1) (h3 : z250 = 0) (h4 : 0 ≤ f_dm ∧ f_dm ≤ 10) (h5 : (-2147483648) ≤ p1 ∧ p1 ≤ 2147483647) (h6 : (-2147483648) ≤ p2 ∧ p2 ≤ 2147483647) (h7 : (-2147483648) ≤ p3 ∧ p3 ≤ 2147483647) (h8 : 0 ≤ z250 ∧ z250 ≤ 0) : p1 < 0 ∨ f_dm ≤ p1 ∨ p2 < 0 ∨ f_dm ≤ p2 ∨ p1 = p2 ∨ p3 < 0 ∨ 2 < p3 := by omega
theorem vc_X12_tie_v_5 {f_dm p1 z250 : Int} (h0 : ¬ z250 = 0) (h1 : (z250 = 1 → 0 ≤ p1 ∧ p1 < f_dm)) (h2 : (z250 = 0 → p1 < 0 ∨ f_dm ≤ p1)) (h3 : 0 ≤ f_dm ∧ f_dm ≤ 10) (h4 : (-2147483648) ≤ p1 ∧ p1 ≤ 2147483647) (h5 : 0 ≤ z250 ∧ z250 ≤ 1) : 1 ≤ z250 ∧ z250 ≤ 1 := by omega
theorem vc_X12_tie_v_6 {f_dm p1 z250 : Int} (h0 : (z250 = 1 → 0 ≤ p1 ∧ p1 < f_dm)) (h1 : (z250 = 0 → p1 < 0 ∨ f_dm ≤ p1)) (h2 : ¬ z250 = 0) (h3 : 0 ≤ f_dm ∧ f_dm ≤ 10) (h4 : (-2147483648) ≤ p1 ∧ p1 ≤ 2147483647) (h5 : 1 ≤ z250 ∧ z250 ≤ 1) : z250 = 1 := by omega
theorem vc_X12_tie_v_7 {f_dm p1 z250 : Int} (h0 : 0 ≤ p1 ∧ p1 < f_dm) (h1 : (z250 = 1 → 0 ≤ p1 ∧ p1 < f_dm)) (h2 : (z250 = 0 → p1 < 0 ∨ f_dm ≤ p1)) (h3 : 0 ≤ f_dm ∧ f_dm ≤ 10) (h4 : (-2147483648) ≤ p1 ∧ p1 ≤ 2147483647) (h5 : 1 ≤ z250 ∧ z250 ≤ 1) : 0 ≤ p1 ∧ p1 ≤ 9 := by omega
theorem vc_X12_tie_v_9 {f_dm p1 p2 z250 z261 : Int} (h0 : (z261 = 1 → 0 ≤ p2 ∧ p2 < f_dm)) (h1 : (z261 = 0 → p2 < 0 ∨ f_dm ≤ p2)) (h2 : z261 = 0) (h3 : (z250 = 1 → 0 ≤ p1 ∧ p1 < f_dm)) (h4 : (z250 = 0 → p1 < 0 ∨ f_dm ≤ p1)) (h5 : 0 ≤ p1 ∧ p1 < f_dm) (h6 : 0 ≤ f_dm ∧ f_dm ≤ 10) (h7 : 0 ≤ p1 ∧ p1 ≤ 9) (h8 : (-2147483648) ≤ p2 ∧ p2 ≤ 2147483647) (h9 : 1 ≤ z250 ∧ z250 ≤ 1) (h10 : 0 ≤ z261 ∧ z261 ≤ 0) : z261 = 0 := by omega
theorem vc_X12_tie_v_10 {f_dm p1 p2 p3 z250 z261 : Int} (h0 : (z250 = 1 → 0 ≤ p1 ∧ p1 < f_dm)) (h1 : (z250 = 0 → p1 < 0 ∨ f_dm ≤ p1)) (h2 : 0 ≤ p1 ∧ p1 < f_dm) (h3 : (z261 = 1 → 0 ≤ p2 ∧ p2 < f_dm)) (h4 : (z261 = 0 → p2 < 0 ∨ f_dm ≤ p2)) (h5 : p2 < 0 ∨ f_dm ≤ p2) (h6 : ¬ z250 = 0) (h7 : z261 = 0) (h8 : 0 ≤ f_dm ∧ f_dm ≤ 10) (h9 : 0 ≤ p1 ∧ p1 ≤ 9) (h10 : (-2147483648) ≤ p2 ∧ p2 ≤ 2147483647) (h11 : (-2147483648) ≤ p3 ∧ p3 ≤ 2147483647) (h12 : 1 ≤ z250 ∧ z250 ≤ 1) (h13 : 0 ≤ z261 ∧ z261 ≤ 0) : p1 < 0 ∨ f_dm ≤ p1 ∨ p2 < 0 ∨ f_dm ≤ p2 ∨ p1 = p2 ∨ p3 < 0 ∨ 2 < p3 := by omega
theorem vc_X12_tie_v_12 {f_dm p1 p2 z250 z261 : Int} (h0 : (z261 = 1 → 0 ≤ p2 ∧ p2 < f_dm)) (h1 : (z261 = 0 → p2 < 0 ∨ f_dm ≤ p2)) (h2 : ¬ z261 = 0) (h3 : (z250 = 1 → 0 ≤ p1 ∧ p1 < f_dm)) (h4 : (z250 = 0 → p1 < 0 ∨ f_dm ≤ p1)) (h5 : 0 ≤ p1 ∧ p1 < f_dm) (h6 : 0 ≤ f_dm ∧ f_dm ≤ 10) (h7 : 0 ≤ p1 ∧ p1 ≤ 9) (h8 : (-2147483648) ≤ p2 ∧ p2 ≤ 2147483647) (h9 : 1 ≤ z250 ∧ z250 ≤ 1) (h10 : 1 ≤ z261 ∧ z261 ≤ 1) : z261 = 1 := by omega
theorem vc_X12_tie_v_13 {f_dm p1 p2 z250 z261 : Int} (h0 : 0 ≤ p2 ∧ p2 < f_dm) (h1 : (z250 = 1 → 0 ≤ p1 ∧ p1 < f_dm)) (h2 : (z250 = 0 → p1 < 0 ∨ f_dm ≤ p1)) (h3 : 0 ≤ p1 ∧ p1 < f_dm) (h4 : (z261 = 1 → 0 ≤ p2 ∧ p2 < f_dm)) (h5 : (z261 = 0 → p2 < 0 ∨ f_dm ≤ p2)) (h6 : 0 ≤ f_dm ∧ f_dm ≤ 10) (h7 : 0 ≤ p1 ∧ p1 ≤ 9) (h8 : (-2147483648) ≤ p2 ∧ p2 ≤ 2147483647) (h9 : 1 ≤ z250 ∧ z250 ≤ 1) (h10 : 1 ≤ z261 ∧ z261 ≤ 1) : 0 ≤ p2 ∧ p2 ≤ 9 := by omega
theorem vc_X12_tie_v_14 {f_dm p1 p2 p3 z250 z261 : Int} (h0 : (z250 = 1 → 0 ≤ p1 ∧ p1 < f_dm)) (h1 : (z250 = 0 → p1 < 0 ∨ f_dm ≤ p1)) (h2 : 0 ≤ p1 ∧ p1 < f_dm) (h3 : (z261 = 1 → 0 ≤ p2 ∧ p2 < f_dm)) (h4 : (z261 = 0 → p2 < 0 ∨ f_dm ≤ p2)) (h5 : 0 ≤ p2 ∧ p2 < f_dm) (h6 : p1 = p2) (h7 : ¬ z250 = 0) (h8 : ¬ z261 = 0) (h9 : 0 ≤ f_dm ∧ f_dm ≤ 10) (h10 : 0 ≤ p1 ∧ p1 ≤ 9) (h11 : 0 ≤ p2 ∧ p2 ≤ 9) (h12 : (-2147483648) ≤ p3 ∧ p3 ≤ 2147483647) (h13 : 1 ≤ z250 ∧ z250 ≤ 1) (h14 : 1 ≤ z261 ∧ z261 ≤ 1) : p1 < 0 ∨ f_dm ≤ p1 ∨ p2 < 0 ∨ f_dm ≤ p2 ∨ p1 = p2 ∨ p3 < 0 ∨ 2 < p3 := by omega
theorem vc_X12_tie_v_22 {f_t : Int} (h0 : ¬ f_t = 20) (h1 : 0 ≤ f_t ∧ f_t ≤ 19) : f_t ≤ (f_t + 1) := by omega
theorem vc_X12_tie_v_23 {f_t : Int} (h0 : ¬ f_t = 20) (h1 : 0 ≤ f_t ∧ f_t ≤ 19) : (f_t + 1) = f_t + 1 := by omega
theorem vc_X12_tie_v_24 {f_t : Int} (h0 : ¬ f_t = 20) (h1 : 0 ≤ f_t ∧ f_t ≤ 19) : 0 ≤ f_t := by omega
theorem vc_X12_tie_v_25 {z345 : Int} (h0 : 4 ≤ z345) (h1 : 4 ≤ z345 ∧ z345 ≤ 4) : z345 = 4 := by omega
theorem vc_X12_tie_v_26 {f_t : Int} (h0 : ¬ f_t = 20) (h1 : 0 ≤ f_t ∧ f_t ≤ 19) : (2 * f_t).toNat ≠ ((2 * f_t) + 1).toNat := by omega
theorem vc_X12_tie_v_27 {f_dm p1 p2 z250 z261 : Int} (h0 : (z250 = 1 → 0 ≤ p1 ∧ p1 < f_dm)) (h1 : (z250 = 0 → p1 < 0 ∨ f_dm ≤ p1)) (h2 : 0 ≤ p1 ∧ p1 < f_dm) (h3 : (z261 = 1 → 0 ≤ p2 ∧ p2 < f_dm)) (h4 : (z261 = 0 → p2 < 0 ∨ f_dm ≤ p2)) (h5 : 0 ≤ p2 ∧ p2 < f_dm) (h6 : ¬ p1 = p2) (h7 : ¬ z250 = 0) (h8 : ¬ z261 = 0) (h9 : 0 ≤ f_dm ∧ f_dm ≤ 10) (h10 : 0 ≤ p1 ∧ p1 ≤ 9) (h11 : 0 ≤ p2 ∧ p2 ≤ 9) (h12 : 1 ≤ z250 ∧ z250 ≤ 1) (h13 : 1 ≤ z261 ∧ z261 ≤ 1) : p1 < f_dm ∧ p2 < f_dm := by omega
theorem vc_X12_tie_v_28 {f_dm p1 p2 p3 z250 z261 z273 : Int} (h0 : (z250 = 1 → 0 ≤ p1 ∧ p1 < f_dm)) (h1 : (z250 = 0 → p1 < 0 ∨ f_dm ≤ p1)) (h2 : 0 ≤ p1 ∧ p1 < f_dm) (h3 : (z261 = 1 → 0 ≤ p2 ∧ p2 < f_dm)) (h4 : (z261 = 0 → p2 < 0 ∨ f_dm ≤ p2)) (h5 : 0 ≤ p2 ∧ p2 < f_dm) (h6 : ¬ p1 = p2) (h7 : (z273 = 1 → (0 : Int) ≤ p3 ∧ p3 ≤ (2 : Int))) (h8 : (z273 = 0 → p3 < (0 : Int) ∨ (2 : Int) < p3)) (h9 : (0 : Int) ≤ p3 ∧ p3 ≤ (2 : Int)) (h10 : ¬ z250 = 0) (h11 : ¬ z261 = 0) (h12 : ¬ z273 = 0) (h13 : 0 ≤ f_dm ∧ f_dm ≤ 10) (h14 : 0 ≤ p1 ∧ p1 ≤ 9) (h15 : 0 ≤ p2 ∧ p2 ≤ 9) (h16 : 0 ≤ p3 ∧ p3 ≤ 2) (h17 : 1 ≤ z250 ∧ z250 ≤ 1) (h18 : 1 ≤ z261 ∧ z261 ≤ 1) (h19 : 1 ≤ z273 ∧ z273 ≤ 1) : ¬ (p1 < 0 ∨ f_dm ≤ p1 ∨ p2 < 0 ∨ f_dm ≤ p2 ∨ p1 = p2 ∨ p3 < 0 ∨ 2 < p3) := by omega
theorem vc_X12_tie_v_29 {z282 : Int} (h0 : z282 = -99999999 ∨ (0 ≤ z282 ∧ z282 ≤ 19)) (h1 : z282 = (-99999999)) (h2 : (-99999999) ≤ z282 ∧ z282 ≤ (-99999999)) : z282 < 0 := by omega
theorem vc_X12_tie_v_30 {f_t : Int} (h0 : ¬ f_t = 20) (h1 : 0 ≤ f_t ∧ f_t ≤ 19) : f_t < 20 := by omega
theorem vc_X12_tie_v_31 {f_t : Int} (h0 : ¬ f_t = 20) (h1 : 0 ≤ f_t ∧ f_t ≤ 19) : ((f_t + 1) - 1) = f_t := by omega
theorem vc_X12_tie_v_32 {f_t : Int} (h0 : ¬ f_t = 20) (h1 : 0 ≤ f_t ∧ f_t ≤ 19) : 0 ≤ ((f_t + 1) - 1) := by omega
theorem vc_X12_tie_v_33 {f_dm f_t p1 p2 p3 z250 z261 z273 : Int} (h0 : (z250 = 1 → 0 ≤ p1 ∧ p1 < f_dm)) (h1 : (z250 = 0 → p1 < 0 ∨ f_dm ≤ p1)) (h2 : 0 ≤ p1 ∧ p1 < f_dm) (h3 : (z261 = 1 → 0 ≤ p2 ∧ p2 < f_dm)) (h4 : (z261 = 0 → p2 < 0 ∨ f_dm ≤ p2)) (h5 : 0 ≤ p2 ∧ p2 < f_dm) (h6 : ¬ p1 = p2) (h7 : (z273 = 1 → (0 : Int) ≤ p3 ∧ p3 ≤ (2 : Int))) (h8 : (z273 = 0 → p3 < (0 : Int) ∨ (2 : Int) < p3)) (h9 : (0 : Int) ≤ p3 ∧ p3 ≤ (2 : Int)) (h10 : ¬ f_t = 20) (h11 : ¬ z250 = 0) (h12 : ¬ z261 = 0) (h13 : ¬ z273 = 0) (h14 : 0 ≤ f_dm ∧ f_dm ≤ 10) (h15 : 0 ≤ f_t ∧ f_t ≤ 19) (h16 : 0 ≤ p1 ∧ p1 ≤ 9) (h17 : 0 ≤ p2 ∧ p2 ≤ 9) (h18 : 0 ≤ p3 ∧ p3 ≤ 2) (h19 : 1 ≤ z250 ∧ z250 ≤ 1) (h20 : 1 ≤ z261 ∧ z261 ≤ 1) (h21 : 1 ≤ z273 ∧ z273 ≤ 1) : (f_t + 1) = f_t + 1 := by omega
theorem vc_X12_tie_v_34 {f_dm f_t p1 p2 p3 z250 z261 z273 : Int} (h0 : (z250 = 1 → 0 ≤ p1 ∧ p1 < f_dm)) (h1 : (z250 = 0 → p1 < 0 ∨ f_dm ≤ p1)) (h2 : 0 ≤ p1 ∧ p1 < f_dm) (h3 : (z261 = 1 → 0 ≤ p2 ∧ p2 < f_dm)) (h4 : (z261 = 0 → p2 < 0 ∨ f_dm ≤ p2)) (h5 : 0 ≤ p2 ∧ p2 < f_dm) (h6 : ¬ p1 = p2) (h7 : (z273 = 1 → (0 : Int) ≤ p3 ∧ p3 ≤ (2 : Int))) (h8 : (z273 = 0 → p3 < (0 : Int) ∨ (2 : Int) < p3)) (h9 : (0 : Int) ≤ p3 ∧ p3 ≤ (2 : Int)) (h10 : ¬ f_t = 20) (h11 : ¬ z250 = 0) (h12 : ¬ z261 = 0) (h13 : ¬ z273 = 0) (h14 : 0 ≤ f_dm ∧ f_dm ≤ 10) (h15 : 0 ≤ f_t ∧ f_t ≤ 19) (h16 : 0 ≤ p1 ∧ p1 ≤ 9) (h17 : 0 ≤ p2 ∧ p2 ≤ 9) (h18 : 0 ≤ p3 ∧ p3 ≤ 2) (h19 : 1 ≤ z250 ∧ z250 ≤ 1) (h20 : 1 ≤ z261 ∧ z261 ≤ 1) (h21 : 1 ≤ z273 ∧ z273 ≤ 1) : 0 ≤ f_t ∧ (2 * f_t) = 2 * f_t ∧ ((2 * f_t) + 1) = 2 * f_t + 1 ∧ p1 = p1 ∧ p2 = p2 ∧ p3 = p3 := by omega
theorem vc_X12_tie_v_36  : ((-99999999) : Int) = -(99999999 : Int) ∨ ((0 : Int) ≤ ((-99999999) : Int) ∧ ((-99999999) : Int) ≤ (11 : Int)) := by omega
theorem vc_X12_tie_v_37 {z380 : Int} (h0 : 0 ≤ z380 ∧ z380 ≤ 12) : ((-99999999) : Int) = -99999999 ∨ (0 ≤ ((-99999999) : Int) ∧ ((-99999999) : Int) < z380) := by omega
theorem vc_X12_tie_v_39 {f_t z345 : Int} (h0 : ¬ f_t = 20) (h1 : z345 < 4) (h2 : 0 ≤ f_t ∧ f_t ≤ 19) (h3 : 0 ≤ z345 ∧ z345 ≤ 3) : ((4 * f_t) + z345) = 4 * f_t + z345 := by omega
theorem vc_X12_tie_v_40 {f_t z345 : Int} (h0 : ¬ f_t = 20) (h1 : z345 < 4) (h2 : 0 ≤ f_t ∧ f_t ≤ 19) (h3 : 0 ≤ z345 ∧ z345 ≤ 3) : 0 ≤ f_t ∧ 0 ≤ z345 := by omega
theorem vc_X12_tie_v_41  : (((-99999999) : Int) : Int) = -(99999999 : Int) := by omega
theorem vc_X12_tie_v_42 {z345 : Int} (h0 : z345 < 4) (h1 : 0 ≤ z345 ∧ z345 ≤ 3) : (z345 + 1) = z345 + 1 := by omega
theorem vc_X12_tie_v_43 {f_t z345 : Int} (h0 : ¬ f_t = 20) (h1 : z345 < 4) (h2 : 0 ≤ f_t ∧ f_t ≤ 19) (h3 : 0 ≤ z345 ∧ z345 ≤ 3) : 4 * f_t ≤ ((4 * f_t) + z345) ∧ 0 ≤ ((4 * f_t) + z345) := by omega
theorem vc_X12_tie_v_46 {f_t : Int} (h0 : ¬ f_t = 20) (h1 : 0 ≤ f_t ∧ f_t ≤ 19) : 2 * f_t ≤ (2 * f_t) ∧ 0 ≤ (2 * f_t) := by omega
theorem vc_X12_tie_v_47 {f_t : Int} (h0 : ¬ f_t = 20) (h1 : 0 ≤ f_t ∧ f_t ≤ 19) : 2 * f_t ≤ ((2 * f_t) + 1) ∧ 0 ≤ ((2 * f_t) + 1) := by omega
theorem vc_X12_tie_v_48 {f_t : Int} (h0 : ¬ f_t = 20) (h1 : 0 ≤ f_t ∧ f_t ≤ 19) : 1 * f_t ≤ f_t ∧ 0 ≤ f_t := by omega
theorem vc_X12_tie_v_50 {f_t : Int} (h0 : f_t = 20) (h1 : 20 ≤ f_t ∧ f_t ≤ 20) : 20 ≤ f_t := by omega
theorem vc_X12_tie_v_51  : (((-3) : Int) : Int) < (0 : Int) := by omega
theorem vc_X12_tie_v_54  : (((-2) : Int) : Int) < (0 : Int) := by omega
theorem vc_X12_tie_v_57 {f_dm p1 p2 p3 z250 z261 z273 : Int} (h0 : (z250 = 1 → 0 ≤ p1 ∧ p1 < f_dm)) (h1 : (z250 = 0 → p1 < 0 ∨ f_dm ≤ p1)) (h2 : 0 ≤ p1 ∧ p1 < f_dm) (h3 : (z261 = 1 → 0 ≤ p2 ∧ p2 < f_dm)) (h4 : (z261 = 0 → p2 < 0 ∨ f_dm ≤ p2)) (h5 : 0 ≤ p2 ∧ p2 < f_dm) (h6 : ¬ p1 = p2) (h7 : (z273 = 1 → (0 : Int) ≤ p3 ∧ p3 ≤ (2 : Int))) (h8 : (z273 = 0 → p3 < (0 : Int) ∨ (2 : Int) < p3)) (h9 : p3 < (0 : Int) ∨ (2 : Int) < p3) (h10 : ¬ z250 = 0) (h11 : ¬ z261 = 0) (h12 : z273 = 0) (h13 : 0 ≤ f_dm ∧ f_dm ≤ 10) (h14 : 0 ≤ p1 ∧ p1 ≤ 9) (h15 : 0 ≤ p2 ∧ p2 ≤ 9) (h16 : (-2147483648) ≤ p3 ∧ p3 ≤ 2147483647) (h17 : 1 ≤ z250 ∧ z250 ≤ 1) (h18 : 1 ≤ z261 ∧ z261 ≤ 1) (h19 : 0 ≤ z273 ∧ z273 ≤ 0) : p1 < 0 ∨ f_dm ≤ p1 ∨ p2 < 0 ∨ f_dm ≤ p2 ∨ p1 = p2 ∨ p3 < 0 ∨ 2 < p3 := by omega
set_option maxRecDepth 4000 in
set_option maxHeartbeats 4000000 in
theorem c_X12_tie_v {l : Launch} {D : va_G} {c : Nat → ClassId} {H0 : Heap} {sa : Nat × Nat × (Nat → Int32)} {w : mW} {μ : mM} (hw : mWF w) (hT : mT w μ) {p1 : Int} (hp1 : (-2147483648) ≤ p1 ∧ p1 ≤ 2147483647) {p2 : Int} (hp2 : (-2147483648) ≤ p2 ∧ p2 ≤ 2147483647) {p3 : Int} (hp3 : (-2147483648) ≤ p3 ∧ p3 ≤ 2147483647) {f_t : Int} (q_f_t : μ 106 6 = f_t) {f_dm : Int} (q_f_dm : μ 106 5 = f_dm) (hIJC : JC l D c H0 sa μ) (hIRP : RP μ) (hIEP : EP μ) (hIHP : HP μ) (hIUP : UP l D c H0 sa μ) (hITE : TE μ) (hIPK : PK μ) (hIEV : EV μ) : sC (gG l D c H0 sa) mX12_tie 3 0 0 [.ref 106, iv p1, iv p2, iv p3] (mk w μ) (qI w [106006, 110999, 111999, 112999, 113999, 114999, 115999] μ (fun z μ1 => ((-2147483648) ≤ z ∧ z ≤ 2147483647) ∧ JC l D c H0 sa μ1 ∧ RP μ1 ∧ EP μ1 ∧ HP μ1 ∧ UP l D c H0 sa μ1 ∧ TE μ1 ∧ PK μ1 ∧ EV μ1 ∧ (tieA (noneQ (tr μ 0) (tr μ 1) f_t p1 p2) f_dm f_t p1 p2 p3 z) ∧ (tgR μ μ1 p1 p2 p3 z) ∧ True)) := by
  refine sC.of rfl (by decide) (le_t rfl) ?_
  have ht_f_t : (0 ≤ f_t ∧ f_t ≤ 20) := by rw [← q_f_t]; exact hT 106 106 (A_106 hw) 6
  have ht_f_dm : (0 ≤ f_dm ∧ f_dm ≤ 10) := by rw [← q_f_dm]; exact hT 106 106 (A_106 hw) 5
  refine mr_lvE (lv' := [(0, .ref 106), (1, iv p1), (2, iv p2), (3, iv p3)]) rfl ?_
  refine sv_aload_n (pc := 0) dX12_tie_0 rfl rfl ?_
  refine mr_iload_n (pc := 1) (z := p1) dX12_tie_1 rfl rfl ?_
  refine mr_cVP (pc := 2) (c_X12_isDomain hw hT hp1 q_f_dm) (gOk _ _ _ _ _) dX12_tie_2 (tX12_isDomain _ _ _ _ _) ⟨wV_X12_isDomain, wL_X12_isDomain⟩ wM_X12_49 (gCX12 _ _ _ _ _) rfl (A_106 hw) rfl ⟨le_t rfl, le_t rfl⟩ ⟨le_t rfl, le_t rfl⟩ rfl (le_t rfl) fun z250 h249 => ?_
  refine mr_if_eq (pc := 5) (tgt := 30) dX12_tie_5 (by decide) (r32 h249.1 rfl) (fun h251 => ?_) (fun h251 => ?_)
  · have h252 : 0 ≤ z250 ∧ z250 ≤ 0 := (vc_X12_tie_v_1 h251 h249.2.1 h249.2.2.1 ht_f_dm hp1 h249.1)
    have h253 : p1 < 0 ∨ f_dm ≤ p1 := (h249.2.2.1 (vc_X12_tie_v_2 h249.2.1 h249.2.2.1 h251 ht_f_dm hp1 h252))
    refine mr_iconst (pc := 30) (z := (-1)) dX12_tie_30 ?_
    exact mr_iret dX12_tie_31 rfl (le_t rfl) (le_t rfl) hT mF.refl ⟨(rW (c := (-2147483648)) (d := 2147483647) (rR (x := (-1))) rfl), hIJC, hIRP, hIEP, hIHP, hIUP, hITE, hIPK, hIEV, (Or.inl ⟨(by unfold tieB; exact (vc_X12_tie_v_3 h249.2.1 h249.2.2.1 h253 h251 ht_f_dm hp1 hp2 hp3 h252)), rfl⟩), (Or.inr ⟨vc_X12_raise_u_49, rfl⟩), trivial⟩
  have h254 : 1 ≤ z250 ∧ z250 ≤ 1 := (vc_X12_tie_v_5 h251 h249.2.1 h249.2.2.1 ht_f_dm hp1 h249.1)
  have h255 : 0 ≤ p1 ∧ p1 < f_dm := (h249.2.1 (vc_X12_tie_v_6 h249.2.1 h249.2.2.1 h251 ht_f_dm hp1 h254))
  have h256 : 0 ≤ p1 ∧ p1 ≤ 9 := (vc_X12_tie_v_7 h255 h249.2.1 h249.2.2.1 ht_f_dm hp1 h254)
  refine sv_aload_n (pc := 8) dX12_tie_8 rfl rfl ?_
  refine mr_iload_n (pc := 9) (z := p2) dX12_tie_9 rfl rfl ?_
  refine mr_cVP (pc := 10) (c_X12_isDomain hw hT hp2 q_f_dm) (gOk _ _ _ _ _) dX12_tie_10 (tX12_isDomain _ _ _ _ _) ⟨wV_X12_isDomain, wL_X12_isDomain⟩ wM_X12_49 (gCX12 _ _ _ _ _) rfl (A_106 hw) rfl ⟨le_t rfl, le_t rfl⟩ ⟨le_t rfl, le_t rfl⟩ rfl (le_t rfl) fun z261 h260 => ?_
  refine mr_if_eq (pc := 13) (tgt := 30) dX12_tie_13 (by decide) (r32 h260.1 rfl) (fun h262 => ?_) (fun h262 => ?_)
  · have h263 : 0 ≤ z261 ∧ z261 ≤ 0 := (vc_X12_tie_v_1 h262 h260.2.1 h260.2.2.1 ht_f_dm hp2 h260.1)
    have h264 : p2 < 0 ∨ f_dm ≤ p2 := (h260.2.2.1 (vc_X12_tie_v_9 h260.2.1 h260.2.2.1 h262 h249.2.1 h249.2.2.1 h255 ht_f_dm h256 hp2 h254 h263))
    refine mr_iconst (pc := 30) (z := (-1)) dX12_tie_30 ?_
    exact mr_iret dX12_tie_31 rfl (le_t rfl) (le_t rfl) hT mF.refl ⟨(rW (c := (-2147483648)) (d := 2147483647) (rR (x := (-1))) rfl), hIJC, hIRP, hIEP, hIHP, hIUP, hITE, hIPK, hIEV, (Or.inl ⟨(by unfold tieB; exact (vc_X12_tie_v_10 h249.2.1 h249.2.2.1 h255 h260.2.1 h260.2.2.1 h264 h251 h262 ht_f_dm h256 hp2 hp3 h254 h263)), rfl⟩), (Or.inr ⟨vc_X12_raise_u_49, rfl⟩), trivial⟩
  have h265 : 1 ≤ z261 ∧ z261 ≤ 1 := (vc_X12_tie_v_5 h262 h260.2.1 h260.2.2.1 ht_f_dm hp2 h260.1)
  have h266 : 0 ≤ p2 ∧ p2 < f_dm := (h260.2.1 (vc_X12_tie_v_12 h260.2.1 h260.2.2.1 h262 h249.2.1 h249.2.2.1 h255 ht_f_dm h256 hp2 h254 h265))
  have h267 : 0 ≤ p2 ∧ p2 ≤ 9 := (vc_X12_tie_v_13 h266 h249.2.1 h249.2.2.1 h255 h260.2.1 h260.2.2.1 ht_f_dm h256 hp2 h254 h265)
  refine mr_iload_n (pc := 16) (z := p1) dX12_tie_16 rfl rfl ?_
  refine mr_iload_n (pc := 17) (z := p2) dX12_tie_17 rfl rfl ?_
  refine mr_icmp_eq (pc := 18) (tgt := 30) dX12_tie_18 (by decide) (r32 h256 rfl) (r32 h267 rfl) (fun h268 => ?_) (fun h268 => ?_)
  · refine mr_iconst (pc := 30) (z := (-1)) dX12_tie_30 ?_
    exact mr_iret dX12_tie_31 rfl (le_t rfl) (le_t rfl) hT mF.refl ⟨(rW (c := (-2147483648)) (d := 2147483647) (rR (x := (-1))) rfl), hIJC, hIRP, hIEP, hIHP, hIUP, hITE, hIPK, hIEV, (Or.inl ⟨(by unfold tieB; exact (vc_X12_tie_v_14 h249.2.1 h249.2.2.1 h255 h260.2.1 h260.2.2.1 h266 h268 h251 h262 ht_f_dm h256 h267 hp3 h254 h265)), rfl⟩), (Or.inr ⟨vc_X12_raise_u_49, rfl⟩), trivial⟩
  refine mr_iload_n (pc := 21) (z := p3) dX12_tie_21 rfl rfl ?_
  refine mr_iconst (pc := 22) (z := 0) dX12_tie_22 ?_
  refine mr_iconst (pc := 23) (z := 2) dX12_tie_23 ?_
  refine mr_cSP (pc := 24) (c_X12_in hw hT hp3 (rW (c := (-2147483648)) (d := 2147483647) (rR (x := 0)) rfl) (rW (c := (-2147483648)) (d := 2147483647) (rR (x := 2)) rfl)) (gOk _ _ _ _ _) dX12_tie_24 (tX12_in _ _ _ _ _) wS_X12_in wM_X12_18 ⟨le_t rfl, le_t rfl⟩ ⟨le_t rfl, le_t rfl⟩ rfl (le_t rfl) fun z273 h272 => ?_
  refine mr_if_ne (pc := 27) (tgt := 32) dX12_tie_27 (by decide) (r32 h272.1 rfl) (fun h274 => ?_) (fun h274 => ?_)
  · have h275 : 1 ≤ z273 ∧ z273 ≤ 1 := (vc_X12_units_1 h274 h272.2.1 h272.2.2.1 hp3 h272.1)
    have h276 : (0 : Int) ≤ p3 ∧ p3 ≤ (2 : Int) := (h272.2.1 (vc_X12_units_2 h272.2.1 h272.2.2.1 h274 hp3 h275))
    have h277 : 0 ≤ p3 ∧ p3 ≤ 2 := (vc_X12_units_3 h276 h272.2.1 h272.2.2.1 hp3 h275)
    refine sv_aload_n (pc := 32) dX12_tie_32 rfl rfl ?_
    refine mr_iload_n (pc := 33) (z := p1) dX12_tie_33 rfl rfl ?_
    refine mr_iload_n (pc := 34) (z := p2) dX12_tie_34 rfl rfl ?_
    refine mr_cVP (pc := 35) (c_X12_tieOf_v hw hT (rW (c := (-2147483648)) (d := 2147483647) h256 rfl) (rW (c := (-2147483648)) (d := 2147483647) h267 rfl) q_f_t) (gOk _ _ _ _ _) dX12_tie_35 (tX12_tieOf _ _ _ _ _) ⟨wV_X12_tieOf, wL_X12_tieOf⟩ wM_X12_43 (gCX12 _ _ _ _ _) rfl (A_106 hw) rfl ⟨le_t rfl, le_t rfl⟩ ⟨le_t rfl, le_t rfl⟩ rfl (le_t rfl) fun z282 h281 => ?_
    refine mr_ldc (pc := 38) (z := (-99999999)) dX12_tie_38 wG_X12_29 (by decide) ?_
    refine mr_icmp_eq (pc := 40) (tgt := 46) dX12_tie_40 (by decide) (r32 h281.1 rfl) (r32 (rR (x := (-99999999))) rfl) (fun h283 => ?_) (fun h283 => ?_)
    · have h284 : (-99999999) ≤ z282 ∧ z282 ≤ (-99999999) := (vc_X12_provides_1 h283 h281.2.1 h281.1)
      refine sv_aload_n (pc := 46) dX12_tie_46 rfl rfl ?_
      refine gk_X12_6 (pc := 47) dX12_tie_47 wF_X12_37 (A_106 hw) q_f_t ?_
      refine mr_bipush (pc := 50) (z := 20) dX12_tie_50 (by decide) ?_
      refine mr_icmp_ne (pc := 52) (tgt := 58) dX12_tie_52 (by decide) (r32 ht_f_t rfl) (r32 (rR (x := 20)) rfl) (fun h285 => ?_) (fun h285 => ?_)
      · have h286 : 0 ≤ f_t ∧ f_t ≤ 19 := (vc_X12_walk_5 h285 ht_f_t)
        refine sv_aload_n (pc := 58) dX12_tie_58 rfl rfl ?_
        refine gf_X12_7 (pc := 59) dX12_tie_59 wF_X12_40 (A_106 hw) hT ?_
        refine mr_iconst (pc := 62) (z := 2) dX12_tie_62 ?_
        refine sv_aload_n (pc := 63) dX12_tie_63 rfl rfl ?_
        refine gk_X12_6 (pc := 64) dX12_tie_64 wF_X12_37 (A_106 hw) q_f_t ?_
        refine mr_imul (pc := 67) (x := 2) (y := f_t) dX12_tie_67 ?_
        refine mr_iload_n (pc := 68) (z := p1) dX12_tie_68 rfl rfl ?_
        refine ss_110 (pc := 69) dX12_tie_69 (A_110 hw) hT (rIx (n := 40) (rMulL (n := 2) (e := 0) (f := 38) h286 rfl) rfl) h256 fun μ287 u288 T289 => ?_
        refine sv_aload_n (pc := 70) dX12_tie_70 rfl rfl ?_
        refine gf_X12_7 (pc := 71) dX12_tie_71 wF_X12_40 (A_106 hw) T289 ?_
        refine mr_iconst (pc := 74) (z := 2) dX12_tie_74 ?_
        refine sv_aload_n (pc := 75) dX12_tie_75 rfl rfl ?_
        refine gk_X12_6 (pc := 76) dX12_tie_76 wF_X12_37 (A_106 hw) (u288.f (Or.inl (mAt.ne (A_110 hw) (A_106 hw) rfl)) q_f_t) ?_
        refine mr_imul (pc := 79) (x := 2) (y := f_t) dX12_tie_79 ?_
        refine mr_iconst (pc := 80) (z := 1) dX12_tie_80 ?_
        refine mr_iadd (pc := 81) (x := (2 * f_t)) (y := 1) dX12_tie_81 ?_
        refine mr_iload_n (pc := 82) (z := p2) dX12_tie_82 rfl rfl ?_
        refine ss_110 (pc := 83) dX12_tie_83 (A_110 hw) T289 (rIx (n := 40) (rAdd (e := 1) (f := 39) (rMulL (n := 2) (e := 0) (f := 38) h286 rfl) (rR (x := 1)) rfl) rfl) h267 fun μ290 u291 T292 => ?_
        refine sv_aload_n (pc := 84) dX12_tie_84 rfl rfl ?_
        refine gf_X12_8 (pc := 85) dX12_tie_85 wF_X12_46 (A_106 hw) T292 ?_
        refine sv_aload_n (pc := 88) dX12_tie_88 rfl rfl ?_
        refine gk_X12_6 (pc := 89) dX12_tie_89 wF_X12_37 (A_106 hw) (u291.f (Or.inl (mAt.ne (A_110 hw) (A_106 hw) rfl)) (u288.f (Or.inl (mAt.ne (A_110 hw) (A_106 hw) rfl)) q_f_t)) ?_
        refine mr_iload_n (pc := 92) (z := p3) dX12_tie_92 rfl rfl ?_
        refine ss_111 (pc := 93) dX12_tie_93 (A_111 hw) T292 (rIx (n := 20) h286 rfl) h277 fun μ293 u294 T295 => ?_
        refine sv_aload_n (pc := 94) dX12_tie_94 rfl rfl ?_
        refine gf_X12_9 (pc := 95) dX12_tie_95 wF_X12_53 (A_106 hw) T295 ?_
        refine sv_aload_n (pc := 98) dX12_tie_98 rfl rfl ?_
        refine gk_X12_6 (pc := 99) dX12_tie_99 wF_X12_37 (A_106 hw) (u294.f (Or.inl (mAt.ne (A_111 hw) (A_106 hw) rfl)) (u291.f (Or.inl (mAt.ne (A_110 hw) (A_106 hw) rfl)) (u288.f (Or.inl (mAt.ne (A_110 hw) (A_106 hw) rfl)) q_f_t))) ?_
        refine mr_iconst (pc := 102) (z := 1) dX12_tie_102 ?_
        refine ss_112 (pc := 103) dX12_tie_103 (A_112 hw) T295 (rIx (n := 20) h286 rfl) (rW (c := 0) (d := 1) (rR (x := 1)) rfl) fun μ296 u297 T298 => ?_
        refine sv_aload_n (pc := 104) dX12_tie_104 rfl rfl ?_
        refine gf_X12_10 (pc := 105) dX12_tie_105 wF_X12_57 (A_106 hw) T298 ?_
        refine sv_aload_n (pc := 108) dX12_tie_108 rfl rfl ?_
        refine gk_X12_6 (pc := 109) dX12_tie_109 wF_X12_37 (A_106 hw) (u297.f (Or.inl (mAt.ne (A_112 hw) (A_106 hw) rfl)) (u294.f (Or.inl (mAt.ne (A_111 hw) (A_106 hw) rfl)) (u291.f (Or.inl (mAt.ne (A_110 hw) (A_106 hw) rfl)) (u288.f (Or.inl (mAt.ne (A_110 hw) (A_106 hw) rfl)) q_f_t)))) ?_
        refine mr_iconst (pc := 112) (z := 1) dX12_tie_112 ?_
        refine ss_113 (pc := 113) dX12_tie_113 (A_113 hw) T298 (rIx (n := 20) h286 rfl) (rW (c := 0) (d := 1000) (rR (x := 1)) rfl) fun μ299 u300 T301 => ?_
        refine sv_aload_n (pc := 114) dX12_tie_114 rfl rfl ?_
        refine gf_X12_11 (pc := 115) dX12_tie_115 wF_X12_60 (A_106 hw) T301 ?_
        refine sv_aload_n (pc := 118) dX12_tie_118 rfl rfl ?_
        refine gk_X12_6 (pc := 119) dX12_tie_119 wF_X12_37 (A_106 hw) (u300.f (Or.inl (mAt.ne (A_113 hw) (A_106 hw) rfl)) (u297.f (Or.inl (mAt.ne (A_112 hw) (A_106 hw) rfl)) (u294.f (Or.inl (mAt.ne (A_111 hw) (A_106 hw) rfl)) (u291.f (Or.inl (mAt.ne (A_110 hw) (A_106 hw) rfl)) (u288.f (Or.inl (mAt.ne (A_110 hw) (A_106 hw) rfl)) q_f_t))))) ?_
        refine mr_iconst (pc := 122) (z := 0) dX12_tie_122 ?_
        refine ss_114 (pc := 123) dX12_tie_123 (A_114 hw) T301 (rIx (n := 20) h286 rfl) (rW (c := 0) (d := 1000) (rR (x := 0)) rfl) fun μ302 u303 T304 => ?_
        refine mr_iconst (pc := 124) (z := 0) dX12_tie_124 ?_
        refine mr_istore (pc := 125) (lv' := [(4, iv 0), (0, .ref 106), (1, iv p1), (2, iv p2), (3, iv p3)]) dX12_tie_125 (by decide) rfl ?_
        have L347 : ∀ (nL347 : Nat) (z345 : Int) (μ346 : mM), mT w μ346 → mF [115999] w μ302 μ346 → (0 ≤ z345 ∧ z345 ≤ 4) → JC l D c H0 sa μ346 → RP μ346 → PK μ346 → EV μ346 → pnT μ346 f_t z345 → TI μ μ346 f_t → (5 - z345) < (nL347 : Int) → sV (gG l D c H0 sa) mX12_tie (sRm 3 0 0) (sZ (gG l D c H0 sa) 0 0 (qI w [106006, 110999, 111999, 112999, 113999, 114999, 115999] μ (fun z μ1 => ((-2147483648) ≤ z ∧ z ≤ 2147483647) ∧ JC l D c H0 sa μ1 ∧ RP μ1 ∧ EP μ1 ∧ HP μ1 ∧ UP l D c H0 sa μ1 ∧ TE μ1 ∧ PK μ1 ∧ EV μ1 ∧ (tieA (noneQ (tr μ 0) (tr μ 1) f_t p1 p2) f_dm f_t p1 p2 p3 z) ∧ (tgR μ μ1 p1 p2 p3 z) ∧ True))) 127 [(0, .ref 106), (4, iv z345)] [] (mk w μ346) 0 0 := by
          intro nL347
          induction nL347 with
          | zero => intro z345 μ346 T349 F350 h348 I352 I353 I354 I355 R356 R357 h358; exact ((vc_X3_putPrefix_2 h358 h348)).elim
          | succ nL347 ih359 =>
            intro z345 μ346 T349 F350 h348 I352 I353 I354 I355 R356 R357 h358
            refine mr_iload (pc := 127) (z := z345) dX12_tie_127 rfl ?_
            refine mr_iconst (pc := 129) (z := 4) dX12_tie_129 ?_
            refine mr_icmp_ge (pc := 130) (tgt := 155) dX12_tie_130 (by decide) (r32 h348 rfl) (r32 (rR (x := 4)) rfl) (fun h365 => ?_) (fun h365 => ?_)
            · have h366 : 4 ≤ z345 ∧ z345 ≤ 4 := (vc_X12_addressRead_74 h365 h348)
              refine sv_aload_n (pc := 155) dX12_tie_155 rfl rfl ?_
              refine sv_dup (pc := 156) dX12_tie_156 rfl ?_
              refine gk_X12_6 (pc := 157) dX12_tie_157 wF_X12_37 (A_106 hw) (F350.f (A_106 hw) rfl (u303.f (Or.inl (mAt.ne (A_114 hw) (A_106 hw) rfl)) (u300.f (Or.inl (mAt.ne (A_113 hw) (A_106 hw) rfl)) (u297.f (Or.inl (mAt.ne (A_112 hw) (A_106 hw) rfl)) (u294.f (Or.inl (mAt.ne (A_111 hw) (A_106 hw) rfl)) (u291.f (Or.inl (mAt.ne (A_110 hw) (A_106 hw) rfl)) (u288.f (Or.inl (mAt.ne (A_110 hw) (A_106 hw) rfl)) q_f_t))))))) ?_
              refine mr_iconst (pc := 160) (z := 1) dX12_tie_160 ?_
              refine mr_iadd (pc := 161) (x := f_t) (y := 1) dX12_tie_161 ?_
              refine pf_X12_6 (pc := 162) dX12_tie_162 wF_X12_37 (A_106 hw) T349 (rW (c := 0) (d := 20) (rAdd (e := 1) (f := 20) h286 (rR (x := 1)) rfl) rfl) fun μ367 u368 T369 => ?_
              have I370 : EV μ367 := EV.grow I355 (F350.f (A_106 hw) rfl (u303.f (Or.inl (mAt.ne (A_114 hw) (A_106 hw) rfl)) (u300.f (Or.inl (mAt.ne (A_113 hw) (A_106 hw) rfl)) (u297.f (Or.inl (mAt.ne (A_112 hw) (A_106 hw) rfl)) (u294.f (Or.inl (mAt.ne (A_111 hw) (A_106 hw) rfl)) (u291.f (Or.inl (mAt.ne (A_110 hw) (A_106 hw) rfl)) (u288.f (Or.inl (mAt.ne (A_110 hw) (A_106 hw) rfl)) q_f_t))))))) u368 (vc_X12_tie_v_22 h285 h286)
              have I371 : PK μ367 := PK.grow I354 (F350.f (A_106 hw) rfl (u303.f (Or.inl (mAt.ne (A_114 hw) (A_106 hw) rfl)) (u300.f (Or.inl (mAt.ne (A_113 hw) (A_106 hw) rfl)) (u297.f (Or.inl (mAt.ne (A_112 hw) (A_106 hw) rfl)) (u294.f (Or.inl (mAt.ne (A_111 hw) (A_106 hw) rfl)) (u291.f (Or.inl (mAt.ne (A_110 hw) (A_106 hw) rfl)) (u288.f (Or.inl (mAt.ne (A_110 hw) (A_106 hw) rfl)) q_f_t))))))) u368 (vc_X12_tie_v_23 h285 h286) (vc_X12_tie_v_24 h285 h286) R356 (vc_X12_tie_v_25 h365 h366)
              have I372 : HP μ367 := TI.hp hIHP R357 q_f_t u368 (vc_X12_tie_v_23 h285 h286)
              have I373 : EP μ367 := TI.ep hIEP hIEV R357 q_f_t u368
              have I374 : TE μ367 := TI.te hITE R357 q_f_t (vc_X12_tie_v_24 h285 h286) u368 (vc_X12_tie_v_23 h285 h286) (u368.f (Or.inl (mAt.ne (A_106 hw) (A_110 hw) rfl)) (F350.f (A_110 hw) rfl (u303.f (Or.inl (mAt.ne (A_114 hw) (A_110 hw) rfl)) (u300.f (Or.inl (mAt.ne (A_113 hw) (A_110 hw) rfl)) (u297.f (Or.inl (mAt.ne (A_112 hw) (A_110 hw) rfl)) (u294.f (Or.inl (mAt.ne (A_111 hw) (A_110 hw) rfl)) (u291.f (Or.inr (vc_X12_tie_v_26 h285 h286)) u288.1))))))) (u368.f (Or.inl (mAt.ne (A_106 hw) (A_110 hw) rfl)) (F350.f (A_110 hw) rfl (u303.f (Or.inl (mAt.ne (A_114 hw) (A_110 hw) rfl)) (u300.f (Or.inl (mAt.ne (A_113 hw) (A_110 hw) rfl)) (u297.f (Or.inl (mAt.ne (A_112 hw) (A_110 hw) rfl)) (u294.f (Or.inl (mAt.ne (A_111 hw) (A_110 hw) rfl)) u291.1)))))) (u368.f (Or.inr (by decide)) (F350.f (A_106 hw) rfl (u303.f (Or.inl (mAt.ne (A_114 hw) (A_106 hw) rfl)) (u300.f (Or.inl (mAt.ne (A_113 hw) (A_106 hw) rfl)) (u297.f (Or.inl (mAt.ne (A_112 hw) (A_106 hw) rfl)) (u294.f (Or.inl (mAt.ne (A_111 hw) (A_106 hw) rfl)) (u291.f (Or.inl (mAt.ne (A_110 hw) (A_106 hw) rfl)) (u288.f (Or.inl (mAt.ne (A_110 hw) (A_106 hw) rfl)) q_f_dm)))))))) (vc_X12_tie_v_27 h249.2.1 h249.2.2.1 h255 h260.2.1 h260.2.2.1 h266 h268 h251 h262 ht_f_dm h256 h267 h254 h265)
              have I375 : UP l D c H0 sa μ367 := TI.upx hIUP hIHP R357 hw T369 I371 q_f_t (vc_X12_tie_v_24 h285 h286) u368 (vc_X12_tie_v_23 h285 h286)
              refine sv_aload_n (pc := 165) dX12_tie_165 rfl rfl ?_
              refine gk_X12_6 (pc := 166) dX12_tie_166 wF_X12_37 (A_106 hw) u368.1 ?_
              refine mr_iconst (pc := 169) (z := 1) dX12_tie_169 ?_
              refine mr_isub (pc := 170) (x := (f_t + 1)) (y := 1) dX12_tie_170 ?_
              exact mr_iret dX12_tie_171 rfl (le_t rfl) (le_t rfl) T369 (mF.up (mF.call (mF.up (mF.up (mF.up (mF.up (mF.up (mF.up mF.refl (A_110 hw) u288 rfl) (A_110 hw) u291 rfl) (A_111 hw) u294 rfl) (A_112 hw) u297 rfl) (A_113 hw) u300 rfl) (A_114 hw) u303 rfl) F350 rfl) (A_106 hw) u368 rfl) ⟨(rW (c := (-2147483648)) (d := 2147483647) (rSub (e := 0) (f := 19) (rAdd (e := 1) (f := 20) h286 (rR (x := 1)) rfl) (rR (x := 1)) rfl) rfl), (JC.keepJ I352 hw ((mF.up mF.refl (A_106 hw) u368 rfl) : mF [106006] w μ346 μ367) rfl), (RP.keep I353 hw ((mF.up mF.refl (A_106 hw) u368 rfl) : mF [106006] w μ346 μ367) rfl ((mG.upO mG.refl u368 rfl) : mG [] μ346 μ367) (fun _ h => absurd h List.not_mem_nil)), I373, I372, I375, I374, I371, I370, (Or.inr ⟨(by unfold tieB; exact (vc_X12_tie_v_28 h249.2.1 h249.2.2.1 h255 h260.2.1 h260.2.2.1 h266 h268 h272.2.1 h272.2.2.1 h276 h251 h262 h274 ht_f_dm h256 h267 h277 h254 h265 h275)), Or.inr ⟨((h281.2.2.1).not (by decide) (vc_X12_tie_v_29 h281.2.1 h283 h284)), Or.inr ⟨(vc_X12_tie_v_30 h285 h286), (vc_X12_tie_v_31 h285 h286)⟩⟩⟩), (tgR.add q_f_t (vc_X12_tie_v_32 h285 h286) u368.1 (vc_X12_tie_v_33 h249.2.1 h249.2.2.1 h255 h260.2.1 h260.2.2.1 h266 h268 h272.2.1 h272.2.2.1 h276 h285 h251 h262 h274 ht_f_dm h286 h256 h267 h277 h254 h265 h275) (u368.f (Or.inl (mAt.ne (A_106 hw) (A_110 hw) rfl)) (F350.f (A_110 hw) rfl (u303.f (Or.inl (mAt.ne (A_114 hw) (A_110 hw) rfl)) (u300.f (Or.inl (mAt.ne (A_113 hw) (A_110 hw) rfl)) (u297.f (Or.inl (mAt.ne (A_112 hw) (A_110 hw) rfl)) (u294.f (Or.inl (mAt.ne (A_111 hw) (A_110 hw) rfl)) (u291.f (Or.inr (vc_X12_tie_v_26 h285 h286)) u288.1))))))) (u368.f (Or.inl (mAt.ne (A_106 hw) (A_110 hw) rfl)) (F350.f (A_110 hw) rfl (u303.f (Or.inl (mAt.ne (A_114 hw) (A_110 hw) rfl)) (u300.f (Or.inl (mAt.ne (A_113 hw) (A_110 hw) rfl)) (u297.f (Or.inl (mAt.ne (A_112 hw) (A_110 hw) rfl)) (u294.f (Or.inl (mAt.ne (A_111 hw) (A_110 hw) rfl)) u291.1)))))) (u368.f (Or.inl (mAt.ne (A_106 hw) (A_111 hw) rfl)) (F350.f (A_111 hw) rfl (u303.f (Or.inl (mAt.ne (A_114 hw) (A_111 hw) rfl)) (u300.f (Or.inl (mAt.ne (A_113 hw) (A_111 hw) rfl)) (u297.f (Or.inl (mAt.ne (A_112 hw) (A_111 hw) rfl)) u294.1))))) (vc_X12_tie_v_34 h249.2.1 h249.2.2.1 h255 h260.2.1 h260.2.2.1 h266 h268 h272.2.1 h272.2.2.1 h276 h285 h251 h262 h274 ht_f_dm h286 h256 h267 h277 h254 h265 h275) (TI.trS R357 u368)), trivial⟩
            have h376 : 0 ≤ z345 ∧ z345 ≤ 3 := (vc_X12_addressRead_82 h365 h348)
            refine sv_aload_n (pc := 133) dX12_tie_133 rfl rfl ?_
            refine gf_X12_12 (pc := 134) dX12_tie_134 wF_X12_63 (A_106 hw) T349 ?_
            refine mr_iconst (pc := 137) (z := 4) dX12_tie_137 ?_
            refine sv_aload_n (pc := 138) dX12_tie_138 rfl rfl ?_
            refine gk_X12_6 (pc := 139) dX12_tie_139 wF_X12_37 (A_106 hw) (F350.f (A_106 hw) rfl (u303.f (Or.inl (mAt.ne (A_114 hw) (A_106 hw) rfl)) (u300.f (Or.inl (mAt.ne (A_113 hw) (A_106 hw) rfl)) (u297.f (Or.inl (mAt.ne (A_112 hw) (A_106 hw) rfl)) (u294.f (Or.inl (mAt.ne (A_111 hw) (A_106 hw) rfl)) (u291.f (Or.inl (mAt.ne (A_110 hw) (A_106 hw) rfl)) (u288.f (Or.inl (mAt.ne (A_110 hw) (A_106 hw) rfl)) q_f_t))))))) ?_
            refine mr_imul (pc := 142) (x := 4) (y := f_t) dX12_tie_142 ?_
            refine mr_iload (pc := 143) (z := z345) dX12_tie_143 rfl ?_
            refine mr_iadd (pc := 145) (x := (4 * f_t)) (y := z345) dX12_tie_145 ?_
            refine mr_ldc (pc := 146) (z := (-99999999)) dX12_tie_146 wG_X12_29 (by decide) ?_
            refine ss_115 (pc := 148) dX12_tie_148 (A_115 hw) T349 (rIx (n := 80) (rAdd (e := 0) (f := 79) (rMulL (n := 4) (e := 0) (f := 76) h286 rfl) h376 rfl) rfl) vc_X12_tie_v_36 fun μ377 u378 T379 => ?_
            obtain ⟨z380, q381⟩ : ∃ z, μ377 106 39 = z := ⟨_, rfl⟩
            have h382 : (0 ≤ z380 ∧ z380 ≤ 12) := by rw [← q381]; exact T379 106 106 (A_106 hw) 39
            have I383 : PK μ377 := PK.use I354 u378 (u378.2 106 39 (Or.inl (by decide)) ▸ q381) (vc_X12_tie_v_37 h382)
            refine mr_iinc (pc := 149) (lv' := [(4, iv (z345 + 1)), (0, .ref 106)]) dX12_tie_149 rfl (by decide) rfl ?_
            refine sv_goto (pc := 152) (tgt := 127) dX12_tie_152 (by decide) ?_
            refine mr_lvS (lv' := [(0, .ref 106), (4, iv (z345 + 1))]) (List.forall_mem_cons.mpr ⟨rfl, List.forall_mem_cons.mpr ⟨rfl, fun _ h => absurd h List.not_mem_nil⟩⟩) ?_
            exact ih359 (z345 + 1) μ377 T379 (mF.up (mF.call mF.refl F350 rfl) (A_115 hw) u378 rfl) (rW (c := 0) (d := 4) (rAdd (e := 1) (f := 4) h376 (rR (x := 1)) rfl) rfl) (JC.keepJ I352 hw ((mF.up mF.refl (A_115 hw) u378 rfl) : mF [115999] w μ346 μ377) rfl) (RP.keep I353 hw ((mF.up mF.refl (A_115 hw) u378 rfl) : mF [115999] w μ346 μ377) rfl ((mG.upO mG.refl u378 rfl) : mG [] μ346 μ377) (fun _ h => absurd h List.not_mem_nil)) I383 (EV.keep I355 hw ((mF.up mF.refl (A_115 hw) u378 rfl) : mF [115999] w μ346 μ377) rfl) (pnT.succ R356 u378 (vc_X12_tie_v_39 h285 h365 h286 h376) (vc_X12_tie_v_40 h285 h365 h286 h376) vc_X12_tie_v_41 (vc_X12_tie_v_42 h365 h376)) (TI.up R357 u378 (Or.inr (Or.inr (Or.inr (Or.inr (Or.inr ⟨rfl, (by have h := (vc_X12_tie_v_43 h285 h365 h286 h376); omega)⟩)))))) (vc_X12_message_u_87 (nS h358) h365 h376)
        refine mr_lvS (lv' := [(0, .ref 106), (4, iv 0)]) (List.forall_mem_cons.mpr ⟨rfl, List.forall_mem_cons.mpr ⟨rfl, fun _ h => absurd h List.not_mem_nil⟩⟩) ?_
        exact L347 6 0 μ302 T304 mF.refl (rW (c := 0) (d := 4) (rR (x := 0)) rfl) (JC.keepJ hIJC hw ((mF.up (mF.up (mF.up (mF.up (mF.up (mF.up mF.refl (A_110 hw) u288 rfl) (A_110 hw) u291 rfl) (A_111 hw) u294 rfl) (A_112 hw) u297 rfl) (A_113 hw) u300 rfl) (A_114 hw) u303 rfl) : mF [110999, 111999, 112999, 113999, 114999] w μ μ302) rfl) (RP.keep hIRP hw ((mF.up (mF.up (mF.up (mF.up (mF.up (mF.up mF.refl (A_110 hw) u288 rfl) (A_110 hw) u291 rfl) (A_111 hw) u294 rfl) (A_112 hw) u297 rfl) (A_113 hw) u300 rfl) (A_114 hw) u303 rfl) : mF [110999, 111999, 112999, 113999, 114999] w μ μ302) rfl ((mG.upO (mG.upO (mG.upO (mG.upO (mG.upO (mG.upO mG.refl u288 rfl) u291 rfl) u294 rfl) u297 rfl) u300 rfl) u303 rfl) : mG [] μ μ302) (fun _ h => absurd h List.not_mem_nil)) (PK.keep hIPK hw ((mF.up (mF.up (mF.up (mF.up (mF.up (mF.up mF.refl (A_110 hw) u288 rfl) (A_110 hw) u291 rfl) (A_111 hw) u294 rfl) (A_112 hw) u297 rfl) (A_113 hw) u300 rfl) (A_114 hw) u303 rfl) : mF [110999, 111999, 112999, 113999, 114999] w μ μ302) rfl) (EV.keep hIEV hw ((mF.up (mF.up (mF.up (mF.up (mF.up (mF.up mF.refl (A_110 hw) u288 rfl) (A_110 hw) u291 rfl) (A_111 hw) u294 rfl) (A_112 hw) u297 rfl) (A_113 hw) u300 rfl) (A_114 hw) u303 rfl) : mF [110999, 111999, 112999, 113999, 114999] w μ μ302) rfl) (pnT.zero vc_X3_forget_z_1) (TI.up (TI.up (TI.up (TI.up (TI.up (TI.up TI.refl u288 (Or.inl ⟨rfl, (by have h := (vc_X12_tie_v_46 h285 h286); omega)⟩)) u291 (Or.inl ⟨rfl, (by have h := (vc_X12_tie_v_47 h285 h286); omega)⟩)) u294 (Or.inr (Or.inl ⟨rfl, (by have h := (vc_X12_tie_v_48 h285 h286); omega)⟩))) u297 (Or.inr (Or.inr (Or.inl ⟨rfl, (by have h := (vc_X12_tie_v_48 h285 h286); omega)⟩)))) u300 (Or.inr (Or.inr (Or.inr (Or.inl rfl))))) u303 (Or.inr (Or.inr (Or.inr (Or.inr (Or.inl rfl)))))) vc_X12_prefixOut_14
      have h384 : 20 ≤ f_t ∧ f_t ≤ 20 := (vc_X12_walk_6 h285 ht_f_t)
      refine mr_bipush (pc := 55) (z := (-3)) dX12_tie_55 (by decide) ?_
      exact mr_iret dX12_tie_57 rfl (le_t rfl) (le_t rfl) hT mF.refl ⟨(rW (c := (-2147483648)) (d := 2147483647) (rR (x := (-3))) rfl), hIJC, hIRP, hIEP, hIHP, hIUP, hITE, hIPK, hIEV, (Or.inr ⟨(by unfold tieB; exact (vc_X12_tie_v_28 h249.2.1 h249.2.2.1 h255 h260.2.1 h260.2.2.1 h266 h268 h272.2.1 h272.2.2.1 h276 h251 h262 h274 ht_f_dm h256 h267 h277 h254 h265 h275)), Or.inr ⟨((h281.2.2.1).not (by decide) (vc_X12_tie_v_29 h281.2.1 h283 h284)), Or.inl ⟨(vc_X12_tie_v_50 h285 h384), rfl⟩⟩⟩), (Or.inr ⟨vc_X12_tie_v_51, rfl⟩), trivial⟩
    have h385 : 0 ≤ z282 ∧ z282 ≤ 19 := (vc_X12_provides_2 h283 h281.2.1 h281.1)
    refine mr_bipush (pc := 43) (z := (-2)) dX12_tie_43 (by decide) ?_
    exact mr_iret dX12_tie_45 rfl (le_t rfl) (le_t rfl) hT mF.refl ⟨(rW (c := (-2147483648)) (d := 2147483647) (rR (x := (-2))) rfl), hIJC, hIRP, hIEP, hIHP, hIUP, hITE, hIPK, hIEV, (Or.inr ⟨(by unfold tieB; exact (vc_X12_tie_v_28 h249.2.1 h249.2.2.1 h255 h260.2.1 h260.2.2.1 h266 h268 h272.2.1 h272.2.2.1 h276 h251 h262 h274 ht_f_dm h256 h267 h277 h254 h265 h275)), Or.inl ⟨(h281.2.2.1).has (vc_X12_look_u_6 h281.2.1 h283 h385), rfl⟩⟩), (Or.inr ⟨vc_X12_tie_v_54, rfl⟩), trivial⟩
  have h386 : 0 ≤ z273 ∧ z273 ≤ 0 := (vc_X12_units_9 h274 h272.2.1 h272.2.2.1 hp3 h272.1)
  have h387 : p3 < (0 : Int) ∨ (2 : Int) < p3 := (h272.2.2.1 (vc_X12_units_10 h272.2.1 h272.2.2.1 h274 hp3 h386))
  refine mr_iconst (pc := 30) (z := (-1)) dX12_tie_30 ?_
  exact mr_iret dX12_tie_31 rfl (le_t rfl) (le_t rfl) hT mF.refl ⟨(rW (c := (-2147483648)) (d := 2147483647) (rR (x := (-1))) rfl), hIJC, hIRP, hIEP, hIHP, hIUP, hITE, hIPK, hIEV, (Or.inl ⟨(by unfold tieB; exact (vc_X12_tie_v_57 h249.2.1 h249.2.2.1 h255 h260.2.1 h260.2.2.1 h266 h268 h272.2.1 h272.2.2.1 h387 h251 h262 h274 ht_f_dm h256 h267 hp3 h254 h265 h386)), rfl⟩), (Or.inr ⟨vc_X12_raise_u_49, rfl⟩), trivial⟩
theorem vc_X10_coneOf_v_1 {f_dm n0 p1 : Int} (h0 : p1 < f_dm) (h1 : f_dm = n0) (h2 : 0 ≤ f_dm ∧ f_dm ≤ 10) (h3 : 0 ≤ p1 ∧ p1 ≤ 9) : 1 ≤ f_dm ∧ f_dm ≤ 10 := by omega
theorem vc_X10_coneOf_v_3 {f_dm n0 p1 z1544 : Int} (h0 : f_dm ≤ z1544) (h1 : f_dm = n0) (h2 : p1 < f_dm) (h3 : 1 ≤ f_dm ∧ f_dm ≤ 10) (h4 : 0 ≤ p1 ∧ p1 ≤ 9) (h5 : 0 ≤ z1544 ∧ z1544 ≤ 10) : 1 ≤ z1544 ∧ z1544 ≤ 10 := by omega
theorem vc_X10_coneOf_v_4 {f_dm n0 p1 z1544 : Int} (h0 : f_dm = n0) (h1 : p1 < f_dm) (h2 : f_dm ≤ z1544) (h3 : 1 ≤ f_dm ∧ f_dm ≤ 10) (h4 : 0 ≤ p1 ∧ p1 ≤ 9) (h5 : 1 ≤ z1544 ∧ z1544 ≤ 10) : f_dm ≤ z1544 := by omega
theorem vc_X10_coneOf_v_5 {f_dm n0 p1 z1544 : Int} (h0 : f_dm = n0) (h1 : p1 < f_dm) (h2 : f_dm ≤ z1544) (h3 : 1 ≤ f_dm ∧ f_dm ≤ 10) (h4 : 0 ≤ p1 ∧ p1 ≤ 9) (h5 : 1 ≤ z1544 ∧ z1544 ≤ 10) : 0 ≤ p1 ∧ p1 < f_dm := by omega
theorem vc_X10_coneOf_v_6 {f_dm n0 p1 z1544 : Int} (h0 : z1544 < f_dm) (h1 : f_dm = n0) (h2 : p1 < f_dm) (h3 : 1 ≤ f_dm ∧ f_dm ≤ 10) (h4 : 0 ≤ p1 ∧ p1 ≤ 9) (h5 : 0 ≤ z1544 ∧ z1544 ≤ 10) : 0 ≤ z1544 ∧ z1544 ≤ 9 := by omega
theorem vc_X10_coneOf_v_8 {N f_dm n0 p1 z1544 : Int} (h0 : (11 - z1544) < N + 1) (h1 : z1544 < f_dm) (h2 : f_dm = n0) (h3 : p1 < f_dm) (h4 : 1 ≤ f_dm ∧ f_dm ≤ 10) (h5 : 0 ≤ p1 ∧ p1 ≤ 9) (h6 : 0 ≤ z1544 ∧ z1544 ≤ 9) : (11 - (z1544 + 1)) < N := by omega
theorem vc_X10_coneOf_v_20 {f_dm n0 z1989 : Int} (h0 : z1989 < n0) (h1 : f_dm = n0) (h2 : 1 ≤ f_dm ∧ f_dm ≤ 10) (h3 : 0 ≤ z1989 ∧ z1989 ≤ 9) : 0 ≤ z1989 ∧ z1989 ≤ 9 := by omega
theorem vc_X10_coneOf_v_24 {f_dm n0 z1989 z2002 : Int} (h0 : z1989 < n0) (h1 : f_dm = n0) (h2 : z2002 < n0) (h3 : 1 ≤ f_dm ∧ f_dm ≤ 10) (h4 : 0 ≤ z1989 ∧ z1989 ≤ 9) (h5 : 0 ≤ z2002 ∧ z2002 ≤ 9) : 0 ≤ z1989 ∧ z1989 ≤ 9 := by omega
theorem vc_X10_coneOf_v_25 {f_dm n0 z1989 z2002 : Int} (h0 : z2002 < n0) (h1 : f_dm = n0) (h2 : z1989 < n0) (h3 : 1 ≤ f_dm ∧ f_dm ≤ 10) (h4 : 0 ≤ z1989 ∧ z1989 ≤ 9) (h5 : 0 ≤ z2002 ∧ z2002 ≤ 9) : 0 ≤ z2002 ∧ z2002 ≤ 9 := by omega
set_option maxRecDepth 4000 in
set_option maxHeartbeats 4000000 in
theorem c_X10_coneOf_v {l : Launch} {D : va_G} {c : Nat → ClassId} {H0 : Heap} {sa : Nat × Nat × (Nat → Int32)} {w : mW} {μ : mM} (hw : mWF w) (hT : mT w μ) {p1 : Int} (hp1 : 0 ≤ p1 ∧ p1 ≤ 9) {f_n : Int} (q_f_n : μ 6 16 = f_n) {f_dm : Int} (q_f_dm : μ 6 15 = f_dm) (hq0 : p1 < f_dm) : sC (gG l D c H0 sa) mX10_coneOf 1 0 0 [.ref 6, iv p1] (mk w μ) (qP w μ (fun z => ((-2147483648) ≤ z ∧ z ≤ 2147483647) ∧ ((0 ≤ z ∧ z < 1024) ∧ ∀ d, bB z d ↔ rch (tc μ 0) (tc μ 1) (tc μ 2) f_n p1.toNat d) ∧ True)) := by
  refine sC.of rfl (by decide) (le_t rfl) ?_
  have ht_f_n : (f_n = w.2.2.2 1 ∧ 0 ≤ f_n ∧ f_n ≤ 20) := by rw [← q_f_n]; exact hT 6 6 (A_6 hw) 16
  have ht_f_dm : (f_dm = w.2.2.2 0 ∧ 0 ≤ f_dm ∧ f_dm ≤ 10) := by rw [← q_f_dm]; exact hT 6 6 (A_6 hw) 15
  have h1 : 1 ≤ f_dm ∧ f_dm ≤ 10 := (vc_X10_coneOf_v_1 hq0 ht_f_dm.1 ht_f_dm.2 hp1)
  refine mr_lvE (lv' := [(0, .ref 6), (1, iv p1)]) rfl ?_
  refine mr_iconst (pc := 0) (z := 1) dX10_coneOf_0 ?_
  refine mr_iload_n (pc := 1) (z := p1) dX10_coneOf_1 rfl rfl ?_
  refine mr_ishl (pc := 2) (x := 1) (y := p1) dX10_coneOf_2 ?_
  refine mr_gen (P := fun z => (-2147483648) ≤ z ∧ z ≤ 2147483647) (r32i _) fun z1039 q1040 h1041 => ?_
  refine mr_istore_n (pc := 3) (lv' := [(2, iv z1039), (0, .ref 6), (1, iv p1)]) dX10_coneOf_3 rfl (by decide) rfl ?_
  refine mr_iconst (pc := 4) (z := 0) dX10_coneOf_4 ?_
  refine mr_istore_n (pc := 5) (lv' := [(3, iv 0), (2, iv z1039), (0, .ref 6), (1, iv p1)]) dX10_coneOf_5 rfl (by decide) rfl ?_
  have L1546 : ∀ (nL1546 : Nat) (z1545 z1544 : Int), True → ((-2147483648) ≤ z1545 ∧ z1545 ≤ 2147483647) → (0 ≤ z1544 ∧ z1544 ≤ 10) → coneI (tc μ 0) (tc μ 1) (tc μ 2) f_n p1 z1544 z1545 → (11 - z1544) < (nL1546 : Int) → sV (gG l D c H0 sa) mX10_coneOf (sRm 1 0 0) (sZ (gG l D c H0 sa) 0 0 (qP w μ (fun z => ((-2147483648) ≤ z ∧ z ≤ 2147483647) ∧ ((0 ≤ z ∧ z < 1024) ∧ ∀ d, bB z d ↔ rch (tc μ 0) (tc μ 1) (tc μ 2) f_n p1.toNat d) ∧ True))) 6 [(0, .ref 6), (2, iv z1545), (3, iv z1544)] [] (mk w μ) 0 0 := by
    intro nL1546
    induction nL1546 with
    | zero => intro z1545 z1544 _ h1547 h1548 R1552 h1553; exact ((vc_X12_ring_2 h1553 h1548)).elim
    | succ nL1546 ih1554 =>
      intro z1545 z1544 _ h1547 h1548 R1552 h1553
      refine mr_iload_n (pc := 6) (z := z1544) dX10_coneOf_6 rfl rfl ?_
      refine sv_aload_n (pc := 7) dX10_coneOf_7 rfl rfl ?_
      refine gk_X10_15 (pc := 8) dX10_coneOf_8 wF_X10_68 (A_6 hw) q_f_dm ?_
      refine mr_icmp_ge (pc := 11) (tgt := 95) dX10_coneOf_11 (by decide) (r32 h1548 rfl) (r32 h1 rfl) (fun h1625 => ?_) (fun h1625 => ?_)
      · have h1626 : 1 ≤ z1544 ∧ z1544 ≤ 10 := (vc_X10_coneOf_v_3 h1625 ht_f_dm.1 hq0 h1 hp1 h1548)
        refine mr_iload_n (pc := 95) (z := z1545) dX10_coneOf_95 rfl rfl ?_
        exact mr_iretP dX10_coneOf_96 rfl (le_t rfl) (le_t rfl) ⟨h1547, (coneI.end R1552 (vc_X10_coneOf_v_4 ht_f_dm.1 hq0 h1625 h1 hp1 h1626) (vc_X10_coneOf_v_5 ht_f_dm.1 hq0 h1625 h1 hp1 h1626) (tcEnd hw hT q_f_n q_f_dm)), trivial⟩
      have h1627 : 0 ≤ z1544 ∧ z1544 ≤ 9 := (vc_X10_coneOf_v_6 h1625 ht_f_dm.1 hq0 h1 hp1 h1548)
      refine mr_iconst (pc := 14) (z := 0) dX10_coneOf_14 ?_
      refine mr_istore (pc := 15) (lv' := [(4, iv 0), (0, .ref 6), (2, iv z1545), (3, iv z1544)]) dX10_coneOf_15 (by decide) rfl ?_
      have L1936 : ∀ (nL1936 : Nat) (z1935 z1934 : Int), True → ((-2147483648) ≤ z1935 ∧ z1935 ≤ 2147483647) → (0 ≤ z1934 ∧ z1934 ≤ 20) → coneJ (tc μ 0) (tc μ 1) (tc μ 2) f_n p1 z1545 z1934 z1935 → (21 - z1934) < (nL1936 : Int) → sV (gG l D c H0 sa) mX10_coneOf (sRm 1 0 0) (sZ (gG l D c H0 sa) 0 0 (qP w μ (fun z => ((-2147483648) ≤ z ∧ z ≤ 2147483647) ∧ ((0 ≤ z ∧ z < 1024) ∧ ∀ d, bB z d ↔ rch (tc μ 0) (tc μ 1) (tc μ 2) f_n p1.toNat d) ∧ True))) 17 [(0, .ref 6), (2, iv z1935), (3, iv z1544), (4, iv z1934)] [] (mk w μ) 0 0 := by
        intro nL1936
        induction nL1936 with
        | zero => intro z1935 z1934 _ h1937 h1938 R1942 h1943; exact ((vc_X12_feed_2 h1943 h1938)).elim
        | succ nL1936 ih1944 =>
          intro z1935 z1934 _ h1937 h1938 R1942 h1943
          refine mr_iload (pc := 17) (z := z1934) dX10_coneOf_17 rfl ?_
          refine sv_aload_n (pc := 19) dX10_coneOf_19 rfl rfl ?_
          refine gk_X10_16 (pc := 20) dX10_coneOf_20 wF_X10_72 (A_6 hw) q_f_n ?_
          refine mr_icmp_ge (pc := 23) (tgt := 89) dX10_coneOf_23 (by decide) (r32 h1938 rfl) (r32 ht_f_n.2 rfl) (fun h1977 => ?_) (fun h1977 => ?_)
          · refine mr_iinc (pc := 89) (lv' := [(3, iv (z1544 + 1)), (0, .ref 6), (2, iv z1935), (4, iv z1934)]) dX10_coneOf_89 rfl (by decide) rfl ?_
            refine sv_goto (pc := 92) (tgt := 6) dX10_coneOf_92 (by decide) ?_
            refine mr_lvS (lv' := [(0, .ref 6), (2, iv z1935), (3, iv (z1544 + 1))]) (List.forall_mem_cons.mpr ⟨rfl, List.forall_mem_cons.mpr ⟨rfl, List.forall_mem_cons.mpr ⟨rfl, fun _ h => absurd h List.not_mem_nil⟩⟩⟩) ?_
            exact ih1554 z1935 (z1544 + 1) trivial h1937 (rW (c := 0) (d := 10) (rAdd (e := 1) (f := 10) h1627 (rR (x := 1)) rfl) rfl) (coneI.next R1552 R1942 (vc_X10_tieBetween_v_3 ht_f_n.1 h1977 ht_f_n.2 h1938)) (vc_X10_coneOf_v_8 (nS h1553) h1625 ht_f_dm.1 hq0 h1 hp1 h1627)
          have h1978 : 0 ≤ z1934 ∧ z1934 ≤ 19 := (vc_X10_tieBetween_v_4 h1977 ht_f_n.1 ht_f_n.2 h1938)
          have h1979 : 1 ≤ f_n ∧ f_n ≤ 20 := (vc_X10_tieBetween_v_5 h1977 ht_f_n.1 ht_f_n.2 h1978)
          refine sv_aload_n (pc := 26) dX10_coneOf_26 rfl rfl ?_
          refine gf_X10_4 (pc := 27) dX10_coneOf_27 wF_X10_29 (A_6 hw) hT ?_
          refine mr_iload (pc := 30) (z := z1934) dX10_coneOf_30 rfl ?_
          refine la_11 (pc := 32) dX10_coneOf_32 (A_11 hw) hT (rIx (n := 20) h1978 rfl) (vc_X10_tieBetween_v_6 ht_f_n.1 h1977 h1979 h1978) fun b1980 q1981 A1982 => ?_
          refine gf_X9_2 (pc := 33) dX10_coneOf_33 wF_X10_84 A1982 hT fun z1983 q1984 h1985 => ?_
          refine mr_if_ne (pc := 36) (tgt := 60) dX10_coneOf_36 (by decide) (r32 h1985 rfl) (fun h1986 => ?_) (fun h1986 => ?_)
          · have h1987 : 1 ≤ z1983 ∧ z1983 ≤ 2 := (vc_X12_provides_3 h1986 h1985)
            refine mr_iconst (pc := 60) (z := 0) dX10_coneOf_60 ?_
            refine mr_istore (pc := 61) (lv' := [(5, iv 0), (0, .ref 6), (2, iv z1935), (3, iv z1544), (4, iv z1934)]) dX10_coneOf_61 (by decide) rfl ?_
            refine mr_iload (pc := 63) (z := 0) dX10_coneOf_63 rfl ?_
            refine mr_if_eq (pc := 65) (tgt := 83) dX10_coneOf_65 (by decide) (r32 (rR (x := 0)) rfl) (fun _ => ?_) (fun h => ((vc_X12_next_469 h)).elim)
            refine mr_iinc (pc := 83) (lv' := [(4, iv (z1934 + 1)), (5, iv 0), (0, .ref 6), (2, iv z1935), (3, iv z1544)]) dX10_coneOf_83 rfl (by decide) rfl ?_
            refine sv_goto (pc := 86) (tgt := 17) dX10_coneOf_86 (by decide) ?_
            refine mr_lvS (lv' := [(0, .ref 6), (2, iv z1935), (3, iv z1544), (4, iv (z1934 + 1))]) (List.forall_mem_cons.mpr ⟨rfl, List.forall_mem_cons.mpr ⟨rfl, List.forall_mem_cons.mpr ⟨rfl, List.forall_mem_cons.mpr ⟨rfl, fun _ h => absurd h List.not_mem_nil⟩⟩⟩⟩) ?_
            exact ih1944 z1935 (z1934 + 1) trivial h1937 (rW (c := 0) (d := 20) (rAdd (e := 1) (f := 20) h1978 (rR (x := 1)) rfl) rfl) (coneJ.skip1 R1942 (vc_X10_tieBetween_v_8 h1977 ht_f_n.1 h1979 h1978) (tcOf q1981 q1984) (vc_X4_leadBack_42 h1986 h1987)) (vc_X10_tieBetween_v_7 (nS h1943) h1977 ht_f_n.1 h1979 h1978)
          have h1988 : 0 ≤ z1983 ∧ z1983 ≤ 0 := (vc_X12_provides_4 h1986 h1985)
          refine mr_iload_n (pc := 39) (z := z1935) dX10_coneOf_39 rfl rfl ?_
          refine sv_aload_n (pc := 40) dX10_coneOf_40 rfl rfl ?_
          refine gf_X10_4 (pc := 41) dX10_coneOf_41 wF_X10_29 (A_6 hw) hT ?_
          refine mr_iload (pc := 44) (z := z1934) dX10_coneOf_44 rfl ?_
          refine lk_11 (pc := 46) dX10_coneOf_46 (A_11 hw) (rIx (n := 20) h1978 rfl) q1981 ?_
          refine gf_X9_0 (pc := 47) dX10_coneOf_47 wF_X10_78 A1982 hT fun z1989 q1990 h1991 => ?_
          have h1992 : 0 ≤ z1989 ∧ z1989 ≤ 9 := ⟨h1991.1, h1991.2.1⟩
          refine mr_ishr (pc := 50) (x := z1935) (y := z1989) dX10_coneOf_50 ?_
          refine mr_gen (P := fun z => (-2147483648) ≤ z ∧ z ≤ 2147483647) (r32i _) fun z1993 q1994 h1995 => ?_
          refine mr_iconst (pc := 51) (z := 1) dX10_coneOf_51 ?_
          refine mr_iand (pc := 52) (x := z1993) (y := 1) dX10_coneOf_52 ?_
          refine mr_gen (P := fun z => 0 ≤ z ∧ z ≤ 1) (rAndR (rR (x := 1)) rfl) fun z1996 q1997 h1998 => ?_
          refine mr_if_eq (pc := 53) (tgt := 60) dX10_coneOf_53 (by decide) (r32 h1998 rfl) (fun h1999 => ?_) (fun h1999 => ?_)
          · have h2000 : 0 ≤ z1996 ∧ z1996 ≤ 0 := (vc_X12_ring_22 h1999 h1998)
            refine mr_iconst (pc := 60) (z := 0) dX10_coneOf_60 ?_
            refine mr_istore (pc := 61) (lv' := [(5, iv 0), (0, .ref 6), (2, iv z1935), (3, iv z1544), (4, iv z1934)]) dX10_coneOf_61 (by decide) rfl ?_
            refine mr_iload (pc := 63) (z := 0) dX10_coneOf_63 rfl ?_
            refine mr_if_eq (pc := 65) (tgt := 83) dX10_coneOf_65 (by decide) (r32 (rR (x := 0)) rfl) (fun _ => ?_) (fun h => ((vc_X12_next_469 h)).elim)
            refine mr_iinc (pc := 83) (lv' := [(4, iv (z1934 + 1)), (5, iv 0), (0, .ref 6), (2, iv z1935), (3, iv z1544)]) dX10_coneOf_83 rfl (by decide) rfl ?_
            refine sv_goto (pc := 86) (tgt := 17) dX10_coneOf_86 (by decide) ?_
            refine mr_lvS (lv' := [(0, .ref 6), (2, iv z1935), (3, iv z1544), (4, iv (z1934 + 1))]) (List.forall_mem_cons.mpr ⟨rfl, List.forall_mem_cons.mpr ⟨rfl, List.forall_mem_cons.mpr ⟨rfl, List.forall_mem_cons.mpr ⟨rfl, fun _ h => absurd h List.not_mem_nil⟩⟩⟩⟩) ?_
            exact ih1944 z1935 (z1934 + 1) trivial h1937 (rW (c := 0) (d := 20) (rAdd (e := 1) (f := 20) h1978 (rR (x := 1)) rfl) rfl) (coneJ.skip2 R1942 (vc_X10_tieBetween_v_8 h1977 ht_f_n.1 h1979 h1978) (tcOf q1981 q1990) (vc_X10_coneOf_v_20 h1991.2.2 ht_f_dm.1 h1 h1992) q1994 q1997 (vc_X12_goes_7 h1999 h2000)) (vc_X10_tieBetween_v_7 (nS h1943) h1977 ht_f_n.1 h1979 h1978)
          have h2001 : 1 ≤ z1996 ∧ z1996 ≤ 1 := (vc_X12_ring_24 h1999 h1998)
          refine mr_iconst (pc := 56) (z := 1) dX10_coneOf_56 ?_
          refine sv_goto (pc := 57) (tgt := 61) dX10_coneOf_57 (by decide) ?_
          refine mr_istore (pc := 61) (lv' := [(5, iv 1), (0, .ref 6), (2, iv z1935), (3, iv z1544), (4, iv z1934)]) dX10_coneOf_61 (by decide) rfl ?_
          refine mr_iload (pc := 63) (z := 1) dX10_coneOf_63 rfl ?_
          refine mr_if_eq (pc := 65) (tgt := 83) dX10_coneOf_65 (by decide) (r32 (rR (x := 1)) rfl) (fun h => ((vc_X12_next_203 h)).elim) (fun _ => ?_)
          refine mr_iload_n (pc := 68) (z := z1935) dX10_coneOf_68 rfl rfl ?_
          refine mr_iconst (pc := 69) (z := 1) dX10_coneOf_69 ?_
          refine sv_aload_n (pc := 70) dX10_coneOf_70 rfl rfl ?_
          refine gf_X10_4 (pc := 71) dX10_coneOf_71 wF_X10_29 (A_6 hw) hT ?_
          refine mr_iload (pc := 74) (z := z1934) dX10_coneOf_74 rfl ?_
          refine lk_11 (pc := 76) dX10_coneOf_76 (A_11 hw) (rIx (n := 20) h1978 rfl) q1981 ?_
          refine gf_X9_1 (pc := 77) dX10_coneOf_77 wF_X10_81 A1982 hT fun z2002 q2003 h2004 => ?_
          have h2005 : 0 ≤ z2002 ∧ z2002 ≤ 9 := ⟨h2004.1, h2004.2.1⟩
          refine mr_ishl (pc := 80) (x := 1) (y := z2002) dX10_coneOf_80 ?_
          refine mr_gen (P := fun z => (-2147483648) ≤ z ∧ z ≤ 2147483647) (r32i _) fun z2006 q2007 h2008 => ?_
          refine mr_ior (pc := 81) (x := z1935) (y := z2006) dX10_coneOf_81 ?_
          refine mr_gen (P := fun z => (-2147483648) ≤ z ∧ z ≤ 2147483647) (r32i _) fun z2009 q2010 h2011 => ?_
          refine mr_istore_n (pc := 82) (lv' := [(2, iv z2009), (5, iv 1), (0, .ref 6), (3, iv z1544), (4, iv z1934)]) dX10_coneOf_82 rfl (by decide) rfl ?_
          refine mr_iinc (pc := 83) (lv' := [(4, iv (z1934 + 1)), (2, iv z2009), (5, iv 1), (0, .ref 6), (3, iv z1544)]) dX10_coneOf_83 rfl (by decide) rfl ?_
          refine sv_goto (pc := 86) (tgt := 17) dX10_coneOf_86 (by decide) ?_
          refine mr_lvS (lv' := [(0, .ref 6), (2, iv z2009), (3, iv z1544), (4, iv (z1934 + 1))]) (List.forall_mem_cons.mpr ⟨rfl, List.forall_mem_cons.mpr ⟨rfl, List.forall_mem_cons.mpr ⟨rfl, List.forall_mem_cons.mpr ⟨rfl, fun _ h => absurd h List.not_mem_nil⟩⟩⟩⟩) ?_
          exact ih1944 z2009 (z1934 + 1) trivial h2011 (rW (c := 0) (d := 20) (rAdd (e := 1) (f := 20) h1978 (rR (x := 1)) rfl) rfl) (coneJ.add R1942 (vc_X10_tieBetween_v_13 ht_f_n.1 h1977 h1979 h1978) (tcOf q1981 q1984) (vc_X12_goes_7 h1986 h1988) (tcOf q1981 q1990) (vc_X10_coneOf_v_24 h1991.2.2 ht_f_dm.1 h2004.2.2 h1 h1992 h2005) q1994 q1997 (vc_X12_raise_u_7 h1999 h2001) (tcOf q1981 q2003) (vc_X10_coneOf_v_25 h2004.2.2 ht_f_dm.1 h1991.2.2 h1 h1992 h2005) q2007 q2010) (vc_X10_tieBetween_v_7 (nS h1943) h1977 ht_f_n.1 h1979 h1978)
      refine mr_lvS (lv' := [(0, .ref 6), (2, iv z1545), (3, iv z1544), (4, iv 0)]) (List.forall_mem_cons.mpr ⟨rfl, List.forall_mem_cons.mpr ⟨rfl, List.forall_mem_cons.mpr ⟨rfl, List.forall_mem_cons.mpr ⟨rfl, fun _ h => absurd h List.not_mem_nil⟩⟩⟩⟩) ?_
      exact L1936 22 z1545 0 trivial h1547 (rW (c := 0) (d := 20) (rR (x := 0)) rfl) (coneJ.start R1552) vc_X12_feed_15
  refine mr_lvS (lv' := [(0, .ref 6), (2, iv z1039), (3, iv 0)]) (List.forall_mem_cons.mpr ⟨rfl, List.forall_mem_cons.mpr ⟨rfl, List.forall_mem_cons.mpr ⟨rfl, fun _ h => absurd h List.not_mem_nil⟩⟩⟩) ?_
  exact L1546 12 z1039 0 trivial h1041 (rW (c := 0) (d := 10) (rR (x := 0)) rfl) (coneI.start hp1 q1040) vc_X12_ring_27
theorem vc_X11_cone_v_2 {f_dm n0 p1 z137 : Int} (h0 : (z137 = 1 → 0 ≤ p1 ∧ p1 < f_dm)) (h1 : (z137 = 0 → p1 < 0 ∨ f_dm ≤ p1)) (h2 : z137 = 0) (h3 : f_dm = n0) (h4 : 0 ≤ f_dm ∧ f_dm ≤ 10) (h5 : (-2147483648) ≤ p1 ∧ p1 ≤ 2147483647) (h6 : 0 ≤ z137 ∧ z137 ≤ 0) : z137 = 0 := by omega
theorem vc_X11_cone_v_3 {f_dm n0 p1 p2 z137 : Int} (h0 : f_dm = n0) (h1 : (z137 = 1 → 0 ≤ p1 ∧ p1 < f_dm)) (h2 : (z137 = 0 → p1 < 0 ∨ f_dm ≤ p1)) (h3 : p1 < 0 ∨ f_dm ≤ p1) (h4 : z137 = 0) (h5 : 0 ≤ f_dm ∧ f_dm ≤ 10) (h6 : (-2147483648) ≤ p1 ∧ p1 ≤ 2147483647) (h7 : (-2147483648) ≤ p2 ∧ p2 ≤ 2147483647) (h8 : 0 ≤ z137 ∧ z137 ≤ 0) : p1 < 0 ∨ f_dm ≤ p1 ∨ (¬ p2 = -1 ∧ (p2 < 0 ∨ f_dm ≤ p2)) := by omega
theorem vc_X11_cone_v_5 {f_dm n0 p1 z137 : Int} (h0 : (z137 = 1 → 0 ≤ p1 ∧ p1 < f_dm)) (h1 : (z137 = 0 → p1 < 0 ∨ f_dm ≤ p1)) (h2 : ¬ z137 = 0) (h3 : f_dm = n0) (h4 : 0 ≤ f_dm ∧ f_dm ≤ 10) (h5 : (-2147483648) ≤ p1 ∧ p1 ≤ 2147483647) (h6 : 1 ≤ z137 ∧ z137 ≤ 1) : z137 = 1 := by omega
theorem vc_X11_cone_v_6 {f_dm n0 p1 z137 : Int} (h0 : 0 ≤ p1 ∧ p1 < f_dm) (h1 : f_dm = n0) (h2 : (z137 = 1 → 0 ≤ p1 ∧ p1 < f_dm)) (h3 : (z137 = 0 → p1 < 0 ∨ f_dm ≤ p1)) (h4 : 0 ≤ f_dm ∧ f_dm ≤ 10) (h5 : (-2147483648) ≤ p1 ∧ p1 ≤ 2147483647) (h6 : 1 ≤ z137 ∧ z137 ≤ 1) : 0 ≤ p1 ∧ p1 ≤ 9 := by omega
theorem vc_X11_cone_v_8 {f_dm n0 p1 z137 : Int} (h0 : f_dm = n0) (h1 : (z137 = 1 → 0 ≤ p1 ∧ p1 < f_dm)) (h2 : (z137 = 0 → p1 < 0 ∨ f_dm ≤ p1)) (h3 : 0 ≤ p1 ∧ p1 < f_dm) (h4 : ¬ z137 = 0) (h5 : 0 ≤ f_dm ∧ f_dm ≤ 10) (h6 : 0 ≤ p1 ∧ p1 ≤ 9) (h7 : 1 ≤ z137 ∧ z137 ≤ 1) : p1 < f_dm := by omega
theorem vc_X11_cone_v_9 {p2 : Int} (h0 : ¬ p2 = (-1)) (h1 : (-1) ≤ p2 ∧ p2 ≤ (-1)) : False := by omega
theorem vc_X11_cone_v_10 {f_dm n0 p1 p2 z137 : Int} (h0 : f_dm = n0) (h1 : (z137 = 1 → 0 ≤ p1 ∧ p1 < f_dm)) (h2 : (z137 = 0 → p1 < 0 ∨ f_dm ≤ p1)) (h3 : 0 ≤ p1 ∧ p1 < f_dm) (h4 : p2 = (-1)) (h5 : ¬ z137 = 0) (h6 : 0 ≤ f_dm ∧ f_dm ≤ 10) (h7 : 0 ≤ p1 ∧ p1 ≤ 9) (h8 : (-1) ≤ p2 ∧ p2 ≤ (-1)) (h9 : 1 ≤ z137 ∧ z137 ≤ 1) : 0 ≤ p1 ∧ p1 < f_dm ∧ (p2 = -1 ∨ (0 ≤ p2 ∧ p2 < f_dm)) := by omega
theorem vc_X11_cone_v_11 {f_dm n0 p1 p2 z137 : Int} (h0 : f_dm = n0) (h1 : (z137 = 1 → 0 ≤ p1 ∧ p1 < f_dm)) (h2 : (z137 = 0 → p1 < 0 ∨ f_dm ≤ p1)) (h3 : 0 ≤ p1 ∧ p1 < f_dm) (h4 : p2 = (-1)) (h5 : ¬ z137 = 0) (h6 : 0 ≤ f_dm ∧ f_dm ≤ 10) (h7 : 0 ≤ p1 ∧ p1 ≤ 9) (h8 : (-1) ≤ p2 ∧ p2 ≤ (-1)) (h9 : 1 ≤ z137 ∧ z137 ≤ 1) : 0 ≤ p1 ∧ p1 < f_dm := by omega
theorem vc_X11_cone_v_12 {f_dm n0 p1 p2 z137 : Int} (h0 : f_dm = n0) (h1 : (z137 = 1 → 0 ≤ p1 ∧ p1 < f_dm)) (h2 : (z137 = 0 → p1 < 0 ∨ f_dm ≤ p1)) (h3 : 0 ≤ p1 ∧ p1 < f_dm) (h4 : p2 = (-1)) (h5 : ¬ z137 = 0) (h6 : 0 ≤ f_dm ∧ f_dm ≤ 10) (h7 : 0 ≤ p1 ∧ p1 ≤ 9) (h8 : (-1) ≤ p2 ∧ p2 ≤ (-1)) (h9 : 1 ≤ z137 ∧ z137 ≤ 1) : f_dm ≤ 10 := by omega
theorem vc_X11_cone_v_13 {f_dm n0 p1 p2 z137 : Int} (h0 : f_dm = n0) (h1 : (z137 = 1 → 0 ≤ p1 ∧ p1 < f_dm)) (h2 : (z137 = 0 → p1 < 0 ∨ f_dm ≤ p1)) (h3 : 0 ≤ p1 ∧ p1 < f_dm) (h4 : p2 = (-1)) (h5 : ¬ z137 = 0) (h6 : 0 ≤ f_dm ∧ f_dm ≤ 10) (h7 : 0 ≤ p1 ∧ p1 ≤ 9) (h8 : (-1) ≤ p2 ∧ p2 ≤ (-1)) (h9 : 1 ≤ z137 ∧ z137 ≤ 1) : p2 = -1 := by omega
theorem vc_X11_cone_v_15 {f_dm n0 p1 p2 z137 z161 : Int} (h0 : (z161 = 1 → 0 ≤ p2 ∧ p2 < f_dm)) (h1 : (z161 = 0 → p2 < 0 ∨ f_dm ≤ p2)) (h2 : ¬ z161 = 0) (h3 : f_dm = n0) (h4 : (z137 = 1 → 0 ≤ p1 ∧ p1 < f_dm)) (h5 : (z137 = 0 → p1 < 0 ∨ f_dm ≤ p1)) (h6 : 0 ≤ p1 ∧ p1 < f_dm) (h7 : ¬ p2 = (-1)) (h8 : 0 ≤ f_dm ∧ f_dm ≤ 10) (h9 : 0 ≤ p1 ∧ p1 ≤ 9) (h10 : (-2147483648) ≤ p2 ∧ p2 ≤ 2147483647) (h11 : 1 ≤ z137 ∧ z137 ≤ 1) (h12 : 1 ≤ z161 ∧ z161 ≤ 1) : z161 = 1 := by omega
theorem vc_X11_cone_v_16 {f_dm n0 p1 p2 z137 z161 : Int} (h0 : 0 ≤ p2 ∧ p2 < f_dm) (h1 : f_dm = n0) (h2 : (z137 = 1 → 0 ≤ p1 ∧ p1 < f_dm)) (h3 : (z137 = 0 → p1 < 0 ∨ f_dm ≤ p1)) (h4 : 0 ≤ p1 ∧ p1 < f_dm) (h5 : ¬ p2 = (-1)) (h6 : (z161 = 1 → 0 ≤ p2 ∧ p2 < f_dm)) (h7 : (z161 = 0 → p2 < 0 ∨ f_dm ≤ p2)) (h8 : 0 ≤ f_dm ∧ f_dm ≤ 10) (h9 : 0 ≤ p1 ∧ p1 ≤ 9) (h10 : (-2147483648) ≤ p2 ∧ p2 ≤ 2147483647) (h11 : 1 ≤ z137 ∧ z137 ≤ 1) (h12 : 1 ≤ z161 ∧ z161 ≤ 1) : 0 ≤ p2 ∧ p2 ≤ 9 := by omega
theorem vc_X11_cone_v_17 {f_dm n0 p1 p2 z137 z161 : Int} (h0 : f_dm = n0) (h1 : (z137 = 1 → 0 ≤ p1 ∧ p1 < f_dm)) (h2 : (z137 = 0 → p1 < 0 ∨ f_dm ≤ p1)) (h3 : 0 ≤ p1 ∧ p1 < f_dm) (h4 : (z161 = 1 → 0 ≤ p2 ∧ p2 < f_dm)) (h5 : (z161 = 0 → p2 < 0 ∨ f_dm ≤ p2)) (h6 : 0 ≤ p2 ∧ p2 < f_dm) (h7 : ¬ z137 = 0) (h8 : ¬ p2 = (-1)) (h9 : ¬ z161 = 0) (h10 : 0 ≤ f_dm ∧ f_dm ≤ 10) (h11 : 0 ≤ p1 ∧ p1 ≤ 9) (h12 : 0 ≤ p2 ∧ p2 ≤ 9) (h13 : 1 ≤ z137 ∧ z137 ≤ 1) (h14 : 1 ≤ z161 ∧ z161 ≤ 1) : p1 < f_dm := by omega
theorem vc_X11_cone_v_18 {p2 : Int} (h0 : p2 = (-1)) (h1 : 0 ≤ p2 ∧ p2 ≤ 9) : False := by omega
theorem vc_X11_cone_v_19 {f_dm n0 p1 p2 z137 z161 : Int} (h0 : f_dm = n0) (h1 : (z137 = 1 → 0 ≤ p1 ∧ p1 < f_dm)) (h2 : (z137 = 0 → p1 < 0 ∨ f_dm ≤ p1)) (h3 : 0 ≤ p1 ∧ p1 < f_dm) (h4 : ¬ p2 = (-1)) (h5 : (z161 = 1 → 0 ≤ p2 ∧ p2 < f_dm)) (h6 : (z161 = 0 → p2 < 0 ∨ f_dm ≤ p2)) (h7 : 0 ≤ p2 ∧ p2 < f_dm) (h8 : ¬ z137 = 0) (h9 : ¬ z161 = 0) (h10 : 0 ≤ f_dm ∧ f_dm ≤ 10) (h11 : 0 ≤ p1 ∧ p1 ≤ 9) (h12 : 0 ≤ p2 ∧ p2 ≤ 9) (h13 : 1 ≤ z137 ∧ z137 ≤ 1) (h14 : 1 ≤ z161 ∧ z161 ≤ 1) : 0 ≤ p1 ∧ p1 < f_dm ∧ (p2 = -1 ∨ (0 ≤ p2 ∧ p2 < f_dm)) := by omega
theorem vc_X11_cone_v_20 {f_dm n0 p1 p2 z137 z161 : Int} (h0 : f_dm = n0) (h1 : (z137 = 1 → 0 ≤ p1 ∧ p1 < f_dm)) (h2 : (z137 = 0 → p1 < 0 ∨ f_dm ≤ p1)) (h3 : 0 ≤ p1 ∧ p1 < f_dm) (h4 : ¬ p2 = (-1)) (h5 : (z161 = 1 → 0 ≤ p2 ∧ p2 < f_dm)) (h6 : (z161 = 0 → p2 < 0 ∨ f_dm ≤ p2)) (h7 : 0 ≤ p2 ∧ p2 < f_dm) (h8 : ¬ z137 = 0) (h9 : ¬ z161 = 0) (h10 : 0 ≤ f_dm ∧ f_dm ≤ 10) (h11 : 0 ≤ p1 ∧ p1 ≤ 9) (h12 : 0 ≤ p2 ∧ p2 ≤ 9) (h13 : 1 ≤ z137 ∧ z137 ≤ 1) (h14 : 1 ≤ z161 ∧ z161 ≤ 1) : 0 ≤ p2 ∧ p2 ≤ 9 := by omega
theorem vc_X11_cone_v_22 {f_dm n0 p1 p2 z137 z161 : Int} (h0 : (z161 = 1 → 0 ≤ p2 ∧ p2 < f_dm)) (h1 : (z161 = 0 → p2 < 0 ∨ f_dm ≤ p2)) (h2 : z161 = 0) (h3 : f_dm = n0) (h4 : (z137 = 1 → 0 ≤ p1 ∧ p1 < f_dm)) (h5 : (z137 = 0 → p1 < 0 ∨ f_dm ≤ p1)) (h6 : 0 ≤ p1 ∧ p1 < f_dm) (h7 : ¬ p2 = (-1)) (h8 : 0 ≤ f_dm ∧ f_dm ≤ 10) (h9 : 0 ≤ p1 ∧ p1 ≤ 9) (h10 : (-2147483648) ≤ p2 ∧ p2 ≤ 2147483647) (h11 : 1 ≤ z137 ∧ z137 ≤ 1) (h12 : 0 ≤ z161 ∧ z161 ≤ 0) : z161 = 0 := by omega
theorem vc_X11_cone_v_23 {f_dm n0 p1 p2 z137 z161 : Int} (h0 : f_dm = n0) (h1 : (z137 = 1 → 0 ≤ p1 ∧ p1 < f_dm)) (h2 : (z137 = 0 → p1 < 0 ∨ f_dm ≤ p1)) (h3 : 0 ≤ p1 ∧ p1 < f_dm) (h4 : ¬ p2 = (-1)) (h5 : (z161 = 1 → 0 ≤ p2 ∧ p2 < f_dm)) (h6 : (z161 = 0 → p2 < 0 ∨ f_dm ≤ p2)) (h7 : p2 < 0 ∨ f_dm ≤ p2) (h8 : ¬ z137 = 0) (h9 : z161 = 0) (h10 : 0 ≤ f_dm ∧ f_dm ≤ 10) (h11 : 0 ≤ p1 ∧ p1 ≤ 9) (h12 : (-2147483648) ≤ p2 ∧ p2 ≤ 2147483647) (h13 : 1 ≤ z137 ∧ z137 ≤ 1) (h14 : 0 ≤ z161 ∧ z161 ≤ 0) : p1 < 0 ∨ f_dm ≤ p1 ∨ (¬ p2 = -1 ∧ (p2 < 0 ∨ f_dm ≤ p2)) := by omega
set_option maxRecDepth 4000 in
set_option maxHeartbeats 4000000 in
theorem c_X11_cone_v {l : Launch} {D : va_G} {c : Nat → ClassId} {H0 : Heap} {sa : Nat × Nat × (Nat → Int32)} {w : mW} {μ : mM} (hw : mWF w) (hT : mT w μ) {p1 : Int} (hp1 : (-2147483648) ≤ p1 ∧ p1 ≤ 2147483647) {p2 : Int} (hp2 : (-2147483648) ≤ p2 ∧ p2 ≤ 2147483647) {f_dm : Int} (q_f_dm : μ 6 15 = f_dm) {f_n : Int} (q_f_n : μ 6 16 = f_n) : sC (gG l D c H0 sa) mX11_cone 2 0 0 [.ref 0, iv p1, iv p2] (mk w μ) (qP w μ (fun z => ((-2147483648) ≤ z ∧ z ≤ 2147483647) ∧ (conZ (rch (tc μ 0) (tc μ 1) (tc μ 2) f_n p1.toNat) f_dm p1 p2 z) ∧ True)) := by
  refine sC.of rfl (by decide) (le_t rfl) ?_
  have ht_f_dm : (f_dm = w.2.2.2 0 ∧ 0 ≤ f_dm ∧ f_dm ≤ 10) := by rw [← q_f_dm]; exact hT 6 6 (A_6 hw) 15
  have ht_f_n : (f_n = w.2.2.2 1 ∧ 0 ≤ f_n ∧ f_n ≤ 20) := by rw [← q_f_n]; exact hT 6 6 (A_6 hw) 16
  refine mr_lvE (lv' := [(0, .ref 0), (1, iv p1), (2, iv p2)]) rfl ?_
  refine sv_aload_n (pc := 0) dX11_cone_0 rfl rfl ?_
  refine mr_iload_n (pc := 1) (z := p1) dX11_cone_1 rfl rfl ?_
  refine mr_cVP (pc := 2) (c_X11_isDomain hw hT hp1 q_f_dm) (gOk _ _ _ _ _) dX11_cone_2 (tX11_isDomain _ _ _ _ _) ⟨wV_X11_isDomain, wL_X11_isDomain⟩ wM_X11_105 (gCX11 _ _ _ _ _) rfl (A_0 hw) rfl ⟨le_t rfl, le_t rfl⟩ ⟨le_t rfl, le_t rfl⟩ rfl (le_t rfl) fun z137 h136 => ?_
  refine mr_if_eq (pc := 5) (tgt := 21) dX11_cone_5 (by decide) (r32 h136.1 rfl) (fun h138 => ?_) (fun h138 => ?_)
  · have h139 : 0 ≤ z137 ∧ z137 ≤ 0 := (vc_X12_tie_v_1 h138 h136.2.1 h136.2.2.1 ht_f_dm.2 hp1 h136.1)
    have h140 : p1 < 0 ∨ f_dm ≤ p1 := (h136.2.2.1 (vc_X11_cone_v_2 h136.2.1 h136.2.2.1 h138 ht_f_dm.1 ht_f_dm.2 hp1 h139))
    refine mr_iconst (pc := 21) (z := (-1)) dX11_cone_21 ?_
    exact mr_iretP dX11_cone_22 rfl (le_t rfl) (le_t rfl) ⟨(rW (c := (-2147483648)) (d := 2147483647) (rR (x := (-1))) rfl), (Or.inl ⟨(vc_X11_cone_v_3 ht_f_dm.1 h136.2.1 h136.2.2.1 h140 h138 ht_f_dm.2 hp1 hp2 h139), rfl⟩), trivial⟩
  have h141 : 1 ≤ z137 ∧ z137 ≤ 1 := (vc_X12_tie_v_5 h138 h136.2.1 h136.2.2.1 ht_f_dm.2 hp1 h136.1)
  have h142 : 0 ≤ p1 ∧ p1 < f_dm := (h136.2.1 (vc_X11_cone_v_5 h136.2.1 h136.2.2.1 h138 ht_f_dm.1 ht_f_dm.2 hp1 h141))
  have h143 : 0 ≤ p1 ∧ p1 ≤ 9 := (vc_X11_cone_v_6 h142 ht_f_dm.1 h136.2.1 h136.2.2.1 ht_f_dm.2 hp1 h141)
  refine mr_iload_n (pc := 8) (z := p2) dX11_cone_8 rfl rfl ?_
  refine mr_iconst (pc := 9) (z := (-1)) dX11_cone_9 ?_
  refine mr_icmp_eq (pc := 10) (tgt := 23) dX11_cone_10 (by decide) hp2 (r32 (rR (x := (-1))) rfl) (fun h144 => ?_) (fun h144 => ?_)
  · have h145 : (-1) ≤ p2 ∧ p2 ≤ (-1) := (vc_X10_verdictOn_17 h144 hp2)
    refine sv_aload_n (pc := 23) dX11_cone_23 rfl rfl ?_
    refine gf_X11_3 (pc := 24) dX11_cone_24 wF_X11_26 (A_0 hw) hT ?_
    refine mr_iload_n (pc := 27) (z := p1) dX11_cone_27 rfl rfl ?_
    refine mr_cVP (pc := 28) (c_X10_coneOf_v hw hT h143 q_f_n q_f_dm (vc_X11_cone_v_8 ht_f_dm.1 h136.2.1 h136.2.2.1 h142 h138 ht_f_dm.2 h143 h141)) (gOk _ _ _ _ _) dX11_cone_28 (tX10_coneOf _ _ _ _ _) ⟨wV_X10_coneOf, wL_X10_coneOf⟩ wM_X11_154 (gCX10 _ _ _ _ _) rfl (A_6 hw) rfl ⟨le_t rfl, le_t rfl⟩ ⟨le_t rfl, le_t rfl⟩ rfl (le_t rfl) fun z150 h149 => ?_
    have h151 : 0 ≤ z150 ∧ z150 ≤ 1023 := ⟨(h149.2.1).1.1, Int.le_of_lt_add_one (h149.2.1).1.2⟩
    refine mr_istore_n (pc := 31) (lv' := [(3, iv z150), (0, .ref 0), (1, iv p1), (2, iv p2)]) dX11_cone_31 rfl (by decide) rfl ?_
    refine mr_iload_n (pc := 32) (z := p2) dX11_cone_32 rfl rfl ?_
    refine mr_iconst (pc := 33) (z := (-1)) dX11_cone_33 ?_
    refine mr_icmp_ne (pc := 34) (tgt := 44) dX11_cone_34 (by decide) (r32 h145 rfl) (r32 (rR (x := (-1))) rfl) (fun h => ((vc_X11_cone_v_9 h h145)).elim) (fun _ => ?_)
    refine mr_iload_n (pc := 37) (z := z150) dX11_cone_37 rfl rfl ?_
    refine mr_cSP (pc := 38) (c_J_bits_v hw hT h151) (gOk _ _ _ _ _) dX11_cone_38 (tJ_bits _ _ _ _ _) wS_J_bits wM_X11_157 ⟨le_t rfl, le_t rfl⟩ ⟨le_t rfl, le_t rfl⟩ rfl (le_t rfl) fun z156 h155 => ?_
    refine sv_goto (pc := 41) (tgt := 49) dX11_cone_41 (by decide) ?_
    exact mr_iretP dX11_cone_49 rfl (le_t rfl) (le_t rfl) ⟨(rW (c := (-2147483648)) (d := 2147483647) h155.1 rfl), (Or.inr ⟨(vc_X11_cone_v_10 ht_f_dm.1 h136.2.1 h136.2.2.1 h142 h144 h138 ht_f_dm.2 h143 h145 h141), conA.cnt (h149.2.1) (h155.2.1) (vc_X11_cone_v_11 ht_f_dm.1 h136.2.1 h136.2.2.1 h142 h144 h138 ht_f_dm.2 h143 h145 h141) (vc_X11_cone_v_12 ht_f_dm.1 h136.2.1 h136.2.2.1 h142 h144 h138 ht_f_dm.2 h143 h145 h141) (tcEnd hw hT q_f_n q_f_dm) (vc_X11_cone_v_13 ht_f_dm.1 h136.2.1 h136.2.2.1 h142 h144 h138 ht_f_dm.2 h143 h145 h141)⟩), trivial⟩
  refine sv_aload_n (pc := 13) dX11_cone_13 rfl rfl ?_
  refine mr_iload_n (pc := 14) (z := p2) dX11_cone_14 rfl rfl ?_
  refine mr_cVP (pc := 15) (c_X11_isDomain hw hT hp2 q_f_dm) (gOk _ _ _ _ _) dX11_cone_15 (tX11_isDomain _ _ _ _ _) ⟨wV_X11_isDomain, wL_X11_isDomain⟩ wM_X11_105 (gCX11 _ _ _ _ _) rfl (A_0 hw) rfl ⟨le_t rfl, le_t rfl⟩ ⟨le_t rfl, le_t rfl⟩ rfl (le_t rfl) fun z161 h160 => ?_
  refine mr_if_ne (pc := 18) (tgt := 23) dX11_cone_18 (by decide) (r32 h160.1 rfl) (fun h162 => ?_) (fun h162 => ?_)
  · have h163 : 1 ≤ z161 ∧ z161 ≤ 1 := (vc_X12_tie_v_5 h162 h160.2.1 h160.2.2.1 ht_f_dm.2 hp2 h160.1)
    have h164 : 0 ≤ p2 ∧ p2 < f_dm := (h160.2.1 (vc_X11_cone_v_15 h160.2.1 h160.2.2.1 h162 ht_f_dm.1 h136.2.1 h136.2.2.1 h142 h144 ht_f_dm.2 h143 hp2 h141 h163))
    have h165 : 0 ≤ p2 ∧ p2 ≤ 9 := (vc_X11_cone_v_16 h164 ht_f_dm.1 h136.2.1 h136.2.2.1 h142 h144 h160.2.1 h160.2.2.1 ht_f_dm.2 h143 hp2 h141 h163)
    refine sv_aload_n (pc := 23) dX11_cone_23 rfl rfl ?_
    refine gf_X11_3 (pc := 24) dX11_cone_24 wF_X11_26 (A_0 hw) hT ?_
    refine mr_iload_n (pc := 27) (z := p1) dX11_cone_27 rfl rfl ?_
    refine mr_cVP (pc := 28) (c_X10_coneOf_v hw hT h143 q_f_n q_f_dm (vc_X11_cone_v_17 ht_f_dm.1 h136.2.1 h136.2.2.1 h142 h160.2.1 h160.2.2.1 h164 h138 h144 h162 ht_f_dm.2 h143 h165 h141 h163)) (gOk _ _ _ _ _) dX11_cone_28 (tX10_coneOf _ _ _ _ _) ⟨wV_X10_coneOf, wL_X10_coneOf⟩ wM_X11_154 (gCX10 _ _ _ _ _) rfl (A_6 hw) rfl ⟨le_t rfl, le_t rfl⟩ ⟨le_t rfl, le_t rfl⟩ rfl (le_t rfl) fun z170 h169 => ?_
    have h171 : 0 ≤ z170 ∧ z170 ≤ 1023 := ⟨(h169.2.1).1.1, Int.le_of_lt_add_one (h169.2.1).1.2⟩
    refine mr_istore_n (pc := 31) (lv' := [(3, iv z170), (0, .ref 0), (1, iv p1), (2, iv p2)]) dX11_cone_31 rfl (by decide) rfl ?_
    refine mr_iload_n (pc := 32) (z := p2) dX11_cone_32 rfl rfl ?_
    refine mr_iconst (pc := 33) (z := (-1)) dX11_cone_33 ?_
    refine mr_icmp_ne (pc := 34) (tgt := 44) dX11_cone_34 (by decide) (r32 h165 rfl) (r32 (rR (x := (-1))) rfl) (fun _ => ?_) (fun h => ((vc_X11_cone_v_18 h h165)).elim)
    refine mr_iload_n (pc := 44) (z := z170) dX11_cone_44 rfl rfl ?_
    refine mr_iload_n (pc := 45) (z := p2) dX11_cone_45 rfl rfl ?_
    refine mr_ishr (pc := 46) (x := z170) (y := p2) dX11_cone_46 ?_
    refine mr_gen (P := fun z => (-2147483648) ≤ z ∧ z ≤ 2147483647) (r32i _) fun z172 q173 h174 => ?_
    refine mr_iconst (pc := 47) (z := 1) dX11_cone_47 ?_
    refine mr_iand (pc := 48) (x := z172) (y := 1) dX11_cone_48 ?_
    refine mr_gen (P := fun z => 0 ≤ z ∧ z ≤ 1) (rAndR (rR (x := 1)) rfl) fun z175 q176 h177 => ?_
    exact mr_iretP dX11_cone_49 rfl (le_t rfl) (le_t rfl) ⟨(rW (c := (-2147483648)) (d := 2147483647) h177 rfl), (Or.inr ⟨(vc_X11_cone_v_19 ht_f_dm.1 h136.2.1 h136.2.2.1 h142 h144 h160.2.1 h160.2.2.1 h164 h138 h162 ht_f_dm.2 h143 h165 h141 h163), conA.bit (h169.2.1) (vc_X11_cone_v_20 ht_f_dm.1 h136.2.1 h136.2.2.1 h142 h144 h160.2.1 h160.2.2.1 h164 h138 h162 ht_f_dm.2 h143 h165 h141 h163) q173 q176⟩), trivial⟩
  have h178 : 0 ≤ z161 ∧ z161 ≤ 0 := (vc_X12_tie_v_1 h162 h160.2.1 h160.2.2.1 ht_f_dm.2 hp2 h160.1)
  have h179 : p2 < 0 ∨ f_dm ≤ p2 := (h160.2.2.1 (vc_X11_cone_v_22 h160.2.1 h160.2.2.1 h162 ht_f_dm.1 h136.2.1 h136.2.2.1 h142 h144 ht_f_dm.2 h143 hp2 h141 h178))
  refine mr_iconst (pc := 21) (z := (-1)) dX11_cone_21 ?_
  exact mr_iretP dX11_cone_22 rfl (le_t rfl) (le_t rfl) ⟨(rW (c := (-2147483648)) (d := 2147483647) (rR (x := (-1))) rfl), (Or.inl ⟨(vc_X11_cone_v_23 ht_f_dm.1 h136.2.1 h136.2.2.1 h142 h144 h160.2.1 h160.2.2.1 h179 h138 h162 ht_f_dm.2 h143 hp2 h141 h178), rfl⟩), trivial⟩
theorem vc_X12_cone_v_3 {f_dm p1 p2 z2945 : Int} (h0 : (z2945 = 1 → 0 ≤ p1 ∧ p1 < f_dm)) (h1 : (z2945 = 0 → p1 < 0 ∨ f_dm ≤ p1)) (h2 : p1 < 0 ∨ f_dm ≤ p1) (h3 : z2945 = 0) (h4 : 0 ≤ f_dm ∧ f_dm ≤ 10) (h5 : (-2147483648) ≤ p1 ∧ p1 ≤ 2147483647) (h6 : (-2147483648) ≤ p2 ∧ p2 ≤ 2147483647) (h7 : 0 ≤ z2945 ∧ z2945 ≤ 0) : p1 < 0 ∨ f_dm ≤ p1 ∨ (¬ p2 = -1 ∧ (p2 < 0 ∨ f_dm ≤ p2)) := by omega
theorem vc_X12_cone_v_10 {f_c z3661 : Int} (h0 : ((2 * (10 - f_c)) + z3661) < ((0 : Nat) : Int)) (h1 : 0 ≤ f_c ∧ f_c ≤ 10) (h2 : 0 ≤ z3661 ∧ z3661 ≤ 1) : False := by omega
theorem vc_X12_cone_v_13 {f_dm p1 z2945 z3829 z3830 : Int} (h0 : (11 - z3829) < ((0 : Nat) : Int)) (h1 : z3829 ≤ f_dm) (h2 : z3830 ≤ z3829) (h3 : (z2945 = 1 → 0 ≤ p1 ∧ p1 < f_dm)) (h4 : (z2945 = 0 → p1 < 0 ∨ f_dm ≤ p1)) (h5 : 0 ≤ p1 ∧ p1 < f_dm) (h6 : 0 ≤ f_dm ∧ f_dm ≤ 10) (h7 : 0 ≤ p1 ∧ p1 ≤ 9) (h8 : 1 ≤ z2945 ∧ z2945 ≤ 1) (h9 : 0 ≤ z3829 ∧ z3829 ≤ 10) (h10 : 0 ≤ z3830 ∧ z3830 ≤ 10) : False := by omega
theorem vc_X12_cone_v_15 {f_dm p1 p2 z2945 z3829 z3830 : Int} (h0 : (z2945 = 1 → 0 ≤ p1 ∧ p1 < f_dm)) (h1 : (z2945 = 0 → p1 < 0 ∨ f_dm ≤ p1)) (h2 : 0 ≤ p1 ∧ p1 < f_dm) (h3 : p2 = (-1)) (h4 : z3829 ≤ f_dm) (h5 : f_dm ≤ z3829) (h6 : ¬ z2945 = 0) (h7 : z3830 ≤ z3829) (h8 : 0 ≤ f_dm ∧ f_dm ≤ 10) (h9 : 0 ≤ p1 ∧ p1 ≤ 9) (h10 : (-1) ≤ p2 ∧ p2 ≤ (-1)) (h11 : 1 ≤ z2945 ∧ z2945 ≤ 1) (h12 : 0 ≤ z3829 ∧ z3829 ≤ 10) (h13 : 0 ≤ z3830 ∧ z3830 ≤ 10) : 0 ≤ p1 ∧ p1 < f_dm ∧ (p2 = -1 ∨ (0 ≤ p2 ∧ p2 < f_dm)) := by omega
theorem vc_X12_cone_v_16 {f_dm p1 p2 z2945 z3829 z3830 : Int} (h0 : (z2945 = 1 → 0 ≤ p1 ∧ p1 < f_dm)) (h1 : (z2945 = 0 → p1 < 0 ∨ f_dm ≤ p1)) (h2 : 0 ≤ p1 ∧ p1 < f_dm) (h3 : p2 = (-1)) (h4 : z3829 ≤ f_dm) (h5 : z3830 ≤ z3829) (h6 : f_dm ≤ z3829) (h7 : ¬ z2945 = 0) (h8 : 0 ≤ f_dm ∧ f_dm ≤ 10) (h9 : 0 ≤ p1 ∧ p1 ≤ 9) (h10 : (-1) ≤ p2 ∧ p2 ≤ (-1)) (h11 : 1 ≤ z2945 ∧ z2945 ≤ 1) (h12 : 0 ≤ z3829 ∧ z3829 ≤ 10) (h13 : 0 ≤ z3830 ∧ z3830 ≤ 10) : z3829 = f_dm := by omega
theorem vc_X12_cone_v_17 {f_dm p1 p2 z2945 z3829 z3830 : Int} (h0 : (z2945 = 1 → 0 ≤ p1 ∧ p1 < f_dm)) (h1 : (z2945 = 0 → p1 < 0 ∨ f_dm ≤ p1)) (h2 : 0 ≤ p1 ∧ p1 < f_dm) (h3 : p2 = (-1)) (h4 : z3829 ≤ f_dm) (h5 : f_dm ≤ z3829) (h6 : ¬ z2945 = 0) (h7 : z3830 ≤ z3829) (h8 : 0 ≤ f_dm ∧ f_dm ≤ 10) (h9 : 0 ≤ p1 ∧ p1 ≤ 9) (h10 : (-1) ≤ p2 ∧ p2 ≤ (-1)) (h11 : 1 ≤ z2945 ∧ z2945 ≤ 1) (h12 : 0 ≤ z3829 ∧ z3829 ≤ 10) (h13 : 0 ≤ z3830 ∧ z3830 ≤ 10) : f_dm ≤ 10 := by omega
theorem vc_X12_cone_v_18 {f_dm p1 p2 z2945 z3829 z3830 : Int} (h0 : (z2945 = 1 → 0 ≤ p1 ∧ p1 < f_dm)) (h1 : (z2945 = 0 → p1 < 0 ∨ f_dm ≤ p1)) (h2 : 0 ≤ p1 ∧ p1 < f_dm) (h3 : p2 = (-1)) (h4 : z3829 ≤ f_dm) (h5 : f_dm ≤ z3829) (h6 : ¬ z2945 = 0) (h7 : z3830 ≤ z3829) (h8 : 0 ≤ f_dm ∧ f_dm ≤ 10) (h9 : 0 ≤ p1 ∧ p1 ≤ 9) (h10 : (-1) ≤ p2 ∧ p2 ≤ (-1)) (h11 : 1 ≤ z2945 ∧ z2945 ≤ 1) (h12 : 0 ≤ z3829 ∧ z3829 ≤ 10) (h13 : 0 ≤ z3830 ∧ z3830 ≤ 10) : p2 = -1 := by omega
theorem vc_X12_cone_v_19 {f_dm p1 z2945 z3829 z3830 : Int} (h0 : z3829 < f_dm) (h1 : (z2945 = 1 → 0 ≤ p1 ∧ p1 < f_dm)) (h2 : (z2945 = 0 → p1 < 0 ∨ f_dm ≤ p1)) (h3 : 0 ≤ p1 ∧ p1 < f_dm) (h4 : z3829 ≤ f_dm) (h5 : z3830 ≤ z3829) (h6 : 0 ≤ f_dm ∧ f_dm ≤ 10) (h7 : 0 ≤ p1 ∧ p1 ≤ 9) (h8 : 1 ≤ z2945 ∧ z2945 ≤ 1) (h9 : 0 ≤ z3829 ∧ z3829 ≤ 10) (h10 : 0 ≤ z3830 ∧ z3830 ≤ 10) : 0 ≤ z3829 ∧ z3829 ≤ 9 := by omega
theorem vc_X12_cone_v_20 {f_dm p1 z2945 z3829 z3830 : Int} (h0 : z3829 < f_dm) (h1 : (z2945 = 1 → 0 ≤ p1 ∧ p1 < f_dm)) (h2 : (z2945 = 0 → p1 < 0 ∨ f_dm ≤ p1)) (h3 : 0 ≤ p1 ∧ p1 < f_dm) (h4 : z3829 ≤ f_dm) (h5 : z3830 ≤ z3829) (h6 : 0 ≤ f_dm ∧ f_dm ≤ 10) (h7 : 0 ≤ p1 ∧ p1 ≤ 9) (h8 : 1 ≤ z2945 ∧ z2945 ≤ 1) (h9 : 0 ≤ z3829 ∧ z3829 ≤ 9) (h10 : 0 ≤ z3830 ∧ z3830 ≤ 10) : 1 ≤ f_dm ∧ f_dm ≤ 10 := by omega
theorem vc_X12_cone_v_22 {f_dm p1 z2945 z3829 z3830 : Int} (h0 : (z2945 = 1 → 0 ≤ p1 ∧ p1 < f_dm)) (h1 : (z2945 = 0 → p1 < 0 ∨ f_dm ≤ p1)) (h2 : 0 ≤ p1 ∧ p1 < f_dm) (h3 : z3829 ≤ f_dm) (h4 : z3830 ≤ z3829) (h5 : z3829 < f_dm) (h6 : ¬ z2945 = 0) (h7 : 1 ≤ f_dm ∧ f_dm ≤ 10) (h8 : 0 ≤ p1 ∧ p1 ≤ 9) (h9 : 1 ≤ z2945 ∧ z2945 ≤ 1) (h10 : 0 ≤ z3829 ∧ z3829 ≤ 9) (h11 : 0 ≤ z3830 ∧ z3830 ≤ 10) : (z3829 + 1) ≤ f_dm := by omega
theorem vc_X12_cone_v_23 {f_dm p1 z2945 z3829 z3830 : Int} (h0 : z3829 ≤ f_dm) (h1 : z3830 ≤ z3829) (h2 : z3829 < f_dm) (h3 : (z2945 = 1 → 0 ≤ p1 ∧ p1 < f_dm)) (h4 : (z2945 = 0 → p1 < 0 ∨ f_dm ≤ p1)) (h5 : 0 ≤ p1 ∧ p1 < f_dm) (h6 : 1 ≤ f_dm ∧ f_dm ≤ 10) (h7 : 0 ≤ p1 ∧ p1 ≤ 9) (h8 : 1 ≤ z2945 ∧ z2945 ≤ 1) (h9 : 0 ≤ z3829 ∧ z3829 ≤ 9) (h10 : 0 ≤ z3830 ∧ z3830 ≤ 10) : (z3830 + 0) ≤ (z3829 + 1) := by omega
theorem vc_X12_cone_v_24 {N f_dm p1 z2945 z3829 z3830 : Int} (h0 : (11 - z3829) < N + 1) (h1 : z3829 ≤ f_dm) (h2 : z3830 ≤ z3829) (h3 : z3829 < f_dm) (h4 : (z2945 = 1 → 0 ≤ p1 ∧ p1 < f_dm)) (h5 : (z2945 = 0 → p1 < 0 ∨ f_dm ≤ p1)) (h6 : 0 ≤ p1 ∧ p1 < f_dm) (h7 : 1 ≤ f_dm ∧ f_dm ≤ 10) (h8 : 0 ≤ p1 ∧ p1 ≤ 9) (h9 : 1 ≤ z2945 ∧ z2945 ≤ 1) (h10 : 0 ≤ z3829 ∧ z3829 ≤ 9) (h11 : 0 ≤ z3830 ∧ z3830 ≤ 10) : (11 - (z3829 + 1)) < N := by omega
theorem vc_X12_cone_v_25 {f_dm p1 z2945 z3829 z3830 : Int} (h0 : z3829 ≤ f_dm) (h1 : z3830 ≤ z3829) (h2 : z3829 < f_dm) (h3 : (z2945 = 1 → 0 ≤ p1 ∧ p1 < f_dm)) (h4 : (z2945 = 0 → p1 < 0 ∨ f_dm ≤ p1)) (h5 : 0 ≤ p1 ∧ p1 < f_dm) (h6 : 1 ≤ f_dm ∧ f_dm ≤ 10) (h7 : 0 ≤ p1 ∧ p1 ≤ 9) (h8 : 1 ≤ z2945 ∧ z2945 ≤ 1) (h9 : 0 ≤ z3829 ∧ z3829 ≤ 9) (h10 : 0 ≤ z3830 ∧ z3830 ≤ 10) : 0 ≤ z3829 := by omega
theorem vc_X12_cone_v_26 {f_dm z3829 z3830 z3852 : Int} (h0 : z3830 ≤ z3829) (h1 : z3852 = 0) (h2 : z3829 ≤ f_dm) (h3 : z3829 < f_dm) (h4 : 1 ≤ f_dm ∧ f_dm ≤ 10) (h5 : 0 ≤ z3829 ∧ z3829 ≤ 9) (h6 : 0 ≤ z3830 ∧ z3830 ≤ 10) (h7 : 0 ≤ z3852 ∧ z3852 ≤ 0) : (z3852 = 1 ∧ (z3830 + 0) = z3830 + 1) ∨ (¬ z3852 = 1 ∧ (z3830 + 0) = z3830) := by omega
theorem vc_X12_cone_v_28 {f_dm z3829 z3830 : Int} (h0 : z3830 ≤ z3829) (h1 : z3829 ≤ f_dm) (h2 : z3829 < f_dm) (h3 : 1 ≤ f_dm ∧ f_dm ≤ 10) (h4 : 0 ≤ z3829 ∧ z3829 ≤ 9) (h5 : 0 ≤ z3830 ∧ z3830 ≤ 10) : 0 ≤ (z3830 + 1) ∧ (z3830 + 1) ≤ 10 := by omega
theorem vc_X12_cone_v_29 {f_dm p1 z2945 z3829 z3830 : Int} (h0 : z3829 ≤ f_dm) (h1 : z3830 ≤ z3829) (h2 : z3829 < f_dm) (h3 : (z2945 = 1 → 0 ≤ p1 ∧ p1 < f_dm)) (h4 : (z2945 = 0 → p1 < 0 ∨ f_dm ≤ p1)) (h5 : 0 ≤ p1 ∧ p1 < f_dm) (h6 : 1 ≤ f_dm ∧ f_dm ≤ 10) (h7 : 0 ≤ p1 ∧ p1 ≤ 9) (h8 : 1 ≤ z2945 ∧ z2945 ≤ 1) (h9 : 0 ≤ z3829 ∧ z3829 ≤ 9) (h10 : 0 ≤ z3830 ∧ z3830 ≤ 10) : (z3830 + 1) ≤ (z3829 + 1) := by omega
theorem vc_X12_cone_v_30 {f_dm z3829 z3830 z3852 : Int} (h0 : z3830 ≤ z3829) (h1 : ¬ z3852 = 0) (h2 : z3829 ≤ f_dm) (h3 : z3829 < f_dm) (h4 : 1 ≤ f_dm ∧ f_dm ≤ 10) (h5 : 0 ≤ z3829 ∧ z3829 ≤ 9) (h6 : 0 ≤ z3830 ∧ z3830 ≤ 10) (h7 : 1 ≤ z3852 ∧ z3852 ≤ 1) : (z3852 = 1 ∧ (z3830 + 1) = z3830 + 1) ∨ (¬ z3852 = 1 ∧ (z3830 + 1) = z3830) := by omega
theorem vc_X12_cone_v_31 {f_dm p1 z2945 : Int} (h0 : (z2945 = 1 → 0 ≤ p1 ∧ p1 < f_dm)) (h1 : (z2945 = 0 → p1 < 0 ∨ f_dm ≤ p1)) (h2 : 0 ≤ p1 ∧ p1 < f_dm) (h3 : ¬ z2945 = 0) (h4 : 0 ≤ f_dm ∧ f_dm ≤ 10) (h5 : 0 ≤ p1 ∧ p1 ≤ 9) (h6 : 1 ≤ z2945 ∧ z2945 ≤ 1) : (0 : Int) ≤ f_dm := by omega
theorem vc_X12_cone_v_35 {f_c f_d z4211 z4212 : Int} (h0 : (21 - z4211) < ((0 : Nat) : Int)) (h1 : 0 ≤ f_d ∧ f_d ≤ 10) (h2 : f_c ≤ f_d) (h3 : z4212 = 0 ∨ f_c + 1 ≤ f_d) (h4 : 0 ≤ f_c ∧ f_c ≤ 10) (h5 : 0 ≤ z4211 ∧ z4211 ≤ 20) (h6 : 0 ≤ z4212 ∧ z4212 ≤ 1) : False := by omega
theorem vc_X12_cone_v_36 {N f_c f_d z3661 z4212 : Int} (h0 : ((2 * (10 - f_c)) + z3661) < N + 1) (h1 : ¬ z3661 = 0) (h2 : f_c ≤ f_d) (h3 : z4212 = 0 ∨ f_c + 1 ≤ f_d) (h4 : 0 ≤ f_c ∧ f_c ≤ 10) (h5 : 0 ≤ f_d ∧ f_d ≤ 10) (h6 : 1 ≤ z3661 ∧ z3661 ≤ 1) (h7 : 0 ≤ z4212 ∧ z4212 ≤ 1) : ((2 * (10 - f_d)) + z4212) < N := by omega
theorem vc_X12_cone_v_41 {f_c f_d z4212 : Int} (h0 : f_c ≤ f_d) (h1 : z4212 = 0 ∨ f_c + 1 ≤ f_d) (h2 : 0 ≤ f_c ∧ f_c ≤ 10) (h3 : 0 ≤ f_d ∧ f_d ≤ 10) (h4 : 0 ≤ z4212 ∧ z4212 ≤ 1) : f_c ≤ f_d := by omega
theorem vc_X12_cone_v_42 {f_c f_d z4212 : Int} (h0 : f_c ≤ f_d) (h1 : z4212 = 0 ∨ f_c + 1 ≤ f_d) (h2 : 0 ≤ f_c ∧ f_c ≤ 10) (h3 : 0 ≤ f_d ∧ f_d ≤ 10) (h4 : 0 ≤ z4212 ∧ z4212 ≤ 1) : z4212 = 0 ∨ f_c + 1 ≤ f_d := by omega
theorem vc_X12_cone_v_49 {z4265 : Int} (h0 : z4265 = 0) (h1 : 0 ≤ z4265 ∧ z4265 ≤ 0) : ¬ z4265 = 1 := by omega
theorem vc_X12_cone_v_55 {f_c f_d z4212 z4274 : Int} (h0 : f_c ≤ f_d) (h1 : z4212 = 0 ∨ f_c + 1 ≤ f_d) (h2 : z4274 = 0) (h3 : 0 ≤ f_c ∧ f_c ≤ 10) (h4 : 0 ≤ f_d ∧ f_d ≤ 10) (h5 : 0 ≤ z4212 ∧ z4212 ≤ 1) (h6 : 0 ≤ z4274 ∧ z4274 ≤ 0) : f_c ≤ ((f_d + 1) - z4274) := by omega
theorem vc_X12_cone_v_56 {f_c f_d z4212 z4274 : Int} (h0 : f_c ≤ f_d) (h1 : z4212 = 0 ∨ f_c + 1 ≤ f_d) (h2 : z4274 = 0) (h3 : 0 ≤ f_c ∧ f_c ≤ 10) (h4 : 0 ≤ f_d ∧ f_d ≤ 10) (h5 : 0 ≤ z4212 ∧ z4212 ≤ 1) (h6 : 0 ≤ z4274 ∧ z4274 ≤ 0) : (1 : Int) = 0 ∨ f_c + 1 ≤ ((f_d + 1) - z4274) := by omega
theorem vc_X12_cone_v_59 {z4262 : Int} (h0 : 0 ≤ z4262 ∧ z4262 ≤ 9) : 0 ≤ z4262 ∧ z4262 ≤ 9 := by omega
theorem vc_X12_cone_v_64 {f_c : Int} (h0 : 0 ≤ f_c ∧ f_c ≤ 10) : (0 : Int) = 0 ∨ f_c + 1 ≤ f_c := by omega
theorem vc_X12_cone_v_66 {z4283 : Int} (h0 : 0 ≤ z4283 ∧ z4283 ≤ 10) : ((2 * (10 - z4283)) + 1) < ((22 : Nat) : Int) := by omega
theorem vc_X12_cone_v_67 {z3392 : Int} (h0 : 10 ≤ z3392) (h1 : 10 ≤ z3392 ∧ z3392 ≤ 10) : 10 ≤ z3392 := by omega
theorem vc_X12_cone_v_68 {f_dm p1 z2945 : Int} (h0 : (z2945 = 1 → 0 ≤ p1 ∧ p1 < f_dm)) (h1 : (z2945 = 0 → p1 < 0 ∨ f_dm ≤ p1)) (h2 : 0 ≤ p1 ∧ p1 < f_dm) (h3 : ¬ z2945 = 0) (h4 : 0 ≤ f_dm ∧ f_dm ≤ 10) (h5 : 0 ≤ p1 ∧ p1 ≤ 9) (h6 : 1 ≤ z2945 ∧ z2945 ≤ 1) : 0 ≤ p1 ∧ p1 ≤ 9 := by omega
theorem vc_X12_cone_v_70 {N f_dm p1 z2945 z3392 : Int} (h0 : (11 - z3392) < N + 1) (h1 : z3392 < 10) (h2 : ¬ z3392 = p1) (h3 : (z2945 = 1 → 0 ≤ p1 ∧ p1 < f_dm)) (h4 : (z2945 = 0 → p1 < 0 ∨ f_dm ≤ p1)) (h5 : 0 ≤ p1 ∧ p1 < f_dm) (h6 : 0 ≤ f_dm ∧ f_dm ≤ 10) (h7 : 0 ≤ p1 ∧ p1 ≤ 9) (h8 : 1 ≤ z2945 ∧ z2945 ≤ 1) (h9 : 0 ≤ z3392 ∧ z3392 ≤ 9) : (11 - (z3392 + 1)) < N := by omega
theorem vc_X12_cone_v_71 {f_dm p1 z2945 z3392 : Int} (h0 : z3392 < 10) (h1 : ¬ z3392 = p1) (h2 : (z2945 = 1 → 0 ≤ p1 ∧ p1 < f_dm)) (h3 : (z2945 = 0 → p1 < 0 ∨ f_dm ≤ p1)) (h4 : 0 ≤ p1 ∧ p1 < f_dm) (h5 : 0 ≤ f_dm ∧ f_dm ≤ 10) (h6 : 0 ≤ p1 ∧ p1 ≤ 9) (h7 : 1 ≤ z2945 ∧ z2945 ≤ 1) (h8 : 0 ≤ z3392 ∧ z3392 ≤ 9) : 0 ≤ z3392 := by omega
theorem vc_X12_cone_v_72 {f_dm p1 z2945 z3392 : Int} (h0 : (z2945 = 1 → 0 ≤ p1 ∧ p1 < f_dm)) (h1 : (z2945 = 0 → p1 < 0 ∨ f_dm ≤ p1)) (h2 : 0 ≤ p1 ∧ p1 < f_dm) (h3 : z3392 < 10) (h4 : ¬ z3392 = p1) (h5 : ¬ z2945 = 0) (h6 : 0 ≤ f_dm ∧ f_dm ≤ 10) (h7 : 0 ≤ p1 ∧ p1 ≤ 9) (h8 : 1 ≤ z2945 ∧ z2945 ≤ 1) (h9 : 0 ≤ z3392 ∧ z3392 ≤ 9) : (z3392 = p1 ∧ (0 : Int) = 1) ∨ (¬ z3392 = p1 ∧ (0 : Int) = 0) := by omega
theorem vc_X12_cone_v_73 {N f_dm p1 z2945 z3392 : Int} (h0 : (11 - z3392) < N + 1) (h1 : z3392 < 10) (h2 : z3392 = p1) (h3 : (z2945 = 1 → 0 ≤ p1 ∧ p1 < f_dm)) (h4 : (z2945 = 0 → p1 < 0 ∨ f_dm ≤ p1)) (h5 : 0 ≤ p1 ∧ p1 < f_dm) (h6 : 0 ≤ f_dm ∧ f_dm ≤ 10) (h7 : 0 ≤ p1 ∧ p1 ≤ 9) (h8 : 1 ≤ z2945 ∧ z2945 ≤ 1) (h9 : 0 ≤ z3392 ∧ z3392 ≤ 9) : (11 - (z3392 + 1)) < N := by omega
theorem vc_X12_cone_v_74 {f_dm p1 z2945 z3392 : Int} (h0 : z3392 < 10) (h1 : z3392 = p1) (h2 : (z2945 = 1 → 0 ≤ p1 ∧ p1 < f_dm)) (h3 : (z2945 = 0 → p1 < 0 ∨ f_dm ≤ p1)) (h4 : 0 ≤ p1 ∧ p1 < f_dm) (h5 : 0 ≤ f_dm ∧ f_dm ≤ 10) (h6 : 0 ≤ p1 ∧ p1 ≤ 9) (h7 : 1 ≤ z2945 ∧ z2945 ≤ 1) (h8 : 0 ≤ z3392 ∧ z3392 ≤ 9) : 0 ≤ z3392 := by omega
theorem vc_X12_cone_v_75 {f_dm p1 z2945 z3392 : Int} (h0 : (z2945 = 1 → 0 ≤ p1 ∧ p1 < f_dm)) (h1 : (z2945 = 0 → p1 < 0 ∨ f_dm ≤ p1)) (h2 : 0 ≤ p1 ∧ p1 < f_dm) (h3 : z3392 < 10) (h4 : z3392 = p1) (h5 : ¬ z2945 = 0) (h6 : 0 ≤ f_dm ∧ f_dm ≤ 10) (h7 : 0 ≤ p1 ∧ p1 ≤ 9) (h8 : 1 ≤ z2945 ∧ z2945 ≤ 1) (h9 : 0 ≤ z3392 ∧ z3392 ≤ 9) : (z3392 = p1 ∧ (1 : Int) = 1) ∨ (¬ z3392 = p1 ∧ (1 : Int) = 0) := by omega
theorem vc_X12_cone_v_78 {f_dm p1 p2 z2945 z4298 : Int} (h0 : (z4298 = 1 → 0 ≤ p2 ∧ p2 < f_dm)) (h1 : (z4298 = 0 → p2 < 0 ∨ f_dm ≤ p2)) (h2 : ¬ z4298 = 0) (h3 : (z2945 = 1 → 0 ≤ p1 ∧ p1 < f_dm)) (h4 : (z2945 = 0 → p1 < 0 ∨ f_dm ≤ p1)) (h5 : 0 ≤ p1 ∧ p1 < f_dm) (h6 : ¬ p2 = (-1)) (h7 : 0 ≤ f_dm ∧ f_dm ≤ 10) (h8 : 0 ≤ p1 ∧ p1 ≤ 9) (h9 : (-2147483648) ≤ p2 ∧ p2 ≤ 2147483647) (h10 : 1 ≤ z2945 ∧ z2945 ≤ 1) (h11 : 1 ≤ z4298 ∧ z4298 ≤ 1) : z4298 = 1 := by omega
theorem vc_X12_cone_v_79 {f_dm p1 p2 z2945 z4298 : Int} (h0 : 0 ≤ p2 ∧ p2 < f_dm) (h1 : (z2945 = 1 → 0 ≤ p1 ∧ p1 < f_dm)) (h2 : (z2945 = 0 → p1 < 0 ∨ f_dm ≤ p1)) (h3 : 0 ≤ p1 ∧ p1 < f_dm) (h4 : ¬ p2 = (-1)) (h5 : (z4298 = 1 → 0 ≤ p2 ∧ p2 < f_dm)) (h6 : (z4298 = 0 → p2 < 0 ∨ f_dm ≤ p2)) (h7 : 0 ≤ f_dm ∧ f_dm ≤ 10) (h8 : 0 ≤ p1 ∧ p1 ≤ 9) (h9 : (-2147483648) ≤ p2 ∧ p2 ≤ 2147483647) (h10 : 1 ≤ z2945 ∧ z2945 ≤ 1) (h11 : 1 ≤ z4298 ∧ z4298 ≤ 1) : 0 ≤ p2 ∧ p2 ≤ 9 := by omega
theorem vc_X12_cone_v_85 {f_dm p1 p2 z2945 z4298 z5278 z5279 : Int} (h0 : (11 - z5278) < ((0 : Nat) : Int)) (h1 : z5278 ≤ f_dm) (h2 : z5279 ≤ z5278) (h3 : (z2945 = 1 → 0 ≤ p1 ∧ p1 < f_dm)) (h4 : (z2945 = 0 → p1 < 0 ∨ f_dm ≤ p1)) (h5 : 0 ≤ p1 ∧ p1 < f_dm) (h6 : (z4298 = 1 → 0 ≤ p2 ∧ p2 < f_dm)) (h7 : (z4298 = 0 → p2 < 0 ∨ f_dm ≤ p2)) (h8 : 0 ≤ p2 ∧ p2 < f_dm) (h9 : 0 ≤ f_dm ∧ f_dm ≤ 10) (h10 : 0 ≤ p1 ∧ p1 ≤ 9) (h11 : 0 ≤ p2 ∧ p2 ≤ 9) (h12 : 1 ≤ z2945 ∧ z2945 ≤ 1) (h13 : 1 ≤ z4298 ∧ z4298 ≤ 1) (h14 : 0 ≤ z5278 ∧ z5278 ≤ 10) (h15 : 0 ≤ z5279 ∧ z5279 ≤ 10) : False := by omega
theorem vc_X12_cone_v_86 {p2 : Int} (h0 : p2 < 0) (h1 : 0 ≤ p2 ∧ p2 ≤ 9) : False := by omega
theorem vc_X12_cone_v_88 {f_dm p1 p2 z2945 z4298 z5278 z5279 : Int} (h0 : (z2945 = 1 → 0 ≤ p1 ∧ p1 < f_dm)) (h1 : (z2945 = 0 → p1 < 0 ∨ f_dm ≤ p1)) (h2 : 0 ≤ p1 ∧ p1 < f_dm) (h3 : ¬ p2 = (-1)) (h4 : (z4298 = 1 → 0 ≤ p2 ∧ p2 < f_dm)) (h5 : (z4298 = 0 → p2 < 0 ∨ f_dm ≤ p2)) (h6 : 0 ≤ p2 ∧ p2 < f_dm) (h7 : z5278 ≤ f_dm) (h8 : f_dm ≤ z5278) (h9 : ¬ z2945 = 0) (h10 : ¬ z4298 = 0) (h11 : z5279 ≤ z5278) (h12 : 0 ≤ f_dm ∧ f_dm ≤ 10) (h13 : 0 ≤ p1 ∧ p1 ≤ 9) (h14 : 0 ≤ p2 ∧ p2 ≤ 9) (h15 : 1 ≤ z2945 ∧ z2945 ≤ 1) (h16 : 1 ≤ z4298 ∧ z4298 ≤ 1) (h17 : 0 ≤ z5278 ∧ z5278 ≤ 10) (h18 : 0 ≤ z5279 ∧ z5279 ≤ 10) : 0 ≤ p1 ∧ p1 < f_dm ∧ (p2 = -1 ∨ (0 ≤ p2 ∧ p2 < f_dm)) := by omega
theorem vc_X12_cone_v_89 {f_dm p1 p2 z2945 z4298 z5278 z5279 : Int} (h0 : (z2945 = 1 → 0 ≤ p1 ∧ p1 < f_dm)) (h1 : (z2945 = 0 → p1 < 0 ∨ f_dm ≤ p1)) (h2 : 0 ≤ p1 ∧ p1 < f_dm) (h3 : ¬ p2 = (-1)) (h4 : (z4298 = 1 → 0 ≤ p2 ∧ p2 < f_dm)) (h5 : (z4298 = 0 → p2 < 0 ∨ f_dm ≤ p2)) (h6 : 0 ≤ p2 ∧ p2 < f_dm) (h7 : z5278 ≤ f_dm) (h8 : f_dm ≤ z5278) (h9 : ¬ z2945 = 0) (h10 : ¬ z4298 = 0) (h11 : z5279 ≤ z5278) (h12 : 0 ≤ f_dm ∧ f_dm ≤ 10) (h13 : 0 ≤ p1 ∧ p1 ≤ 9) (h14 : 0 ≤ p2 ∧ p2 ≤ 9) (h15 : 1 ≤ z2945 ∧ z2945 ≤ 1) (h16 : 1 ≤ z4298 ∧ z4298 ≤ 1) (h17 : 0 ≤ z5278 ∧ z5278 ≤ 10) (h18 : 0 ≤ z5279 ∧ z5279 ≤ 10) : 0 ≤ p2 ∧ p2 ≤ 9 := by omega
theorem vc_X12_cone_v_90 {z5299 : Int} (h0 : z5299 = 0) (h1 : 0 ≤ z5299 ∧ z5299 ≤ 0) : (z5299 = 1 ∧ (0 : Int) = 1) ∨ (¬ z5299 = 1 ∧ (0 : Int) = 0) := by omega
theorem vc_X12_cone_v_92 {z5299 : Int} (h0 : ¬ z5299 = 0) (h1 : 1 ≤ z5299 ∧ z5299 ≤ 1) : (z5299 = 1 ∧ (1 : Int) = 1) ∨ (¬ z5299 = 1 ∧ (1 : Int) = 0) := by omega
theorem vc_X12_cone_v_93 {f_dm p1 p2 z2945 z4298 z5278 z5279 : Int} (h0 : z5278 < f_dm) (h1 : (z2945 = 0 → p1 < 0 ∨ f_dm ≤ p1)) (h2 : 0 ≤ p1 ∧ p1 < f_dm) (h3 : (z4298 = 1 → 0 ≤ p2 ∧ p2 < f_dm)) (h4 : (z4298 = 0 → p2 < 0 ∨ f_dm ≤ p2)) (h5 : 0 ≤ p2 ∧ p2 < f_dm) (h6 : z5278 ≤ f_dm) (h7 : z5279 ≤ z5278) (h8 : 0 ≤ f_dm ∧ f_dm ≤ 10) (h9 : 0 ≤ p1 ∧ p1 ≤ 9) (h10 : 0 ≤ p2 ∧ p2 ≤ 9) (h11 : 1 ≤ z2945 ∧ z2945 ≤ 1) (h12 : 1 ≤ z4298 ∧ z4298 ≤ 1) (h13 : 0 ≤ z5278 ∧ z5278 ≤ 10) (h14 : 0 ≤ z5279 ∧ z5279 ≤ 10) : 0 ≤ z5278 ∧ z5278 ≤ 9 := by omega
theorem vc_X12_cone_v_94 {f_dm p1 p2 z2945 z4298 z5278 z5279 : Int} (h0 : z5278 < f_dm) (h1 : (z2945 = 0 → p1 < 0 ∨ f_dm ≤ p1)) (h2 : 0 ≤ p1 ∧ p1 < f_dm) (h3 : (z4298 = 1 → 0 ≤ p2 ∧ p2 < f_dm)) (h4 : (z4298 = 0 → p2 < 0 ∨ f_dm ≤ p2)) (h5 : 0 ≤ p2 ∧ p2 < f_dm) (h6 : z5278 ≤ f_dm) (h7 : z5279 ≤ z5278) (h8 : 0 ≤ f_dm ∧ f_dm ≤ 10) (h9 : 0 ≤ p1 ∧ p1 ≤ 9) (h10 : 0 ≤ p2 ∧ p2 ≤ 9) (h11 : 1 ≤ z2945 ∧ z2945 ≤ 1) (h12 : 1 ≤ z4298 ∧ z4298 ≤ 1) (h13 : 0 ≤ z5278 ∧ z5278 ≤ 9) (h14 : 0 ≤ z5279 ∧ z5279 ≤ 10) : 1 ≤ f_dm ∧ f_dm ≤ 10 := by omega
theorem vc_X12_cone_v_96 {f_dm p1 p2 z2945 z4298 z5278 z5279 : Int} (h0 : (z2945 = 1 → 0 ≤ p1 ∧ p1 < f_dm)) (h1 : (z2945 = 0 → p1 < 0 ∨ f_dm ≤ p1)) (h2 : 0 ≤ p1 ∧ p1 < f_dm) (h3 : (z4298 = 1 → 0 ≤ p2 ∧ p2 < f_dm)) (h4 : (z4298 = 0 → p2 < 0 ∨ f_dm ≤ p2)) (h5 : 0 ≤ p2 ∧ p2 < f_dm) (h6 : z5278 ≤ f_dm) (h7 : z5279 ≤ z5278) (h8 : z5278 < f_dm) (h9 : ¬ z2945 = 0) (h10 : ¬ p2 = (-1)) (h11 : ¬ z4298 = 0) (h12 : 1 ≤ f_dm ∧ f_dm ≤ 10) (h13 : 0 ≤ p1 ∧ p1 ≤ 9) (h14 : 0 ≤ p2 ∧ p2 ≤ 9) (h15 : 1 ≤ z2945 ∧ z2945 ≤ 1) (h16 : 1 ≤ z4298 ∧ z4298 ≤ 1) (h17 : 0 ≤ z5278 ∧ z5278 ≤ 9) (h18 : 0 ≤ z5279 ∧ z5279 ≤ 10) : (z5278 + 1) ≤ f_dm := by omega
theorem vc_X12_cone_v_97 {f_dm p1 p2 z2945 z4298 z5278 z5279 : Int} (h0 : z5278 ≤ f_dm) (h1 : z5279 ≤ z5278) (h2 : z5278 < f_dm) (h3 : (z2945 = 1 → 0 ≤ p1 ∧ p1 < f_dm)) (h4 : (z2945 = 0 → p1 < 0 ∨ f_dm ≤ p1)) (h5 : 0 ≤ p1 ∧ p1 < f_dm) (h6 : (z4298 = 1 → 0 ≤ p2 ∧ p2 < f_dm)) (h7 : (z4298 = 0 → p2 < 0 ∨ f_dm ≤ p2)) (h8 : 0 ≤ p2 ∧ p2 < f_dm) (h9 : 1 ≤ f_dm ∧ f_dm ≤ 10) (h10 : 0 ≤ p1 ∧ p1 ≤ 9) (h11 : 0 ≤ p2 ∧ p2 ≤ 9) (h12 : 1 ≤ z2945 ∧ z2945 ≤ 1) (h13 : 1 ≤ z4298 ∧ z4298 ≤ 1) (h14 : 0 ≤ z5278 ∧ z5278 ≤ 9) (h15 : 0 ≤ z5279 ∧ z5279 ≤ 10) : (z5279 + 0) ≤ (z5278 + 1) := by omega
theorem vc_X12_cone_v_98 {N f_dm p1 p2 z2945 z4298 z5278 z5279 : Int} (h0 : (11 - z5278) < N + 1) (h1 : z5278 ≤ f_dm) (h2 : z5279 ≤ z5278) (h3 : z5278 < f_dm) (h4 : (z2945 = 1 → 0 ≤ p1 ∧ p1 < f_dm)) (h5 : (z2945 = 0 → p1 < 0 ∨ f_dm ≤ p1)) (h6 : 0 ≤ p1 ∧ p1 < f_dm) (h7 : (z4298 = 1 → 0 ≤ p2 ∧ p2 < f_dm)) (h8 : (z4298 = 0 → p2 < 0 ∨ f_dm ≤ p2)) (h9 : 0 ≤ p2 ∧ p2 < f_dm) (h10 : 1 ≤ f_dm ∧ f_dm ≤ 10) (h11 : 0 ≤ p1 ∧ p1 ≤ 9) (h12 : 0 ≤ p2 ∧ p2 ≤ 9) (h13 : 1 ≤ z2945 ∧ z2945 ≤ 1) (h14 : 1 ≤ z4298 ∧ z4298 ≤ 1) (h15 : 0 ≤ z5278 ∧ z5278 ≤ 9) (h16 : 0 ≤ z5279 ∧ z5279 ≤ 10) : (11 - (z5278 + 1)) < N := by omega
theorem vc_X12_cone_v_99 {f_dm p1 p2 z2945 z4298 z5278 z5279 : Int} (h0 : z5278 ≤ f_dm) (h1 : z5279 ≤ z5278) (h2 : z5278 < f_dm) (h3 : (z2945 = 1 → 0 ≤ p1 ∧ p1 < f_dm)) (h4 : (z2945 = 0 → p1 < 0 ∨ f_dm ≤ p1)) (h5 : 0 ≤ p1 ∧ p1 < f_dm) (h6 : (z4298 = 1 → 0 ≤ p2 ∧ p2 < f_dm)) (h7 : (z4298 = 0 → p2 < 0 ∨ f_dm ≤ p2)) (h8 : 0 ≤ p2 ∧ p2 < f_dm) (h9 : 1 ≤ f_dm ∧ f_dm ≤ 10) (h10 : 0 ≤ p1 ∧ p1 ≤ 9) (h11 : 0 ≤ p2 ∧ p2 ≤ 9) (h12 : 1 ≤ z2945 ∧ z2945 ≤ 1) (h13 : 1 ≤ z4298 ∧ z4298 ≤ 1) (h14 : 0 ≤ z5278 ∧ z5278 ≤ 9) (h15 : 0 ≤ z5279 ∧ z5279 ≤ 10) : 0 ≤ z5278 := by omega
theorem vc_X12_cone_v_103 {f_dm p1 p2 z2945 z4298 z5278 z5279 : Int} (h0 : z5278 ≤ f_dm) (h1 : z5279 ≤ z5278) (h2 : z5278 < f_dm) (h3 : (z2945 = 1 → 0 ≤ p1 ∧ p1 < f_dm)) (h4 : (z2945 = 0 → p1 < 0 ∨ f_dm ≤ p1)) (h5 : 0 ≤ p1 ∧ p1 < f_dm) (h6 : (z4298 = 1 → 0 ≤ p2 ∧ p2 < f_dm)) (h7 : (z4298 = 0 → p2 < 0 ∨ f_dm ≤ p2)) (h8 : 0 ≤ p2 ∧ p2 < f_dm) (h9 : 1 ≤ f_dm ∧ f_dm ≤ 10) (h10 : 0 ≤ p1 ∧ p1 ≤ 9) (h11 : 0 ≤ p2 ∧ p2 ≤ 9) (h12 : 1 ≤ z2945 ∧ z2945 ≤ 1) (h13 : 1 ≤ z4298 ∧ z4298 ≤ 1) (h14 : 0 ≤ z5278 ∧ z5278 ≤ 9) (h15 : 0 ≤ z5279 ∧ z5279 ≤ 10) : (z5279 + 1) ≤ (z5278 + 1) := by omega
theorem vc_X12_cone_v_105 {f_dm p1 p2 z2945 z4298 : Int} (h0 : (z2945 = 1 → 0 ≤ p1 ∧ p1 < f_dm)) (h1 : (z2945 = 0 → p1 < 0 ∨ f_dm ≤ p1)) (h2 : 0 ≤ p1 ∧ p1 < f_dm) (h3 : (z4298 = 1 → 0 ≤ p2 ∧ p2 < f_dm)) (h4 : (z4298 = 0 → p2 < 0 ∨ f_dm ≤ p2)) (h5 : 0 ≤ p2 ∧ p2 < f_dm) (h6 : ¬ z2945 = 0) (h7 : ¬ p2 = (-1)) (h8 : ¬ z4298 = 0) (h9 : 0 ≤ f_dm ∧ f_dm ≤ 10) (h10 : 0 ≤ p1 ∧ p1 ≤ 9) (h11 : 0 ≤ p2 ∧ p2 ≤ 9) (h12 : 1 ≤ z2945 ∧ z2945 ≤ 1) (h13 : 1 ≤ z4298 ∧ z4298 ≤ 1) : (0 : Int) ≤ f_dm := by omega
theorem vc_X12_cone_v_136 {f_dm p1 p2 z2945 z4298 : Int} (h0 : (z2945 = 1 → 0 ≤ p1 ∧ p1 < f_dm)) (h1 : (z2945 = 0 → p1 < 0 ∨ f_dm ≤ p1)) (h2 : 0 ≤ p1 ∧ p1 < f_dm) (h3 : ¬ z2945 = 0) (h4 : (z4298 = 1 → 0 ≤ p2 ∧ p2 < f_dm)) (h5 : (z4298 = 0 → p2 < 0 ∨ f_dm ≤ p2)) (h6 : 0 ≤ p2 ∧ p2 < f_dm) (h7 : 0 ≤ f_dm ∧ f_dm ≤ 10) (h8 : 0 ≤ p1 ∧ p1 ≤ 9) (h9 : 0 ≤ p2 ∧ p2 ≤ 9) (h10 : 1 ≤ z2945 ∧ z2945 ≤ 1) (h11 : 1 ≤ z4298 ∧ z4298 ≤ 1) : 0 ≤ p1 ∧ p1 ≤ 9 := by omega
theorem vc_X12_cone_v_140 {f_dm p1 p2 z2945 z4298 z4781 : Int} (h0 : (z2945 = 1 → 0 ≤ p1 ∧ p1 < f_dm)) (h1 : (z2945 = 0 → p1 < 0 ∨ f_dm ≤ p1)) (h2 : 0 ≤ p1 ∧ p1 < f_dm) (h3 : z4781 < 10) (h4 : ¬ z4781 = p1) (h5 : ¬ z2945 = 0) (h6 : (z4298 = 1 → 0 ≤ p2 ∧ p2 < f_dm)) (h7 : (z4298 = 0 → p2 < 0 ∨ f_dm ≤ p2)) (h8 : 0 ≤ p2 ∧ p2 < f_dm) (h9 : 0 ≤ f_dm ∧ f_dm ≤ 10) (h10 : 0 ≤ p1 ∧ p1 ≤ 9) (h11 : 0 ≤ p2 ∧ p2 ≤ 9) (h12 : 1 ≤ z2945 ∧ z2945 ≤ 1) (h13 : 1 ≤ z4298 ∧ z4298 ≤ 1) (h14 : 0 ≤ z4781 ∧ z4781 ≤ 9) : (z4781 = p1 ∧ (0 : Int) = 1) ∨ (¬ z4781 = p1 ∧ (0 : Int) = 0) := by omega
theorem vc_X12_cone_v_143 {f_dm p1 p2 z2945 z4298 z4781 : Int} (h0 : (z2945 = 1 → 0 ≤ p1 ∧ p1 < f_dm)) (h1 : (z2945 = 0 → p1 < 0 ∨ f_dm ≤ p1)) (h2 : 0 ≤ p1 ∧ p1 < f_dm) (h3 : z4781 < 10) (h4 : z4781 = p1) (h5 : ¬ z2945 = 0) (h6 : (z4298 = 1 → 0 ≤ p2 ∧ p2 < f_dm)) (h7 : (z4298 = 0 → p2 < 0 ∨ f_dm ≤ p2)) (h8 : 0 ≤ p2 ∧ p2 < f_dm) (h9 : 0 ≤ f_dm ∧ f_dm ≤ 10) (h10 : 0 ≤ p1 ∧ p1 ≤ 9) (h11 : 0 ≤ p2 ∧ p2 ≤ 9) (h12 : 1 ≤ z2945 ∧ z2945 ≤ 1) (h13 : 1 ≤ z4298 ∧ z4298 ≤ 1) (h14 : 0 ≤ z4781 ∧ z4781 ≤ 9) : (z4781 = p1 ∧ (1 : Int) = 1) ∨ (¬ z4781 = p1 ∧ (1 : Int) = 0) := by omega
theorem vc_X12_cone_v_145 {f_dm p1 p2 z2945 z4298 : Int} (h0 : (z4298 = 1 → 0 ≤ p2 ∧ p2 < f_dm)) (h1 : (z4298 = 0 → p2 < 0 ∨ f_dm ≤ p2)) (h2 : z4298 = 0) (h3 : (z2945 = 1 → 0 ≤ p1 ∧ p1 < f_dm)) (h4 : (z2945 = 0 → p1 < 0 ∨ f_dm ≤ p1)) (h5 : 0 ≤ p1 ∧ p1 < f_dm) (h6 : ¬ p2 = (-1)) (h7 : 0 ≤ f_dm ∧ f_dm ≤ 10) (h8 : 0 ≤ p1 ∧ p1 ≤ 9) (h9 : (-2147483648) ≤ p2 ∧ p2 ≤ 2147483647) (h10 : 1 ≤ z2945 ∧ z2945 ≤ 1) (h11 : 0 ≤ z4298 ∧ z4298 ≤ 0) : z4298 = 0 := by omega
theorem vc_X12_cone_v_146 {f_dm p1 p2 z2945 z4298 : Int} (h0 : (z2945 = 1 → 0 ≤ p1 ∧ p1 < f_dm)) (h1 : (z2945 = 0 → p1 < 0 ∨ f_dm ≤ p1)) (h2 : 0 ≤ p1 ∧ p1 < f_dm) (h3 : ¬ p2 = (-1)) (h4 : (z4298 = 1 → 0 ≤ p2 ∧ p2 < f_dm)) (h5 : (z4298 = 0 → p2 < 0 ∨ f_dm ≤ p2)) (h6 : p2 < 0 ∨ f_dm ≤ p2) (h7 : ¬ z2945 = 0) (h8 : z4298 = 0) (h9 : 0 ≤ f_dm ∧ f_dm ≤ 10) (h10 : 0 ≤ p1 ∧ p1 ≤ 9) (h11 : (-2147483648) ≤ p2 ∧ p2 ≤ 2147483647) (h12 : 1 ≤ z2945 ∧ z2945 ≤ 1) (h13 : 0 ≤ z4298 ∧ z4298 ≤ 0) : p1 < 0 ∨ f_dm ≤ p1 ∨ (¬ p2 = -1 ∧ (p2 < 0 ∨ f_dm ≤ p2)) := by omega
set_option maxRecDepth 4000 in
set_option maxHeartbeats 4000000 in
theorem c_X12_cone_v {l : Launch} {D : va_G} {c : Nat → ClassId} {H0 : Heap} {sa : Nat × Nat × (Nat → Int32)} {w : mW} {μ : mM} (hw : mWF w) (hT : mT w μ) {p1 : Int} (hp1 : (-2147483648) ≤ p1 ∧ p1 ≤ 2147483647) {p2 : Int} (hp2 : (-2147483648) ≤ p2 ∧ p2 ≤ 2147483647) {f_n : Int} (q_f_n : μ 106 6 = f_n) {f_dm : Int} (q_f_dm : μ 106 5 = f_dm) : sC (gG l D c H0 sa) mX12_cone 3 0 0 [.ref 106, iv p1, iv p2] (mk w μ) (qI w [116999] μ (fun z μ1 => ((-2147483648) ≤ z ∧ z ≤ 2147483647) ∧ (conZ (rch (tr μ 0) (tr μ 1) (μ 111) f_n p1.toNat) f_dm p1 p2 z) ∧ True)) := by
  refine sC.of rfl (by decide) (le_t rfl) ?_
  have ht_f_n : (0 ≤ f_n ∧ f_n ≤ 20) := by rw [← q_f_n]; exact hT 106 106 (A_106 hw) 6
  have ht_f_dm : (0 ≤ f_dm ∧ f_dm ≤ 10) := by rw [← q_f_dm]; exact hT 106 106 (A_106 hw) 5
  refine mr_lvE (lv' := [(0, .ref 106), (1, iv p1), (2, iv p2)]) rfl ?_
  refine sv_aload_n (pc := 0) dX12_cone_0 rfl rfl ?_
  refine mr_iload_n (pc := 1) (z := p1) dX12_cone_1 rfl rfl ?_
  refine mr_cVP (pc := 2) (c_X12_isDomain hw hT hp1 q_f_dm) (gOk _ _ _ _ _) dX12_cone_2 (tX12_isDomain _ _ _ _ _) ⟨wV_X12_isDomain, wL_X12_isDomain⟩ wM_X12_49 (gCX12 _ _ _ _ _) rfl (A_106 hw) rfl ⟨le_t rfl, le_t rfl⟩ ⟨le_t rfl, le_t rfl⟩ rfl (le_t rfl) fun z2945 h2944 => ?_
  refine mr_if_eq (pc := 5) (tgt := 21) dX12_cone_5 (by decide) (r32 h2944.1 rfl) (fun h2946 => ?_) (fun h2946 => ?_)
  · have h2947 : 0 ≤ z2945 ∧ z2945 ≤ 0 := (vc_X12_tie_v_1 h2946 h2944.2.1 h2944.2.2.1 ht_f_dm hp1 h2944.1)
    have h2948 : p1 < 0 ∨ f_dm ≤ p1 := (h2944.2.2.1 (vc_X12_tie_v_2 h2944.2.1 h2944.2.2.1 h2946 ht_f_dm hp1 h2947))
    refine mr_iconst (pc := 21) (z := (-1)) dX12_cone_21 ?_
    exact mr_iret dX12_cone_22 rfl (le_t rfl) (le_t rfl) hT mF.refl ⟨(rW (c := (-2147483648)) (d := 2147483647) (rR (x := (-1))) rfl), (Or.inl ⟨(vc_X12_cone_v_3 h2944.2.1 h2944.2.2.1 h2948 h2946 ht_f_dm hp1 hp2 h2947), rfl⟩), trivial⟩
  have h2949 : 1 ≤ z2945 ∧ z2945 ≤ 1 := (vc_X12_tie_v_5 h2946 h2944.2.1 h2944.2.2.1 ht_f_dm hp1 h2944.1)
  have h2950 : 0 ≤ p1 ∧ p1 < f_dm := (h2944.2.1 (vc_X12_tie_v_6 h2944.2.1 h2944.2.2.1 h2946 ht_f_dm hp1 h2949))
  have h2951 : 0 ≤ p1 ∧ p1 ≤ 9 := (vc_X12_tie_v_7 h2950 h2944.2.1 h2944.2.2.1 ht_f_dm hp1 h2949)
  refine mr_iload_n (pc := 8) (z := p2) dX12_cone_8 rfl rfl ?_
  refine mr_iconst (pc := 9) (z := (-1)) dX12_cone_9 ?_
  refine mr_icmp_eq (pc := 10) (tgt := 23) dX12_cone_10 (by decide) hp2 (r32 (rR (x := (-1))) rfl) (fun h2952 => ?_) (fun h2952 => ?_)
  · have h2953 : (-1) ≤ p2 ∧ p2 ≤ (-1) := (vc_X10_verdictOn_17 h2952 hp2)
    refine mr_iconst (pc := 23) (z := 0) dX12_cone_23 ?_
    refine mr_istore_n (pc := 24) (lv' := [(3, iv 0), (0, .ref 106), (1, iv p1), (2, iv p2)]) dX12_cone_24 rfl (by decide) rfl ?_
    have L3394 : ∀ (nL3394 : Nat) (z3392 : Int) (μ3393 : mM), mT w μ3393 → mF [116999] w μ μ3393 → (0 ≤ z3392 ∧ z3392 ≤ 10) → (taS μ μ3393 ∧ cnF μ3393 p1 z3392) → (11 - z3392) < (nL3394 : Int) → sV (gG l D c H0 sa) mX12_cone (sRm 3 0 0) (sZ (gG l D c H0 sa) 0 0 (qI w [116999] μ (fun z μ1 => ((-2147483648) ≤ z ∧ z ≤ 2147483647) ∧ (conZ (rch (tr μ 0) (tr μ 1) (μ 111) f_n p1.toNat) f_dm p1 p2 z) ∧ True))) 25 [(0, .ref 106), (1, iv p1), (2, iv p2), (3, iv z3392)] [] (mk w μ3393) 0 0 := by
      intro nL3394
      induction nL3394 with
      | zero => intro z3392 μ3393 T3396 F3397 h3395 R3399 h3400; exact ((vc_X12_ring_2 h3400 h3395)).elim
      | succ nL3394 ih3401 =>
        intro z3392 μ3393 T3396 F3397 h3395 R3399 h3400
        refine mr_iload_n (pc := 25) (z := z3392) dX12_cone_25 rfl rfl ?_
        refine mr_bipush (pc := 26) (z := 10) dX12_cone_26 (by decide) ?_
        refine mr_icmp_ge (pc := 28) (tgt := 53) dX12_cone_28 (by decide) (r32 h3395 rfl) (r32 (rR (x := 10)) rfl) (fun h3410 => ?_) (fun h3410 => ?_)
        · have h3411 : 10 ≤ z3392 ∧ z3392 ≤ 10 := (vc_X12_ring_6 h3410 h3395)
          refine mr_iconst (pc := 53) (z := 1) dX12_cone_53 ?_
          refine mr_istore_n (pc := 54) (lv' := [(3, iv 1), (0, .ref 106), (1, iv p1), (2, iv p2)]) dX12_cone_54 rfl (by decide) rfl ?_
          have L3663 : ∀ (nL3663 : Nat) (z3661 : Int) (μ3662 : mM) (f_c : Int), mT w μ3662 → mF [116999] w μ3393 μ3662 → cnt μ3662 116 10 = f_c → (0 ≤ z3661 ∧ z3661 ≤ 1) → cnW μ f_n p1 μ3662 z3661 → ((2 * (10 - f_c)) + z3661) < (nL3663 : Int) → sV (gG l D c H0 sa) mX12_cone (sRm 3 0 0) (sZ (gG l D c H0 sa) 0 0 (qI w [116999] μ (fun z μ1 => ((-2147483648) ≤ z ∧ z ≤ 2147483647) ∧ (conZ (rch (tr μ 0) (tr μ 1) (μ 111) f_n p1.toNat) f_dm p1 p2 z) ∧ True))) 55 [(0, .ref 106), (2, iv p2), (3, iv z3661)] [] (mk w μ3662) 0 0 := by
            intro nL3663
            induction nL3663 with
            | zero => intro z3661 μ3662 f_c T3665 F3666 q3670 h3664 R3668 h3669; exact ((vc_X12_cone_v_10 h3669 (by rw [← q3670]; exact cnt_rng (fun i => T3665 116 116 (A_116 hw) i) 10) h3664)).elim
            | succ nL3663 ih3671 =>
              intro z3661 μ3662 f_c T3665 F3666 q3670 h3664 R3668 h3669
              have h3672 : 0 ≤ f_c ∧ f_c ≤ 10 := by rw [← q3670]; exact cnt_rng (fun i => T3665 116 116 (A_116 hw) i) 10
              refine mr_iload_n (pc := 55) (z := z3661) dX12_cone_55 rfl rfl ?_
              refine mr_if_eq (pc := 56) (tgt := 147) dX12_cone_56 (by decide) (r32 h3664 rfl) (fun h3739 => ?_) (fun h3739 => ?_)
              · have h3740 : 0 ≤ z3661 ∧ z3661 ≤ 0 := (vc_X12_ring_22 h3739 h3664)
                refine mr_iconst (pc := 147) (z := 0) dX12_cone_147 ?_
                refine mr_istore (pc := 148) (lv' := [(4, iv 0), (0, .ref 106), (2, iv p2), (3, iv z3661)]) dX12_cone_148 (by decide) rfl ?_
                refine mr_iconst (pc := 150) (z := 0) dX12_cone_150 ?_
                refine mr_istore (pc := 151) (lv' := [(5, iv 0), (4, iv 0), (0, .ref 106), (2, iv p2), (3, iv z3661)]) dX12_cone_151 (by decide) rfl ?_
                have L3831 : ∀ (nL3831 : Nat) (z3830 z3829 : Int), True → (0 ≤ z3830 ∧ z3830 ≤ 10) → (0 ≤ z3829 ∧ z3829 ≤ 10) → (z3829 ≤ f_dm) → (z3830 ≤ z3829) → z3830 = cnP (fun d => μ3662 116 d = 1) (z3829).toNat → (11 - z3829) < (nL3831 : Int) → sV (gG l D c H0 sa) mX12_cone (sRm 3 0 0) (sZ (gG l D c H0 sa) 0 0 (qI w [116999] μ (fun z μ1 => ((-2147483648) ≤ z ∧ z ≤ 2147483647) ∧ (conZ (rch (tr μ 0) (tr μ 1) (μ 111) f_n p1.toNat) f_dm p1 p2 z) ∧ True))) 153 [(0, .ref 106), (2, iv p2), (4, iv z3830), (5, iv z3829)] [] (mk w μ3662) 0 0 := by
                  intro nL3831
                  induction nL3831 with
                  | zero => intro z3830 z3829 _ h3832 h3833 h3837 h3838 R3839 h3840; exact ((vc_X12_cone_v_13 h3840 h3837 h3838 h2944.2.1 h2944.2.2.1 h2950 ht_f_dm h2951 h2949 h3833 h3832)).elim
                  | succ nL3831 ih3841 =>
                    intro z3830 z3829 _ h3832 h3833 h3837 h3838 R3839 h3840
                    refine mr_iload (pc := 153) (z := z3829) dX12_cone_153 rfl ?_
                    refine sv_aload_n (pc := 155) dX12_cone_155 rfl rfl ?_
                    refine gk_X12_5 (pc := 156) dX12_cone_156 wF_X12_34 (A_106 hw) (F3666.f (A_106 hw) rfl (F3397.f (A_106 hw) rfl q_f_dm)) ?_
                    refine mr_icmp_ge (pc := 159) (tgt := 188) dX12_cone_159 (by decide) (r32 h3833 rfl) (r32 ht_f_dm rfl) (fun h3849 => ?_) (fun h3849 => ?_)
                    · refine mr_iload_n (pc := 188) (z := p2) dX12_cone_188 rfl rfl ?_
                      refine mr_if_ge (pc := 189) (tgt := 197) dX12_cone_189 (by decide) (r32 h2953 rfl) (fun h => ((vc_X12_next_265 h h2953)).elim) (fun _ => ?_)
                      refine mr_iload (pc := 192) (z := z3830) dX12_cone_192 rfl ?_
                      refine sv_goto (pc := 194) (tgt := 211) dX12_cone_194 (by decide) ?_
                      exact mr_iret dX12_cone_211 rfl (le_t rfl) (le_t rfl) T3665 (mF.call (mF.call mF.refl F3397 rfl) F3666 rfl) ⟨(rW (c := (-2147483648)) (d := 2147483647) h3832 rfl), (Or.inr ⟨(vc_X12_cone_v_15 h2944.2.1 h2944.2.2.1 h2950 h2952 h3837 h3849 h2946 h3838 ht_f_dm h2951 h2953 h2949 h3833 h3832), conA.cntR (cnW.z R3668 (vc_X12_goes_7 h3739 h3740)) R3839 (vc_X12_cone_v_16 h2944.2.1 h2944.2.2.1 h2950 h2952 h3837 h3838 h3849 h2946 ht_f_dm h2951 h2953 h2949 h3833 h3832) (vc_X12_cone_v_17 h2944.2.1 h2944.2.2.1 h2950 h2952 h3837 h3849 h2946 h3838 ht_f_dm h2951 h2953 h2949 h3833 h3832) (vc_X12_cone_v_18 h2944.2.1 h2944.2.2.1 h2950 h2952 h3837 h3849 h2946 h3838 ht_f_dm h2951 h2953 h2949 h3833 h3832)⟩), trivial⟩
                    have h3850 : 0 ≤ z3829 ∧ z3829 ≤ 9 := (vc_X12_cone_v_19 h3849 h2944.2.1 h2944.2.2.1 h2950 h3837 h3838 ht_f_dm h2951 h2949 h3833 h3832)
                    have h3851 : 1 ≤ f_dm ∧ f_dm ≤ 10 := (vc_X12_cone_v_20 h3849 h2944.2.1 h2944.2.2.1 h2950 h3837 h3838 ht_f_dm h2951 h2949 h3850 h3832)
                    refine mr_iload (pc := 162) (z := z3830) dX12_cone_162 rfl ?_
                    refine sv_aload_n (pc := 164) dX12_cone_164 rfl rfl ?_
                    refine gf_X12_13 (pc := 165) dX12_cone_165 wF_X12_69 (A_106 hw) T3665 ?_
                    refine mr_iload (pc := 168) (z := z3829) dX12_cone_168 rfl ?_
                    refine la_116 (pc := 170) dX12_cone_170 (A_116 hw) T3665 (rIx (n := 10) h3850 rfl) fun z3852 q3853 h3854 => ?_
                    refine mr_if_eq (pc := 171) (tgt := 178) dX12_cone_171 (by decide) (r32 h3854 rfl) (fun h3855 => ?_) (fun h3855 => ?_)
                    · have h3856 : 0 ≤ z3852 ∧ z3852 ≤ 0 := (vc_X12_ring_22 h3855 h3854)
                      refine mr_iconst (pc := 178) (z := 0) dX12_cone_178 ?_
                      refine mr_iadd (pc := 179) (x := z3830) (y := 0) dX12_cone_179 ?_
                      refine mr_istore (pc := 180) (lv' := [(4, iv (z3830 + 0)), (0, .ref 106), (2, iv p2), (5, iv z3829)]) dX12_cone_180 (by decide) rfl ?_
                      refine mr_iinc (pc := 182) (lv' := [(5, iv (z3829 + 1)), (4, iv (z3830 + 0)), (0, .ref 106), (2, iv p2)]) dX12_cone_182 rfl (by decide) rfl ?_
                      refine sv_goto (pc := 185) (tgt := 153) dX12_cone_185 (by decide) ?_
                      refine mr_lvS (lv' := [(0, .ref 106), (2, iv p2), (4, iv (z3830 + 0)), (5, iv (z3829 + 1))]) (List.forall_mem_cons.mpr ⟨rfl, List.forall_mem_cons.mpr ⟨rfl, List.forall_mem_cons.mpr ⟨rfl, List.forall_mem_cons.mpr ⟨rfl, fun _ h => absurd h List.not_mem_nil⟩⟩⟩⟩) ?_
                      exact ih3841 (z3830 + 0) (z3829 + 1) trivial (rAdd (e := 0) (f := 10) h3832 (rR (x := 0)) rfl) (rW (c := 0) (d := 10) (rAdd (e := 1) (f := 10) h3850 (rR (x := 1)) rfl) rfl) (vc_X12_cone_v_22 h2944.2.1 h2944.2.2.1 h2950 h3837 h3838 h3849 h2946 h3851 h2951 h2949 h3850 h3832) (vc_X12_cone_v_23 h3837 h3838 h3849 h2944.2.1 h2944.2.2.1 h2950 h3851 h2951 h2949 h3850 h3832) (cnP.stepI R3839 (vc_X12_cone_v_25 h3837 h3838 h3849 h2944.2.1 h2944.2.2.1 h2950 h3851 h2951 h2949 h3850 h3832) (by show (μ3662 116 (z3829.toNat) = 1 ∧ _) ∨ (¬ μ3662 116 (z3829.toNat) = 1 ∧ _); rw [q3853]; exact (vc_X12_cone_v_26 h3838 h3855 h3837 h3849 h3851 h3850 h3832 h3856))) (vc_X12_cone_v_24 (nS h3840) h3837 h3838 h3849 h2944.2.1 h2944.2.2.1 h2950 h3851 h2951 h2949 h3850 h3832)
                    have h3857 : 1 ≤ z3852 ∧ z3852 ≤ 1 := (vc_X12_ring_24 h3855 h3854)
                    refine mr_iconst (pc := 174) (z := 1) dX12_cone_174 ?_
                    refine sv_goto (pc := 175) (tgt := 179) dX12_cone_175 (by decide) ?_
                    refine mr_iadd (pc := 179) (x := z3830) (y := 1) dX12_cone_179 ?_
                    refine mr_istore (pc := 180) (lv' := [(4, iv (z3830 + 1)), (0, .ref 106), (2, iv p2), (5, iv z3829)]) dX12_cone_180 (by decide) rfl ?_
                    refine mr_iinc (pc := 182) (lv' := [(5, iv (z3829 + 1)), (4, iv (z3830 + 1)), (0, .ref 106), (2, iv p2)]) dX12_cone_182 rfl (by decide) rfl ?_
                    refine sv_goto (pc := 185) (tgt := 153) dX12_cone_185 (by decide) ?_
                    refine mr_lvS (lv' := [(0, .ref 106), (2, iv p2), (4, iv (z3830 + 1)), (5, iv (z3829 + 1))]) (List.forall_mem_cons.mpr ⟨rfl, List.forall_mem_cons.mpr ⟨rfl, List.forall_mem_cons.mpr ⟨rfl, List.forall_mem_cons.mpr ⟨rfl, fun _ h => absurd h List.not_mem_nil⟩⟩⟩⟩) ?_
                    exact ih3841 (z3830 + 1) (z3829 + 1) trivial (vc_X12_cone_v_28 h3838 h3837 h3849 h3851 h3850 h3832) (rW (c := 0) (d := 10) (rAdd (e := 1) (f := 10) h3850 (rR (x := 1)) rfl) rfl) (vc_X12_cone_v_22 h2944.2.1 h2944.2.2.1 h2950 h3837 h3838 h3849 h2946 h3851 h2951 h2949 h3850 h3832) (vc_X12_cone_v_29 h3837 h3838 h3849 h2944.2.1 h2944.2.2.1 h2950 h3851 h2951 h2949 h3850 h3832) (cnP.stepI R3839 (vc_X12_cone_v_25 h3837 h3838 h3849 h2944.2.1 h2944.2.2.1 h2950 h3851 h2951 h2949 h3850 h3832) (by show (μ3662 116 (z3829.toNat) = 1 ∧ _) ∨ (¬ μ3662 116 (z3829.toNat) = 1 ∧ _); rw [q3853]; exact (vc_X12_cone_v_30 h3838 h3855 h3837 h3849 h3851 h3850 h3832 h3857))) (vc_X12_cone_v_24 (nS h3840) h3837 h3838 h3849 h2944.2.1 h2944.2.2.1 h2950 h3851 h2951 h2949 h3850 h3832)
                refine mr_lvS (lv' := [(0, .ref 106), (2, iv p2), (4, iv 0), (5, iv 0)]) (List.forall_mem_cons.mpr ⟨rfl, List.forall_mem_cons.mpr ⟨rfl, List.forall_mem_cons.mpr ⟨rfl, List.forall_mem_cons.mpr ⟨rfl, fun _ h => absurd h List.not_mem_nil⟩⟩⟩⟩) ?_
                exact L3831 12 0 0 trivial (rW (c := 0) (d := 10) (rR (x := 0)) rfl) (rW (c := 0) (d := 10) (rR (x := 0)) rfl) (vc_X12_cone_v_31 h2944.2.1 h2944.2.2.1 h2950 h2946 ht_f_dm h2951 h2949) vc_X12_dropMark_20 rfl vc_X12_ring_27
              have h3858 : 1 ≤ z3661 ∧ z3661 ≤ 1 := (vc_X12_ring_24 h3739 h3664)
              refine mr_iconst (pc := 59) (z := 0) dX12_cone_59 ?_
              refine mr_istore_n (pc := 60) (lv' := [(3, iv 0), (0, .ref 106), (2, iv p2)]) dX12_cone_60 rfl (by decide) rfl ?_
              refine mr_iconst (pc := 61) (z := 0) dX12_cone_61 ?_
              refine mr_istore (pc := 62) (lv' := [(4, iv 0), (3, iv 0), (0, .ref 106), (2, iv p2)]) dX12_cone_62 (by decide) rfl ?_
              have L4214 : ∀ (nL4214 : Nat) (z4212 z4211 : Int) (μ4213 : mM) (f_d : Int), mT w μ4213 → mF [116999] w μ3662 μ4213 → cnt μ4213 116 10 = f_d → (0 ≤ z4212 ∧ z4212 ≤ 1) → (0 ≤ z4211 ∧ z4211 ≤ 20) → (f_c ≤ f_d) → (z4212 = 0 ∨ f_c + 1 ≤ f_d) → cnV μ f_n p1 μ4213 z4212 z4211 → (21 - z4211) < (nL4214 : Int) → sV (gG l D c H0 sa) mX12_cone (sRm 3 0 0) (sZ (gG l D c H0 sa) 0 0 (qI w [116999] μ (fun z μ1 => ((-2147483648) ≤ z ∧ z ≤ 2147483647) ∧ (conZ (rch (tr μ 0) (tr μ 1) (μ 111) f_n p1.toNat) f_dm p1 p2 z) ∧ True))) 64 [(0, .ref 106), (2, iv p2), (3, iv z4212), (4, iv z4211)] [] (mk w μ4213) 0 0 := by
                intro nL4214
                induction nL4214 with
                | zero => intro z4212 z4211 μ4213 f_d T4217 F4218 q4224 h4215 h4216 h4220 h4221 R4222 h4223; exact ((vc_X12_cone_v_35 h4223 (by rw [← q4224]; exact cnt_rng (fun i => T4217 116 116 (A_116 hw) i) 10) h4220 h4221 h3672 h4216 h4215)).elim
                | succ nL4214 ih4225 =>
                  intro z4212 z4211 μ4213 f_d T4217 F4218 q4224 h4215 h4216 h4220 h4221 R4222 h4223
                  have h4226 : 0 ≤ f_d ∧ f_d ≤ 10 := by rw [← q4224]; exact cnt_rng (fun i => T4217 116 116 (A_116 hw) i) 10
                  refine mr_iload (pc := 64) (z := z4211) dX12_cone_64 rfl ?_
                  refine sv_aload_n (pc := 66) dX12_cone_66 rfl rfl ?_
                  refine gk_X12_6 (pc := 67) dX12_cone_67 wF_X12_37 (A_106 hw) (F4218.f (A_106 hw) rfl (F3666.f (A_106 hw) rfl (F3397.f (A_106 hw) rfl q_f_n))) ?_
                  refine mr_icmp_ge (pc := 70) (tgt := 144) dX12_cone_70 (by decide) (r32 h4216 rfl) (r32 ht_f_n rfl) (fun h4253 => ?_) (fun h4253 => ?_)
                  · refine sv_goto (pc := 144) (tgt := 55) dX12_cone_144 (by decide) ?_
                    refine mr_lvS (lv' := [(0, .ref 106), (2, iv p2), (3, iv z4212)]) (List.forall_mem_cons.mpr ⟨rfl, List.forall_mem_cons.mpr ⟨rfl, List.forall_mem_cons.mpr ⟨rfl, fun _ h => absurd h List.not_mem_nil⟩⟩⟩) ?_
                    exact ih3671 z4212 μ4213 f_d T4217 (mF.call (mF.call mF.refl F3666 rfl) F4218 rfl) q4224 h4215 (cnW.next R4222 (vc_X12_tieOf_v_3 h4253 ht_f_n h4216)) (vc_X12_cone_v_36 (nS h3669) h3739 h4220 h4221 h3672 h4226 h3858 h4215)
                  have h4254 : 0 ≤ z4211 ∧ z4211 ≤ 19 := (vc_X3_putAttributes_10 h4253 ht_f_n h4216)
                  have h4255 : 1 ≤ f_n ∧ f_n ≤ 20 := (vc_X3_putAttributes_11 h4253 ht_f_n h4254)
                  refine sv_aload_n (pc := 73) dX12_cone_73 rfl rfl ?_
                  refine gf_X12_8 (pc := 74) dX12_cone_74 wF_X12_46 (A_106 hw) T4217 ?_
                  refine mr_iload (pc := 77) (z := z4211) dX12_cone_77 rfl ?_
                  refine la_111 (pc := 79) dX12_cone_79 (A_111 hw) T4217 (rIx (n := 20) h4254 rfl) fun z4256 q4257 h4258 => ?_
                  refine mr_if_ne (pc := 80) (tgt := 138) dX12_cone_80 (by decide) (r32 h4258 rfl) (fun h4259 => ?_) (fun h4259 => ?_)
                  · have h4260 : 1 ≤ z4256 ∧ z4256 ≤ 2 := (vc_X12_provides_3 h4259 h4258)
                    refine mr_iinc (pc := 138) (lv' := [(4, iv (z4211 + 1)), (0, .ref 106), (2, iv p2), (3, iv z4212)]) dX12_cone_138 rfl (by decide) rfl ?_
                    refine sv_goto (pc := 141) (tgt := 64) dX12_cone_141 (by decide) ?_
                    refine mr_lvS (lv' := [(0, .ref 106), (2, iv p2), (3, iv z4212), (4, iv (z4211 + 1))]) (List.forall_mem_cons.mpr ⟨rfl, List.forall_mem_cons.mpr ⟨rfl, List.forall_mem_cons.mpr ⟨rfl, List.forall_mem_cons.mpr ⟨rfl, fun _ h => absurd h List.not_mem_nil⟩⟩⟩⟩) ?_
                    exact ih4225 z4212 (z4211 + 1) μ4213 f_d T4217 (mF.call mF.refl F4218 rfl) q4224 h4215 (rW (c := 0) (d := 20) (rAdd (e := 1) (f := 20) h4254 (rR (x := 1)) rfl) rfl) (vc_X12_cone_v_41 h4220 h4221 h3672 h4226 h4215) (vc_X12_cone_v_42 h4220 h4221 h3672 h4226 h4215) (cnV.skipK R4222 (vc_X12_tieOf_v_7 h4253 h4255 h4254) q4257 (vc_X4_leadBack_42 h4259 h4260)) (vc_X3_putAttributes_12 (nS h4223) h4253 h4255 h4254)
                  have h4261 : 0 ≤ z4256 ∧ z4256 ≤ 0 := (vc_X12_provides_4 h4259 h4258)
                  refine sv_aload_n (pc := 83) dX12_cone_83 rfl rfl ?_
                  refine gf_X12_13 (pc := 84) dX12_cone_84 wF_X12_69 (A_106 hw) T4217 ?_
                  refine sv_aload_n (pc := 87) dX12_cone_87 rfl rfl ?_
                  refine gf_X12_7 (pc := 88) dX12_cone_88 wF_X12_40 (A_106 hw) T4217 ?_
                  refine mr_iconst (pc := 91) (z := 2) dX12_cone_91 ?_
                  refine mr_iload (pc := 92) (z := z4211) dX12_cone_92 rfl ?_
                  refine mr_imul (pc := 94) (x := 2) (y := z4211) dX12_cone_94 ?_
                  refine la_110 (pc := 95) dX12_cone_95 (A_110 hw) T4217 (rIx (n := 40) (rMulL (n := 2) (e := 0) (f := 38) h4254 rfl) rfl) fun z4262 q4263 h4264 => ?_
                  refine la_116 (pc := 96) dX12_cone_96 (A_116 hw) T4217 (rIx (n := 10) h4264 rfl) fun z4265 q4266 h4267 => ?_
                  refine mr_if_eq (pc := 97) (tgt := 138) dX12_cone_97 (by decide) (r32 h4267 rfl) (fun h4268 => ?_) (fun h4268 => ?_)
                  · have h4269 : 0 ≤ z4265 ∧ z4265 ≤ 0 := (vc_X12_ring_22 h4268 h4267)
                    refine mr_iinc (pc := 138) (lv' := [(4, iv (z4211 + 1)), (0, .ref 106), (2, iv p2), (3, iv z4212)]) dX12_cone_138 rfl (by decide) rfl ?_
                    refine sv_goto (pc := 141) (tgt := 64) dX12_cone_141 (by decide) ?_
                    refine mr_lvS (lv' := [(0, .ref 106), (2, iv p2), (3, iv z4212), (4, iv (z4211 + 1))]) (List.forall_mem_cons.mpr ⟨rfl, List.forall_mem_cons.mpr ⟨rfl, List.forall_mem_cons.mpr ⟨rfl, List.forall_mem_cons.mpr ⟨rfl, fun _ h => absurd h List.not_mem_nil⟩⟩⟩⟩) ?_
                    exact ih4225 z4212 (z4211 + 1) μ4213 f_d T4217 (mF.call mF.refl F4218 rfl) q4224 h4215 (rW (c := 0) (d := 20) (rAdd (e := 1) (f := 20) h4254 (rR (x := 1)) rfl) rfl) (vc_X12_cone_v_41 h4220 h4221 h3672 h4226 h4215) (vc_X12_cone_v_42 h4220 h4221 h3672 h4226 h4215) (cnV.skipA R4222 (vc_X12_tieOf_v_7 h4253 h4255 h4254) q4263 (vc_X12_tieOf_v_8 h4253 h4255 h4254) q4266 (vc_X12_cone_v_49 h4268 h4269)) (vc_X3_putAttributes_12 (nS h4223) h4253 h4255 h4254)
                  have h4270 : 1 ≤ z4265 ∧ z4265 ≤ 1 := (vc_X12_ring_24 h4268 h4267)
                  refine sv_aload_n (pc := 100) dX12_cone_100 rfl rfl ?_
                  refine gf_X12_13 (pc := 101) dX12_cone_101 wF_X12_69 (A_106 hw) T4217 ?_
                  refine sv_aload_n (pc := 104) dX12_cone_104 rfl rfl ?_
                  refine gf_X12_7 (pc := 105) dX12_cone_105 wF_X12_40 (A_106 hw) T4217 ?_
                  refine mr_iconst (pc := 108) (z := 2) dX12_cone_108 ?_
                  refine mr_iload (pc := 109) (z := z4211) dX12_cone_109 rfl ?_
                  refine mr_imul (pc := 111) (x := 2) (y := z4211) dX12_cone_111 ?_
                  refine mr_iconst (pc := 112) (z := 1) dX12_cone_112 ?_
                  refine mr_iadd (pc := 113) (x := (2 * z4211)) (y := 1) dX12_cone_113 ?_
                  refine la_110 (pc := 114) dX12_cone_114 (A_110 hw) T4217 (rIx (n := 40) (rAdd (e := 1) (f := 39) (rMulL (n := 2) (e := 0) (f := 38) h4254 rfl) (rR (x := 1)) rfl) rfl) fun z4271 q4272 h4273 => ?_
                  refine la_116 (pc := 115) dX12_cone_115 (A_116 hw) T4217 (rIx (n := 10) h4273 rfl) fun z4274 q4275 h4276 => ?_
                  refine mr_if_ne (pc := 116) (tgt := 138) dX12_cone_116 (by decide) (r32 h4276 rfl) (fun h4277 => ?_) (fun h4277 => ?_)
                  · have h4278 : 1 ≤ z4274 ∧ z4274 ≤ 1 := (vc_X12_ring_24 h4277 h4276)
                    refine mr_iinc (pc := 138) (lv' := [(4, iv (z4211 + 1)), (0, .ref 106), (2, iv p2), (3, iv z4212)]) dX12_cone_138 rfl (by decide) rfl ?_
                    refine sv_goto (pc := 141) (tgt := 64) dX12_cone_141 (by decide) ?_
                    refine mr_lvS (lv' := [(0, .ref 106), (2, iv p2), (3, iv z4212), (4, iv (z4211 + 1))]) (List.forall_mem_cons.mpr ⟨rfl, List.forall_mem_cons.mpr ⟨rfl, List.forall_mem_cons.mpr ⟨rfl, List.forall_mem_cons.mpr ⟨rfl, fun _ h => absurd h List.not_mem_nil⟩⟩⟩⟩) ?_
                    exact ih4225 z4212 (z4211 + 1) μ4213 f_d T4217 (mF.call mF.refl F4218 rfl) q4224 h4215 (rW (c := 0) (d := 20) (rAdd (e := 1) (f := 20) h4254 (rR (x := 1)) rfl) rfl) (vc_X12_cone_v_41 h4220 h4221 h3672 h4226 h4215) (vc_X12_cone_v_42 h4220 h4221 h3672 h4226 h4215) (cnV.skipB R4222 (vc_X12_tieOf_v_7 h4253 h4255 h4254) q4272 (vc_X12_tieOf_v_11 h4253 h4255 h4254) q4275 (vc_X12_best_l_18 h4277 h4278)) (vc_X3_putAttributes_12 (nS h4223) h4253 h4255 h4254)
                  have h4279 : 0 ≤ z4274 ∧ z4274 ≤ 0 := (vc_X12_ring_22 h4277 h4276)
                  refine sv_aload_n (pc := 119) dX12_cone_119 rfl rfl ?_
                  refine gf_X12_13 (pc := 120) dX12_cone_120 wF_X12_69 (A_106 hw) T4217 ?_
                  refine sv_aload_n (pc := 123) dX12_cone_123 rfl rfl ?_
                  refine gf_X12_7 (pc := 124) dX12_cone_124 wF_X12_40 (A_106 hw) T4217 ?_
                  refine mr_iconst (pc := 127) (z := 2) dX12_cone_127 ?_
                  refine mr_iload (pc := 128) (z := z4211) dX12_cone_128 rfl ?_
                  refine mr_imul (pc := 130) (x := 2) (y := z4211) dX12_cone_130 ?_
                  refine mr_iconst (pc := 131) (z := 1) dX12_cone_131 ?_
                  refine mr_iadd (pc := 132) (x := (2 * z4211)) (y := 1) dX12_cone_132 ?_
                  refine lk_110 (pc := 133) dX12_cone_133 (A_110 hw) (rIx (n := 40) (rAdd (e := 1) (f := 39) (rMulL (n := 2) (e := 0) (f := 38) h4254 rfl) (rR (x := 1)) rfl) rfl) q4272 ?_
                  refine mr_iconst (pc := 134) (z := 1) dX12_cone_134 ?_
                  refine ss_116 (pc := 135) dX12_cone_135 (A_116 hw) T4217 (rIx (n := 10) h4273 rfl) (rW (c := 0) (d := 1) (rR (x := 1)) rfl) fun μ4280 u4281 T4282 => ?_
                  refine mr_iconst (pc := 136) (z := 1) dX12_cone_136 ?_
                  refine mr_istore_n (pc := 137) (lv' := [(3, iv 1), (0, .ref 106), (2, iv p2), (4, iv z4211)]) dX12_cone_137 rfl (by decide) rfl ?_
                  refine mr_iinc (pc := 138) (lv' := [(4, iv (z4211 + 1)), (3, iv 1), (0, .ref 106), (2, iv p2)]) dX12_cone_138 rfl (by decide) rfl ?_
                  refine sv_goto (pc := 141) (tgt := 64) dX12_cone_141 (by decide) ?_
                  refine mr_lvS (lv' := [(0, .ref 106), (2, iv p2), (3, iv 1), (4, iv (z4211 + 1))]) (List.forall_mem_cons.mpr ⟨rfl, List.forall_mem_cons.mpr ⟨rfl, List.forall_mem_cons.mpr ⟨rfl, List.forall_mem_cons.mpr ⟨rfl, fun _ h => absurd h List.not_mem_nil⟩⟩⟩⟩) ?_
                  exact ih4225 1 (z4211 + 1) μ4280 ((f_d + 1) - z4274) T4282 (mF.up (mF.call mF.refl F4218 rfl) (A_116 hw) u4281 rfl) (cntU u4281 (rIx (n := 10) h4273 rfl) rfl q4224 q4275) (rW (c := 0) (d := 1) (rR (x := 1)) rfl) (rW (c := 0) (d := 20) (rAdd (e := 1) (f := 20) h4254 (rR (x := 1)) rfl) rfl) (vc_X12_cone_v_55 h4220 h4221 h4277 h3672 h4226 h4215 h4279) (vc_X12_cone_v_56 h4220 h4221 h4277 h3672 h4226 h4215 h4279) (cnV.add R4222 (vc_X12_tieOf_v_15 h4253 h4255 h4254) q4257 (vc_X12_goes_7 h4259 h4261) q4263 (vc_X12_tieOf_v_8 h4253 h4255 h4254) (vc_X12_cone_v_59 h4264) q4266 (vc_X12_best_l_18 h4268 h4270) q4272 (vc_X12_tieOf_v_11 h4253 h4255 h4254) (vc_X12_cone_v_59 h4273) u4281 vc_X12_goes_17) (vc_X3_putAttributes_12 (nS h4223) h4253 h4255 h4254)
              refine mr_lvS (lv' := [(0, .ref 106), (2, iv p2), (3, iv 0), (4, iv 0)]) (List.forall_mem_cons.mpr ⟨rfl, List.forall_mem_cons.mpr ⟨rfl, List.forall_mem_cons.mpr ⟨rfl, List.forall_mem_cons.mpr ⟨rfl, fun _ h => absurd h List.not_mem_nil⟩⟩⟩⟩) ?_
              exact L4214 22 0 0 μ3662 f_c T3665 mF.refl q3670 (rW (c := 0) (d := 1) (rR (x := 0)) rfl) (rW (c := 0) (d := 20) (rR (x := 0)) rfl) (vc_X12_rethink_u_3 h3672) (vc_X12_cone_v_64 h3672) (cnV.start R3668) vc_X12_feed_15
          obtain ⟨z4283, q4284⟩ : ∃ z, cnt μ3393 116 10 = z := ⟨_, rfl⟩
          have h4285 : 0 ≤ z4283 ∧ z4283 ≤ 10 := by rw [← q4284]; exact cnt_rng (fun i => T3396 116 116 (A_116 hw) i) 10
          refine mr_lvS (lv' := [(0, .ref 106), (2, iv p2), (3, iv 1)]) (List.forall_mem_cons.mpr ⟨rfl, List.forall_mem_cons.mpr ⟨rfl, List.forall_mem_cons.mpr ⟨rfl, fun _ h => absurd h List.not_mem_nil⟩⟩⟩) ?_
          exact L3663 22 1 μ3393 z4283 T3396 mF.refl q4284 (rW (c := 0) (d := 1) (rR (x := 1)) rfl) (cnW.start (R3399).1 (R3399).2 (vc_X12_cone_v_67 h3410 h3411) (vc_X12_cone_v_68 h2944.2.1 h2944.2.2.1 h2950 h2946 ht_f_dm h2951 h2949)) (vc_X12_cone_v_66 h4285)
        have h4286 : 0 ≤ z3392 ∧ z3392 ≤ 9 := (vc_X12_ring_57 h3410 h3395)
        refine sv_aload_n (pc := 31) dX12_cone_31 rfl rfl ?_
        refine gf_X12_13 (pc := 32) dX12_cone_32 wF_X12_69 (A_106 hw) T3396 ?_
        refine mr_iload_n (pc := 35) (z := z3392) dX12_cone_35 rfl rfl ?_
        refine mr_iload_n (pc := 36) (z := z3392) dX12_cone_36 rfl rfl ?_
        refine mr_iload_n (pc := 37) (z := p1) dX12_cone_37 rfl rfl ?_
        refine mr_icmp_ne (pc := 38) (tgt := 45) dX12_cone_38 (by decide) (r32 h4286 rfl) (r32 h2951 rfl) (fun h4287 => ?_) (fun h4287 => ?_)
        · refine mr_iconst (pc := 45) (z := 0) dX12_cone_45 ?_
          refine ss_116 (pc := 46) dX12_cone_46 (A_116 hw) T3396 (rIx (n := 10) h4286 rfl) (rW (c := 0) (d := 1) (rR (x := 0)) rfl) fun μ4288 u4289 T4290 => ?_
          refine mr_iinc (pc := 47) (lv' := [(3, iv (z3392 + 1)), (0, .ref 106), (1, iv p1), (2, iv p2)]) dX12_cone_47 rfl (by decide) rfl ?_
          refine sv_goto (pc := 50) (tgt := 25) dX12_cone_50 (by decide) ?_
          refine mr_lvS (lv' := [(0, .ref 106), (1, iv p1), (2, iv p2), (3, iv (z3392 + 1))]) (List.forall_mem_cons.mpr ⟨rfl, List.forall_mem_cons.mpr ⟨rfl, List.forall_mem_cons.mpr ⟨rfl, List.forall_mem_cons.mpr ⟨rfl, fun _ h => absurd h List.not_mem_nil⟩⟩⟩⟩) ?_
          exact ih3401 (z3392 + 1) μ4288 T4290 (mF.up (mF.call mF.refl F3397 rfl) (A_116 hw) u4289 rfl) (rW (c := 0) (d := 10) (rAdd (e := 1) (f := 10) h4286 (rR (x := 1)) rfl) rfl) ⟨(R3399).1.up u4289, cnF.up (R3399).2 (vc_X12_cone_v_71 h3410 h4287 h2944.2.1 h2944.2.2.1 h2950 ht_f_dm h2951 h2949 h4286) u4289 (vc_X12_cone_v_72 h2944.2.1 h2944.2.2.1 h2950 h3410 h4287 h2946 ht_f_dm h2951 h2949 h4286)⟩ (vc_X12_cone_v_70 (nS h3400) h3410 h4287 h2944.2.1 h2944.2.2.1 h2950 ht_f_dm h2951 h2949 h4286)
        refine mr_iconst (pc := 41) (z := 1) dX12_cone_41 ?_
        refine sv_goto (pc := 42) (tgt := 46) dX12_cone_42 (by decide) ?_
        refine ss_116 (pc := 46) dX12_cone_46 (A_116 hw) T3396 (rIx (n := 10) h4286 rfl) (rW (c := 0) (d := 1) (rR (x := 1)) rfl) fun μ4291 u4292 T4293 => ?_
        refine mr_iinc (pc := 47) (lv' := [(3, iv (z3392 + 1)), (0, .ref 106), (1, iv p1), (2, iv p2)]) dX12_cone_47 rfl (by decide) rfl ?_
        refine sv_goto (pc := 50) (tgt := 25) dX12_cone_50 (by decide) ?_
        refine mr_lvS (lv' := [(0, .ref 106), (1, iv p1), (2, iv p2), (3, iv (z3392 + 1))]) (List.forall_mem_cons.mpr ⟨rfl, List.forall_mem_cons.mpr ⟨rfl, List.forall_mem_cons.mpr ⟨rfl, List.forall_mem_cons.mpr ⟨rfl, fun _ h => absurd h List.not_mem_nil⟩⟩⟩⟩) ?_
        exact ih3401 (z3392 + 1) μ4291 T4293 (mF.up (mF.call mF.refl F3397 rfl) (A_116 hw) u4292 rfl) (rW (c := 0) (d := 10) (rAdd (e := 1) (f := 10) h4286 (rR (x := 1)) rfl) rfl) ⟨(R3399).1.up u4292, cnF.up (R3399).2 (vc_X12_cone_v_74 h3410 h4287 h2944.2.1 h2944.2.2.1 h2950 ht_f_dm h2951 h2949 h4286) u4292 (vc_X12_cone_v_75 h2944.2.1 h2944.2.2.1 h2950 h3410 h4287 h2946 ht_f_dm h2951 h2949 h4286)⟩ (vc_X12_cone_v_73 (nS h3400) h3410 h4287 h2944.2.1 h2944.2.2.1 h2950 ht_f_dm h2951 h2949 h4286)
    refine mr_lvS (lv' := [(0, .ref 106), (1, iv p1), (2, iv p2), (3, iv 0)]) (List.forall_mem_cons.mpr ⟨rfl, List.forall_mem_cons.mpr ⟨rfl, List.forall_mem_cons.mpr ⟨rfl, List.forall_mem_cons.mpr ⟨rfl, fun _ h => absurd h List.not_mem_nil⟩⟩⟩⟩) ?_
    exact L3394 12 0 μ hT mF.refl (rW (c := 0) (d := 10) (rR (x := 0)) rfl) ⟨taS.refl, cnF.zero vc_X10_tieBetween_v_23⟩ vc_X12_ring_27
  refine sv_aload_n (pc := 13) dX12_cone_13 rfl rfl ?_
  refine mr_iload_n (pc := 14) (z := p2) dX12_cone_14 rfl rfl ?_
  refine mr_cVP (pc := 15) (c_X12_isDomain hw hT hp2 q_f_dm) (gOk _ _ _ _ _) dX12_cone_15 (tX12_isDomain _ _ _ _ _) ⟨wV_X12_isDomain, wL_X12_isDomain⟩ wM_X12_49 (gCX12 _ _ _ _ _) rfl (A_106 hw) rfl ⟨le_t rfl, le_t rfl⟩ ⟨le_t rfl, le_t rfl⟩ rfl (le_t rfl) fun z4298 h4297 => ?_
  refine mr_if_ne (pc := 18) (tgt := 23) dX12_cone_18 (by decide) (r32 h4297.1 rfl) (fun h4299 => ?_) (fun h4299 => ?_)
  · have h4300 : 1 ≤ z4298 ∧ z4298 ≤ 1 := (vc_X12_tie_v_5 h4299 h4297.2.1 h4297.2.2.1 ht_f_dm hp2 h4297.1)
    have h4301 : 0 ≤ p2 ∧ p2 < f_dm := (h4297.2.1 (vc_X12_cone_v_78 h4297.2.1 h4297.2.2.1 h4299 h2944.2.1 h2944.2.2.1 h2950 h2952 ht_f_dm h2951 hp2 h2949 h4300))
    have h4302 : 0 ≤ p2 ∧ p2 ≤ 9 := (vc_X12_cone_v_79 h4301 h2944.2.1 h2944.2.2.1 h2950 h2952 h4297.2.1 h4297.2.2.1 ht_f_dm h2951 hp2 h2949 h4300)
    refine mr_iconst (pc := 23) (z := 0) dX12_cone_23 ?_
    refine mr_istore_n (pc := 24) (lv' := [(3, iv 0), (0, .ref 106), (1, iv p1), (2, iv p2)]) dX12_cone_24 rfl (by decide) rfl ?_
    have L4783 : ∀ (nL4783 : Nat) (z4781 : Int) (μ4782 : mM), mT w μ4782 → mF [116999] w μ μ4782 → (0 ≤ z4781 ∧ z4781 ≤ 10) → (taS μ μ4782 ∧ cnF μ4782 p1 z4781) → (11 - z4781) < (nL4783 : Int) → sV (gG l D c H0 sa) mX12_cone (sRm 3 0 0) (sZ (gG l D c H0 sa) 0 0 (qI w [116999] μ (fun z μ1 => ((-2147483648) ≤ z ∧ z ≤ 2147483647) ∧ (conZ (rch (tr μ 0) (tr μ 1) (μ 111) f_n p1.toNat) f_dm p1 p2 z) ∧ True))) 25 [(0, .ref 106), (1, iv p1), (2, iv p2), (3, iv z4781)] [] (mk w μ4782) 0 0 := by
      intro nL4783
      induction nL4783 with
      | zero => intro z4781 μ4782 T4785 F4786 h4784 R4788 h4789; exact ((vc_X12_ring_2 h4789 h4784)).elim
      | succ nL4783 ih4790 =>
        intro z4781 μ4782 T4785 F4786 h4784 R4788 h4789
        refine mr_iload_n (pc := 25) (z := z4781) dX12_cone_25 rfl rfl ?_
        refine mr_bipush (pc := 26) (z := 10) dX12_cone_26 (by decide) ?_
        refine mr_icmp_ge (pc := 28) (tgt := 53) dX12_cone_28 (by decide) (r32 h4784 rfl) (r32 (rR (x := 10)) rfl) (fun h4799 => ?_) (fun h4799 => ?_)
        · have h4800 : 10 ≤ z4781 ∧ z4781 ≤ 10 := (vc_X12_ring_6 h4799 h4784)
          refine mr_iconst (pc := 53) (z := 1) dX12_cone_53 ?_
          refine mr_istore_n (pc := 54) (lv' := [(3, iv 1), (0, .ref 106), (1, iv p1), (2, iv p2)]) dX12_cone_54 rfl (by decide) rfl ?_
          have L5072 : ∀ (nL5072 : Nat) (z5070 : Int) (μ5071 : mM) (f_c : Int), mT w μ5071 → mF [116999] w μ4782 μ5071 → cnt μ5071 116 10 = f_c → (0 ≤ z5070 ∧ z5070 ≤ 1) → cnW μ f_n p1 μ5071 z5070 → ((2 * (10 - f_c)) + z5070) < (nL5072 : Int) → sV (gG l D c H0 sa) mX12_cone (sRm 3 0 0) (sZ (gG l D c H0 sa) 0 0 (qI w [116999] μ (fun z μ1 => ((-2147483648) ≤ z ∧ z ≤ 2147483647) ∧ (conZ (rch (tr μ 0) (tr μ 1) (μ 111) f_n p1.toNat) f_dm p1 p2 z) ∧ True))) 55 [(0, .ref 106), (2, iv p2), (3, iv z5070)] [] (mk w μ5071) 0 0 := by
            intro nL5072
            induction nL5072 with
            | zero => intro z5070 μ5071 f_c T5074 F5075 q5079 h5073 R5077 h5078; exact ((vc_X12_cone_v_10 h5078 (by rw [← q5079]; exact cnt_rng (fun i => T5074 116 116 (A_116 hw) i) 10) h5073)).elim
            | succ nL5072 ih5080 =>
              intro z5070 μ5071 f_c T5074 F5075 q5079 h5073 R5077 h5078
              have h5081 : 0 ≤ f_c ∧ f_c ≤ 10 := by rw [← q5079]; exact cnt_rng (fun i => T5074 116 116 (A_116 hw) i) 10
              refine mr_iload_n (pc := 55) (z := z5070) dX12_cone_55 rfl rfl ?_
              refine mr_if_eq (pc := 56) (tgt := 147) dX12_cone_56 (by decide) (r32 h5073 rfl) (fun h5148 => ?_) (fun h5148 => ?_)
              · have h5149 : 0 ≤ z5070 ∧ z5070 ≤ 0 := (vc_X12_ring_22 h5148 h5073)
                refine mr_iconst (pc := 147) (z := 0) dX12_cone_147 ?_
                refine mr_istore (pc := 148) (lv' := [(4, iv 0), (0, .ref 106), (2, iv p2), (3, iv z5070)]) dX12_cone_148 (by decide) rfl ?_
                refine mr_iconst (pc := 150) (z := 0) dX12_cone_150 ?_
                refine mr_istore (pc := 151) (lv' := [(5, iv 0), (4, iv 0), (0, .ref 106), (2, iv p2), (3, iv z5070)]) dX12_cone_151 (by decide) rfl ?_
                have L5280 : ∀ (nL5280 : Nat) (z5279 z5278 : Int), True → (0 ≤ z5279 ∧ z5279 ≤ 10) → (0 ≤ z5278 ∧ z5278 ≤ 10) → (z5278 ≤ f_dm) → (z5279 ≤ z5278) → z5279 = cnP (fun d => μ5071 116 d = 1) (z5278).toNat → (11 - z5278) < (nL5280 : Int) → sV (gG l D c H0 sa) mX12_cone (sRm 3 0 0) (sZ (gG l D c H0 sa) 0 0 (qI w [116999] μ (fun z μ1 => ((-2147483648) ≤ z ∧ z ≤ 2147483647) ∧ (conZ (rch (tr μ 0) (tr μ 1) (μ 111) f_n p1.toNat) f_dm p1 p2 z) ∧ True))) 153 [(0, .ref 106), (2, iv p2), (4, iv z5279), (5, iv z5278)] [] (mk w μ5071) 0 0 := by
                  intro nL5280
                  induction nL5280 with
                  | zero => intro z5279 z5278 _ h5281 h5282 h5286 h5287 R5288 h5289; exact ((vc_X12_cone_v_85 h5289 h5286 h5287 h2944.2.1 h2944.2.2.1 h2950 h4297.2.1 h4297.2.2.1 h4301 ht_f_dm h2951 h4302 h2949 h4300 h5282 h5281)).elim
                  | succ nL5280 ih5290 =>
                    intro z5279 z5278 _ h5281 h5282 h5286 h5287 R5288 h5289
                    refine mr_iload (pc := 153) (z := z5278) dX12_cone_153 rfl ?_
                    refine sv_aload_n (pc := 155) dX12_cone_155 rfl rfl ?_
                    refine gk_X12_5 (pc := 156) dX12_cone_156 wF_X12_34 (A_106 hw) (F5075.f (A_106 hw) rfl (F4786.f (A_106 hw) rfl q_f_dm)) ?_
                    refine mr_icmp_ge (pc := 159) (tgt := 188) dX12_cone_159 (by decide) (r32 h5282 rfl) (r32 ht_f_dm rfl) (fun h5298 => ?_) (fun h5298 => ?_)
                    · refine mr_iload_n (pc := 188) (z := p2) dX12_cone_188 rfl rfl ?_
                      refine mr_if_ge (pc := 189) (tgt := 197) dX12_cone_189 (by decide) (r32 h4302 rfl) (fun _ => ?_) (fun h => ((vc_X12_cone_v_86 h h4302)).elim)
                      refine sv_aload_n (pc := 197) dX12_cone_197 rfl rfl ?_
                      refine gf_X12_13 (pc := 198) dX12_cone_198 wF_X12_69 (A_106 hw) T5074 ?_
                      refine mr_iload_n (pc := 201) (z := p2) dX12_cone_201 rfl rfl ?_
                      refine la_116 (pc := 202) dX12_cone_202 (A_116 hw) T5074 (rIx (n := 10) h4302 rfl) fun z5299 q5300 h5301 => ?_
                      refine mr_if_eq (pc := 203) (tgt := 210) dX12_cone_203 (by decide) (r32 h5301 rfl) (fun h5302 => ?_) (fun h5302 => ?_)
                      · have h5303 : 0 ≤ z5299 ∧ z5299 ≤ 0 := (vc_X12_ring_22 h5302 h5301)
                        refine mr_iconst (pc := 210) (z := 0) dX12_cone_210 ?_
                        exact mr_iret dX12_cone_211 rfl (le_t rfl) (le_t rfl) T5074 (mF.call (mF.call mF.refl F4786 rfl) F5075 rfl) ⟨(rW (c := (-2147483648)) (d := 2147483647) (rR (x := 0)) rfl), (Or.inr ⟨(vc_X12_cone_v_88 h2944.2.1 h2944.2.2.1 h2950 h2952 h4297.2.1 h4297.2.2.1 h4301 h5286 h5298 h2946 h4299 h5287 ht_f_dm h2951 h4302 h2949 h4300 h5282 h5281), conA.bitR (cnW.z R5077 (vc_X12_goes_7 h5148 h5149)) (vc_X12_cone_v_89 h2944.2.1 h2944.2.2.1 h2950 h2952 h4297.2.1 h4297.2.2.1 h4301 h5286 h5298 h2946 h4299 h5287 ht_f_dm h2951 h4302 h2949 h4300 h5282 h5281) q5300 (vc_X12_cone_v_90 h5302 h5303)⟩), trivial⟩
                      have h5304 : 1 ≤ z5299 ∧ z5299 ≤ 1 := (vc_X12_ring_24 h5302 h5301)
                      refine mr_iconst (pc := 206) (z := 1) dX12_cone_206 ?_
                      refine sv_goto (pc := 207) (tgt := 211) dX12_cone_207 (by decide) ?_
                      exact mr_iret dX12_cone_211 rfl (le_t rfl) (le_t rfl) T5074 (mF.call (mF.call mF.refl F4786 rfl) F5075 rfl) ⟨(rW (c := (-2147483648)) (d := 2147483647) (rR (x := 1)) rfl), (Or.inr ⟨(vc_X12_cone_v_88 h2944.2.1 h2944.2.2.1 h2950 h2952 h4297.2.1 h4297.2.2.1 h4301 h5286 h5298 h2946 h4299 h5287 ht_f_dm h2951 h4302 h2949 h4300 h5282 h5281), conA.bitR (cnW.z R5077 (vc_X12_goes_7 h5148 h5149)) (vc_X12_cone_v_89 h2944.2.1 h2944.2.2.1 h2950 h2952 h4297.2.1 h4297.2.2.1 h4301 h5286 h5298 h2946 h4299 h5287 ht_f_dm h2951 h4302 h2949 h4300 h5282 h5281) q5300 (vc_X12_cone_v_92 h5302 h5304)⟩), trivial⟩
                    have h5305 : 0 ≤ z5278 ∧ z5278 ≤ 9 := (vc_X12_cone_v_93 h5298 h2944.2.2.1 h2950 h4297.2.1 h4297.2.2.1 h4301 h5286 h5287 ht_f_dm h2951 h4302 h2949 h4300 h5282 h5281)
                    have h5306 : 1 ≤ f_dm ∧ f_dm ≤ 10 := (vc_X12_cone_v_94 h5298 h2944.2.2.1 h2950 h4297.2.1 h4297.2.2.1 h4301 h5286 h5287 ht_f_dm h2951 h4302 h2949 h4300 h5305 h5281)
                    refine mr_iload (pc := 162) (z := z5279) dX12_cone_162 rfl ?_
                    refine sv_aload_n (pc := 164) dX12_cone_164 rfl rfl ?_
                    refine gf_X12_13 (pc := 165) dX12_cone_165 wF_X12_69 (A_106 hw) T5074 ?_
                    refine mr_iload (pc := 168) (z := z5278) dX12_cone_168 rfl ?_
                    refine la_116 (pc := 170) dX12_cone_170 (A_116 hw) T5074 (rIx (n := 10) h5305 rfl) fun z5307 q5308 h5309 => ?_
                    refine mr_if_eq (pc := 171) (tgt := 178) dX12_cone_171 (by decide) (r32 h5309 rfl) (fun h5310 => ?_) (fun h5310 => ?_)
                    · have h5311 : 0 ≤ z5307 ∧ z5307 ≤ 0 := (vc_X12_ring_22 h5310 h5309)
                      refine mr_iconst (pc := 178) (z := 0) dX12_cone_178 ?_
                      refine mr_iadd (pc := 179) (x := z5279) (y := 0) dX12_cone_179 ?_
                      refine mr_istore (pc := 180) (lv' := [(4, iv (z5279 + 0)), (0, .ref 106), (2, iv p2), (5, iv z5278)]) dX12_cone_180 (by decide) rfl ?_
                      refine mr_iinc (pc := 182) (lv' := [(5, iv (z5278 + 1)), (4, iv (z5279 + 0)), (0, .ref 106), (2, iv p2)]) dX12_cone_182 rfl (by decide) rfl ?_
                      refine sv_goto (pc := 185) (tgt := 153) dX12_cone_185 (by decide) ?_
                      refine mr_lvS (lv' := [(0, .ref 106), (2, iv p2), (4, iv (z5279 + 0)), (5, iv (z5278 + 1))]) (List.forall_mem_cons.mpr ⟨rfl, List.forall_mem_cons.mpr ⟨rfl, List.forall_mem_cons.mpr ⟨rfl, List.forall_mem_cons.mpr ⟨rfl, fun _ h => absurd h List.not_mem_nil⟩⟩⟩⟩) ?_
                      exact ih5290 (z5279 + 0) (z5278 + 1) trivial (rAdd (e := 0) (f := 10) h5281 (rR (x := 0)) rfl) (rW (c := 0) (d := 10) (rAdd (e := 1) (f := 10) h5305 (rR (x := 1)) rfl) rfl) (vc_X12_cone_v_96 h2944.2.1 h2944.2.2.1 h2950 h4297.2.1 h4297.2.2.1 h4301 h5286 h5287 h5298 h2946 h2952 h4299 h5306 h2951 h4302 h2949 h4300 h5305 h5281) (vc_X12_cone_v_97 h5286 h5287 h5298 h2944.2.1 h2944.2.2.1 h2950 h4297.2.1 h4297.2.2.1 h4301 h5306 h2951 h4302 h2949 h4300 h5305 h5281) (cnP.stepI R5288 (vc_X12_cone_v_99 h5286 h5287 h5298 h2944.2.1 h2944.2.2.1 h2950 h4297.2.1 h4297.2.2.1 h4301 h5306 h2951 h4302 h2949 h4300 h5305 h5281) (by show (μ5071 116 (z5278.toNat) = 1 ∧ _) ∨ (¬ μ5071 116 (z5278.toNat) = 1 ∧ _); rw [q5308]; exact (vc_X12_cone_v_26 h5287 h5310 h5286 h5298 h5306 h5305 h5281 h5311))) (vc_X12_cone_v_98 (nS h5289) h5286 h5287 h5298 h2944.2.1 h2944.2.2.1 h2950 h4297.2.1 h4297.2.2.1 h4301 h5306 h2951 h4302 h2949 h4300 h5305 h5281)
                    have h5312 : 1 ≤ z5307 ∧ z5307 ≤ 1 := (vc_X12_ring_24 h5310 h5309)
                    refine mr_iconst (pc := 174) (z := 1) dX12_cone_174 ?_
                    refine sv_goto (pc := 175) (tgt := 179) dX12_cone_175 (by decide) ?_
                    refine mr_iadd (pc := 179) (x := z5279) (y := 1) dX12_cone_179 ?_
                    refine mr_istore (pc := 180) (lv' := [(4, iv (z5279 + 1)), (0, .ref 106), (2, iv p2), (5, iv z5278)]) dX12_cone_180 (by decide) rfl ?_
                    refine mr_iinc (pc := 182) (lv' := [(5, iv (z5278 + 1)), (4, iv (z5279 + 1)), (0, .ref 106), (2, iv p2)]) dX12_cone_182 rfl (by decide) rfl ?_
                    refine sv_goto (pc := 185) (tgt := 153) dX12_cone_185 (by decide) ?_
                    refine mr_lvS (lv' := [(0, .ref 106), (2, iv p2), (4, iv (z5279 + 1)), (5, iv (z5278 + 1))]) (List.forall_mem_cons.mpr ⟨rfl, List.forall_mem_cons.mpr ⟨rfl, List.forall_mem_cons.mpr ⟨rfl, List.forall_mem_cons.mpr ⟨rfl, fun _ h => absurd h List.not_mem_nil⟩⟩⟩⟩) ?_
                    exact ih5290 (z5279 + 1) (z5278 + 1) trivial (vc_X12_cone_v_28 h5287 h5286 h5298 h5306 h5305 h5281) (rW (c := 0) (d := 10) (rAdd (e := 1) (f := 10) h5305 (rR (x := 1)) rfl) rfl) (vc_X12_cone_v_96 h2944.2.1 h2944.2.2.1 h2950 h4297.2.1 h4297.2.2.1 h4301 h5286 h5287 h5298 h2946 h2952 h4299 h5306 h2951 h4302 h2949 h4300 h5305 h5281) (vc_X12_cone_v_103 h5286 h5287 h5298 h2944.2.1 h2944.2.2.1 h2950 h4297.2.1 h4297.2.2.1 h4301 h5306 h2951 h4302 h2949 h4300 h5305 h5281) (cnP.stepI R5288 (vc_X12_cone_v_99 h5286 h5287 h5298 h2944.2.1 h2944.2.2.1 h2950 h4297.2.1 h4297.2.2.1 h4301 h5306 h2951 h4302 h2949 h4300 h5305 h5281) (by show (μ5071 116 (z5278.toNat) = 1 ∧ _) ∨ (¬ μ5071 116 (z5278.toNat) = 1 ∧ _); rw [q5308]; exact (vc_X12_cone_v_30 h5287 h5310 h5286 h5298 h5306 h5305 h5281 h5312))) (vc_X12_cone_v_98 (nS h5289) h5286 h5287 h5298 h2944.2.1 h2944.2.2.1 h2950 h4297.2.1 h4297.2.2.1 h4301 h5306 h2951 h4302 h2949 h4300 h5305 h5281)
                refine mr_lvS (lv' := [(0, .ref 106), (2, iv p2), (4, iv 0), (5, iv 0)]) (List.forall_mem_cons.mpr ⟨rfl, List.forall_mem_cons.mpr ⟨rfl, List.forall_mem_cons.mpr ⟨rfl, List.forall_mem_cons.mpr ⟨rfl, fun _ h => absurd h List.not_mem_nil⟩⟩⟩⟩) ?_
                exact L5280 12 0 0 trivial (rW (c := 0) (d := 10) (rR (x := 0)) rfl) (rW (c := 0) (d := 10) (rR (x := 0)) rfl) (vc_X12_cone_v_105 h2944.2.1 h2944.2.2.1 h2950 h4297.2.1 h4297.2.2.1 h4301 h2946 h2952 h4299 ht_f_dm h2951 h4302 h2949 h4300) vc_X12_dropMark_20 rfl vc_X12_ring_27
              have h5313 : 1 ≤ z5070 ∧ z5070 ≤ 1 := (vc_X12_ring_24 h5148 h5073)
              refine mr_iconst (pc := 59) (z := 0) dX12_cone_59 ?_
              refine mr_istore_n (pc := 60) (lv' := [(3, iv 0), (0, .ref 106), (2, iv p2)]) dX12_cone_60 rfl (by decide) rfl ?_
              refine mr_iconst (pc := 61) (z := 0) dX12_cone_61 ?_
              refine mr_istore (pc := 62) (lv' := [(4, iv 0), (3, iv 0), (0, .ref 106), (2, iv p2)]) dX12_cone_62 (by decide) rfl ?_
              have L5669 : ∀ (nL5669 : Nat) (z5667 z5666 : Int) (μ5668 : mM) (f_d : Int), mT w μ5668 → mF [116999] w μ5071 μ5668 → cnt μ5668 116 10 = f_d → (0 ≤ z5667 ∧ z5667 ≤ 1) → (0 ≤ z5666 ∧ z5666 ≤ 20) → (f_c ≤ f_d) → (z5667 = 0 ∨ f_c + 1 ≤ f_d) → cnV μ f_n p1 μ5668 z5667 z5666 → (21 - z5666) < (nL5669 : Int) → sV (gG l D c H0 sa) mX12_cone (sRm 3 0 0) (sZ (gG l D c H0 sa) 0 0 (qI w [116999] μ (fun z μ1 => ((-2147483648) ≤ z ∧ z ≤ 2147483647) ∧ (conZ (rch (tr μ 0) (tr μ 1) (μ 111) f_n p1.toNat) f_dm p1 p2 z) ∧ True))) 64 [(0, .ref 106), (2, iv p2), (3, iv z5667), (4, iv z5666)] [] (mk w μ5668) 0 0 := by
                intro nL5669
                induction nL5669 with
                | zero => intro z5667 z5666 μ5668 f_d T5672 F5673 q5679 h5670 h5671 h5675 h5676 R5677 h5678; exact ((vc_X12_cone_v_35 h5678 (by rw [← q5679]; exact cnt_rng (fun i => T5672 116 116 (A_116 hw) i) 10) h5675 h5676 h5081 h5671 h5670)).elim
                | succ nL5669 ih5680 =>
                  intro z5667 z5666 μ5668 f_d T5672 F5673 q5679 h5670 h5671 h5675 h5676 R5677 h5678
                  have h5681 : 0 ≤ f_d ∧ f_d ≤ 10 := by rw [← q5679]; exact cnt_rng (fun i => T5672 116 116 (A_116 hw) i) 10
                  refine mr_iload (pc := 64) (z := z5666) dX12_cone_64 rfl ?_
                  refine sv_aload_n (pc := 66) dX12_cone_66 rfl rfl ?_
                  refine gk_X12_6 (pc := 67) dX12_cone_67 wF_X12_37 (A_106 hw) (F5673.f (A_106 hw) rfl (F5075.f (A_106 hw) rfl (F4786.f (A_106 hw) rfl q_f_n))) ?_
                  refine mr_icmp_ge (pc := 70) (tgt := 144) dX12_cone_70 (by decide) (r32 h5671 rfl) (r32 ht_f_n rfl) (fun h5708 => ?_) (fun h5708 => ?_)
                  · refine sv_goto (pc := 144) (tgt := 55) dX12_cone_144 (by decide) ?_
                    refine mr_lvS (lv' := [(0, .ref 106), (2, iv p2), (3, iv z5667)]) (List.forall_mem_cons.mpr ⟨rfl, List.forall_mem_cons.mpr ⟨rfl, List.forall_mem_cons.mpr ⟨rfl, fun _ h => absurd h List.not_mem_nil⟩⟩⟩) ?_
                    exact ih5080 z5667 μ5668 f_d T5672 (mF.call (mF.call mF.refl F5075 rfl) F5673 rfl) q5679 h5670 (cnW.next R5677 (vc_X12_tieOf_v_3 h5708 ht_f_n h5671)) (vc_X12_cone_v_36 (nS h5078) h5148 h5675 h5676 h5081 h5681 h5313 h5670)
                  have h5709 : 0 ≤ z5666 ∧ z5666 ≤ 19 := (vc_X3_putAttributes_10 h5708 ht_f_n h5671)
                  have h5710 : 1 ≤ f_n ∧ f_n ≤ 20 := (vc_X3_putAttributes_11 h5708 ht_f_n h5709)
                  refine sv_aload_n (pc := 73) dX12_cone_73 rfl rfl ?_
                  refine gf_X12_8 (pc := 74) dX12_cone_74 wF_X12_46 (A_106 hw) T5672 ?_
                  refine mr_iload (pc := 77) (z := z5666) dX12_cone_77 rfl ?_
                  refine la_111 (pc := 79) dX12_cone_79 (A_111 hw) T5672 (rIx (n := 20) h5709 rfl) fun z5711 q5712 h5713 => ?_
                  refine mr_if_ne (pc := 80) (tgt := 138) dX12_cone_80 (by decide) (r32 h5713 rfl) (fun h5714 => ?_) (fun h5714 => ?_)
                  · have h5715 : 1 ≤ z5711 ∧ z5711 ≤ 2 := (vc_X12_provides_3 h5714 h5713)
                    refine mr_iinc (pc := 138) (lv' := [(4, iv (z5666 + 1)), (0, .ref 106), (2, iv p2), (3, iv z5667)]) dX12_cone_138 rfl (by decide) rfl ?_
                    refine sv_goto (pc := 141) (tgt := 64) dX12_cone_141 (by decide) ?_
                    refine mr_lvS (lv' := [(0, .ref 106), (2, iv p2), (3, iv z5667), (4, iv (z5666 + 1))]) (List.forall_mem_cons.mpr ⟨rfl, List.forall_mem_cons.mpr ⟨rfl, List.forall_mem_cons.mpr ⟨rfl, List.forall_mem_cons.mpr ⟨rfl, fun _ h => absurd h List.not_mem_nil⟩⟩⟩⟩) ?_
                    exact ih5680 z5667 (z5666 + 1) μ5668 f_d T5672 (mF.call mF.refl F5673 rfl) q5679 h5670 (rW (c := 0) (d := 20) (rAdd (e := 1) (f := 20) h5709 (rR (x := 1)) rfl) rfl) (vc_X12_cone_v_41 h5675 h5676 h5081 h5681 h5670) (vc_X12_cone_v_42 h5675 h5676 h5081 h5681 h5670) (cnV.skipK R5677 (vc_X12_tieOf_v_7 h5708 h5710 h5709) q5712 (vc_X4_leadBack_42 h5714 h5715)) (vc_X3_putAttributes_12 (nS h5678) h5708 h5710 h5709)
                  have h5716 : 0 ≤ z5711 ∧ z5711 ≤ 0 := (vc_X12_provides_4 h5714 h5713)
                  refine sv_aload_n (pc := 83) dX12_cone_83 rfl rfl ?_
                  refine gf_X12_13 (pc := 84) dX12_cone_84 wF_X12_69 (A_106 hw) T5672 ?_
                  refine sv_aload_n (pc := 87) dX12_cone_87 rfl rfl ?_
                  refine gf_X12_7 (pc := 88) dX12_cone_88 wF_X12_40 (A_106 hw) T5672 ?_
                  refine mr_iconst (pc := 91) (z := 2) dX12_cone_91 ?_
                  refine mr_iload (pc := 92) (z := z5666) dX12_cone_92 rfl ?_
                  refine mr_imul (pc := 94) (x := 2) (y := z5666) dX12_cone_94 ?_
                  refine la_110 (pc := 95) dX12_cone_95 (A_110 hw) T5672 (rIx (n := 40) (rMulL (n := 2) (e := 0) (f := 38) h5709 rfl) rfl) fun z5717 q5718 h5719 => ?_
                  refine la_116 (pc := 96) dX12_cone_96 (A_116 hw) T5672 (rIx (n := 10) h5719 rfl) fun z5720 q5721 h5722 => ?_
                  refine mr_if_eq (pc := 97) (tgt := 138) dX12_cone_97 (by decide) (r32 h5722 rfl) (fun h5723 => ?_) (fun h5723 => ?_)
                  · have h5724 : 0 ≤ z5720 ∧ z5720 ≤ 0 := (vc_X12_ring_22 h5723 h5722)
                    refine mr_iinc (pc := 138) (lv' := [(4, iv (z5666 + 1)), (0, .ref 106), (2, iv p2), (3, iv z5667)]) dX12_cone_138 rfl (by decide) rfl ?_
                    refine sv_goto (pc := 141) (tgt := 64) dX12_cone_141 (by decide) ?_
                    refine mr_lvS (lv' := [(0, .ref 106), (2, iv p2), (3, iv z5667), (4, iv (z5666 + 1))]) (List.forall_mem_cons.mpr ⟨rfl, List.forall_mem_cons.mpr ⟨rfl, List.forall_mem_cons.mpr ⟨rfl, List.forall_mem_cons.mpr ⟨rfl, fun _ h => absurd h List.not_mem_nil⟩⟩⟩⟩) ?_
                    exact ih5680 z5667 (z5666 + 1) μ5668 f_d T5672 (mF.call mF.refl F5673 rfl) q5679 h5670 (rW (c := 0) (d := 20) (rAdd (e := 1) (f := 20) h5709 (rR (x := 1)) rfl) rfl) (vc_X12_cone_v_41 h5675 h5676 h5081 h5681 h5670) (vc_X12_cone_v_42 h5675 h5676 h5081 h5681 h5670) (cnV.skipA R5677 (vc_X12_tieOf_v_7 h5708 h5710 h5709) q5718 (vc_X12_tieOf_v_8 h5708 h5710 h5709) q5721 (vc_X12_cone_v_49 h5723 h5724)) (vc_X3_putAttributes_12 (nS h5678) h5708 h5710 h5709)
                  have h5725 : 1 ≤ z5720 ∧ z5720 ≤ 1 := (vc_X12_ring_24 h5723 h5722)
                  refine sv_aload_n (pc := 100) dX12_cone_100 rfl rfl ?_
                  refine gf_X12_13 (pc := 101) dX12_cone_101 wF_X12_69 (A_106 hw) T5672 ?_
                  refine sv_aload_n (pc := 104) dX12_cone_104 rfl rfl ?_
                  refine gf_X12_7 (pc := 105) dX12_cone_105 wF_X12_40 (A_106 hw) T5672 ?_
                  refine mr_iconst (pc := 108) (z := 2) dX12_cone_108 ?_
                  refine mr_iload (pc := 109) (z := z5666) dX12_cone_109 rfl ?_
                  refine mr_imul (pc := 111) (x := 2) (y := z5666) dX12_cone_111 ?_
                  refine mr_iconst (pc := 112) (z := 1) dX12_cone_112 ?_
                  refine mr_iadd (pc := 113) (x := (2 * z5666)) (y := 1) dX12_cone_113 ?_
                  refine la_110 (pc := 114) dX12_cone_114 (A_110 hw) T5672 (rIx (n := 40) (rAdd (e := 1) (f := 39) (rMulL (n := 2) (e := 0) (f := 38) h5709 rfl) (rR (x := 1)) rfl) rfl) fun z5726 q5727 h5728 => ?_
                  refine la_116 (pc := 115) dX12_cone_115 (A_116 hw) T5672 (rIx (n := 10) h5728 rfl) fun z5729 q5730 h5731 => ?_
                  refine mr_if_ne (pc := 116) (tgt := 138) dX12_cone_116 (by decide) (r32 h5731 rfl) (fun h5732 => ?_) (fun h5732 => ?_)
                  · have h5733 : 1 ≤ z5729 ∧ z5729 ≤ 1 := (vc_X12_ring_24 h5732 h5731)
                    refine mr_iinc (pc := 138) (lv' := [(4, iv (z5666 + 1)), (0, .ref 106), (2, iv p2), (3, iv z5667)]) dX12_cone_138 rfl (by decide) rfl ?_
                    refine sv_goto (pc := 141) (tgt := 64) dX12_cone_141 (by decide) ?_
                    refine mr_lvS (lv' := [(0, .ref 106), (2, iv p2), (3, iv z5667), (4, iv (z5666 + 1))]) (List.forall_mem_cons.mpr ⟨rfl, List.forall_mem_cons.mpr ⟨rfl, List.forall_mem_cons.mpr ⟨rfl, List.forall_mem_cons.mpr ⟨rfl, fun _ h => absurd h List.not_mem_nil⟩⟩⟩⟩) ?_
                    exact ih5680 z5667 (z5666 + 1) μ5668 f_d T5672 (mF.call mF.refl F5673 rfl) q5679 h5670 (rW (c := 0) (d := 20) (rAdd (e := 1) (f := 20) h5709 (rR (x := 1)) rfl) rfl) (vc_X12_cone_v_41 h5675 h5676 h5081 h5681 h5670) (vc_X12_cone_v_42 h5675 h5676 h5081 h5681 h5670) (cnV.skipB R5677 (vc_X12_tieOf_v_7 h5708 h5710 h5709) q5727 (vc_X12_tieOf_v_11 h5708 h5710 h5709) q5730 (vc_X12_best_l_18 h5732 h5733)) (vc_X3_putAttributes_12 (nS h5678) h5708 h5710 h5709)
                  have h5734 : 0 ≤ z5729 ∧ z5729 ≤ 0 := (vc_X12_ring_22 h5732 h5731)
                  refine sv_aload_n (pc := 119) dX12_cone_119 rfl rfl ?_
                  refine gf_X12_13 (pc := 120) dX12_cone_120 wF_X12_69 (A_106 hw) T5672 ?_
                  refine sv_aload_n (pc := 123) dX12_cone_123 rfl rfl ?_
                  refine gf_X12_7 (pc := 124) dX12_cone_124 wF_X12_40 (A_106 hw) T5672 ?_
                  refine mr_iconst (pc := 127) (z := 2) dX12_cone_127 ?_
                  refine mr_iload (pc := 128) (z := z5666) dX12_cone_128 rfl ?_
                  refine mr_imul (pc := 130) (x := 2) (y := z5666) dX12_cone_130 ?_
                  refine mr_iconst (pc := 131) (z := 1) dX12_cone_131 ?_
                  refine mr_iadd (pc := 132) (x := (2 * z5666)) (y := 1) dX12_cone_132 ?_
                  refine lk_110 (pc := 133) dX12_cone_133 (A_110 hw) (rIx (n := 40) (rAdd (e := 1) (f := 39) (rMulL (n := 2) (e := 0) (f := 38) h5709 rfl) (rR (x := 1)) rfl) rfl) q5727 ?_
                  refine mr_iconst (pc := 134) (z := 1) dX12_cone_134 ?_
                  refine ss_116 (pc := 135) dX12_cone_135 (A_116 hw) T5672 (rIx (n := 10) h5728 rfl) (rW (c := 0) (d := 1) (rR (x := 1)) rfl) fun μ5735 u5736 T5737 => ?_
                  refine mr_iconst (pc := 136) (z := 1) dX12_cone_136 ?_
                  refine mr_istore_n (pc := 137) (lv' := [(3, iv 1), (0, .ref 106), (2, iv p2), (4, iv z5666)]) dX12_cone_137 rfl (by decide) rfl ?_
                  refine mr_iinc (pc := 138) (lv' := [(4, iv (z5666 + 1)), (3, iv 1), (0, .ref 106), (2, iv p2)]) dX12_cone_138 rfl (by decide) rfl ?_
                  refine sv_goto (pc := 141) (tgt := 64) dX12_cone_141 (by decide) ?_
                  refine mr_lvS (lv' := [(0, .ref 106), (2, iv p2), (3, iv 1), (4, iv (z5666 + 1))]) (List.forall_mem_cons.mpr ⟨rfl, List.forall_mem_cons.mpr ⟨rfl, List.forall_mem_cons.mpr ⟨rfl, List.forall_mem_cons.mpr ⟨rfl, fun _ h => absurd h List.not_mem_nil⟩⟩⟩⟩) ?_
                  exact ih5680 1 (z5666 + 1) μ5735 ((f_d + 1) - z5729) T5737 (mF.up (mF.call mF.refl F5673 rfl) (A_116 hw) u5736 rfl) (cntU u5736 (rIx (n := 10) h5728 rfl) rfl q5679 q5730) (rW (c := 0) (d := 1) (rR (x := 1)) rfl) (rW (c := 0) (d := 20) (rAdd (e := 1) (f := 20) h5709 (rR (x := 1)) rfl) rfl) (vc_X12_cone_v_55 h5675 h5676 h5732 h5081 h5681 h5670 h5734) (vc_X12_cone_v_56 h5675 h5676 h5732 h5081 h5681 h5670 h5734) (cnV.add R5677 (vc_X12_tieOf_v_15 h5708 h5710 h5709) q5712 (vc_X12_goes_7 h5714 h5716) q5718 (vc_X12_tieOf_v_8 h5708 h5710 h5709) (vc_X12_cone_v_59 h5719) q5721 (vc_X12_best_l_18 h5723 h5725) q5727 (vc_X12_tieOf_v_11 h5708 h5710 h5709) (vc_X12_cone_v_59 h5728) u5736 vc_X12_goes_17) (vc_X3_putAttributes_12 (nS h5678) h5708 h5710 h5709)
              refine mr_lvS (lv' := [(0, .ref 106), (2, iv p2), (3, iv 0), (4, iv 0)]) (List.forall_mem_cons.mpr ⟨rfl, List.forall_mem_cons.mpr ⟨rfl, List.forall_mem_cons.mpr ⟨rfl, List.forall_mem_cons.mpr ⟨rfl, fun _ h => absurd h List.not_mem_nil⟩⟩⟩⟩) ?_
              exact L5669 22 0 0 μ5071 f_c T5074 mF.refl q5079 (rW (c := 0) (d := 1) (rR (x := 0)) rfl) (rW (c := 0) (d := 20) (rR (x := 0)) rfl) (vc_X12_rethink_u_3 h5081) (vc_X12_cone_v_64 h5081) (cnV.start R5077) vc_X12_feed_15
          obtain ⟨z5738, q5739⟩ : ∃ z, cnt μ4782 116 10 = z := ⟨_, rfl⟩
          have h5740 : 0 ≤ z5738 ∧ z5738 ≤ 10 := by rw [← q5739]; exact cnt_rng (fun i => T4785 116 116 (A_116 hw) i) 10
          refine mr_lvS (lv' := [(0, .ref 106), (2, iv p2), (3, iv 1)]) (List.forall_mem_cons.mpr ⟨rfl, List.forall_mem_cons.mpr ⟨rfl, List.forall_mem_cons.mpr ⟨rfl, fun _ h => absurd h List.not_mem_nil⟩⟩⟩) ?_
          exact L5072 22 1 μ4782 z5738 T4785 mF.refl q5739 (rW (c := 0) (d := 1) (rR (x := 1)) rfl) (cnW.start (R4788).1 (R4788).2 (vc_X12_cone_v_67 h4799 h4800) (vc_X12_cone_v_136 h2944.2.1 h2944.2.2.1 h2950 h2946 h4297.2.1 h4297.2.2.1 h4301 ht_f_dm h2951 h4302 h2949 h4300)) (vc_X12_cone_v_66 h5740)
        have h5741 : 0 ≤ z4781 ∧ z4781 ≤ 9 := (vc_X12_ring_57 h4799 h4784)
        refine sv_aload_n (pc := 31) dX12_cone_31 rfl rfl ?_
        refine gf_X12_13 (pc := 32) dX12_cone_32 wF_X12_69 (A_106 hw) T4785 ?_
        refine mr_iload_n (pc := 35) (z := z4781) dX12_cone_35 rfl rfl ?_
        refine mr_iload_n (pc := 36) (z := z4781) dX12_cone_36 rfl rfl ?_
        refine mr_iload_n (pc := 37) (z := p1) dX12_cone_37 rfl rfl ?_
        refine mr_icmp_ne (pc := 38) (tgt := 45) dX12_cone_38 (by decide) (r32 h5741 rfl) (r32 h2951 rfl) (fun h5742 => ?_) (fun h5742 => ?_)
        · refine mr_iconst (pc := 45) (z := 0) dX12_cone_45 ?_
          refine ss_116 (pc := 46) dX12_cone_46 (A_116 hw) T4785 (rIx (n := 10) h5741 rfl) (rW (c := 0) (d := 1) (rR (x := 0)) rfl) fun μ5743 u5744 T5745 => ?_
          refine mr_iinc (pc := 47) (lv' := [(3, iv (z4781 + 1)), (0, .ref 106), (1, iv p1), (2, iv p2)]) dX12_cone_47 rfl (by decide) rfl ?_
          refine sv_goto (pc := 50) (tgt := 25) dX12_cone_50 (by decide) ?_
          refine mr_lvS (lv' := [(0, .ref 106), (1, iv p1), (2, iv p2), (3, iv (z4781 + 1))]) (List.forall_mem_cons.mpr ⟨rfl, List.forall_mem_cons.mpr ⟨rfl, List.forall_mem_cons.mpr ⟨rfl, List.forall_mem_cons.mpr ⟨rfl, fun _ h => absurd h List.not_mem_nil⟩⟩⟩⟩) ?_
          exact ih4790 (z4781 + 1) μ5743 T5745 (mF.up (mF.call mF.refl F4786 rfl) (A_116 hw) u5744 rfl) (rW (c := 0) (d := 10) (rAdd (e := 1) (f := 10) h5741 (rR (x := 1)) rfl) rfl) ⟨(R4788).1.up u5744, cnF.up (R4788).2 (vc_X12_cone_v_71 h4799 h5742 h2944.2.1 h2944.2.2.1 h2950 ht_f_dm h2951 h2949 h5741) u5744 (vc_X12_cone_v_140 h2944.2.1 h2944.2.2.1 h2950 h4799 h5742 h2946 h4297.2.1 h4297.2.2.1 h4301 ht_f_dm h2951 h4302 h2949 h4300 h5741)⟩ (vc_X12_cone_v_70 (nS h4789) h4799 h5742 h2944.2.1 h2944.2.2.1 h2950 ht_f_dm h2951 h2949 h5741)
        refine mr_iconst (pc := 41) (z := 1) dX12_cone_41 ?_
        refine sv_goto (pc := 42) (tgt := 46) dX12_cone_42 (by decide) ?_
        refine ss_116 (pc := 46) dX12_cone_46 (A_116 hw) T4785 (rIx (n := 10) h5741 rfl) (rW (c := 0) (d := 1) (rR (x := 1)) rfl) fun μ5746 u5747 T5748 => ?_
        refine mr_iinc (pc := 47) (lv' := [(3, iv (z4781 + 1)), (0, .ref 106), (1, iv p1), (2, iv p2)]) dX12_cone_47 rfl (by decide) rfl ?_
        refine sv_goto (pc := 50) (tgt := 25) dX12_cone_50 (by decide) ?_
        refine mr_lvS (lv' := [(0, .ref 106), (1, iv p1), (2, iv p2), (3, iv (z4781 + 1))]) (List.forall_mem_cons.mpr ⟨rfl, List.forall_mem_cons.mpr ⟨rfl, List.forall_mem_cons.mpr ⟨rfl, List.forall_mem_cons.mpr ⟨rfl, fun _ h => absurd h List.not_mem_nil⟩⟩⟩⟩) ?_
        exact ih4790 (z4781 + 1) μ5746 T5748 (mF.up (mF.call mF.refl F4786 rfl) (A_116 hw) u5747 rfl) (rW (c := 0) (d := 10) (rAdd (e := 1) (f := 10) h5741 (rR (x := 1)) rfl) rfl) ⟨(R4788).1.up u5747, cnF.up (R4788).2 (vc_X12_cone_v_74 h4799 h5742 h2944.2.1 h2944.2.2.1 h2950 ht_f_dm h2951 h2949 h5741) u5747 (vc_X12_cone_v_143 h2944.2.1 h2944.2.2.1 h2950 h4799 h5742 h2946 h4297.2.1 h4297.2.2.1 h4301 ht_f_dm h2951 h4302 h2949 h4300 h5741)⟩ (vc_X12_cone_v_73 (nS h4789) h4799 h5742 h2944.2.1 h2944.2.2.1 h2950 ht_f_dm h2951 h2949 h5741)
    refine mr_lvS (lv' := [(0, .ref 106), (1, iv p1), (2, iv p2), (3, iv 0)]) (List.forall_mem_cons.mpr ⟨rfl, List.forall_mem_cons.mpr ⟨rfl, List.forall_mem_cons.mpr ⟨rfl, List.forall_mem_cons.mpr ⟨rfl, fun _ h => absurd h List.not_mem_nil⟩⟩⟩⟩) ?_
    exact L4783 12 0 μ hT mF.refl (rW (c := 0) (d := 10) (rR (x := 0)) rfl) ⟨taS.refl, cnF.zero vc_X10_tieBetween_v_23⟩ vc_X12_ring_27
  have h5749 : 0 ≤ z4298 ∧ z4298 ≤ 0 := (vc_X12_tie_v_1 h4299 h4297.2.1 h4297.2.2.1 ht_f_dm hp2 h4297.1)
  have h5750 : p2 < 0 ∨ f_dm ≤ p2 := (h4297.2.2.1 (vc_X12_cone_v_145 h4297.2.1 h4297.2.2.1 h4299 h2944.2.1 h2944.2.2.1 h2950 h2952 ht_f_dm h2951 hp2 h2949 h5749))
  refine mr_iconst (pc := 21) (z := (-1)) dX12_cone_21 ?_
  exact mr_iret dX12_cone_22 rfl (le_t rfl) (le_t rfl) hT mF.refl ⟨(rW (c := (-2147483648)) (d := 2147483647) (rR (x := (-1))) rfl), (Or.inl ⟨(vc_X12_cone_v_146 h2944.2.1 h2944.2.2.1 h2950 h2952 h4297.2.1 h4297.2.2.1 h5750 h2946 h4299 ht_f_dm h2951 hp2 h2949 h5749), rfl⟩), trivial⟩
