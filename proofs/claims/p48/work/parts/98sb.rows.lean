theorem vc_X12_isWished_v_1 {f_hands : Int} (h0 : f_hands ≤ 7) (h1 : 0 ≤ f_hands ∧ f_hands ≤ 20) : 0 ≤ f_hands ∧ f_hands ≤ 7 := by omega
theorem vc_X12_isWished_v_3 {f_hands z227 z239 : Int} (h0 : f_hands ≤ z239) (h1 : f_hands ≤ 7) (h2 : ¬ z227 = f_hands) (h3 : 0 ≤ f_hands ∧ f_hands ≤ 7) (h4 : 0 ≤ z227 ∧ z227 ≤ 7) (h5 : 0 ≤ z239 ∧ z239 ≤ 0) : 0 ≤ f_hands ∧ f_hands ≤ 0 := by omega
theorem vc_X12_isWished_v_5 {f_hands z227 z239 : Int} (h0 : z239 < f_hands) (h1 : f_hands ≤ 7) (h2 : ¬ z227 = f_hands) (h3 : 0 ≤ f_hands ∧ f_hands ≤ 7) (h4 : 0 ≤ z227 ∧ z227 ≤ 7) (h5 : 0 ≤ z239 ∧ z239 ≤ 0) : 1 ≤ f_hands ∧ f_hands ≤ 7 := by omega
theorem vc_X12_isWished_v_9 {f_hands z227 : Int} (h0 : f_hands ≤ 7) (h1 : ¬ z227 = f_hands) (h2 : 0 ≤ f_hands ∧ f_hands ≤ 7) (h3 : 0 ≤ z227 ∧ z227 ≤ 7) : (z227 = f_hands ∧ (0 : Int) = 1) ∨ (¬ z227 = f_hands ∧ (0 : Int) = 0) := by omega
theorem vc_X12_isWished_v_11 {f_hands z227 z355 : Int} (h0 : f_hands ≤ 7) (h1 : z227 = f_hands) (h2 : f_hands ≤ z355) (h3 : 0 ≤ f_hands ∧ f_hands ≤ 7) (h4 : 0 ≤ z227 ∧ z227 ≤ 7) (h5 : 0 ≤ z355 ∧ z355 ≤ 7) : f_hands ≤ z355 := by omega
theorem vc_X12_isWished_v_12 {f_hands z227 z355 : Int} (h0 : z355 < f_hands) (h1 : f_hands ≤ 7) (h2 : z227 = f_hands) (h3 : 0 ≤ f_hands ∧ f_hands ≤ 7) (h4 : 0 ≤ z227 ∧ z227 ≤ 7) (h5 : 0 ≤ z355 ∧ z355 ≤ 7) : 0 ≤ z355 ∧ z355 ≤ 6 := by omega
theorem vc_X12_isWished_v_13 {f_hands z227 z355 : Int} (h0 : z355 < f_hands) (h1 : f_hands ≤ 7) (h2 : z227 = f_hands) (h3 : 0 ≤ f_hands ∧ f_hands ≤ 7) (h4 : 0 ≤ z227 ∧ z227 ≤ 7) (h5 : 0 ≤ z355 ∧ z355 ≤ 6) : 1 ≤ f_hands ∧ f_hands ≤ 7 := by omega
theorem vc_X12_isWished_v_17 {N f_hands z227 z355 : Int} (h0 : (8 - z355) < N + 1) (h1 : z355 < f_hands) (h2 : f_hands ≤ 7) (h3 : z227 = f_hands) (h4 : 1 ≤ f_hands ∧ f_hands ≤ 7) (h5 : 0 ≤ z227 ∧ z227 ≤ 7) (h6 : 0 ≤ z355 ∧ z355 ≤ 6) : (8 - (z355 + 1)) < N := by omega
theorem vc_X12_isWished_v_19 {f_hands z227 z355 : Int} (h0 : f_hands ≤ 7) (h1 : z227 = f_hands) (h2 : z355 < f_hands) (h3 : 1 ≤ f_hands ∧ f_hands ≤ 7) (h4 : 0 ≤ z227 ∧ z227 ≤ 7) (h5 : 0 ≤ z355 ∧ z355 ≤ 6) : 0 ≤ z355 ∧ z355 < f_hands := by omega
theorem vc_X12_isWished_v_20 {f_hands p1 p2 z227 z355 : Int} (h0 : z355 < f_hands) (h1 : f_hands ≤ 7) (h2 : z227 = f_hands) (h3 : 1 ≤ f_hands ∧ f_hands ≤ 7) (h4 : 0 ≤ p1 ∧ p1 ≤ 6) (h5 : 0 ≤ p2 ∧ p2 ≤ 4) (h6 : 0 ≤ z227 ∧ z227 ≤ 7) (h7 : 0 ≤ z355 ∧ z355 ≤ 6) : 0 ≤ ((5 * p1) + p2) ∧ ((8 * ((5 * p1) + p2)) + z355) = ((8 : Nat) : Int) * (((5 * p1) + p2)) + z355 := by omega
theorem vc_X12_isWished_v_25 {f_hands z227 : Int} (h0 : f_hands ≤ 7) (h1 : z227 = f_hands) (h2 : 0 ≤ f_hands ∧ f_hands ≤ 7) (h3 : 0 ≤ z227 ∧ z227 ≤ 7) : (z227 = f_hands ∧ (1 : Int) = 1) ∨ (¬ z227 = f_hands ∧ (1 : Int) = 0) := by omega
set_option maxRecDepth 4000 in
set_option maxHeartbeats 4000000 in
theorem c_X12_isWished_v {l : Launch} {D : va_G} {c : Nat → ClassId} {H0 : Heap} {sa : Nat × Nat × (Nat → Int32)} {w : mW} {μ : mM} (hw : mWF w) (hT : mT w μ) {p1 : Int} (hp1 : 0 ≤ p1 ∧ p1 ≤ 6) {p2 : Int} (hp2 : 0 ≤ p2 ∧ p2 ≤ 4) {f_hands : Int} (q_f_hands : μ 106 15 = f_hands) (hq0 : f_hands ≤ 7) : sC (gG l D c H0 sa) mX12_isWished 1 0 0 [.ref 106, iv p1, iv p2] (mk w μ) (qP w μ (fun z => (0 ≤ z ∧ z ≤ 1) ∧ (z = 1 → mtW μ 185 186 8 118 ((5 * p1) + p2).toNat f_hands) ∧ (¬ z = 1 → ¬ mtW μ 185 186 8 118 ((5 * p1) + p2).toNat f_hands) ∧ True)) := by
  refine sC.of rfl (by decide) (le_t rfl) ?_
  have ht_f_hands : (0 ≤ f_hands ∧ f_hands ≤ 20) := by rw [← q_f_hands]; exact hT 106 106 (A_106 hw) 15
  have h1 : 0 ≤ f_hands ∧ f_hands ≤ 7 := (vc_X12_isWished_v_1 hq0 ht_f_hands)
  refine mr_lvE (lv' := [(0, .ref 106), (1, iv p1), (2, iv p2)]) rfl ?_
  refine sv_aload_n (pc := 0) dX12_isWished_0 rfl rfl ?_
  refine gf_X12_119 (pc := 1) dX12_isWished_1 wF_X12_517 (A_106 hw) hT ?_
  refine mr_iconst (pc := 4) (z := 5) dX12_isWished_4 ?_
  refine mr_iload_n (pc := 5) (z := p1) dX12_isWished_5 rfl rfl ?_
  refine mr_imul (pc := 6) (x := 5) (y := p1) dX12_isWished_6 ?_
  refine mr_iload_n (pc := 7) (z := p2) dX12_isWished_7 rfl rfl ?_
  refine mr_iadd (pc := 8) (x := (5 * p1)) (y := p2) dX12_isWished_8 ?_
  refine la_185 (pc := 9) dX12_isWished_9 (A_185 hw) hT (rIx (n := 35) (rAdd (e := 0) (f := 34) (rMulL (n := 5) (e := 0) (f := 30) hp1 rfl) hp2 rfl) rfl) fun z227 q228 h229 => ?_
  refine sv_aload_n (pc := 10) dX12_isWished_10 rfl rfl ?_
  refine gk_X12_15 (pc := 11) dX12_isWished_11 wF_X12_79 (A_106 hw) q_f_hands ?_
  refine mr_icmp_ne (pc := 14) (tgt := 21) dX12_isWished_14 (by decide) (r32 h229 rfl) (r32 h1 rfl) (fun h230 => ?_) (fun h230 => ?_)
  · refine mr_iconst (pc := 21) (z := 0) dX12_isWished_21 ?_
    refine mr_istore_n (pc := 22) (lv' := [(3, iv 0), (0, .ref 106), (1, iv p1), (2, iv p2)]) dX12_isWished_22 rfl (by decide) rfl ?_
    refine mr_iconst (pc := 23) (z := 0) dX12_isWished_23 ?_
    refine mr_istore (pc := 24) (lv' := [(4, iv 0), (3, iv 0), (0, .ref 106), (1, iv p1), (2, iv p2)]) dX12_isWished_24 (by decide) rfl ?_
    have L241 : ∀ (nL241 : Nat) (z240 z239 : Int), True → (0 ≤ z240 ∧ z240 ≤ 0) → (0 ≤ z239 ∧ z239 ≤ 0) → mtI μ 185 186 8 118 ((5 * p1) + p2).toNat f_hands z239 z240 → 1 < (nL241 : Int) → sV (gG l D c H0 sa) mX12_isWished (sRm 1 0 0) (sZ (gG l D c H0 sa) 0 0 (qP w μ (fun z => (0 ≤ z ∧ z ≤ 1) ∧ (z = 1 → mtW μ 185 186 8 118 ((5 * p1) + p2).toNat f_hands) ∧ (¬ z = 1 → ¬ mtW μ 185 186 8 118 ((5 * p1) + p2).toNat f_hands) ∧ True))) 26 [(0, .ref 106), (1, iv p1), (2, iv p2), (3, iv z240), (4, iv z239)] [] (mk w μ) 0 0 := by
      intro nL241
      induction nL241 with
      | zero => intro z240 z239 _ h242 h243 R247 h248; exact ((vc_X8_lastStanding_2 h248)).elim
      | succ nL241 ih249 =>
        intro z240 z239 _ h242 h243 R247 h248
        refine mr_iload (pc := 26) (z := z239) dX12_isWished_26 rfl ?_
        refine sv_aload_n (pc := 28) dX12_isWished_28 rfl rfl ?_
        refine gk_X12_15 (pc := 29) dX12_isWished_29 wF_X12_79 (A_106 hw) q_f_hands ?_
        refine mr_icmp_ge (pc := 32) (tgt := 77) dX12_isWished_32 (by decide) (r32 h243 rfl) (r32 h1 rfl) (fun h250 => ?_) (fun h250 => ?_)
        · have h251 : 0 ≤ f_hands ∧ f_hands ≤ 0 := (vc_X12_isWished_v_3 h250 hq0 h230 h1 h229 h243)
          refine mr_iload_n (pc := 77) (z := z240) dX12_isWished_77 rfl rfl ?_
          exact mr_zretP dX12_isWished_78 rfl (rW (c := 0) (d := 1) h242 rfl) (le_t rfl) (le_t rfl) ⟨(rW (c := 0) (d := 1) h242 rfl), (fun h => absurd h (vc_X4_find_n_11 h242)), (fun h => (R247).2 h), trivial⟩
        have h252 : 1 ≤ f_hands ∧ f_hands ≤ 7 := (vc_X12_isWished_v_5 h250 hq0 h230 h1 h229 h243)
        refine mr_iload_n (pc := 35) (z := z240) dX12_isWished_35 rfl rfl ?_
        refine mr_if_eq (pc := 36) (tgt := 77) dX12_isWished_36 (by decide) (r32 h242 rfl) (fun _ => ?_) (fun h => ((vc_X10_firstWrongStep_7 h h242)).elim)
        refine mr_iload_n (pc := 77) (z := z240) dX12_isWished_77 rfl rfl ?_
        exact mr_zretP dX12_isWished_78 rfl (rW (c := 0) (d := 1) h242 rfl) (le_t rfl) (le_t rfl) ⟨(rW (c := 0) (d := 1) h242 rfl), (fun h => absurd h (vc_X4_find_n_11 h242)), (fun h => (R247).2 h), trivial⟩
    refine mr_lvS (lv' := [(0, .ref 106), (1, iv p1), (2, iv p2), (3, iv 0), (4, iv 0)]) (List.forall_mem_cons.mpr ⟨rfl, List.forall_mem_cons.mpr ⟨rfl, List.forall_mem_cons.mpr ⟨rfl, List.forall_mem_cons.mpr ⟨rfl, List.forall_mem_cons.mpr ⟨rfl, fun _ h => absurd h List.not_mem_nil⟩⟩⟩⟩⟩) ?_
    exact L241 2 0 0 trivial (rR (x := 0)) (rR (x := 0)) (mtI.start q228 vc_X12_isOffered_v_15 (vc_X12_isWished_v_9 hq0 h230 h1 h229)) vc_X8_lastStanding_7
  refine mr_iconst (pc := 17) (z := 1) dX12_isWished_17 ?_
  refine sv_goto (pc := 18) (tgt := 22) dX12_isWished_18 (by decide) ?_
  refine mr_istore_n (pc := 22) (lv' := [(3, iv 1), (0, .ref 106), (1, iv p1), (2, iv p2)]) dX12_isWished_22 rfl (by decide) rfl ?_
  refine mr_iconst (pc := 23) (z := 0) dX12_isWished_23 ?_
  refine mr_istore (pc := 24) (lv' := [(4, iv 0), (3, iv 1), (0, .ref 106), (1, iv p1), (2, iv p2)]) dX12_isWished_24 (by decide) rfl ?_
  have L357 : ∀ (nL357 : Nat) (z356 z355 : Int), True → (0 ≤ z356 ∧ z356 ≤ 1) → (0 ≤ z355 ∧ z355 ≤ 7) → mtI μ 185 186 8 118 ((5 * p1) + p2).toNat f_hands z355 z356 → (8 - z355) < (nL357 : Int) → sV (gG l D c H0 sa) mX12_isWished (sRm 1 0 0) (sZ (gG l D c H0 sa) 0 0 (qP w μ (fun z => (0 ≤ z ∧ z ≤ 1) ∧ (z = 1 → mtW μ 185 186 8 118 ((5 * p1) + p2).toNat f_hands) ∧ (¬ z = 1 → ¬ mtW μ 185 186 8 118 ((5 * p1) + p2).toNat f_hands) ∧ True))) 26 [(0, .ref 106), (1, iv p1), (2, iv p2), (3, iv z356), (4, iv z355)] [] (mk w μ) 0 0 := by
    intro nL357
    induction nL357 with
    | zero => intro z356 z355 _ h358 h359 R363 h364; exact ((vc_X12_isOffered_3 h364 h359)).elim
    | succ nL357 ih365 =>
      intro z356 z355 _ h358 h359 R363 h364
      refine mr_iload (pc := 26) (z := z355) dX12_isWished_26 rfl ?_
      refine sv_aload_n (pc := 28) dX12_isWished_28 rfl rfl ?_
      refine gk_X12_15 (pc := 29) dX12_isWished_29 wF_X12_79 (A_106 hw) q_f_hands ?_
      refine mr_icmp_ge (pc := 32) (tgt := 77) dX12_isWished_32 (by decide) (r32 h359 rfl) (r32 h1 rfl) (fun h366 => ?_) (fun h366 => ?_)
      · refine mr_iload_n (pc := 77) (z := z356) dX12_isWished_77 rfl rfl ?_
        exact mr_zretP dX12_isWished_78 rfl h358 (le_t rfl) (le_t rfl) ⟨h358, (fun h => (R363).yes h (vc_X12_isWished_v_11 hq0 h230 h366 h1 h229 h359)), (fun h => (R363).2 h), trivial⟩
      have h367 : 0 ≤ z355 ∧ z355 ≤ 6 := (vc_X12_isWished_v_12 h366 hq0 h230 h1 h229 h359)
      have h368 : 1 ≤ f_hands ∧ f_hands ≤ 7 := (vc_X12_isWished_v_13 h366 hq0 h230 h1 h229 h367)
      refine mr_iload_n (pc := 35) (z := z356) dX12_isWished_35 rfl rfl ?_
      refine mr_if_eq (pc := 36) (tgt := 77) dX12_isWished_36 (by decide) (r32 h358 rfl) (fun h369 => ?_) (fun h369 => ?_)
      · have h370 : 0 ≤ z356 ∧ z356 ≤ 0 := (vc_X12_ring_22 h369 h358)
        refine mr_iload_n (pc := 77) (z := z356) dX12_isWished_77 rfl rfl ?_
        exact mr_zretP dX12_isWished_78 rfl (rW (c := 0) (d := 1) h370 rfl) (le_t rfl) (le_t rfl) ⟨(rW (c := 0) (d := 1) h370 rfl), (fun h => absurd h (vc_X12_acted_w_17 h369 h370)), (fun h => (R363).2 h), trivial⟩
      have h371 : 1 ≤ z356 ∧ z356 ≤ 1 := (vc_X12_ring_24 h369 h358)
      refine sv_aload_n (pc := 39) dX12_isWished_39 rfl rfl ?_
      refine gf_X12_120 (pc := 40) dX12_isWished_40 wF_X12_520 (A_106 hw) hT ?_
      refine mr_bipush (pc := 43) (z := 8) dX12_isWished_43 (by decide) ?_
      refine mr_iconst (pc := 45) (z := 5) dX12_isWished_45 ?_
      refine mr_iload_n (pc := 46) (z := p1) dX12_isWished_46 rfl rfl ?_
      refine mr_imul (pc := 47) (x := 5) (y := p1) dX12_isWished_47 ?_
      refine mr_iload_n (pc := 48) (z := p2) dX12_isWished_48 rfl rfl ?_
      refine mr_iadd (pc := 49) (x := (5 * p1)) (y := p2) dX12_isWished_49 ?_
      refine mr_imul (pc := 50) (x := 8) (y := ((5 * p1) + p2)) dX12_isWished_50 ?_
      refine mr_iload (pc := 51) (z := z355) dX12_isWished_51 rfl ?_
      refine mr_iadd (pc := 53) (x := (8 * ((5 * p1) + p2))) (y := z355) dX12_isWished_53 ?_
      refine la_186 (pc := 54) dX12_isWished_54 (A_186 hw) hT (rIx (n := 280) (rAdd (e := 0) (f := 278) (rMulL (n := 8) (e := 0) (f := 272) (rAdd (e := 0) (f := 34) (rMulL (n := 5) (e := 0) (f := 30) hp1 rfl) hp2 rfl) rfl) h367 rfl) rfl) fun z372 q373 h374 => ?_
      refine sv_aload_n (pc := 55) dX12_isWished_55 rfl rfl ?_
      refine gf_X12_16 (pc := 56) dX12_isWished_56 wF_X12_82 (A_106 hw) hT ?_
      refine mr_iload (pc := 59) (z := z355) dX12_isWished_59 rfl ?_
      refine la_118 (pc := 61) dX12_isWished_61 (A_118 hw) hT (rIx (n := 20) h367 rfl) fun z375 q376 h377 => ?_
      refine mr_icmp_ne (pc := 62) (tgt := 69) dX12_isWished_62 (by decide) (r32 h374 rfl) (r32 h377 rfl) (fun h378 => ?_) (fun h378 => ?_)
      · refine mr_iconst (pc := 69) (z := 0) dX12_isWished_69 ?_
        refine mr_istore_n (pc := 70) (lv' := [(3, iv 0), (0, .ref 106), (1, iv p1), (2, iv p2), (4, iv z355)]) dX12_isWished_70 rfl (by decide) rfl ?_
        refine mr_iinc (pc := 71) (lv' := [(4, iv (z355 + 1)), (3, iv 0), (0, .ref 106), (1, iv p1), (2, iv p2)]) dX12_isWished_71 rfl (by decide) rfl ?_
        refine sv_goto (pc := 74) (tgt := 26) dX12_isWished_74 (by decide) ?_
        refine mr_lvS (lv' := [(0, .ref 106), (1, iv p1), (2, iv p2), (3, iv 0), (4, iv (z355 + 1))]) (List.forall_mem_cons.mpr ⟨rfl, List.forall_mem_cons.mpr ⟨rfl, List.forall_mem_cons.mpr ⟨rfl, List.forall_mem_cons.mpr ⟨rfl, List.forall_mem_cons.mpr ⟨rfl, fun _ h => absurd h List.not_mem_nil⟩⟩⟩⟩⟩) ?_
        exact ih365 0 (z355 + 1) trivial (rW (c := 0) (d := 1) (rR (x := 0)) rfl) (rW (c := 0) (d := 7) (rAdd (e := 1) (f := 7) h367 (rR (x := 1)) rfl) rfl) (mtI.next R363 (vc_X12_best_l_18 h369 h371) (vc_X12_isWished_v_19 hq0 h230 h366 h368 h229 h367) q373 (vc_X12_isWished_v_20 h366 hq0 h230 h368 hp1 hp2 h229 h367) q376 rfl (vc_X4_find_v_32 h378 h374 h377)) (vc_X12_isWished_v_17 (nS h364) h366 hq0 h230 h368 h229 h367)
      have h379 : 0 ≤ z375 ∧ z375 ≤ 6 := (vc_X4_find_v_33 h378 h374 h377)
      refine mr_iconst (pc := 65) (z := 1) dX12_isWished_65 ?_
      refine sv_goto (pc := 66) (tgt := 70) dX12_isWished_66 (by decide) ?_
      refine mr_istore_n (pc := 70) (lv' := [(3, iv 1), (0, .ref 106), (1, iv p1), (2, iv p2), (4, iv z355)]) dX12_isWished_70 rfl (by decide) rfl ?_
      refine mr_iinc (pc := 71) (lv' := [(4, iv (z355 + 1)), (3, iv 1), (0, .ref 106), (1, iv p1), (2, iv p2)]) dX12_isWished_71 rfl (by decide) rfl ?_
      refine sv_goto (pc := 74) (tgt := 26) dX12_isWished_74 (by decide) ?_
      refine mr_lvS (lv' := [(0, .ref 106), (1, iv p1), (2, iv p2), (3, iv 1), (4, iv (z355 + 1))]) (List.forall_mem_cons.mpr ⟨rfl, List.forall_mem_cons.mpr ⟨rfl, List.forall_mem_cons.mpr ⟨rfl, List.forall_mem_cons.mpr ⟨rfl, List.forall_mem_cons.mpr ⟨rfl, fun _ h => absurd h List.not_mem_nil⟩⟩⟩⟩⟩) ?_
      exact ih365 1 (z355 + 1) trivial (rW (c := 0) (d := 1) (rR (x := 1)) rfl) (rW (c := 0) (d := 7) (rAdd (e := 1) (f := 7) h367 (rR (x := 1)) rfl) rfl) (mtI.next R363 (vc_X12_best_l_18 h369 h371) (vc_X12_isWished_v_19 hq0 h230 h366 h368 h229 h367) q373 (vc_X12_isWished_v_20 h366 hq0 h230 h368 hp1 hp2 h229 h367) q376 rfl (vc_X4_find_v_34 h378 h374 h379)) (vc_X12_isWished_v_17 (nS h364) h366 hq0 h230 h368 h229 h367)
  refine mr_lvS (lv' := [(0, .ref 106), (1, iv p1), (2, iv p2), (3, iv 1), (4, iv 0)]) (List.forall_mem_cons.mpr ⟨rfl, List.forall_mem_cons.mpr ⟨rfl, List.forall_mem_cons.mpr ⟨rfl, List.forall_mem_cons.mpr ⟨rfl, List.forall_mem_cons.mpr ⟨rfl, fun _ h => absurd h List.not_mem_nil⟩⟩⟩⟩⟩) ?_
  exact L357 9 1 0 trivial (rW (c := 0) (d := 1) (rR (x := 1)) rfl) (rW (c := 0) (d := 7) (rR (x := 0)) rfl) (mtI.start q228 vc_X12_isOffered_v_15 (vc_X12_isWished_v_25 hq0 h230 h1 h229)) vc_X12_isOffered_10
theorem vc_X12_clear_v_1 {z77 z78 : Int} (h0 : (8 - z77) < ((0 : Nat) : Int)) (h1 : z78 ≤ 5 * z77 - 5) (h2 : 1 ≤ z77 ∧ z77 ≤ 7) (h3 : 0 ≤ z78 ∧ z78 ≤ 30) : False := by omega
theorem vc_X12_clear_v_2 {z77 z78 : Int} (h0 : 6 < z77) (h1 : z78 ≤ 5 * z77 - 5) (h2 : 1 ≤ z77 ∧ z77 ≤ 7) (h3 : 0 ≤ z78 ∧ z78 ≤ 30) : 7 ≤ z77 ∧ z77 ≤ 7 := by omega
theorem vc_X12_clear_v_3 {z77 z78 : Int} (h0 : z78 ≤ 5 * z77 - 5) (h1 : 6 < z77) (h2 : 7 ≤ z77 ∧ z77 ≤ 7) (h3 : 0 ≤ z78 ∧ z78 ≤ 30) : z77 = 7 := by omega
theorem vc_X12_clear_v_4 {z77 z78 : Int} (h0 : z77 ≤ 6) (h1 : z78 ≤ 5 * z77 - 5) (h2 : 1 ≤ z77 ∧ z77 ≤ 7) (h3 : 0 ≤ z78 ∧ z78 ≤ 30) : 1 ≤ z77 ∧ z77 ≤ 6 := by omega
theorem vc_X12_clear_v_5 {z101 z77 z78 : Int} (h0 : z78 ≤ 5 * z77 - 5) (h1 : z77 ≤ 6) (h2 : 0 ≤ z101 ∧ z101 ≤ 5) (h3 : 1 ≤ z77 ∧ z77 ≤ 6) (h4 : 0 ≤ z78 ∧ z78 ≤ 30) : 0 ≤ (z78 + z101) ∧ (z78 + z101) ≤ 30 := by omega
theorem vc_X12_clear_v_6 {z101 z77 z78 : Int} (h0 : z78 ≤ 5 * z77 - 5) (h1 : z77 ≤ 6) (h2 : 0 ≤ z101 ∧ z101 ≤ 5) (h3 : 1 ≤ z77 ∧ z77 ≤ 6) (h4 : 0 ≤ z78 ∧ z78 ≤ 30) : (z78 + z101) ≤ 5 * (z77 + 1) - 5 := by omega
theorem vc_X12_clear_v_7 {N z77 z78 : Int} (h0 : (8 - z77) < N + 1) (h1 : z78 ≤ 5 * z77 - 5) (h2 : z77 ≤ 6) (h3 : 1 ≤ z77 ∧ z77 ≤ 6) (h4 : 0 ≤ z78 ∧ z78 ≤ 30) : (8 - (z77 + 1)) < N := by omega
theorem vc_X12_clear_v_8 {z77 z78 : Int} (h0 : z78 ≤ 5 * z77 - 5) (h1 : z77 ≤ 6) (h2 : 1 ≤ z77 ∧ z77 ≤ 6) (h3 : 0 ≤ z78 ∧ z78 ≤ 30) : 1 ≤ z77 := by omega
theorem vc_X12_clear_v_9 {z101 z77 z78 : Int} (h0 : z78 ≤ 5 * z77 - 5) (h1 : z77 ≤ 6) (h2 : 0 ≤ z101 ∧ z101 ≤ 5) (h3 : 1 ≤ z77 ∧ z77 ≤ 6) (h4 : 0 ≤ z78 ∧ z78 ≤ 30) : (z78 + z101) = z78 + z101 := by omega
theorem vc_X12_clear_v_10  : ((0 : Int) : Int) ≤ (5 : Int) * ((1 : Int) : Int) - (5 : Int) := by omega
set_option maxRecDepth 4000 in
set_option maxHeartbeats 4000000 in
theorem c_X12_clear_v {l : Launch} {D : va_G} {c : Nat → ClassId} {H0 : Heap} {sa : Nat × Nat × (Nat → Int32)} {w : mW} {μ : mM} (hw : mWF w) (hT : mT w μ) : sC (gG l D c H0 sa) mX12_clear 1 0 0 [.ref 106] (mk w μ) (qI w [184999] μ (fun z μ1 => ((-2147483648) ≤ z ∧ z ≤ 2147483647) ∧ (foI μ μ1 184 7 z) ∧ True)) := by
  refine sC.of rfl (by decide) (le_t rfl) ?_
  refine mr_lvE (lv' := [(0, .ref 106)]) rfl ?_
  refine mr_iconst (pc := 0) (z := 0) dX12_clear_0 ?_
  refine mr_istore_n (pc := 1) (lv' := [(1, iv 0), (0, .ref 106)]) dX12_clear_1 rfl (by decide) rfl ?_
  refine mr_iconst (pc := 2) (z := 1) dX12_clear_2 ?_
  refine mr_istore_n (pc := 3) (lv' := [(2, iv 1), (1, iv 0), (0, .ref 106)]) dX12_clear_3 rfl (by decide) rfl ?_
  have L80 : ∀ (nL80 : Nat) (z78 z77 : Int) (μ79 : mM), mT w μ79 → mF [184999] w μ μ79 → (0 ≤ z78 ∧ z78 ≤ 30) → (1 ≤ z77 ∧ z77 ≤ 7) → (z78 ≤ 5 * z77 - 5) → foI μ μ79 184 z77 z78 → (8 - z77) < (nL80 : Int) → sV (gG l D c H0 sa) mX12_clear (sRm 1 0 0) (sZ (gG l D c H0 sa) 0 0 (qI w [184999] μ (fun z μ1 => ((-2147483648) ≤ z ∧ z ≤ 2147483647) ∧ (foI μ μ1 184 7 z) ∧ True))) 4 [(0, .ref 106), (1, iv z78), (2, iv z77)] [] (mk w μ79) 0 0 := by
    intro nL80
    induction nL80 with
    | zero => intro z78 z77 μ79 T83 F84 h81 h82 h86 R87 h88; exact ((vc_X12_clear_v_1 h88 h86 h82 h81)).elim
    | succ nL80 ih89 =>
      intro z78 z77 μ79 T83 F84 h81 h82 h86 R87 h88
      refine mr_iload_n (pc := 4) (z := z77) dX12_clear_4 rfl rfl ?_
      refine mr_bipush (pc := 5) (z := 6) dX12_clear_5 (by decide) ?_
      refine mr_icmp_gt (pc := 7) (tgt := 32) dX12_clear_7 (by decide) (r32 h82 rfl) (r32 (rR (x := 6)) rfl) (fun h98 => ?_) (fun h98 => ?_)
      · have h99 : 7 ≤ z77 ∧ z77 ≤ 7 := (vc_X12_clear_v_2 h98 h86 h82 h81)
        refine mr_iload_n (pc := 32) (z := z78) dX12_clear_32 rfl rfl ?_
        exact mr_iret dX12_clear_33 rfl (le_t rfl) (le_t rfl) T83 (mF.call mF.refl F84 rfl) ⟨(rW (c := (-2147483648)) (d := 2147483647) h81 rfl), (foI.k7 R87 (vc_X12_clear_v_3 h86 h98 h99 h81)), trivial⟩
      have h100 : 1 ≤ z77 ∧ z77 ≤ 6 := (vc_X12_clear_v_4 h98 h86 h82 h81)
      refine mr_iload_n (pc := 10) (z := z78) dX12_clear_10 rfl rfl ?_
      refine sv_aload_n (pc := 11) dX12_clear_11 rfl rfl ?_
      refine gf_X12_118 (pc := 12) dX12_clear_12 wF_X12_514 (A_106 hw) T83 ?_
      refine mr_iload_n (pc := 15) (z := z77) dX12_clear_15 rfl rfl ?_
      refine la_184 (pc := 16) dX12_clear_16 (A_184 hw) T83 (rIx (n := 7) h100 rfl) fun z101 q102 h103 => ?_
      refine mr_iadd (pc := 17) (x := z78) (y := z101) dX12_clear_17 ?_
      refine mr_istore_n (pc := 18) (lv' := [(1, iv (z78 + z101)), (0, .ref 106), (2, iv z77)]) dX12_clear_18 rfl (by decide) rfl ?_
      refine sv_aload_n (pc := 19) dX12_clear_19 rfl rfl ?_
      refine gf_X12_118 (pc := 20) dX12_clear_20 wF_X12_514 (A_106 hw) T83 ?_
      refine mr_iload_n (pc := 23) (z := z77) dX12_clear_23 rfl rfl ?_
      refine mr_iconst (pc := 24) (z := 0) dX12_clear_24 ?_
      refine ss_184 (pc := 25) dX12_clear_25 (A_184 hw) T83 (rIx (n := 7) h100 rfl) (rW (c := 0) (d := 5) (rR (x := 0)) rfl) fun μ104 u105 T106 => ?_
      refine mr_iinc (pc := 26) (lv' := [(2, iv (z77 + 1)), (1, iv (z78 + z101)), (0, .ref 106)]) dX12_clear_26 rfl (by decide) rfl ?_
      refine sv_goto (pc := 29) (tgt := 4) dX12_clear_29 (by decide) ?_
      refine mr_lvS (lv' := [(0, .ref 106), (1, iv (z78 + z101)), (2, iv (z77 + 1))]) (List.forall_mem_cons.mpr ⟨rfl, List.forall_mem_cons.mpr ⟨rfl, List.forall_mem_cons.mpr ⟨rfl, fun _ h => absurd h List.not_mem_nil⟩⟩⟩) ?_
      exact ih89 (z78 + z101) (z77 + 1) μ104 T106 (mF.up (mF.call mF.refl F84 rfl) (A_184 hw) u105 rfl) (vc_X12_clear_v_5 h86 h98 h103 h100 h81) (rW (c := 1) (d := 7) (rAdd (e := 2) (f := 7) h100 (rR (x := 1)) rfl) rfl) (vc_X12_clear_v_6 h86 h98 h103 h100 h81) (foI.next R87 (vc_X12_clear_v_8 h86 h98 h100 h81) q102 (vc_X12_clear_v_9 h86 h98 h103 h100 h81) u105) (vc_X12_clear_v_7 (nS h88) h86 h98 h100 h81)
  refine mr_lvS (lv' := [(0, .ref 106), (1, iv 0), (2, iv 1)]) (List.forall_mem_cons.mpr ⟨rfl, List.forall_mem_cons.mpr ⟨rfl, List.forall_mem_cons.mpr ⟨rfl, fun _ h => absurd h List.not_mem_nil⟩⟩⟩) ?_
  exact L80 8 0 1 μ hT mF.refl (rW (c := 0) (d := 30) (rR (x := 0)) rfl) (rW (c := 1) (d := 7) (rR (x := 1)) rfl) vc_X12_clear_v_10 foI.start vc_X12_isRest_25
theorem vc_X12_wish_v_3 {f_hands z6292 : Int} (h0 : f_hands ≤ z6292) (h1 : f_hands < 2) (h2 : 0 ≤ f_hands ∧ f_hands ≤ 1) (h3 : 0 ≤ z6292 ∧ z6292 ≤ 0) : 0 ≤ f_hands ∧ f_hands ≤ 0 := by omega
theorem vc_X12_wish_v_6 {f_hands z6292 : Int} (h0 : z6292 < f_hands) (h1 : f_hands < 2) (h2 : 0 ≤ f_hands ∧ f_hands ≤ 1) (h3 : 0 ≤ z6292 ∧ z6292 ≤ 0) : 1 ≤ f_hands ∧ f_hands ≤ 1 := by omega
theorem vc_X12_wish_v_11 {f_hands z6314 : Int} (h0 : f_hands ≤ z6314) (h1 : 8 ≤ f_hands ∧ f_hands ≤ 20) (h2 : 0 ≤ z6314 ∧ z6314 ≤ 0) : False := by omega
theorem vc_X12_wish_v_17 {f_hands z6336 : Int} (h0 : f_hands ≤ z6336) (h1 : 2 ≤ f_hands ∧ f_hands ≤ 7) (h2 : 0 ≤ z6336 ∧ z6336 ≤ 0) : False := by omega
theorem vc_X12_wish_v_29 {f_hands z7580 : Int} (h0 : f_hands ≤ z7580) (h1 : 2 ≤ f_hands) (h2 : f_hands ≤ 7) (h3 : 2 ≤ f_hands ∧ f_hands ≤ 7) (h4 : 0 ≤ z7580 ∧ z7580 ≤ 7) : 2 ≤ z7580 ∧ z7580 ≤ 7 := by omega
theorem vc_X12_wish_v_33 {f_hands z7580 : Int} (h0 : 2 ≤ f_hands) (h1 : f_hands ≤ 7) (h2 : f_hands ≤ z7580) (h3 : 2 ≤ f_hands ∧ f_hands ≤ 7) (h4 : 2 ≤ z7580 ∧ z7580 ≤ 7) : (0 : Int) < z7580 := by omega
theorem vc_X12_wish_v_34 {z6327 : Int} (h0 : z6327 ≤ 6) (h1 : ¬ z6327 = 0) (h2 : 1 ≤ z6327 ∧ z6327 ≤ 9) : 1 ≤ z6327 ∧ z6327 ≤ 6 := by omega
theorem vc_X12_wish_v_36 {z7910 z7919 : Int} (h0 : ¬ z7919 = 5) (h1 : z7919 ≤ z7910) (h2 : 0 ≤ z7910 ∧ z7910 ≤ 5) (h3 : 0 ≤ z7919 ∧ z7919 ≤ 5) : 0 ≤ z7919 ∧ z7919 ≤ 4 := by omega
theorem vc_X12_wish_v_37 {f_hands z7580 z8044 : Int} (h0 : (8 - z8044) < ((0 : Nat) : Int)) (h1 : z8044 ≤ f_hands) (h2 : 2 ≤ f_hands) (h3 : f_hands ≤ 7) (h4 : f_hands ≤ z7580) (h5 : 2 ≤ f_hands ∧ f_hands ≤ 7) (h6 : 2 ≤ z7580 ∧ z7580 ≤ 7) (h7 : 0 ≤ z8044 ∧ z8044 ≤ 7) : False := by omega
theorem vc_X12_wish_v_38 {f_hands z7580 z8044 : Int} (h0 : f_hands ≤ z8044) (h1 : 2 ≤ f_hands) (h2 : f_hands ≤ 7) (h3 : f_hands ≤ z7580) (h4 : z8044 ≤ f_hands) (h5 : 2 ≤ f_hands ∧ f_hands ≤ 7) (h6 : 2 ≤ z7580 ∧ z7580 ≤ 7) (h7 : 0 ≤ z8044 ∧ z8044 ≤ 7) : 2 ≤ z8044 ∧ z8044 ≤ 7 := by omega
theorem vc_X12_wish_v_39 {f_hands z7580 z8044 : Int} (h0 : 2 ≤ f_hands) (h1 : f_hands ≤ 7) (h2 : f_hands ≤ z7580) (h3 : z8044 ≤ f_hands) (h4 : f_hands ≤ z8044) (h5 : 2 ≤ f_hands ∧ f_hands ≤ 7) (h6 : 2 ≤ z7580 ∧ z7580 ≤ 7) (h7 : 2 ≤ z8044 ∧ z8044 ≤ 7) : f_hands ≤ z7580 := by omega
theorem vc_X12_wish_v_40 {z7910 z7919 : Int} (h0 : z7919 ≤ z7910) (h1 : ¬ z7919 = 5) (h2 : 0 ≤ z7910 ∧ z7910 ≤ 5) (h3 : 0 ≤ z7919 ∧ z7919 ≤ 4) : z7919 ≤ z7910 := by omega
theorem vc_X12_wish_v_41 {z6327 : Int} (h0 : ¬ z6327 = 0) (h1 : z6327 ≤ 6) (h2 : 1 ≤ z6327 ∧ z6327 ≤ 6) : 0 ≤ z6327 := by omega
theorem vc_X12_wish_v_42 {z6327 z7910 z7919 : Int} (h0 : ¬ z6327 = 0) (h1 : z6327 ≤ 6) (h2 : z7919 ≤ z7910) (h3 : ¬ z7919 = 5) (h4 : 1 ≤ z6327 ∧ z6327 ≤ 6) (h5 : 0 ≤ z7910 ∧ z7910 ≤ 5) (h6 : 0 ≤ z7919 ∧ z7919 ≤ 4) : 0 ≤ ((5 * z6327) + z7919) := by omega
theorem vc_X12_wish_v_43 {f_hands z6327 z7580 z7910 z7919 z8044 : Int} (h0 : 2 ≤ f_hands) (h1 : f_hands ≤ 7) (h2 : ¬ z6327 = 0) (h3 : f_hands ≤ z7580) (h4 : z6327 ≤ 6) (h5 : z7919 ≤ z7910) (h6 : ¬ z7919 = 5) (h7 : z8044 ≤ f_hands) (h8 : f_hands ≤ z8044) (h9 : 2 ≤ f_hands ∧ f_hands ≤ 7) (h10 : 1 ≤ z6327 ∧ z6327 ≤ 6) (h11 : 2 ≤ z7580 ∧ z7580 ≤ 7) (h12 : 0 ≤ z7910 ∧ z7910 ≤ 5) (h13 : 0 ≤ z7919 ∧ z7919 ≤ 4) (h14 : 2 ≤ z8044 ∧ z8044 ≤ 7) : (z7919 + 1) = z7919 + 1 ∧ ((5 * z6327) + z7919) = 5 * (z6327) + z7919 ∧ f_hands = f_hands ∧ z8044 = f_hands := by omega
theorem vc_X12_wish_v_44 {z6327 z7910 z7919 : Int} (h0 : ¬ z6327 = 0) (h1 : z6327 ≤ 6) (h2 : z7919 ≤ z7910) (h3 : ¬ z7919 = 5) (h4 : 1 ≤ z6327 ∧ z6327 ≤ 6) (h5 : 0 ≤ z7910 ∧ z7910 ≤ 5) (h6 : 0 ≤ z7919 ∧ z7919 ≤ 4) : (8 * ((5 * z6327) + z7919)) = ((8 : Nat) : Int) * (((5 * z6327) + z7919)) := by omega
theorem vc_X12_wish_v_45 {z7910 z7919 : Int} (h0 : z7919 ≤ z7910) (h1 : ¬ z7919 = 5) (h2 : 0 ≤ z7910 ∧ z7910 ≤ 5) (h3 : 0 ≤ z7919 ∧ z7919 ≤ 4) : z7919 < 5 := by omega
theorem vc_X12_wish_v_46 {z7910 z7919 : Int} (h0 : z7919 ≤ z7910) (h1 : ¬ z7919 = 5) (h2 : 0 ≤ z7910 ∧ z7910 ≤ 5) (h3 : 0 ≤ z7919 ∧ z7919 ≤ 4) : (z7919 + 1) = z7919 + 1 := by omega
theorem vc_X12_wish_v_47 {f_hands z7580 z8044 : Int} (h0 : z8044 < f_hands) (h1 : 2 ≤ f_hands) (h2 : f_hands ≤ 7) (h3 : f_hands ≤ z7580) (h4 : z8044 ≤ f_hands) (h5 : 2 ≤ f_hands ∧ f_hands ≤ 7) (h6 : 2 ≤ z7580 ∧ z7580 ≤ 7) (h7 : 0 ≤ z8044 ∧ z8044 ≤ 7) : 0 ≤ z8044 ∧ z8044 ≤ 6 := by omega
theorem vc_X12_wish_v_48 {f_hands z7580 z8044 : Int} (h0 : z8044 ≤ f_hands) (h1 : z8044 < f_hands) (h2 : 2 ≤ f_hands) (h3 : f_hands ≤ 7) (h4 : f_hands ≤ z7580) (h5 : 2 ≤ f_hands ∧ f_hands ≤ 7) (h6 : 2 ≤ z7580 ∧ z7580 ≤ 7) (h7 : 0 ≤ z8044 ∧ z8044 ≤ 6) : 0 ≤ z8044 := by omega
theorem vc_X12_wish_v_49 {f_hands z7580 z8044 : Int} (h0 : 2 ≤ f_hands) (h1 : f_hands ≤ 7) (h2 : f_hands ≤ z7580) (h3 : z8044 ≤ f_hands) (h4 : z8044 < f_hands) (h5 : 2 ≤ f_hands ∧ f_hands ≤ 7) (h6 : 2 ≤ z7580 ∧ z7580 ≤ 7) (h7 : 0 ≤ z8044 ∧ z8044 ≤ 6) : z8044 < z7580 := by omega
theorem vc_X12_wish_v_51 {f_hands z7580 z8044 : Int} (h0 : 2 ≤ f_hands) (h1 : f_hands ≤ 7) (h2 : f_hands ≤ z7580) (h3 : z8044 ≤ f_hands) (h4 : z8044 < f_hands) (h5 : 2 ≤ f_hands ∧ f_hands ≤ 7) (h6 : 2 ≤ z7580 ∧ z7580 ≤ 7) (h7 : 0 ≤ z8044 ∧ z8044 ≤ 6) : (z8044 + 1) ≤ f_hands := by omega
theorem vc_X12_wish_v_52 {N f_hands z7580 z8044 : Int} (h0 : (8 - z8044) < N + 1) (h1 : z8044 ≤ f_hands) (h2 : z8044 < f_hands) (h3 : 2 ≤ f_hands) (h4 : f_hands ≤ 7) (h5 : f_hands ≤ z7580) (h6 : 2 ≤ f_hands ∧ f_hands ≤ 7) (h7 : 2 ≤ z7580 ∧ z7580 ≤ 7) (h8 : 0 ≤ z8044 ∧ z8044 ≤ 6) : (8 - (z8044 + 1)) < N := by omega
theorem vc_X12_wish_v_53 {f_hands z6327 z7580 z7910 z7919 z8044 : Int} (h0 : ¬ z6327 = 0) (h1 : z6327 ≤ 6) (h2 : z7919 ≤ z7910) (h3 : ¬ z7919 = 5) (h4 : z8044 ≤ f_hands) (h5 : z8044 < f_hands) (h6 : 2 ≤ f_hands) (h7 : f_hands ≤ 7) (h8 : f_hands ≤ z7580) (h9 : 2 ≤ f_hands ∧ f_hands ≤ 7) (h10 : 1 ≤ z6327 ∧ z6327 ≤ 6) (h11 : 2 ≤ z7580 ∧ z7580 ≤ 7) (h12 : 0 ≤ z7910 ∧ z7910 ≤ 5) (h13 : 0 ≤ z7919 ∧ z7919 ≤ 4) (h14 : 0 ≤ z8044 ∧ z8044 ≤ 6) : 0 ≤ z8044 ∧ 0 ≤ (8 * ((5 * z6327) + z7919)) := by omega
theorem vc_X12_wish_v_54 {f_hands z6327 z7580 z7910 z7919 z8044 : Int} (h0 : ¬ z6327 = 0) (h1 : z6327 ≤ 6) (h2 : z7919 ≤ z7910) (h3 : ¬ z7919 = 5) (h4 : z8044 ≤ f_hands) (h5 : z8044 < f_hands) (h6 : 2 ≤ f_hands) (h7 : f_hands ≤ 7) (h8 : f_hands ≤ z7580) (h9 : 2 ≤ f_hands ∧ f_hands ≤ 7) (h10 : 1 ≤ z6327 ∧ z6327 ≤ 6) (h11 : 2 ≤ z7580 ∧ z7580 ≤ 7) (h12 : 0 ≤ z7910 ∧ z7910 ≤ 5) (h13 : 0 ≤ z7919 ∧ z7919 ≤ 4) (h14 : 0 ≤ z8044 ∧ z8044 ≤ 6) : ((8 * ((5 * z6327) + z7919)) + z8044) = (8 * ((5 * z6327) + z7919)) + z8044 := by omega
theorem vc_X12_wish_v_55 {f_hands z7580 : Int} (h0 : 2 ≤ f_hands) (h1 : f_hands ≤ 7) (h2 : f_hands ≤ z7580) (h3 : 2 ≤ f_hands ∧ f_hands ≤ 7) (h4 : 2 ≤ z7580 ∧ z7580 ≤ 7) : (0 : Int) ≤ f_hands := by omega
theorem vc_X12_wish_v_58 {z7910 z7919 : Int} (h0 : z7919 = 5) (h1 : z7919 ≤ z7910) (h2 : 0 ≤ z7910 ∧ z7910 ≤ 5) (h3 : 0 ≤ z7919 ∧ z7919 ≤ 5) : 5 ≤ z7919 ∧ z7919 ≤ 5 := by omega
theorem vc_X12_wish_v_59 {f_hands z7580 : Int} (h0 : 2 ≤ f_hands) (h1 : f_hands ≤ 7) (h2 : f_hands ≤ z7580) (h3 : 2 ≤ f_hands ∧ f_hands ≤ 7) (h4 : 2 ≤ z7580 ∧ z7580 ≤ 7) : f_hands ≤ z7580 := by omega
theorem vc_X12_wish_v_60 {z7910 z7919 : Int} (h0 : z7919 ≤ z7910) (h1 : z7919 = 5) (h2 : 0 ≤ z7910 ∧ z7910 ≤ 5) (h3 : 5 ≤ z7919 ∧ z7919 ≤ 5) : z7919 ≤ z7910 := by omega
theorem vc_X12_wish_v_61 {z7910 z7919 : Int} (h0 : z7919 ≤ z7910) (h1 : z7919 = 5) (h2 : 0 ≤ z7910 ∧ z7910 ≤ 5) (h3 : 5 ≤ z7919 ∧ z7919 ≤ 5) : 5 ≤ z7919 := by omega
theorem vc_X12_wish_v_64 {f_hands z7580 : Int} (h0 : 2 ≤ f_hands) (h1 : f_hands ≤ 7) (h2 : f_hands ≤ z7580) (h3 : 2 ≤ f_hands ∧ f_hands ≤ 7) (h4 : 2 ≤ z7580 ∧ z7580 ≤ 7) : f_hands ≤ 7 := by omega
theorem vc_X12_wish_v_67 {z7910 z7919 : Int} (h0 : z7910 < z7919) (h1 : 0 ≤ z7910 ∧ z7910 ≤ 4) (h2 : 1 ≤ z7919 ∧ z7919 ≤ 5) : 0 ≤ z7910 := by omega
theorem vc_X12_wish_v_68 {z6327 z7910 z7919 : Int} (h0 : ¬ z6327 = 0) (h1 : z6327 ≤ 6) (h2 : z7910 < z7919) (h3 : 1 ≤ z6327 ∧ z6327 ≤ 6) (h4 : 0 ≤ z7910 ∧ z7910 ≤ 4) (h5 : 1 ≤ z7919 ∧ z7919 ≤ 5) : ((5 * z6327) + z7910) = 5 * (z6327) + z7910 := by omega
theorem vc_X12_wish_v_71 {z7910 z7919 : Int} (h0 : z7910 < z7919) (h1 : 0 ≤ z7910 ∧ z7910 ≤ 4) (h2 : 1 ≤ z7919 ∧ z7919 ≤ 5) : 0 ≤ z7910 ∧ z7910 < z7919 := by omega
theorem vc_X12_wish_v_76 {f_hands z7580 : Int} (h0 : z7580 < f_hands) (h1 : 2 ≤ f_hands) (h2 : f_hands ≤ 7) (h3 : 2 ≤ f_hands ∧ f_hands ≤ 7) (h4 : 0 ≤ z7580 ∧ z7580 ≤ 7) : 0 ≤ z7580 ∧ z7580 ≤ 6 := by omega
theorem vc_X12_wish_v_78 {z8093 : Int} (h0 : 6 < z8093) (h1 : 0 ≤ z8093 ∧ z8093 ≤ 9) : 7 ≤ z8093 ∧ z8093 ≤ 9 := by omega
theorem vc_X12_wish_v_80 {N f_hands z7580 z8130 : Int} (h0 : (8 - z7580) < N + 1) (h1 : z7580 < f_hands) (h2 : z7580 ≤ z8130) (h3 : 2 ≤ f_hands) (h4 : f_hands ≤ 7) (h5 : 2 ≤ f_hands ∧ f_hands ≤ 7) (h6 : 0 ≤ z7580 ∧ z7580 ≤ 6) (h7 : 0 ≤ z8130 ∧ z8130 ≤ 6) : (8 - (z7580 + 1)) < N := by omega
theorem vc_X12_wish_v_82 {f_hands z7580 z8130 : Int} (h0 : z7580 < f_hands) (h1 : z7580 ≤ z8130) (h2 : 2 ≤ f_hands) (h3 : f_hands ≤ 7) (h4 : 2 ≤ f_hands ∧ f_hands ≤ 7) (h5 : 0 ≤ z7580 ∧ z7580 ≤ 6) (h6 : 0 ≤ z8130 ∧ z8130 ≤ 6) : z7580 ≤ z8130 := by omega
theorem vc_X12_wish_v_83 {f_hands z7580 z8130 : Int} (h0 : z7580 < f_hands) (h1 : z7580 ≤ z8130) (h2 : 2 ≤ f_hands) (h3 : f_hands ≤ 7) (h4 : 2 ≤ f_hands ∧ f_hands ≤ 7) (h5 : 0 ≤ z7580 ∧ z7580 ≤ 6) (h6 : 0 ≤ z8130 ∧ z8130 ≤ 6) : 0 ≤ z7580 := by omega
theorem vc_X12_wish_v_84 {f_hands z7580 z8130 : Int} (h0 : z8130 < z7580) (h1 : z7580 < f_hands) (h2 : 2 ≤ f_hands ∧ f_hands ≤ 7) (h3 : 0 ≤ z7580 ∧ z7580 ≤ 6) (h4 : 0 ≤ z8130 ∧ z8130 ≤ 6) : 0 ≤ z8130 ∧ z8130 ≤ 5 := by omega
theorem vc_X12_wish_v_85 {f_hands z7580 z8130 : Int} (h0 : z8130 < z7580) (h1 : z7580 < f_hands) (h2 : 2 ≤ f_hands ∧ f_hands ≤ 7) (h3 : 0 ≤ z7580 ∧ z7580 ≤ 6) (h4 : 0 ≤ z8130 ∧ z8130 ≤ 5) : 1 ≤ z7580 ∧ z7580 ≤ 6 := by omega
theorem vc_X12_wish_v_87 {N f_hands z7580 z8130 : Int} (h0 : (7 - z8130) < N + 1) (h1 : z8130 < z7580) (h2 : z7580 < f_hands) (h3 : 2 ≤ f_hands ∧ f_hands ≤ 7) (h4 : 1 ≤ z7580 ∧ z7580 ≤ 6) (h5 : 0 ≤ z8130 ∧ z8130 ≤ 5) : (7 - (z8130 + 1)) < N := by omega
theorem vc_X12_wish_v_91 {f_hands z7580 : Int} (h0 : 2 ≤ f_hands) (h1 : f_hands ≤ 7) (h2 : z7580 < f_hands) (h3 : 2 ≤ f_hands ∧ f_hands ≤ 7) (h4 : 0 ≤ z7580 ∧ z7580 ≤ 6) : 0 ≤ z7580 ∧ z7580 < f_hands := by omega
theorem vc_X12_wish_v_92 {z8093 : Int} (h0 : 6 < z8093) (h1 : 7 ≤ z8093 ∧ z8093 ≤ 9) : (z8093 ≤ 6 ∧ (0 : Int) = 1) ∨ (6 < z8093 ∧ (0 : Int) = 0) := by omega
theorem vc_X12_wish_v_96 {z8093 : Int} (h0 : z8093 ≤ 6) (h1 : 0 ≤ z8093 ∧ z8093 ≤ 6) : z8093 ≤ 6 := by omega
theorem vc_X12_wish_v_106 {z8093 z8250 : Int} (h0 : z8093 = z8250) (h1 : z8093 ≤ 6) (h2 : 0 ≤ z8093 ∧ z8093 ≤ 6) (h3 : 0 ≤ z8250 ∧ z8250 ≤ 9) : 0 ≤ z8250 ∧ z8250 ≤ 6 := by omega
theorem vc_X12_wish_v_107 {f_hands z7580 z8225 : Int} (h0 : z7580 < f_hands) (h1 : z8225 < z7580) (h2 : 2 ≤ f_hands) (h3 : f_hands ≤ 7) (h4 : 2 ≤ f_hands ∧ f_hands ≤ 7) (h5 : 1 ≤ z7580 ∧ z7580 ≤ 6) (h6 : 0 ≤ z8225 ∧ z8225 ≤ 5) : 0 ≤ z8225 ∧ z8225 < z7580 := by omega
theorem vc_X12_wish_v_108 {f_hands z7580 z8225 : Int} (h0 : 2 ≤ f_hands) (h1 : f_hands ≤ 7) (h2 : z7580 < f_hands) (h3 : z8225 < z7580) (h4 : 2 ≤ f_hands ∧ f_hands ≤ 7) (h5 : 1 ≤ z7580 ∧ z7580 ≤ 6) (h6 : 0 ≤ z8225 ∧ z8225 ≤ 5) : z7580 < f_hands := by omega
theorem vc_X12_wish_v_109 {z8093 z8226 z8250 : Int} (h0 : z8093 ≤ 6) (h1 : ¬ z8226 = 0) (h2 : z8093 = z8250) (h3 : 0 ≤ z8093 ∧ z8093 ≤ 6) (h4 : 1 ≤ z8226 ∧ z8226 ≤ 1) (h5 : 0 ≤ z8250 ∧ z8250 ≤ 6) : (z8226 = 1 ∧ ¬ z8093 = z8250 ∧ (0 : Int) = 1) ∨ (z8226 = 1 ∧ z8093 = z8250 ∧ (0 : Int) = 0) := by omega
theorem vc_X12_wish_v_110 {z8093 z8226 z8250 : Int} (h0 : z8093 ≤ 6) (h1 : ¬ z8226 = 0) (h2 : ¬ z8093 = z8250) (h3 : 0 ≤ z8093 ∧ z8093 ≤ 6) (h4 : 1 ≤ z8226 ∧ z8226 ≤ 1) (h5 : 0 ≤ z8250 ∧ z8250 ≤ 9) : (z8226 = 1 ∧ ¬ z8093 = z8250 ∧ (1 : Int) = 1) ∨ (z8226 = 1 ∧ z8093 = z8250 ∧ (1 : Int) = 0) := by omega
theorem vc_X12_wish_v_111 {z8093 : Int} (h0 : z8093 ≤ 6) (h1 : 0 ≤ z8093 ∧ z8093 ≤ 6) : (z8093 ≤ 6 ∧ (1 : Int) = 1) ∨ (6 < z8093 ∧ (1 : Int) = 0) := by omega
theorem vc_X12_wish_v_112 {f_hands : Int} (h0 : 2 ≤ f_hands) (h1 : f_hands ≤ 7) (h2 : 2 ≤ f_hands ∧ f_hands ≤ 7) : 2 ≤ f_hands ∧ f_hands ≤ 7 := by omega
set_option maxRecDepth 4000 in
set_option maxHeartbeats 4000000 in
theorem c_X12_wish_v {l : Launch} {D : va_G} {c : Nat → ClassId} {H0 : Heap} {sa : Nat × Nat × (Nat → Int32)} {w : mW} {μ : mM} (hw : mWF w) (hT : mT w μ) {f_hands : Int} (q_f_hands : μ 106 15 = f_hands) : sC (gG l D c H0 sa) mX12_wish 2 0 0 [.ref 106] (mk w μ) (qI w [184999, 185999, 186999] μ (fun z μ1 => ((-2147483648) ≤ z ∧ z ≤ 2147483647) ∧ (wiA μ μ1 184 185 186 8 118 f_hands z) ∧ True)) := by
  refine sC.of rfl (by decide) (le_t rfl) ?_
  have ht_f_hands : (0 ≤ f_hands ∧ f_hands ≤ 20) := by rw [← q_f_hands]; exact hT 106 106 (A_106 hw) 15
  refine mr_lvE (lv' := [(0, .ref 106)]) rfl ?_
  refine sv_aload_n (pc := 0) dX12_wish_0 rfl rfl ?_
  refine gk_X12_15 (pc := 1) dX12_wish_1 wF_X12_79 (A_106 hw) q_f_hands ?_
  refine mr_iconst (pc := 4) (z := 2) dX12_wish_4 ?_
  refine mr_icmp_lt (pc := 5) (tgt := 44) dX12_wish_5 (by decide) (r32 ht_f_hands rfl) (r32 (rR (x := 2)) rfl) (fun h6282 => ?_) (fun h6282 => ?_)
  · have h6283 : 0 ≤ f_hands ∧ f_hands ≤ 1 := (vc_X4_isWish_v_1 h6282 ht_f_hands)
    refine mr_iconst (pc := 44) (z := 0) dX12_wish_44 ?_
    refine mr_istore_n (pc := 45) (lv' := [(1, iv 0), (0, .ref 106)]) dX12_wish_45 rfl (by decide) rfl ?_
    refine mr_iconst (pc := 46) (z := 0) dX12_wish_46 ?_
    refine mr_istore_n (pc := 47) (lv' := [(2, iv 0), (1, iv 0), (0, .ref 106)]) dX12_wish_47 rfl (by decide) rfl ?_
    have L6294 : ∀ (nL6294 : Nat) (z6293 z6292 : Int), True → (0 ≤ z6293 ∧ z6293 ≤ 0) → (0 ≤ z6292 ∧ z6292 ≤ 0) → (z6293 = 1 → allLe μ 118 z6292 6) → rtI μ f_hands z6292 z6293 → 1 < (nL6294 : Int) → sV (gG l D c H0 sa) mX12_wish (sRm 2 0 0) (sZ (gG l D c H0 sa) 0 0 (qI w [184999, 185999, 186999] μ (fun z μ1 => ((-2147483648) ≤ z ∧ z ≤ 2147483647) ∧ (wiA μ μ1 184 185 186 8 118 f_hands z) ∧ True))) 48 [(0, .ref 106), (1, iv z6293), (2, iv z6292)] [] (mk w μ) 0 0 := by
      intro nL6294
      induction nL6294 with
      | zero => intro z6293 z6292 _ h6295 h6296 R6300 R6301 h6302; exact ((vc_X8_lastStanding_2 h6302)).elim
      | succ nL6294 ih6303 =>
        intro z6293 z6292 _ h6295 h6296 R6300 R6301 h6302
        refine mr_iload_n (pc := 48) (z := z6292) dX12_wish_48 rfl rfl ?_
        refine sv_aload_n (pc := 49) dX12_wish_49 rfl rfl ?_
        refine gk_X12_15 (pc := 50) dX12_wish_50 wF_X12_79 (A_106 hw) q_f_hands ?_
        refine mr_icmp_ge (pc := 53) (tgt := 121) dX12_wish_53 (by decide) (r32 h6296 rfl) (r32 h6283 rfl) (fun h6304 => ?_) (fun h6304 => ?_)
        · have h6305 : 0 ≤ f_hands ∧ f_hands ≤ 0 := (vc_X12_wish_v_3 h6304 h6282 h6283 h6296)
          refine mr_iload_n (pc := 121) (z := z6293) dX12_wish_121 rfl rfl ?_
          refine mr_if_ne (pc := 122) (tgt := 127) dX12_wish_122 (by decide) (r32 h6295 rfl) (fun h => ((vc_X10_firstWrongStep_7 h h6295)).elim) (fun _ => ?_)
          refine mr_iconst (pc := 125) (z := (-1)) dX12_wish_125 ?_
          exact mr_iret dX12_wish_126 rfl (le_t rfl) (le_t rfl) hT mF.refl ⟨(rW (c := (-2147483648)) (d := 2147483647) (rR (x := (-1))) rfl), (wiA.bad ((R6301).2 (vc_X4_find_n_11 h6295))), trivial⟩
        have h6306 : 1 ≤ f_hands ∧ f_hands ≤ 1 := (vc_X12_wish_v_6 h6304 h6282 h6283 h6296)
        refine mr_iload_n (pc := 56) (z := z6293) dX12_wish_56 rfl rfl ?_
        refine mr_if_eq (pc := 57) (tgt := 121) dX12_wish_57 (by decide) (r32 h6295 rfl) (fun _ => ?_) (fun h => ((vc_X10_firstWrongStep_7 h h6295)).elim)
        refine mr_iload_n (pc := 121) (z := z6293) dX12_wish_121 rfl rfl ?_
        refine mr_if_ne (pc := 122) (tgt := 127) dX12_wish_122 (by decide) (r32 h6295 rfl) (fun h => ((vc_X10_firstWrongStep_7 h h6295)).elim) (fun _ => ?_)
        refine mr_iconst (pc := 125) (z := (-1)) dX12_wish_125 ?_
        exact mr_iret dX12_wish_126 rfl (le_t rfl) (le_t rfl) hT mF.refl ⟨(rW (c := (-2147483648)) (d := 2147483647) (rR (x := (-1))) rfl), (wiA.bad ((R6301).2 (vc_X4_find_n_11 h6295))), trivial⟩
    refine mr_lvS (lv' := [(0, .ref 106), (1, iv 0), (2, iv 0)]) (List.forall_mem_cons.mpr ⟨rfl, List.forall_mem_cons.mpr ⟨rfl, List.forall_mem_cons.mpr ⟨rfl, fun _ h => absurd h List.not_mem_nil⟩⟩⟩) ?_
    exact L6294 2 0 0 trivial (rR (x := 0)) (rR (x := 0)) (fun _ => allLe.zero (Int.le_refl 0)) (rtI.none (wiP.len (vc_X4_isWish_v_3 h6282 h6283))) vc_X8_lastStanding_7
  have h6307 : 2 ≤ f_hands ∧ f_hands ≤ 20 := (vc_X4_isWish_v_4 h6282 ht_f_hands)
  refine sv_aload_n (pc := 8) dX12_wish_8 rfl rfl ?_
  refine gk_X12_15 (pc := 9) dX12_wish_9 wF_X12_79 (A_106 hw) q_f_hands ?_
  refine mr_bipush (pc := 12) (z := 7) dX12_wish_12 (by decide) ?_
  refine mr_icmp_gt (pc := 14) (tgt := 44) dX12_wish_14 (by decide) (r32 h6307 rfl) (r32 (rR (x := 7)) rfl) (fun h6308 => ?_) (fun h6308 => ?_)
  · have h6309 : 8 ≤ f_hands ∧ f_hands ≤ 20 := (vc_X4_isWish_v_5 h6308 h6282 h6307)
    refine mr_iconst (pc := 44) (z := 0) dX12_wish_44 ?_
    refine mr_istore_n (pc := 45) (lv' := [(1, iv 0), (0, .ref 106)]) dX12_wish_45 rfl (by decide) rfl ?_
    refine mr_iconst (pc := 46) (z := 0) dX12_wish_46 ?_
    refine mr_istore_n (pc := 47) (lv' := [(2, iv 0), (1, iv 0), (0, .ref 106)]) dX12_wish_47 rfl (by decide) rfl ?_
    have L6316 : ∀ (nL6316 : Nat) (z6315 z6314 : Int), True → (0 ≤ z6315 ∧ z6315 ≤ 0) → (0 ≤ z6314 ∧ z6314 ≤ 0) → (z6315 = 1 → allLe μ 118 z6314 6) → rtI μ f_hands z6314 z6315 → 1 < (nL6316 : Int) → sV (gG l D c H0 sa) mX12_wish (sRm 2 0 0) (sZ (gG l D c H0 sa) 0 0 (qI w [184999, 185999, 186999] μ (fun z μ1 => ((-2147483648) ≤ z ∧ z ≤ 2147483647) ∧ (wiA μ μ1 184 185 186 8 118 f_hands z) ∧ True))) 48 [(0, .ref 106), (1, iv z6315), (2, iv z6314)] [] (mk w μ) 0 0 := by
      intro nL6316
      induction nL6316 with
      | zero => intro z6315 z6314 _ h6317 h6318 R6322 R6323 h6324; exact ((vc_X8_lastStanding_2 h6324)).elim
      | succ nL6316 ih6325 =>
        intro z6315 z6314 _ h6317 h6318 R6322 R6323 h6324
        refine mr_iload_n (pc := 48) (z := z6314) dX12_wish_48 rfl rfl ?_
        refine sv_aload_n (pc := 49) dX12_wish_49 rfl rfl ?_
        refine gk_X12_15 (pc := 50) dX12_wish_50 wF_X12_79 (A_106 hw) q_f_hands ?_
        refine mr_icmp_ge (pc := 53) (tgt := 121) dX12_wish_53 (by decide) (r32 h6318 rfl) (r32 h6309 rfl) (fun h => ((vc_X12_wish_v_11 h h6309 h6318)).elim) (fun _ => ?_)
        refine mr_iload_n (pc := 56) (z := z6315) dX12_wish_56 rfl rfl ?_
        refine mr_if_eq (pc := 57) (tgt := 121) dX12_wish_57 (by decide) (r32 h6317 rfl) (fun _ => ?_) (fun h => ((vc_X10_firstWrongStep_7 h h6317)).elim)
        refine mr_iload_n (pc := 121) (z := z6315) dX12_wish_121 rfl rfl ?_
        refine mr_if_ne (pc := 122) (tgt := 127) dX12_wish_122 (by decide) (r32 h6317 rfl) (fun h => ((vc_X10_firstWrongStep_7 h h6317)).elim) (fun _ => ?_)
        refine mr_iconst (pc := 125) (z := (-1)) dX12_wish_125 ?_
        exact mr_iret dX12_wish_126 rfl (le_t rfl) (le_t rfl) hT mF.refl ⟨(rW (c := (-2147483648)) (d := 2147483647) (rR (x := (-1))) rfl), (wiA.bad ((R6323).2 (vc_X4_find_n_11 h6317))), trivial⟩
    refine mr_lvS (lv' := [(0, .ref 106), (1, iv 0), (2, iv 0)]) (List.forall_mem_cons.mpr ⟨rfl, List.forall_mem_cons.mpr ⟨rfl, List.forall_mem_cons.mpr ⟨rfl, fun _ h => absurd h List.not_mem_nil⟩⟩⟩) ?_
    exact L6316 2 0 0 trivial (rR (x := 0)) (rR (x := 0)) (fun _ => allLe.zero (Int.le_refl 0)) (rtI.none (wiP.len (vc_X4_isWish_v_7 h6282 h6308 h6309))) vc_X8_lastStanding_7
  have h6326 : 2 ≤ f_hands ∧ f_hands ≤ 7 := (vc_X4_isWish_v_8 h6308 h6282 h6307)
  refine sv_aload_n (pc := 17) dX12_wish_17 rfl rfl ?_
  refine gf_X12_16 (pc := 18) dX12_wish_18 wF_X12_82 (A_106 hw) hT ?_
  refine mr_iconst (pc := 21) (z := 0) dX12_wish_21 ?_
  refine la_118 (pc := 22) dX12_wish_22 (A_118 hw) hT (rIx (n := 20) (rR (x := 0)) rfl) fun z6327 q6328 h6329 => ?_
  refine mr_if_eq (pc := 23) (tgt := 44) dX12_wish_23 (by decide) (r32 h6329 rfl) (fun h6330 => ?_) (fun h6330 => ?_)
  · have h6331 : 0 ≤ z6327 ∧ z6327 ≤ 0 := (vc_X4_isWish_v_9 h6330 h6329)
    refine mr_iconst (pc := 44) (z := 0) dX12_wish_44 ?_
    refine mr_istore_n (pc := 45) (lv' := [(1, iv 0), (0, .ref 106)]) dX12_wish_45 rfl (by decide) rfl ?_
    refine mr_iconst (pc := 46) (z := 0) dX12_wish_46 ?_
    refine mr_istore_n (pc := 47) (lv' := [(2, iv 0), (1, iv 0), (0, .ref 106)]) dX12_wish_47 rfl (by decide) rfl ?_
    have L6338 : ∀ (nL6338 : Nat) (z6337 z6336 : Int), True → (0 ≤ z6337 ∧ z6337 ≤ 0) → (0 ≤ z6336 ∧ z6336 ≤ 0) → (z6337 = 1 → allLe μ 118 z6336 6) → rtI μ f_hands z6336 z6337 → 1 < (nL6338 : Int) → sV (gG l D c H0 sa) mX12_wish (sRm 2 0 0) (sZ (gG l D c H0 sa) 0 0 (qI w [184999, 185999, 186999] μ (fun z μ1 => ((-2147483648) ≤ z ∧ z ≤ 2147483647) ∧ (wiA μ μ1 184 185 186 8 118 f_hands z) ∧ True))) 48 [(0, .ref 106), (1, iv z6337), (2, iv z6336)] [] (mk w μ) 0 0 := by
      intro nL6338
      induction nL6338 with
      | zero => intro z6337 z6336 _ h6339 h6340 R6344 R6345 h6346; exact ((vc_X8_lastStanding_2 h6346)).elim
      | succ nL6338 ih6347 =>
        intro z6337 z6336 _ h6339 h6340 R6344 R6345 h6346
        refine mr_iload_n (pc := 48) (z := z6336) dX12_wish_48 rfl rfl ?_
        refine sv_aload_n (pc := 49) dX12_wish_49 rfl rfl ?_
        refine gk_X12_15 (pc := 50) dX12_wish_50 wF_X12_79 (A_106 hw) q_f_hands ?_
        refine mr_icmp_ge (pc := 53) (tgt := 121) dX12_wish_53 (by decide) (r32 h6340 rfl) (r32 h6326 rfl) (fun h => ((vc_X12_wish_v_17 h h6326 h6340)).elim) (fun _ => ?_)
        refine mr_iload_n (pc := 56) (z := z6337) dX12_wish_56 rfl rfl ?_
        refine mr_if_eq (pc := 57) (tgt := 121) dX12_wish_57 (by decide) (r32 h6339 rfl) (fun _ => ?_) (fun h => ((vc_X10_firstWrongStep_7 h h6339)).elim)
        refine mr_iload_n (pc := 121) (z := z6337) dX12_wish_121 rfl rfl ?_
        refine mr_if_ne (pc := 122) (tgt := 127) dX12_wish_122 (by decide) (r32 h6339 rfl) (fun h => ((vc_X10_firstWrongStep_7 h h6339)).elim) (fun _ => ?_)
        refine mr_iconst (pc := 125) (z := (-1)) dX12_wish_125 ?_
        exact mr_iret dX12_wish_126 rfl (le_t rfl) (le_t rfl) hT mF.refl ⟨(rW (c := (-2147483648)) (d := 2147483647) (rR (x := (-1))) rfl), (wiA.bad ((R6345).2 (vc_X4_find_n_11 h6339))), trivial⟩
    refine mr_lvS (lv' := [(0, .ref 106), (1, iv 0), (2, iv 0)]) (List.forall_mem_cons.mpr ⟨rfl, List.forall_mem_cons.mpr ⟨rfl, List.forall_mem_cons.mpr ⟨rfl, fun _ h => absurd h List.not_mem_nil⟩⟩⟩) ?_
    exact L6338 2 0 0 trivial (rR (x := 0)) (rR (x := 0)) (fun _ => allLe.zero (Int.le_refl 0)) (rtI.none (wiP.first (q6328.trans (vc_X12_goes_7 h6330 h6331)))) vc_X8_lastStanding_7
  have h6348 : 1 ≤ z6327 ∧ z6327 ≤ 9 := (vc_X4_isWish_v_34 h6330 h6329)
  refine sv_aload_n (pc := 26) dX12_wish_26 rfl rfl ?_
  refine gf_X12_16 (pc := 27) dX12_wish_27 wF_X12_82 (A_106 hw) hT ?_
  refine sv_aload_n (pc := 30) dX12_wish_30 rfl rfl ?_
  refine gk_X12_15 (pc := 31) dX12_wish_31 wF_X12_79 (A_106 hw) q_f_hands ?_
  refine mr_iconst (pc := 34) (z := 1) dX12_wish_34 ?_
  refine mr_isub (pc := 35) (x := f_hands) (y := 1) dX12_wish_35 ?_
  refine la_118 (pc := 36) dX12_wish_36 (A_118 hw) hT (rIx (n := 20) (rSub (e := 1) (f := 6) h6326 (rR (x := 1)) rfl) rfl) fun z6349 q6350 h6351 => ?_
  refine mr_if_ne (pc := 37) (tgt := 44) dX12_wish_37 (by decide) (r32 h6351 rfl) (fun h6352 => ?_) (fun h6352 => ?_)
  · have h6353 : 1 ≤ z6349 ∧ z6349 ≤ 9 := (vc_X4_isWish_v_34 h6352 h6351)
    refine mr_iconst (pc := 44) (z := 0) dX12_wish_44 ?_
    refine mr_istore_n (pc := 45) (lv' := [(1, iv 0), (0, .ref 106)]) dX12_wish_45 rfl (by decide) rfl ?_
    refine mr_iconst (pc := 46) (z := 0) dX12_wish_46 ?_
    refine mr_istore_n (pc := 47) (lv' := [(2, iv 0), (1, iv 0), (0, .ref 106)]) dX12_wish_47 rfl (by decide) rfl ?_
    have L6360 : ∀ (nL6360 : Nat) (z6359 z6358 : Int), True → (0 ≤ z6359 ∧ z6359 ≤ 0) → (0 ≤ z6358 ∧ z6358 ≤ 0) → (z6359 = 1 → allLe μ 118 z6358 6) → rtI μ f_hands z6358 z6359 → 1 < (nL6360 : Int) → sV (gG l D c H0 sa) mX12_wish (sRm 2 0 0) (sZ (gG l D c H0 sa) 0 0 (qI w [184999, 185999, 186999] μ (fun z μ1 => ((-2147483648) ≤ z ∧ z ≤ 2147483647) ∧ (wiA μ μ1 184 185 186 8 118 f_hands z) ∧ True))) 48 [(0, .ref 106), (1, iv z6359), (2, iv z6358)] [] (mk w μ) 0 0 := by
      intro nL6360
      induction nL6360 with
      | zero => intro z6359 z6358 _ h6361 h6362 R6366 R6367 h6368; exact ((vc_X8_lastStanding_2 h6368)).elim
      | succ nL6360 ih6369 =>
        intro z6359 z6358 _ h6361 h6362 R6366 R6367 h6368
        refine mr_iload_n (pc := 48) (z := z6358) dX12_wish_48 rfl rfl ?_
        refine sv_aload_n (pc := 49) dX12_wish_49 rfl rfl ?_
        refine gk_X12_15 (pc := 50) dX12_wish_50 wF_X12_79 (A_106 hw) q_f_hands ?_
        refine mr_icmp_ge (pc := 53) (tgt := 121) dX12_wish_53 (by decide) (r32 h6362 rfl) (r32 h6326 rfl) (fun h => ((vc_X12_wish_v_17 h h6326 h6362)).elim) (fun _ => ?_)
        refine mr_iload_n (pc := 56) (z := z6359) dX12_wish_56 rfl rfl ?_
        refine mr_if_eq (pc := 57) (tgt := 121) dX12_wish_57 (by decide) (r32 h6361 rfl) (fun _ => ?_) (fun h => ((vc_X10_firstWrongStep_7 h h6361)).elim)
        refine mr_iload_n (pc := 121) (z := z6359) dX12_wish_121 rfl rfl ?_
        refine mr_if_ne (pc := 122) (tgt := 127) dX12_wish_122 (by decide) (r32 h6361 rfl) (fun h => ((vc_X10_firstWrongStep_7 h h6361)).elim) (fun _ => ?_)
        refine mr_iconst (pc := 125) (z := (-1)) dX12_wish_125 ?_
        exact mr_iret dX12_wish_126 rfl (le_t rfl) (le_t rfl) hT mF.refl ⟨(rW (c := (-2147483648)) (d := 2147483647) (rR (x := (-1))) rfl), (wiA.bad ((R6367).2 (vc_X4_find_n_11 h6361))), trivial⟩
    refine mr_lvS (lv' := [(0, .ref 106), (1, iv 0), (2, iv 0)]) (List.forall_mem_cons.mpr ⟨rfl, List.forall_mem_cons.mpr ⟨rfl, List.forall_mem_cons.mpr ⟨rfl, fun _ h => absurd h List.not_mem_nil⟩⟩⟩) ?_
    exact L6360 2 0 0 trivial (rR (x := 0)) (rR (x := 0)) (fun _ => allLe.zero (Int.le_refl 0)) (rtI.none (wiP.last q6350 rfl (vc_X4_isWish_v_36 h6352 h6353))) vc_X8_lastStanding_7
  have h6370 : 0 ≤ z6349 ∧ z6349 ≤ 0 := (vc_X4_isWish_v_9 h6352 h6351)
  refine mr_iconst (pc := 40) (z := 1) dX12_wish_40 ?_
  refine sv_goto (pc := 41) (tgt := 45) dX12_wish_41 (by decide) ?_
  refine mr_istore_n (pc := 45) (lv' := [(1, iv 1), (0, .ref 106)]) dX12_wish_45 rfl (by decide) rfl ?_
  refine mr_iconst (pc := 46) (z := 0) dX12_wish_46 ?_
  refine mr_istore_n (pc := 47) (lv' := [(2, iv 0), (1, iv 1), (0, .ref 106)]) dX12_wish_47 rfl (by decide) rfl ?_
  have L7582 : ∀ (nL7582 : Nat) (z7581 z7580 : Int), True → (0 ≤ z7581 ∧ z7581 ≤ 1) → (0 ≤ z7580 ∧ z7580 ≤ 7) → (z7581 = 1 → allLe μ 118 z7580 6) → rtI μ f_hands z7580 z7581 → (8 - z7580) < (nL7582 : Int) → sV (gG l D c H0 sa) mX12_wish (sRm 2 0 0) (sZ (gG l D c H0 sa) 0 0 (qI w [184999, 185999, 186999] μ (fun z μ1 => ((-2147483648) ≤ z ∧ z ≤ 2147483647) ∧ (wiA μ μ1 184 185 186 8 118 f_hands z) ∧ True))) 48 [(0, .ref 106), (1, iv z7581), (2, iv z7580)] [] (mk w μ) 0 0 := by
    intro nL7582
    induction nL7582 with
    | zero => intro z7581 z7580 _ h7583 h7584 R7588 R7589 h7590; exact ((vc_X12_isOffered_3 h7590 h7584)).elim
    | succ nL7582 ih7591 =>
      intro z7581 z7580 _ h7583 h7584 R7588 R7589 h7590
      refine mr_iload_n (pc := 48) (z := z7580) dX12_wish_48 rfl rfl ?_
      refine sv_aload_n (pc := 49) dX12_wish_49 rfl rfl ?_
      refine gk_X12_15 (pc := 50) dX12_wish_50 wF_X12_79 (A_106 hw) q_f_hands ?_
      refine mr_icmp_ge (pc := 53) (tgt := 121) dX12_wish_53 (by decide) (r32 h7584 rfl) (r32 h6326 rfl) (fun h7592 => ?_) (fun h7592 => ?_)
      · have h7593 : 2 ≤ z7580 ∧ z7580 ≤ 7 := (vc_X12_wish_v_29 h7592 h6282 h6308 h6326 h7584)
        refine mr_iload_n (pc := 121) (z := z7581) dX12_wish_121 rfl rfl ?_
        refine mr_if_ne (pc := 122) (tgt := 127) dX12_wish_122 (by decide) (r32 h7583 rfl) (fun h7594 => ?_) (fun h7594 => ?_)
        · have h7595 : 1 ≤ z7581 ∧ z7581 ≤ 1 := (vc_X12_ring_24 h7594 h7583)
          refine sv_aload_n (pc := 127) dX12_wish_127 rfl rfl ?_
          refine gf_X12_16 (pc := 128) dX12_wish_128 wF_X12_82 (A_106 hw) hT ?_
          refine mr_iconst (pc := 131) (z := 0) dX12_wish_131 ?_
          refine lk_118 (pc := 132) dX12_wish_132 (A_118 hw) (rIx (n := 20) (rR (x := 0)) rfl) q6328 ?_
          have h7596 : z6327 ≤ 6 := allLe.at (R7588 (vc_X12_best_l_18 h7594 h7595)) vc_X12_through_6 (vc_X12_wish_v_33 h6282 h6308 h7592 h6326 h7593) q6328
          have h7597 : 1 ≤ z6327 ∧ z6327 ≤ 6 := (vc_X12_wish_v_34 h7596 h6330 h6348)
          refine mr_istore_n (pc := 133) (lv' := [(2, iv z6327), (0, .ref 106), (1, iv z7581)]) dX12_wish_133 rfl (by decide) rfl ?_
          refine mr_iconst (pc := 134) (z := 0) dX12_wish_134 ?_
          refine mr_istore_n (pc := 135) (lv' := [(3, iv 0), (2, iv z6327), (0, .ref 106), (1, iv z7581)]) dX12_wish_135 rfl (by decide) rfl ?_
          have L7911 : ∀ (nL7911 : Nat) (z7910 : Int), True → (0 ≤ z7910 ∧ z7910 ≤ 5) → noW μ 185 186 8 118 (z6327) f_hands z7910 → (6 - z7910) < (nL7911 : Int) → sV (gG l D c H0 sa) mX12_wish (sRm 2 0 0) (sZ (gG l D c H0 sa) 0 0 (qI w [184999, 185999, 186999] μ (fun z μ1 => ((-2147483648) ≤ z ∧ z ≤ 2147483647) ∧ (wiA μ μ1 184 185 186 8 118 f_hands z) ∧ True))) 136 [(0, .ref 106), (2, iv z6327), (3, iv z7910)] [] (mk w μ) 0 0 := by
            intro nL7911
            induction nL7911 with
            | zero => intro z7910 _ h7912 R7916 h7917; exact ((vc_X12_acted_1 h7917 h7912)).elim
            | succ nL7911 ih7918 =>
              intro z7910 _ h7912 R7916 h7917
              refine mr_iload_n (pc := 136) (z := z7910) dX12_wish_136 rfl rfl ?_
              refine sv_aload_n (pc := 137) dX12_wish_137 rfl rfl ?_
              refine gf_X12_118 (pc := 138) dX12_wish_138 wF_X12_514 (A_106 hw) hT ?_
              refine mr_iload_n (pc := 141) (z := z6327) dX12_wish_141 rfl rfl ?_
              refine la_184 (pc := 142) dX12_wish_142 (A_184 hw) hT (rIx (n := 7) h7597 rfl) fun z7919 q7920 h7921 => ?_
              refine mr_icmp_ge (pc := 143) (tgt := 164) dX12_wish_143 (by decide) (r32 h7912 rfl) (r32 h7921 rfl) (fun h7922 => ?_) (fun h7922 => ?_)
              · refine sv_aload_n (pc := 164) dX12_wish_164 rfl rfl ?_
                refine gf_X12_118 (pc := 165) dX12_wish_165 wF_X12_514 (A_106 hw) hT ?_
                refine mr_iload_n (pc := 168) (z := z6327) dX12_wish_168 rfl rfl ?_
                refine lk_184 (pc := 169) dX12_wish_169 (A_184 hw) (rIx (n := 7) h7597 rfl) q7920 ?_
                refine mr_iconst (pc := 170) (z := 5) dX12_wish_170 ?_
                refine mr_icmp_ne (pc := 171) (tgt := 177) dX12_wish_171 (by decide) (r32 h7921 rfl) (r32 (rR (x := 5)) rfl) (fun h7923 => ?_) (fun h7923 => ?_)
                · have h7924 : 0 ≤ z7919 ∧ z7919 ≤ 4 := (vc_X12_wish_v_36 h7923 h7922 h7912 h7921)
                  refine mr_iconst (pc := 177) (z := 5) dX12_wish_177 ?_
                  refine mr_iload_n (pc := 178) (z := z6327) dX12_wish_178 rfl rfl ?_
                  refine mr_imul (pc := 179) (x := 5) (y := z6327) dX12_wish_179 ?_
                  refine sv_aload_n (pc := 180) dX12_wish_180 rfl rfl ?_
                  refine gf_X12_118 (pc := 181) dX12_wish_181 wF_X12_514 (A_106 hw) hT ?_
                  refine mr_iload_n (pc := 184) (z := z6327) dX12_wish_184 rfl rfl ?_
                  refine lk_184 (pc := 185) dX12_wish_185 (A_184 hw) (rIx (n := 7) h7597 rfl) q7920 ?_
                  refine mr_iadd (pc := 186) (x := (5 * z6327)) (y := z7919) dX12_wish_186 ?_
                  refine mr_istore_n (pc := 187) (lv' := [(3, iv ((5 * z6327) + z7919)), (0, .ref 106), (2, iv z6327)]) dX12_wish_187 rfl (by decide) rfl ?_
                  refine sv_aload_n (pc := 188) dX12_wish_188 rfl rfl ?_
                  refine gf_X12_119 (pc := 189) dX12_wish_189 wF_X12_517 (A_106 hw) hT ?_
                  refine mr_iload_n (pc := 192) (z := ((5 * z6327) + z7919)) dX12_wish_192 rfl rfl ?_
                  refine sv_aload_n (pc := 193) dX12_wish_193 rfl rfl ?_
                  refine gk_X12_15 (pc := 194) dX12_wish_194 wF_X12_79 (A_106 hw) q_f_hands ?_
                  refine ss_185 (pc := 197) dX12_wish_197 (A_185 hw) hT (rIx (n := 35) (rAdd (e := 5) (f := 34) (rMulL (n := 5) (e := 5) (f := 30) h7597 rfl) h7924 rfl) rfl) (rW (c := 0) (d := 7) h6326 rfl) fun μ7925 u7926 T7927 => ?_
                  refine mr_iconst (pc := 198) (z := 0) dX12_wish_198 ?_
                  refine mr_istore (pc := 199) (lv' := [(4, iv 0), (3, iv ((5 * z6327) + z7919)), (0, .ref 106), (2, iv z6327)]) dX12_wish_199 (by decide) rfl ?_
                  have L8046 : ∀ (nL8046 : Nat) (z8044 : Int) (μ8045 : mM), mT w μ8045 → mF [186999] w μ7925 μ8045 → (0 ≤ z8044 ∧ z8044 ≤ 7) → (z8044 ≤ f_hands) → cpT μ μ8045 186 118 (8 * ((5 * z6327) + z7919)) z8044 → (8 - z8044) < (nL8046 : Int) → sV (gG l D c H0 sa) mX12_wish (sRm 2 0 0) (sZ (gG l D c H0 sa) 0 0 (qI w [184999, 185999, 186999] μ (fun z μ1 => ((-2147483648) ≤ z ∧ z ≤ 2147483647) ∧ (wiA μ μ1 184 185 186 8 118 f_hands z) ∧ True))) 201 [(0, .ref 106), (2, iv z6327), (3, iv ((5 * z6327) + z7919)), (4, iv z8044)] [] (mk w μ8045) 0 0 := by
                    intro nL8046
                    induction nL8046 with
                    | zero => intro z8044 μ8045 T8048 F8049 h8047 h8051 R8052 h8053; exact ((vc_X12_wish_v_37 h8053 h8051 h6282 h6308 h7592 h6326 h7593 h8047)).elim
                    | succ nL8046 ih8054 =>
                      intro z8044 μ8045 T8048 F8049 h8047 h8051 R8052 h8053
                      refine mr_iload (pc := 201) (z := z8044) dX12_wish_201 rfl ?_
                      refine sv_aload_n (pc := 203) dX12_wish_203 rfl rfl ?_
                      refine gk_X12_15 (pc := 204) dX12_wish_204 wF_X12_79 (A_106 hw) (F8049.f (A_106 hw) rfl (u7926.f (Or.inl (mAt.ne (A_185 hw) (A_106 hw) rfl)) q_f_hands)) ?_
                      refine mr_icmp_ge (pc := 207) (tgt := 235) dX12_wish_207 (by decide) (r32 h8047 rfl) (r32 h6326 rfl) (fun h8063 => ?_) (fun h8063 => ?_)
                      · have h8064 : 2 ≤ z8044 ∧ z8044 ≤ 7 := (vc_X12_wish_v_38 h8063 h6282 h6308 h7592 h8051 h6326 h7593 h8047)
                        refine sv_aload_n (pc := 235) dX12_wish_235 rfl rfl ?_
                        refine gf_X12_118 (pc := 236) dX12_wish_236 wF_X12_514 (A_106 hw) T8048 ?_
                        refine mr_iload_n (pc := 239) (z := z6327) dX12_wish_239 rfl rfl ?_
                        refine sv_dup2 (pc := 240) dX12_wish_240 rfl rfl ?_
                        refine lk_184 (pc := 241) dX12_wish_241 (A_184 hw) (rIx (n := 7) h7597 rfl) (F8049.f (A_184 hw) rfl (u7926.f (Or.inl (mAt.ne (A_185 hw) (A_184 hw) rfl)) q7920)) ?_
                        refine mr_iconst (pc := 242) (z := 1) dX12_wish_242 ?_
                        refine mr_iadd (pc := 243) (x := z7919) (y := 1) dX12_wish_243 ?_
                        refine ss_184 (pc := 244) dX12_wish_244 (A_184 hw) T8048 (rIx (n := 7) h7597 rfl) (rW (c := 0) (d := 5) (rAdd (e := 1) (f := 5) h7924 (rR (x := 1)) rfl) rfl) fun μ8065 u8066 T8067 => ?_
                        refine sv_aload_n (pc := 245) dX12_wish_245 rfl rfl ?_
                        refine gf_X12_118 (pc := 246) dX12_wish_246 wF_X12_514 (A_106 hw) T8067 ?_
                        refine mr_iload_n (pc := 249) (z := z6327) dX12_wish_249 rfl rfl ?_
                        refine lk_184 (pc := 250) dX12_wish_250 (A_184 hw) (rIx (n := 7) h7597 rfl) u8066.1 ?_
                        exact mr_iret dX12_wish_251 rfl (le_t rfl) (le_t rfl) T8067 (mF.up (mF.call (mF.up mF.refl (A_185 hw) u7926 rfl) F8049 rfl) (A_184 hw) u8066 rfl) ⟨(rW (c := (-2147483648)) (d := 2147483647) (rAdd (e := 1) (f := 5) h7924 (rR (x := 1)) rfl) rfl), (wiA.add ((R7589).yes (vc_X12_best_l_18 h7594 h7595) (vc_X12_wish_v_39 h6282 h6308 h7592 h8051 h8063 h6326 h7593 h8064)) q6328 q7920 ((R7916).le (vc_X12_wish_v_40 h7922 h7923 h7912 h7924)) (vc_X12_wish_v_45 h7922 h7923 h7912 h7924) (awT.of (one.up (one.fr (one.oth one.refl u7926 rfl) F8049 (A_184 hw) rfl rfl) (vc_X12_wish_v_41 h6330 h7596 h7597) u8066) u8066.1 (one.oth (one.fr (one.up one.refl (vc_X12_wish_v_42 h6330 h7596 h7922 h7923 h7597 h7912 h7924) u7926) F8049 (A_185 hw) rfl rfl) u8066 rfl) (u8066.f (Or.inl (mAt.ne (A_184 hw) (A_185 hw) rfl)) (F8049.f (A_185 hw) rfl u7926.1)) (cpT.oth R8052 u8066 rfl) (vc_X12_wish_v_43 h6282 h6308 h6330 h7592 h7596 h7922 h7923 h8051 h8063 h6326 h7597 h7593 h7912 h7924 h8064) (vc_X12_wish_v_44 h6330 h7596 h7922 h7923 h7597 h7912 h7924)) (vc_X12_wish_v_46 h7922 h7923 h7912 h7924)), trivial⟩
                      have h8068 : 0 ≤ z8044 ∧ z8044 ≤ 6 := (vc_X12_wish_v_47 h8063 h6282 h6308 h7592 h8051 h6326 h7593 h8047)
                      refine sv_aload_n (pc := 210) dX12_wish_210 rfl rfl ?_
                      refine gf_X12_120 (pc := 211) dX12_wish_211 wF_X12_520 (A_106 hw) T8048 ?_
                      refine mr_bipush (pc := 214) (z := 8) dX12_wish_214 (by decide) ?_
                      refine mr_iload_n (pc := 216) (z := ((5 * z6327) + z7919)) dX12_wish_216 rfl rfl ?_
                      refine mr_imul (pc := 217) (x := 8) (y := ((5 * z6327) + z7919)) dX12_wish_217 ?_
                      refine mr_iload (pc := 218) (z := z8044) dX12_wish_218 rfl ?_
                      refine mr_iadd (pc := 220) (x := (8 * ((5 * z6327) + z7919))) (y := z8044) dX12_wish_220 ?_
                      refine sv_aload_n (pc := 221) dX12_wish_221 rfl rfl ?_
                      refine gf_X12_16 (pc := 222) dX12_wish_222 wF_X12_82 (A_106 hw) T8048 ?_
                      refine mr_iload (pc := 225) (z := z8044) dX12_wish_225 rfl ?_
                      refine la_118 (pc := 227) dX12_wish_227 (A_118 hw) T8048 (rIx (n := 20) h8068 rfl) fun z8069 q8070 h8071 => ?_
                      have h8072 : z8069 ≤ 6 := allLe.at (R7588 (vc_X12_best_l_18 h7594 h7595)) (vc_X12_wish_v_48 h8051 h8063 h6282 h6308 h7592 h6326 h7593 h8068) (vc_X12_wish_v_49 h6282 h6308 h7592 h8051 h8063 h6326 h7593 h8068) ((((mF.call (mF.up mF.refl (A_185 hw) u7926 rfl) F8049 rfl) : mF [185999, 186999] w μ μ8045).f (A_118 hw) rfl rfl).symm.trans q8070)
                      have h8073 : 0 ≤ z8069 ∧ z8069 ≤ 6 := (vc_X4_find_v_1 h8072 h8071)
                      refine ss_186 (pc := 228) dX12_wish_228 (A_186 hw) T8048 (rIx (n := 280) (rAdd (e := 40) (f := 278) (rMulL (n := 8) (e := 40) (f := 272) (rAdd (e := 5) (f := 34) (rMulL (n := 5) (e := 5) (f := 30) h7597 rfl) h7924 rfl) rfl) h8068 rfl) rfl) h8073 fun μ8074 u8075 T8076 => ?_
                      refine mr_iinc (pc := 229) (lv' := [(4, iv (z8044 + 1)), (0, .ref 106), (2, iv z6327), (3, iv ((5 * z6327) + z7919))]) dX12_wish_229 rfl (by decide) rfl ?_
                      refine sv_goto (pc := 232) (tgt := 201) dX12_wish_232 (by decide) ?_
                      refine mr_lvS (lv' := [(0, .ref 106), (2, iv z6327), (3, iv ((5 * z6327) + z7919)), (4, iv (z8044 + 1))]) (List.forall_mem_cons.mpr ⟨rfl, List.forall_mem_cons.mpr ⟨rfl, List.forall_mem_cons.mpr ⟨rfl, List.forall_mem_cons.mpr ⟨rfl, fun _ h => absurd h List.not_mem_nil⟩⟩⟩⟩) ?_
                      exact ih8054 (z8044 + 1) μ8074 T8076 (mF.up (mF.call mF.refl F8049 rfl) (A_186 hw) u8075 rfl) (rW (c := 0) (d := 7) (rAdd (e := 1) (f := 7) h8068 (rR (x := 1)) rfl) rfl) (vc_X12_wish_v_51 h6282 h6308 h7592 h8051 h8063 h6326 h7593 h8068) (cpT.next R8052 (vc_X12_wish_v_53 h6330 h7596 h7922 h7923 h8051 h8063 h6282 h6308 h7592 h6326 h7597 h7593 h7912 h7924 h8068) ((((mF.call (mF.up mF.refl (A_185 hw) u7926 rfl) F8049 rfl) : mF [185999, 186999] w μ μ8045).f (A_118 hw) rfl rfl).symm.trans q8070) u8075 (vc_X12_wish_v_54 h6330 h7596 h7922 h7923 h8051 h8063 h6282 h6308 h7592 h6326 h7597 h7593 h7912 h7924 h8068)) (vc_X12_wish_v_52 (nS h8053) h8051 h8063 h6282 h6308 h7592 h6326 h7593 h8068)
                  refine mr_lvS (lv' := [(0, .ref 106), (2, iv z6327), (3, iv ((5 * z6327) + z7919)), (4, iv 0)]) (List.forall_mem_cons.mpr ⟨rfl, List.forall_mem_cons.mpr ⟨rfl, List.forall_mem_cons.mpr ⟨rfl, List.forall_mem_cons.mpr ⟨rfl, fun _ h => absurd h List.not_mem_nil⟩⟩⟩⟩) ?_
                  exact L8046 9 0 μ7925 T7927 mF.refl (rW (c := 0) (d := 7) (rR (x := 0)) rfl) (vc_X12_wish_v_55 h6282 h6308 h7592 h6326 h7593) ((cpT.zero vc_X12_isOffered_v_15).b0 (fun i => u7926.2 118 i (Or.inl (by decide))) (fun i => u7926.2 186 i (Or.inl (by decide)))) vc_X12_isOffered_10
                have h8077 : 5 ≤ z7919 ∧ z7919 ≤ 5 := (vc_X12_wish_v_58 h7923 h7922 h7912 h7921)
                refine mr_bipush (pc := 174) (z := (-3)) dX12_wish_174 (by decide) ?_
                exact mr_iret dX12_wish_176 rfl (le_t rfl) (le_t rfl) hT mF.refl ⟨(rW (c := (-2147483648)) (d := 2147483647) (rR (x := (-3))) rfl), (wiA.full ((R7589).yes (vc_X12_best_l_18 h7594 h7595) (vc_X12_wish_v_59 h6282 h6308 h7592 h6326 h7593)) q6328 q7920 ((R7916).le (vc_X12_wish_v_60 h7922 h7923 h7912 h8077)) (vc_X12_wish_v_61 h7922 h7923 h7912 h8077)), trivial⟩
              have h8078 : 0 ≤ z7910 ∧ z7910 ≤ 4 := (vc_X12_acted_2 h7922 h7912 h7921)
              have h8079 : 1 ≤ z7919 ∧ z7919 ≤ 5 := (vc_X12_acted_3 h7922 h8078 h7921)
              refine sv_aload_n (pc := 146) dX12_wish_146 rfl rfl ?_
              refine mr_iload_n (pc := 147) (z := z6327) dX12_wish_147 rfl rfl ?_
              refine mr_iload_n (pc := 148) (z := z7910) dX12_wish_148 rfl rfl ?_
              refine mr_cVP (pc := 149) (c_X12_isWished_v hw hT (rW (c := 0) (d := 6) h7597 rfl) h8078 q_f_hands (vc_X12_wish_v_64 h6282 h6308 h7592 h6326 h7593)) (gOk _ _ _ _ _) dX12_wish_149 (tX12_isWished _ _ _ _ _) ⟨wV_X12_isWished, wL_X12_isWished⟩ wM_X12_716 (gCX12 _ _ _ _ _) rfl (A_106 hw) rfl ⟨le_t rfl, le_t rfl⟩ ⟨le_t rfl, le_t rfl⟩ rfl (le_t rfl) fun z8084 h8083 => ?_
              refine mr_if_eq (pc := 152) (tgt := 158) dX12_wish_152 (by decide) (r32 h8083.1 rfl) (fun h8085 => ?_) (fun h8085 => ?_)
              · have h8086 : 0 ≤ z8084 ∧ z8084 ≤ 0 := (vc_X12_ring_22 h8085 h8083.1)
                refine mr_iinc (pc := 158) (lv' := [(3, iv (z7910 + 1)), (0, .ref 106), (2, iv z6327)]) dX12_wish_158 rfl (by decide) rfl ?_
                refine sv_goto (pc := 161) (tgt := 136) dX12_wish_161 (by decide) ?_
                refine mr_lvS (lv' := [(0, .ref 106), (2, iv z6327), (3, iv (z7910 + 1))]) (List.forall_mem_cons.mpr ⟨rfl, List.forall_mem_cons.mpr ⟨rfl, List.forall_mem_cons.mpr ⟨rfl, fun _ h => absurd h List.not_mem_nil⟩⟩⟩) ?_
                exact ih7918 (z7910 + 1) trivial (rW (c := 0) (d := 5) (rAdd (e := 1) (f := 5) h8078 (rR (x := 1)) rfl) rfl) (noW.next (s := ((5 * z6327) + z7910)) R7916 (vc_X12_wish_v_67 h7922 h8078 h8079) (vc_X12_wish_v_68 h6330 h7596 h7922 h7597 h8078 h8079) (h8083.2.2.1 (vc_X12_acted_w_17 h8085 h8086))) (vc_X12_acted_11 (nS h7917) h7922 h8078 h8079)
              have h8087 : 1 ≤ z8084 ∧ z8084 ≤ 1 := (vc_X12_ring_24 h8085 h8083.1)
              refine mr_bipush (pc := 155) (z := (-2)) dX12_wish_155 (by decide) ?_
              exact mr_iret dX12_wish_157 rfl (le_t rfl) (le_t rfl) hT mF.refl ⟨(rW (c := (-2147483648)) (d := 2147483647) (rR (x := (-2))) rfl), (wiA.has ((R7589).yes (vc_X12_best_l_18 h7594 h7595) (vc_X12_wish_v_59 h6282 h6308 h7592 h6326 h7593)) q6328 q7920 (hasW.of (s := ((5 * z6327) + z7910)) (vc_X12_wish_v_71 h7922 h8078 h8079) (vc_X12_wish_v_68 h6330 h7596 h7922 h7597 h8078 h8079) (h8083.2.1 (vc_X12_best_l_18 h8085 h8087)))), trivial⟩
          refine mr_lvS (lv' := [(0, .ref 106), (2, iv z6327), (3, iv 0)]) (List.forall_mem_cons.mpr ⟨rfl, List.forall_mem_cons.mpr ⟨rfl, List.forall_mem_cons.mpr ⟨rfl, fun _ h => absurd h List.not_mem_nil⟩⟩⟩) ?_
          exact L7911 7 0 trivial (rW (c := 0) (d := 5) (rR (x := 0)) rfl) (noW.zero vc_X12_isOffered_v_15) vc_X12_acted_13
        have h8088 : 0 ≤ z7581 ∧ z7581 ≤ 0 := (vc_X12_ring_22 h7594 h7583)
        refine mr_iconst (pc := 125) (z := (-1)) dX12_wish_125 ?_
        exact mr_iret dX12_wish_126 rfl (le_t rfl) (le_t rfl) hT mF.refl ⟨(rW (c := (-2147483648)) (d := 2147483647) (rR (x := (-1))) rfl), (wiA.bad ((R7589).2 (vc_X12_acted_w_17 h7594 h8088))), trivial⟩
      have h8089 : 0 ≤ z7580 ∧ z7580 ≤ 6 := (vc_X12_wish_v_76 h7592 h6282 h6308 h6326 h7584)
      refine mr_iload_n (pc := 56) (z := z7581) dX12_wish_56 rfl rfl ?_
      refine mr_if_eq (pc := 57) (tgt := 121) dX12_wish_57 (by decide) (r32 h7583 rfl) (fun h8090 => ?_) (fun h8090 => ?_)
      · have h8091 : 0 ≤ z7581 ∧ z7581 ≤ 0 := (vc_X12_ring_22 h8090 h7583)
        refine mr_iload_n (pc := 121) (z := z7581) dX12_wish_121 rfl rfl ?_
        refine mr_if_ne (pc := 122) (tgt := 127) dX12_wish_122 (by decide) (r32 h8091 rfl) (fun h => ((vc_X10_firstWrongStep_7 h h8091)).elim) (fun _ => ?_)
        refine mr_iconst (pc := 125) (z := (-1)) dX12_wish_125 ?_
        exact mr_iret dX12_wish_126 rfl (le_t rfl) (le_t rfl) hT mF.refl ⟨(rW (c := (-2147483648)) (d := 2147483647) (rR (x := (-1))) rfl), (wiA.bad ((R7589).2 (vc_X12_acted_w_17 h8090 h8091))), trivial⟩
      have h8092 : 1 ≤ z7581 ∧ z7581 ≤ 1 := (vc_X12_ring_24 h8090 h7583)
      refine sv_aload_n (pc := 60) dX12_wish_60 rfl rfl ?_
      refine gf_X12_16 (pc := 61) dX12_wish_61 wF_X12_82 (A_106 hw) hT ?_
      refine mr_iload_n (pc := 64) (z := z7580) dX12_wish_64 rfl rfl ?_
      refine la_118 (pc := 65) dX12_wish_65 (A_118 hw) hT (rIx (n := 20) h8089 rfl) fun z8093 q8094 h8095 => ?_
      refine mr_bipush (pc := 66) (z := 6) dX12_wish_66 (by decide) ?_
      refine mr_icmp_gt (pc := 68) (tgt := 75) dX12_wish_68 (by decide) (r32 h8095 rfl) (r32 (rR (x := 6)) rfl) (fun h8096 => ?_) (fun h8096 => ?_)
      · have h8097 : 7 ≤ z8093 ∧ z8093 ≤ 9 := (vc_X12_wish_v_78 h8096 h8095)
        refine mr_iconst (pc := 75) (z := 0) dX12_wish_75 ?_
        refine mr_istore_n (pc := 76) (lv' := [(1, iv 0), (0, .ref 106), (2, iv z7580)]) dX12_wish_76 rfl (by decide) rfl ?_
        refine mr_iconst (pc := 77) (z := 0) dX12_wish_77 ?_
        refine mr_istore_n (pc := 78) (lv' := [(3, iv 0), (1, iv 0), (0, .ref 106), (2, iv z7580)]) dX12_wish_78 rfl (by decide) rfl ?_
        have L8132 : ∀ (nL8132 : Nat) (z8131 z8130 : Int), True → (0 ≤ z8131 ∧ z8131 ≤ 0) → (0 ≤ z8130 ∧ z8130 ≤ 6) → rjI μ f_hands z7580 z8130 z8131 → (7 - z8130) < (nL8132 : Int) → sV (gG l D c H0 sa) mX12_wish (sRm 2 0 0) (sZ (gG l D c H0 sa) 0 0 (qI w [184999, 185999, 186999] μ (fun z μ1 => ((-2147483648) ≤ z ∧ z ≤ 2147483647) ∧ (wiA μ μ1 184 185 186 8 118 f_hands z) ∧ True))) 79 [(0, .ref 106), (1, iv z8131), (2, iv z7580), (3, iv z8130)] [] (mk w μ) 0 0 := by
          intro nL8132
          induction nL8132 with
          | zero => intro z8131 z8130 _ h8133 h8134 R8138 h8139; exact ((vc_X12_same_14 h8139 h8134)).elim
          | succ nL8132 ih8140 =>
            intro z8131 z8130 _ h8133 h8134 R8138 h8139
            refine mr_iload_n (pc := 79) (z := z8130) dX12_wish_79 rfl rfl ?_
            refine mr_iload_n (pc := 80) (z := z7580) dX12_wish_80 rfl rfl ?_
            refine mr_icmp_ge (pc := 81) (tgt := 115) dX12_wish_81 (by decide) (r32 h8134 rfl) (r32 h8089 rfl) (fun h8143 => ?_) (fun h8143 => ?_)
            · refine mr_iinc (pc := 115) (lv' := [(2, iv (z7580 + 1)), (0, .ref 106), (1, iv z8131), (3, iv z8130)]) dX12_wish_115 rfl (by decide) rfl ?_
              refine sv_goto (pc := 118) (tgt := 48) dX12_wish_118 (by decide) ?_
              refine mr_lvS (lv' := [(0, .ref 106), (1, iv z8131), (2, iv (z7580 + 1))]) (List.forall_mem_cons.mpr ⟨rfl, List.forall_mem_cons.mpr ⟨rfl, List.forall_mem_cons.mpr ⟨rfl, fun _ h => absurd h List.not_mem_nil⟩⟩⟩) ?_
              exact ih7591 z8131 (z7580 + 1) trivial (rW (c := 0) (d := 1) h8133 rfl) (rW (c := 0) (d := 7) (rAdd (e := 1) (f := 7) h8089 (rR (x := 1)) rfl) rfl) (fun h => absurd h (vc_X4_find_n_11 h8133)) (rtI.next R8138 (vc_X12_wish_v_82 h7592 h8143 h6282 h6308 h6326 h8089 h8134) (vc_X12_wish_v_83 h7592 h8143 h6282 h6308 h6326 h8089 h8134)) (vc_X12_wish_v_80 (nS h7590) h7592 h8143 h6282 h6308 h6326 h8089 h8134)
            have h8144 : 0 ≤ z8130 ∧ z8130 ≤ 5 := (vc_X12_wish_v_84 h8143 h7592 h6326 h8089 h8134)
            have h8145 : 1 ≤ z7580 ∧ z7580 ≤ 6 := (vc_X12_wish_v_85 h8143 h7592 h6326 h8089 h8144)
            refine mr_iload_n (pc := 84) (z := z8131) dX12_wish_84 rfl rfl ?_
            refine mr_if_eq (pc := 85) (tgt := 107) dX12_wish_85 (by decide) (r32 h8133 rfl) (fun _ => ?_) (fun h => ((vc_X10_firstWrongStep_7 h h8133)).elim)
            refine mr_iconst (pc := 107) (z := 0) dX12_wish_107 ?_
            refine mr_istore_n (pc := 108) (lv' := [(1, iv 0), (0, .ref 106), (2, iv z7580), (3, iv z8130)]) dX12_wish_108 rfl (by decide) rfl ?_
            refine mr_iinc (pc := 109) (lv' := [(3, iv (z8130 + 1)), (1, iv 0), (0, .ref 106), (2, iv z7580)]) dX12_wish_109 rfl (by decide) rfl ?_
            refine sv_goto (pc := 112) (tgt := 79) dX12_wish_112 (by decide) ?_
            refine mr_lvS (lv' := [(0, .ref 106), (1, iv 0), (2, iv z7580), (3, iv (z8130 + 1))]) (List.forall_mem_cons.mpr ⟨rfl, List.forall_mem_cons.mpr ⟨rfl, List.forall_mem_cons.mpr ⟨rfl, List.forall_mem_cons.mpr ⟨rfl, fun _ h => absurd h List.not_mem_nil⟩⟩⟩⟩) ?_
            exact ih8140 0 (z8130 + 1) trivial (rR (x := 0)) (rW (c := 0) (d := 6) (rAdd (e := 1) (f := 6) h8144 (rR (x := 1)) rfl) rfl) (rjI.skip R8138 (vc_X4_find_n_11 h8133) vc_X12_isOffered_v_40) (vc_X12_wish_v_87 (nS h8139) h8143 h7592 h6326 h8145 h8144)
        refine mr_lvS (lv' := [(0, .ref 106), (1, iv 0), (2, iv z7580), (3, iv 0)]) (List.forall_mem_cons.mpr ⟨rfl, List.forall_mem_cons.mpr ⟨rfl, List.forall_mem_cons.mpr ⟨rfl, List.forall_mem_cons.mpr ⟨rfl, fun _ h => absurd h List.not_mem_nil⟩⟩⟩⟩) ?_
        exact L8132 8 0 0 trivial (rR (x := 0)) (rW (c := 0) (d := 6) (rR (x := 0)) rfl) (rjI.start R7589 (vc_X12_best_l_18 h8090 h8092) (vc_X12_wish_v_91 h6282 h6308 h7592 h6326 h8089) q8094 vc_X12_isOffered_v_15 (vc_X12_wish_v_92 h8096 h8097)) vc_X12_same_46
      have h8146 : 0 ≤ z8093 ∧ z8093 ≤ 6 := (vc_X4_find_v_1 h8096 h8095)
      refine mr_iconst (pc := 71) (z := 1) dX12_wish_71 ?_
      refine sv_goto (pc := 72) (tgt := 76) dX12_wish_72 (by decide) ?_
      refine mr_istore_n (pc := 76) (lv' := [(1, iv 1), (0, .ref 106), (2, iv z7580)]) dX12_wish_76 rfl (by decide) rfl ?_
      refine mr_iconst (pc := 77) (z := 0) dX12_wish_77 ?_
      refine mr_istore_n (pc := 78) (lv' := [(3, iv 0), (1, iv 1), (0, .ref 106), (2, iv z7580)]) dX12_wish_78 rfl (by decide) rfl ?_
      have L8227 : ∀ (nL8227 : Nat) (z8226 z8225 : Int), True → (0 ≤ z8226 ∧ z8226 ≤ 1) → (0 ≤ z8225 ∧ z8225 ≤ 6) → rjI μ f_hands z7580 z8225 z8226 → (7 - z8225) < (nL8227 : Int) → sV (gG l D c H0 sa) mX12_wish (sRm 2 0 0) (sZ (gG l D c H0 sa) 0 0 (qI w [184999, 185999, 186999] μ (fun z μ1 => ((-2147483648) ≤ z ∧ z ≤ 2147483647) ∧ (wiA μ μ1 184 185 186 8 118 f_hands z) ∧ True))) 79 [(0, .ref 106), (1, iv z8226), (2, iv z7580), (3, iv z8225)] [] (mk w μ) 0 0 := by
        intro nL8227
        induction nL8227 with
        | zero => intro z8226 z8225 _ h8228 h8229 R8233 h8234; exact ((vc_X12_same_14 h8234 h8229)).elim
        | succ nL8227 ih8235 =>
          intro z8226 z8225 _ h8228 h8229 R8233 h8234
          refine mr_iload_n (pc := 79) (z := z8225) dX12_wish_79 rfl rfl ?_
          refine mr_iload_n (pc := 80) (z := z7580) dX12_wish_80 rfl rfl ?_
          refine mr_icmp_ge (pc := 81) (tgt := 115) dX12_wish_81 (by decide) (r32 h8229 rfl) (r32 h8089 rfl) (fun h8244 => ?_) (fun h8244 => ?_)
          · refine mr_iinc (pc := 115) (lv' := [(2, iv (z7580 + 1)), (0, .ref 106), (1, iv z8226), (3, iv z8225)]) dX12_wish_115 rfl (by decide) rfl ?_
            refine sv_goto (pc := 118) (tgt := 48) dX12_wish_118 (by decide) ?_
            refine mr_lvS (lv' := [(0, .ref 106), (1, iv z8226), (2, iv (z7580 + 1))]) (List.forall_mem_cons.mpr ⟨rfl, List.forall_mem_cons.mpr ⟨rfl, List.forall_mem_cons.mpr ⟨rfl, fun _ h => absurd h List.not_mem_nil⟩⟩⟩) ?_
            exact ih7591 z8226 (z7580 + 1) trivial h8228 (rW (c := 0) (d := 7) (rAdd (e := 1) (f := 7) h8089 (rR (x := 1)) rfl) rfl) (fun _ => allLe.succ (R7588 (vc_X12_best_l_18 h8090 h8092)) q8094 (vc_X12_wish_v_96 h8096 h8146)) (rtI.next R8233 (vc_X12_wish_v_82 h7592 h8244 h6282 h6308 h6326 h8089 h8229) (vc_X12_wish_v_83 h7592 h8244 h6282 h6308 h6326 h8089 h8229)) (vc_X12_wish_v_80 (nS h7590) h7592 h8244 h6282 h6308 h6326 h8089 h8229)
          have h8245 : 0 ≤ z8225 ∧ z8225 ≤ 5 := (vc_X12_wish_v_84 h8244 h7592 h6326 h8089 h8229)
          have h8246 : 1 ≤ z7580 ∧ z7580 ≤ 6 := (vc_X12_wish_v_85 h8244 h7592 h6326 h8089 h8245)
          refine mr_iload_n (pc := 84) (z := z8226) dX12_wish_84 rfl rfl ?_
          refine mr_if_eq (pc := 85) (tgt := 107) dX12_wish_85 (by decide) (r32 h8228 rfl) (fun h8247 => ?_) (fun h8247 => ?_)
          · have h8248 : 0 ≤ z8226 ∧ z8226 ≤ 0 := (vc_X12_ring_22 h8247 h8228)
            refine mr_iconst (pc := 107) (z := 0) dX12_wish_107 ?_
            refine mr_istore_n (pc := 108) (lv' := [(1, iv 0), (0, .ref 106), (2, iv z7580), (3, iv z8225)]) dX12_wish_108 rfl (by decide) rfl ?_
            refine mr_iinc (pc := 109) (lv' := [(3, iv (z8225 + 1)), (1, iv 0), (0, .ref 106), (2, iv z7580)]) dX12_wish_109 rfl (by decide) rfl ?_
            refine sv_goto (pc := 112) (tgt := 79) dX12_wish_112 (by decide) ?_
            refine mr_lvS (lv' := [(0, .ref 106), (1, iv 0), (2, iv z7580), (3, iv (z8225 + 1))]) (List.forall_mem_cons.mpr ⟨rfl, List.forall_mem_cons.mpr ⟨rfl, List.forall_mem_cons.mpr ⟨rfl, List.forall_mem_cons.mpr ⟨rfl, fun _ h => absurd h List.not_mem_nil⟩⟩⟩⟩) ?_
            exact ih8235 0 (z8225 + 1) trivial (rW (c := 0) (d := 1) (rR (x := 0)) rfl) (rW (c := 0) (d := 6) (rAdd (e := 1) (f := 6) h8245 (rR (x := 1)) rfl) rfl) (rjI.skip R8233 (vc_X12_acted_w_17 h8247 h8248) vc_X12_isOffered_v_40) (vc_X12_wish_v_87 (nS h8234) h8244 h7592 h6326 h8246 h8245)
          have h8249 : 1 ≤ z8226 ∧ z8226 ≤ 1 := (vc_X12_ring_24 h8247 h8228)
          refine sv_aload_n (pc := 88) dX12_wish_88 rfl rfl ?_
          refine gf_X12_16 (pc := 89) dX12_wish_89 wF_X12_82 (A_106 hw) hT ?_
          refine mr_iload_n (pc := 92) (z := z7580) dX12_wish_92 rfl rfl ?_
          refine lk_118 (pc := 93) dX12_wish_93 (A_118 hw) (rIx (n := 20) h8246 rfl) q8094 ?_
          refine sv_aload_n (pc := 94) dX12_wish_94 rfl rfl ?_
          refine gf_X12_16 (pc := 95) dX12_wish_95 wF_X12_82 (A_106 hw) hT ?_
          refine mr_iload_n (pc := 98) (z := z8225) dX12_wish_98 rfl rfl ?_
          refine la_118 (pc := 99) dX12_wish_99 (A_118 hw) hT (rIx (n := 20) h8245 rfl) fun z8250 q8251 h8252 => ?_
          refine mr_icmp_eq (pc := 100) (tgt := 107) dX12_wish_100 (by decide) (r32 h8146 rfl) (r32 h8252 rfl) (fun h8253 => ?_) (fun h8253 => ?_)
          · have h8254 : 0 ≤ z8250 ∧ z8250 ≤ 6 := (vc_X12_wish_v_106 h8253 h8096 h8146 h8252)
            refine mr_iconst (pc := 107) (z := 0) dX12_wish_107 ?_
            refine mr_istore_n (pc := 108) (lv' := [(1, iv 0), (0, .ref 106), (2, iv z7580), (3, iv z8225)]) dX12_wish_108 rfl (by decide) rfl ?_
            refine mr_iinc (pc := 109) (lv' := [(3, iv (z8225 + 1)), (1, iv 0), (0, .ref 106), (2, iv z7580)]) dX12_wish_109 rfl (by decide) rfl ?_
            refine sv_goto (pc := 112) (tgt := 79) dX12_wish_112 (by decide) ?_
            refine mr_lvS (lv' := [(0, .ref 106), (1, iv 0), (2, iv z7580), (3, iv (z8225 + 1))]) (List.forall_mem_cons.mpr ⟨rfl, List.forall_mem_cons.mpr ⟨rfl, List.forall_mem_cons.mpr ⟨rfl, List.forall_mem_cons.mpr ⟨rfl, fun _ h => absurd h List.not_mem_nil⟩⟩⟩⟩) ?_
            exact ih8235 0 (z8225 + 1) trivial (rW (c := 0) (d := 1) (rR (x := 0)) rfl) (rW (c := 0) (d := 6) (rAdd (e := 1) (f := 6) h8245 (rR (x := 1)) rfl) rfl) (rjI.next R8233 (vc_X12_wish_v_107 h7592 h8244 h6282 h6308 h6326 h8246 h8245) (vc_X12_wish_v_108 h6282 h6308 h7592 h8244 h6326 h8246 h8245) q8094 q8251 (vc_X12_wish_v_109 h8096 h8247 h8253 h8146 h8249 h8254)) (vc_X12_wish_v_87 (nS h8234) h8244 h7592 h6326 h8246 h8245)
          refine mr_iconst (pc := 103) (z := 1) dX12_wish_103 ?_
          refine sv_goto (pc := 104) (tgt := 108) dX12_wish_104 (by decide) ?_
          refine mr_istore_n (pc := 108) (lv' := [(1, iv 1), (0, .ref 106), (2, iv z7580), (3, iv z8225)]) dX12_wish_108 rfl (by decide) rfl ?_
          refine mr_iinc (pc := 109) (lv' := [(3, iv (z8225 + 1)), (1, iv 1), (0, .ref 106), (2, iv z7580)]) dX12_wish_109 rfl (by decide) rfl ?_
          refine sv_goto (pc := 112) (tgt := 79) dX12_wish_112 (by decide) ?_
          refine mr_lvS (lv' := [(0, .ref 106), (1, iv 1), (2, iv z7580), (3, iv (z8225 + 1))]) (List.forall_mem_cons.mpr ⟨rfl, List.forall_mem_cons.mpr ⟨rfl, List.forall_mem_cons.mpr ⟨rfl, List.forall_mem_cons.mpr ⟨rfl, fun _ h => absurd h List.not_mem_nil⟩⟩⟩⟩) ?_
          exact ih8235 1 (z8225 + 1) trivial (rW (c := 0) (d := 1) (rR (x := 1)) rfl) (rW (c := 0) (d := 6) (rAdd (e := 1) (f := 6) h8245 (rR (x := 1)) rfl) rfl) (rjI.next R8233 (vc_X12_wish_v_107 h7592 h8244 h6282 h6308 h6326 h8246 h8245) (vc_X12_wish_v_108 h6282 h6308 h7592 h8244 h6326 h8246 h8245) q8094 q8251 (vc_X12_wish_v_110 h8096 h8247 h8253 h8146 h8249 h8252)) (vc_X12_wish_v_87 (nS h8234) h8244 h7592 h6326 h8246 h8245)
      refine mr_lvS (lv' := [(0, .ref 106), (1, iv 1), (2, iv z7580), (3, iv 0)]) (List.forall_mem_cons.mpr ⟨rfl, List.forall_mem_cons.mpr ⟨rfl, List.forall_mem_cons.mpr ⟨rfl, List.forall_mem_cons.mpr ⟨rfl, fun _ h => absurd h List.not_mem_nil⟩⟩⟩⟩) ?_
      exact L8227 8 1 0 trivial (rW (c := 0) (d := 1) (rR (x := 1)) rfl) (rW (c := 0) (d := 6) (rR (x := 0)) rfl) (rjI.start R7589 (vc_X12_best_l_18 h8090 h8092) (vc_X12_wish_v_91 h6282 h6308 h7592 h6326 h8089) q8094 vc_X12_isOffered_v_15 (vc_X12_wish_v_111 h8096 h8146)) vc_X12_same_46
  refine mr_lvS (lv' := [(0, .ref 106), (1, iv 1), (2, iv 0)]) (List.forall_mem_cons.mpr ⟨rfl, List.forall_mem_cons.mpr ⟨rfl, List.forall_mem_cons.mpr ⟨rfl, fun _ h => absurd h List.not_mem_nil⟩⟩⟩) ?_
  exact L7582 9 1 0 trivial (rW (c := 0) (d := 1) (rR (x := 1)) rfl) (rW (c := 0) (d := 7) (rR (x := 0)) rfl) (fun _ => allLe.zero (Int.le_refl 0)) (rtI.one (vc_X12_wish_v_112 h6282 h6308 h6326) (q6350.trans (vc_X12_goes_7 h6352 h6370)) rfl vc_X12_isOffered_v_15) vc_X12_isOffered_10
theorem vc_X4_forget_w_2 {z103 z104 : Int} (h0 : 7 ≤ z103) (h1 : z104 ≤ 5 * z103 - 5) (h2 : 1 ≤ z103 ∧ z103 ≤ 7) (h3 : 0 ≤ z104 ∧ z104 ≤ 30) : 7 ≤ z103 ∧ z103 ≤ 7 := by omega
theorem vc_X4_forget_w_3 {z103 z104 : Int} (h0 : z104 ≤ 5 * z103 - 5) (h1 : 7 ≤ z103) (h2 : 7 ≤ z103 ∧ z103 ≤ 7) (h3 : 0 ≤ z104 ∧ z104 ≤ 30) : z103 = 7 := by omega
theorem vc_X4_forget_w_5 {z103 z104 : Int} (h0 : z103 < 7) (h1 : z104 ≤ 5 * z103 - 5) (h2 : 1 ≤ z103 ∧ z103 ≤ 7) (h3 : 0 ≤ z104 ∧ z104 ≤ 30) : 1 ≤ z103 ∧ z103 ≤ 6 := by omega
theorem vc_X4_forget_w_6 {z103 z104 z133 : Int} (h0 : z104 ≤ 5 * z103 - 5) (h1 : z103 < 7) (h2 : 1 ≤ z103 ∧ z103 ≤ 6) (h3 : 0 ≤ z104 ∧ z104 ≤ 30) (h4 : 0 ≤ z133 ∧ z133 ≤ 5) : 0 ≤ (z104 + z133) ∧ (z104 + z133) ≤ 30 := by omega
theorem vc_X4_forget_w_7 {z103 z104 z133 : Int} (h0 : z104 ≤ 5 * z103 - 5) (h1 : z103 < 7) (h2 : 1 ≤ z103 ∧ z103 ≤ 6) (h3 : 0 ≤ z104 ∧ z104 ≤ 30) (h4 : 0 ≤ z133 ∧ z133 ≤ 5) : (z104 + z133) ≤ 5 * (z103 + 1) - 5 := by omega
theorem vc_X4_forget_w_8 {N z103 z104 : Int} (h0 : (8 - z103) < N + 1) (h1 : z104 ≤ 5 * z103 - 5) (h2 : z103 < 7) (h3 : 1 ≤ z103 ∧ z103 ≤ 6) (h4 : 0 ≤ z104 ∧ z104 ≤ 30) : (8 - (z103 + 1)) < N := by omega
theorem vc_X4_forget_w_9 {z103 z104 : Int} (h0 : z104 ≤ 5 * z103 - 5) (h1 : z103 < 7) (h2 : 1 ≤ z103 ∧ z103 ≤ 6) (h3 : 0 ≤ z104 ∧ z104 ≤ 30) : 1 ≤ z103 := by omega
theorem vc_X4_forget_w_10 {z103 z104 z133 : Int} (h0 : z104 ≤ 5 * z103 - 5) (h1 : z103 < 7) (h2 : 1 ≤ z103 ∧ z103 ≤ 6) (h3 : 0 ≤ z104 ∧ z104 ≤ 30) (h4 : 0 ≤ z133 ∧ z133 ≤ 5) : (z104 + z133) = z104 + z133 := by omega
set_option maxRecDepth 4000 in
set_option maxHeartbeats 4000000 in
theorem c_X4_forget_w {l : Launch} {D : va_G} {c : Nat → ClassId} {H0 : Heap} {sa : Nat × Nat × (Nat → Int32)} {w : mW} {μ : mM} (hw : mWF w) (hT : mT w μ) : sC (gG l D c H0 sa) mX4_forget 1 0 0 [.ref 94] (mk w μ) (qI w [94010, 94011, 95999] μ (fun z μ1 => ∃ o_k : Int, μ1 94 11 = o_k ∧ ((-2147483648) ≤ z ∧ z ≤ 2147483647) ∧ (foI μ μ1 95 7 z) ∧ (o_k = 0) ∧ True)) := by
  refine sC.of rfl (by decide) (le_t rfl) ?_
  refine mr_lvE (lv' := [(0, .ref 94)]) rfl ?_
  refine mr_iconst (pc := 0) (z := 0) dX4_forget_0 ?_
  refine mr_istore_n (pc := 1) (lv' := [(1, iv 0), (0, .ref 94)]) dX4_forget_1 rfl (by decide) rfl ?_
  refine mr_iconst (pc := 2) (z := 1) dX4_forget_2 ?_
  refine mr_istore_n (pc := 3) (lv' := [(2, iv 1), (1, iv 0), (0, .ref 94)]) dX4_forget_3 rfl (by decide) rfl ?_
  have L106 : ∀ (nL106 : Nat) (z104 z103 : Int) (μ105 : mM), mT w μ105 → mF [95999] w μ μ105 → (0 ≤ z104 ∧ z104 ≤ 30) → (1 ≤ z103 ∧ z103 ≤ 7) → (z104 ≤ 5 * z103 - 5) → foI μ μ105 95 z103 z104 → (8 - z103) < (nL106 : Int) → sV (gG l D c H0 sa) mX4_forget (sRm 1 0 0) (sZ (gG l D c H0 sa) 0 0 (qI w [94010, 94011, 95999] μ (fun z μ1 => ∃ o_k : Int, μ1 94 11 = o_k ∧ ((-2147483648) ≤ z ∧ z ≤ 2147483647) ∧ (foI μ μ1 95 7 z) ∧ (o_k = 0) ∧ True))) 4 [(0, .ref 94), (1, iv z104), (2, iv z103)] [] (mk w μ105) 0 0 := by
    intro nL106
    induction nL106 with
    | zero => intro z104 z103 μ105 T109 F110 h107 h108 h112 R113 h114; exact ((vc_X12_clear_v_1 h114 h112 h108 h107)).elim
    | succ nL106 ih115 =>
      intro z104 z103 μ105 T109 F110 h107 h108 h112 R113 h114
      refine mr_iload_n (pc := 4) (z := z103) dX4_forget_4 rfl rfl ?_
      refine mr_bipush (pc := 5) (z := 7) dX4_forget_5 (by decide) ?_
      refine mr_icmp_ge (pc := 7) (tgt := 32) dX4_forget_7 (by decide) (r32 h108 rfl) (r32 (rR (x := 7)) rfl) (fun h124 => ?_) (fun h124 => ?_)
      · have h125 : 7 ≤ z103 ∧ z103 ≤ 7 := (vc_X4_forget_w_2 h124 h112 h108 h107)
        refine sv_aload_n (pc := 32) dX4_forget_32 rfl rfl ?_
        refine mr_iconst (pc := 33) (z := 0) dX4_forget_33 ?_
        refine pf_X4_10 (pc := 34) dX4_forget_34 wF_X4_52 (A_94 hw) T109 (rW (c := 0) (d := 1) (rR (x := 0)) rfl) fun μ126 u127 T128 => ?_
        refine sv_aload_n (pc := 37) dX4_forget_37 rfl rfl ?_
        refine mr_iconst (pc := 38) (z := 0) dX4_forget_38 ?_
        refine pf_X4_11 (pc := 39) dX4_forget_39 wF_X4_56 (A_94 hw) T128 (rW (c := 0) (d := 1) (rR (x := 0)) rfl) fun μ129 u130 T131 => ?_
        refine mr_iload_n (pc := 42) (z := z104) dX4_forget_42 rfl rfl ?_
        exact mr_iret dX4_forget_43 rfl (le_t rfl) (le_t rfl) T131 (mF.up (mF.up (mF.call mF.refl F110 rfl) (A_94 hw) u127 rfl) (A_94 hw) u130 rfl) ⟨0, u130.1, (rW (c := (-2147483648)) (d := 2147483647) h107 rfl), (foI.k7 (foI.oth (foI.oth R113 u127 rfl) u130 rfl) (vc_X4_forget_w_3 h112 h124 h125 h107)), vc_X3_forget_z_1, trivial⟩
      have h132 : 1 ≤ z103 ∧ z103 ≤ 6 := (vc_X4_forget_w_5 h124 h112 h108 h107)
      refine mr_iload_n (pc := 10) (z := z104) dX4_forget_10 rfl rfl ?_
      refine sv_aload_n (pc := 11) dX4_forget_11 rfl rfl ?_
      refine gf_X4_12 (pc := 12) dX4_forget_12 wF_X4_11 (A_94 hw) T109 ?_
      refine mr_iload_n (pc := 15) (z := z103) dX4_forget_15 rfl rfl ?_
      refine la_95 (pc := 16) dX4_forget_16 (A_95 hw) T109 (rIx (n := 7) h132 rfl) fun z133 q134 h135 => ?_
      refine mr_iadd (pc := 17) (x := z104) (y := z133) dX4_forget_17 ?_
      refine mr_istore_n (pc := 18) (lv' := [(1, iv (z104 + z133)), (0, .ref 94), (2, iv z103)]) dX4_forget_18 rfl (by decide) rfl ?_
      refine sv_aload_n (pc := 19) dX4_forget_19 rfl rfl ?_
      refine gf_X4_12 (pc := 20) dX4_forget_20 wF_X4_11 (A_94 hw) T109 ?_
      refine mr_iload_n (pc := 23) (z := z103) dX4_forget_23 rfl rfl ?_
      refine mr_iconst (pc := 24) (z := 0) dX4_forget_24 ?_
      refine ss_95 (pc := 25) dX4_forget_25 (A_95 hw) T109 (rIx (n := 7) h132 rfl) (rW (c := 0) (d := 5) (rR (x := 0)) rfl) fun μ136 u137 T138 => ?_
      refine mr_iinc (pc := 26) (lv' := [(2, iv (z103 + 1)), (1, iv (z104 + z133)), (0, .ref 94)]) dX4_forget_26 rfl (by decide) rfl ?_
      refine sv_goto (pc := 29) (tgt := 4) dX4_forget_29 (by decide) ?_
      refine mr_lvS (lv' := [(0, .ref 94), (1, iv (z104 + z133)), (2, iv (z103 + 1))]) (List.forall_mem_cons.mpr ⟨rfl, List.forall_mem_cons.mpr ⟨rfl, List.forall_mem_cons.mpr ⟨rfl, fun _ h => absurd h List.not_mem_nil⟩⟩⟩) ?_
      exact ih115 (z104 + z133) (z103 + 1) μ136 T138 (mF.up (mF.call mF.refl F110 rfl) (A_95 hw) u137 rfl) (vc_X4_forget_w_6 h112 h124 h132 h107 h135) (rW (c := 1) (d := 7) (rAdd (e := 2) (f := 7) h132 (rR (x := 1)) rfl) rfl) (vc_X4_forget_w_7 h112 h124 h132 h107 h135) (foI.next R113 (vc_X4_forget_w_9 h112 h124 h132 h107) q134 (vc_X4_forget_w_10 h112 h124 h132 h107 h135) u137) (vc_X4_forget_w_8 (nS h114) h112 h124 h132 h107)
  refine mr_lvS (lv' := [(0, .ref 94), (1, iv 0), (2, iv 1)]) (List.forall_mem_cons.mpr ⟨rfl, List.forall_mem_cons.mpr ⟨rfl, List.forall_mem_cons.mpr ⟨rfl, fun _ h => absurd h List.not_mem_nil⟩⟩⟩) ?_
  exact L106 8 0 1 μ hT mF.refl (rW (c := 0) (d := 30) (rR (x := 0)) rfl) (rW (c := 1) (d := 7) (rR (x := 1)) rfl) vc_X12_clear_v_10 foI.start vc_X12_isRest_25
theorem vc_X4_addWish_w_2 {f_wp : Int} (h0 : f_wp ≤ 4) (h1 : 0 ≤ f_wp ∧ f_wp ≤ 5) : 0 ≤ f_wp ∧ f_wp ≤ 4 := by omega
theorem vc_X4_addWish_w_4 {f_p f_wp : Int} (h0 : f_p ≤ 6) (h1 : f_wp ≤ 4) (h2 : 0 ≤ f_p ∧ f_p ≤ 6) (h3 : 0 ≤ f_wp ∧ f_wp ≤ 4) : 0 ≤ (((f_p * 5) + f_wp) * 7) := by omega
theorem vc_X4_addWish_w_5 {p2 : Int} (h0 : 2 ≤ p2 ∧ p2 ≤ 7) : 0 ≤ p2 := by omega
theorem vc_X4_addWish_w_6 {p2 : Int} (h0 : 2 ≤ p2 ∧ p2 ≤ 7) : 0 + p2 ≤ ((20 : Nat) : Int) := by omega
theorem vc_X4_addWish_w_7 {f_p f_wp p2 : Int} (h0 : f_p ≤ 6) (h1 : f_wp ≤ 4) (h2 : 0 ≤ f_p ∧ f_p ≤ 6) (h3 : 0 ≤ f_wp ∧ f_wp ≤ 4) (h4 : 2 ≤ p2 ∧ p2 ≤ 7) : (((f_p * 5) + f_wp) * 7) + p2 ≤ ((245 : Nat) : Int) := by omega
theorem vc_X4_addWish_w_8 {f_wp : Int} (h0 : f_wp ≤ 4) (h1 : 0 ≤ f_wp ∧ f_wp ≤ 4) : (f_wp + 1) = f_wp + 1 := by omega
theorem vc_X4_addWish_w_9 {f_p : Int} (h0 : f_p ≤ 6) (h1 : 0 ≤ f_p ∧ f_p ≤ 6) : 0 ≤ f_p := by omega
theorem vc_X4_addWish_w_10 {f_p f_wp : Int} (h0 : f_p ≤ 6) (h1 : f_wp ≤ 4) (h2 : 0 ≤ f_p ∧ f_p ≤ 6) (h3 : 0 ≤ f_wp ∧ f_wp ≤ 4) : 0 ≤ ((f_p * 5) + f_wp) := by omega
theorem vc_X4_addWish_w_11 {f_p f_wp p2 : Int} (h0 : f_p ≤ 6) (h1 : f_wp ≤ 4) (h2 : 0 ≤ f_p ∧ f_p ≤ 6) (h3 : 0 ≤ f_wp ∧ f_wp ≤ 4) (h4 : 2 ≤ p2 ∧ p2 ≤ 7) : (f_wp + 1) = f_wp + 1 ∧ ((f_p * 5) + f_wp) = 5 * f_p + f_wp ∧ p2 = p2 ∧ p2 = p2 := by omega
theorem vc_X4_addWish_w_12 {f_p f_wp : Int} (h0 : f_p ≤ 6) (h1 : f_wp ≤ 4) (h2 : 0 ≤ f_p ∧ f_p ≤ 6) (h3 : 0 ≤ f_wp ∧ f_wp ≤ 4) : (((f_p * 5) + f_wp) * 7) = ((7 : Nat) : Int) * (((f_p * 5) + f_wp)) := by omega
set_option maxRecDepth 4000 in
set_option maxHeartbeats 4000000 in
theorem c_X4_addWish_w {l : Launch} {D : va_G} {c : Nat → ClassId} {H0 : Heap} {sa : Nat × Nat × (Nat → Int32)} {w : mW} {μ : mM} (hw : mWF w) (hT : mT w μ) (hA1 : mAt w 2 2) {p2 : Int} (hp2 : 2 ≤ p2 ∧ p2 ≤ 7) {f_p : Int} (q_f_p : μ 2 ((0 : Int).toNat) = f_p) {f_wp : Int} (q_f_wp : μ 95 (f_p.toNat) = f_wp) (hq0 : f_p ≤ 6) (hq1 : f_wp ≤ 4) (hall : allLe μ 2 p2 6) : sC (gG l D c H0 sa) mX4_addWish 3 0 0 [.ref 94, .ref 2, iv p2] (mk w μ) (qI w [94010, 94011, 95999, 96999, 97999] μ (fun z μ1 => ∃ o_k : Int, μ1 94 11 = o_k ∧ ((-2147483648) ≤ z ∧ z ≤ 2147483647) ∧ (z = f_wp + 1) ∧ (awT μ μ1 95 97 96 7 2 f_p p2 f_wp) ∧ (o_k = 0) ∧ True)) := by
  refine sC.of rfl (by decide) (le_t rfl) ?_
  have ht_f_p : (0 ≤ f_p ∧ f_p ≤ 9) := by rw [← q_f_p]; exact hT 2 2 (A_2 hw) ((0 : Int).toNat)
  have ht_f_wp : (0 ≤ f_wp ∧ f_wp ≤ 5) := by rw [← q_f_wp]; exact hT 95 95 (A_95 hw) (f_p.toNat)
  have h1 : 0 ≤ f_p ∧ f_p ≤ 6 := (vc_X4_find_v_1 hq0 ht_f_p)
  have h2 : 0 ≤ f_wp ∧ f_wp ≤ 4 := (vc_X4_addWish_w_2 hq1 ht_f_wp)
  refine mr_lvE (lv' := [(0, .ref 94), (1, .ref 2), (2, iv p2)]) rfl ?_
  refine sv_aload_n (pc := 0) dX4_addWish_0 rfl rfl ?_
  refine mr_iconst (pc := 1) (z := 0) dX4_addWish_1 ?_
  refine lk_2 (pc := 2) dX4_addWish_2 (A_2 hw) (rIx (n := 20) (rR (x := 0)) rfl) q_f_p ?_
  refine mr_istore_n (pc := 3) (lv' := [(3, iv f_p), (0, .ref 94), (1, .ref 2), (2, iv p2)]) dX4_addWish_3 rfl (by decide) rfl ?_
  refine mr_iload_n (pc := 4) (z := f_p) dX4_addWish_4 rfl rfl ?_
  refine mr_iconst (pc := 5) (z := 5) dX4_addWish_5 ?_
  refine mr_imul (pc := 6) (x := f_p) (y := 5) dX4_addWish_6 ?_
  refine sv_aload_n (pc := 7) dX4_addWish_7 rfl rfl ?_
  refine gf_X4_12 (pc := 8) dX4_addWish_8 wF_X4_11 (A_94 hw) hT ?_
  refine mr_iload_n (pc := 11) (z := f_p) dX4_addWish_11 rfl rfl ?_
  refine lk_95 (pc := 12) dX4_addWish_12 (A_95 hw) (rIx (n := 7) h1 rfl) q_f_wp ?_
  refine mr_iadd (pc := 13) (x := (f_p * 5)) (y := f_wp) dX4_addWish_13 ?_
  refine mr_istore (pc := 14) (lv' := [(4, iv ((f_p * 5) + f_wp)), (3, iv f_p), (0, .ref 94), (1, .ref 2), (2, iv p2)]) dX4_addWish_14 (by decide) rfl ?_
  refine sv_aload_n (pc := 16) dX4_addWish_16 rfl rfl ?_
  refine mr_iconst (pc := 17) (z := 0) dX4_addWish_17 ?_
  refine sv_aload_n (pc := 18) dX4_addWish_18 rfl rfl ?_
  refine gf_X4_0 (pc := 19) dX4_addWish_19 wF_X4_15 (A_94 hw) hT ?_
  refine mr_iload (pc := 22) (z := ((f_p * 5) + f_wp)) dX4_addWish_22 rfl ?_
  refine mr_bipush (pc := 24) (z := 7) dX4_addWish_24 (by decide) ?_
  refine mr_imul (pc := 26) (x := ((f_p * 5) + f_wp)) (y := 7) dX4_addWish_26 ?_
  refine mr_iload_n (pc := 27) (z := p2) dX4_addWish_27 rfl rfl ?_
  refine mr_acR (pc := 28) (sp := 0) (dp := (((f_p * 5) + f_wp) * 7)) (n := p2) dX4_addWish_28 wM_X4_46 wN_J_ac wS_J_ac wI_J_sys rfl (A_2 hw) rfl (A_96 hw) rfl vc_X7_become_1 (vc_X4_addWish_w_4 hq0 hq1 h1 h2) (vc_X4_addWish_w_5 hp2) (by have h := (A_2 hw).2.2.2 rfl; rw [h]; exact (vc_X4_addWish_w_6 hp2)) (by have h := (A_96 hw).2.2.2 rfl; rw [h]; exact (vc_X4_addWish_w_7 hq0 hq1 h1 h2 hp2)) (Nat.le_trans (A_2 hw).2.2.1 (le_t rfl)) (Nat.le_trans (A_96 hw).2.2.1 (le_t rfl)) (le_t rfl) (le_t rfl) (le_t rfl) hT (fun i j h1 h2 _ _ => ⟨(hT 2 2 (A_2 hw) i).1, hall (i : Int) (Int.natCast_nonneg i) (by omega)⟩) fun μ51 q52 T53 => ?_
  have F54 : mF [96999] w μ μ51 := mF.cell q52.1 (A_96 hw) rfl
  refine sv_aload_n (pc := 31) dX4_addWish_31 rfl rfl ?_
  refine gf_X4_1 (pc := 32) dX4_addWish_32 wF_X4_18 (A_94 hw) T53 ?_
  refine mr_iload (pc := 35) (z := ((f_p * 5) + f_wp)) dX4_addWish_35 rfl ?_
  refine mr_iload_n (pc := 37) (z := p2) dX4_addWish_37 rfl rfl ?_
  refine ss_97 (pc := 38) dX4_addWish_38 (A_97 hw) T53 (rIx (n := 35) (rAdd (e := 0) (f := 34) (rMulR (n := 5) (e := 0) (f := 30) h1 rfl) h2 rfl) rfl) (rW (c := 0) (d := 7) hp2 rfl) fun μ55 u56 T57 => ?_
  refine sv_aload_n (pc := 39) dX4_addWish_39 rfl rfl ?_
  refine gf_X4_12 (pc := 40) dX4_addWish_40 wF_X4_11 (A_94 hw) T57 ?_
  refine mr_iload_n (pc := 43) (z := f_p) dX4_addWish_43 rfl rfl ?_
  refine sv_dup2 (pc := 44) dX4_addWish_44 rfl rfl ?_
  refine lk_95 (pc := 45) dX4_addWish_45 (A_95 hw) (rIx (n := 7) h1 rfl) (u56.f (Or.inl (mAt.ne (A_97 hw) (A_95 hw) rfl)) (F54.f (A_95 hw) rfl q_f_wp)) ?_
  refine mr_iconst (pc := 46) (z := 1) dX4_addWish_46 ?_
  refine mr_iadd (pc := 47) (x := f_wp) (y := 1) dX4_addWish_47 ?_
  refine ss_95 (pc := 48) dX4_addWish_48 (A_95 hw) T57 (rIx (n := 7) h1 rfl) (rW (c := 0) (d := 5) (rAdd (e := 1) (f := 5) h2 (rR (x := 1)) rfl) rfl) fun μ58 u59 T60 => ?_
  refine sv_aload_n (pc := 49) dX4_addWish_49 rfl rfl ?_
  refine mr_iconst (pc := 50) (z := 0) dX4_addWish_50 ?_
  refine pf_X4_10 (pc := 51) dX4_addWish_51 wF_X4_52 (A_94 hw) T60 (rW (c := 0) (d := 1) (rR (x := 0)) rfl) fun μ61 u62 T63 => ?_
  refine sv_aload_n (pc := 54) dX4_addWish_54 rfl rfl ?_
  refine mr_iconst (pc := 55) (z := 0) dX4_addWish_55 ?_
  refine pf_X4_11 (pc := 56) dX4_addWish_56 wF_X4_56 (A_94 hw) T63 (rW (c := 0) (d := 1) (rR (x := 0)) rfl) fun μ64 u65 T66 => ?_
  refine sv_aload_n (pc := 59) dX4_addWish_59 rfl rfl ?_
  refine gf_X4_12 (pc := 60) dX4_addWish_60 wF_X4_11 (A_94 hw) T66 ?_
  refine mr_iload_n (pc := 63) (z := f_p) dX4_addWish_63 rfl rfl ?_
  refine lk_95 (pc := 64) dX4_addWish_64 (A_95 hw) (rIx (n := 7) h1 rfl) (u65.f (Or.inl (mAt.ne (A_94 hw) (A_95 hw) rfl)) (u62.f (Or.inl (mAt.ne (A_94 hw) (A_95 hw) rfl)) u59.1)) ?_
  exact mr_iret dX4_addWish_65 rfl (le_t rfl) (le_t rfl) T66 (mF.up (mF.up (mF.up (mF.up (mF.call mF.refl F54 rfl) (A_97 hw) u56 rfl) (A_95 hw) u59 rfl) (A_94 hw) u62 rfl) (A_94 hw) u65 rfl) ⟨0, u65.1, (rW (c := (-2147483648)) (d := 2147483647) (rAdd (e := 1) (f := 5) h2 (rR (x := 1)) rfl) rfl), (vc_X4_addWish_w_8 hq1 h2), (awT.of (one.oth (one.oth (one.up (one.oth (one.fr one.refl F54 (A_95 hw) rfl rfl) u56 rfl) (vc_X4_addWish_w_9 hq0 h1) u59) u62 rfl) u65 rfl) (u65.f (Or.inl (mAt.ne (A_94 hw) (A_95 hw) rfl)) (u62.f (Or.inl (mAt.ne (A_94 hw) (A_95 hw) rfl)) u59.1)) (one.oth (one.oth (one.oth (one.up (one.fr one.refl F54 (A_97 hw) rfl rfl) (vc_X4_addWish_w_10 hq0 hq1 h1 h2) u56) u59 rfl) u62 rfl) u65 rfl) (u65.f (Or.inl (mAt.ne (A_94 hw) (A_97 hw) rfl)) (u62.f (Or.inl (mAt.ne (A_94 hw) (A_97 hw) rfl)) (u59.f (Or.inl (mAt.ne (A_95 hw) (A_97 hw) rfl)) u56.1))) (cpT.oth (cpT.oth (cpT.oth (cpT.oth (cpT.ac q52 rfl (vc_X4_addWish_w_4 hq0 hq1 h1 h2)) u56 rfl) u59 rfl) u62 rfl) u65 rfl) (vc_X4_addWish_w_11 hq0 hq1 h1 h2 hp2) (vc_X4_addWish_w_12 hq0 hq1 h1 h2)), vc_X3_forget_z_1, trivial⟩
set_option maxRecDepth 4000 in
set_option maxHeartbeats 4000000 in
theorem c_X11_clear_w {l : Launch} {D : va_G} {c : Nat → ClassId} {H0 : Heap} {sa : Nat × Nat × (Nat → Int32)} {w : mW} {μ : mM} (hw : mWF w) (hT : mT w μ) : sC (gG l D c H0 sa) mX11_clear 2 0 0 [.ref 0] (mk w μ) (qI w [94010, 94011, 95999] μ (fun z μ1 => ∃ o_k : Int, μ1 94 11 = o_k ∧ ((-2147483648) ≤ z ∧ z ≤ 2147483647) ∧ (foI μ μ1 95 7 z) ∧ (o_k = 0) ∧ True)) := by
  refine sC.of rfl (by decide) (le_t rfl) ?_
  refine mr_lvE (lv' := [(0, .ref 0)]) rfl ?_
  refine sv_aload_n (pc := 0) dX11_clear_0 rfl rfl ?_
  refine gf_X11_9 (pc := 1) dX11_clear_1 wF_X11_72 (A_0 hw) hT ?_
  refine mr_cVI (pc := 4) (c_X4_forget_w hw hT) (gOk _ _ _ _ _) dX11_clear_4 (tX4_forget _ _ _ _ _) ⟨wV_X4_forget, wL_X4_forget⟩ wM_X11_394 (gCX4 _ _ _ _ _) rfl (A_94 hw) rfl ⟨le_t rfl, le_t rfl⟩ ⟨le_t rfl, le_t rfl⟩ rfl (le_t rfl) fun z5 μ1 T2 F3 h4 => ?_
  obtain ⟨z6, q7, h8⟩ := h4
  have h9 : (0 ≤ z6 ∧ z6 ≤ 1) := by rw [← q7]; exact T2 94 94 (A_94 hw) 11
  have q10 : μ1 94 11 = 0 := q7.trans h8.2.2.1
  have h11 : 0 ≤ z6 ∧ z6 ≤ 0 := (vc_X12_ring_22 h8.2.2.1 h9)
  exact mr_iret dX11_clear_7 rfl (le_t rfl) (le_t rfl) T2 (mF.call mF.refl F3 rfl) ⟨0, q10, h8.1, h8.2.1, vc_X3_forget_z_1, trivial⟩
theorem vc_X11_wish_w_1 {f_q z143 : Int} (h0 : ¬ z143 = 0) (h1 : (z143 = 1 → 2 ≤ f_q ∧ f_q ≤ 7)) (h2 : 0 ≤ f_q ∧ f_q ≤ 20) (h3 : 0 ≤ z143 ∧ z143 ≤ 1) : 1 ≤ z143 ∧ z143 ≤ 1 := by omega
theorem vc_X11_wish_w_2 {f_q z143 : Int} (h0 : (z143 = 1 → 2 ≤ f_q ∧ f_q ≤ 7)) (h1 : ¬ z143 = 0) (h2 : 0 ≤ f_q ∧ f_q ≤ 20) (h3 : 1 ≤ z143 ∧ z143 ≤ 1) : z143 = 1 := by omega
theorem vc_X11_wish_w_3 {f_q z143 : Int} (h0 : 2 ≤ f_q ∧ f_q ≤ 7) (h1 : (z143 = 1 → 2 ≤ f_q ∧ f_q ≤ 7)) (h2 : 0 ≤ f_q ∧ f_q ≤ 20) (h3 : 1 ≤ z143 ∧ z143 ≤ 1) : 2 ≤ f_q ∧ f_q ≤ 7 := by omega
theorem vc_X11_wish_w_4 {f_q z143 : Int} (h0 : (z143 = 1 → 2 ≤ f_q ∧ f_q ≤ 7)) (h1 : ¬ z143 = 0) (h2 : 2 ≤ f_q ∧ f_q ≤ 7) (h3 : 1 ≤ z143 ∧ z143 ≤ 1) : z143 = 1 := by omega
theorem vc_X11_wish_w_5 {f_q z143 : Int} (h0 : (z143 = 1 → 2 ≤ f_q ∧ f_q ≤ 7)) (h1 : 2 ≤ f_q ∧ f_q ≤ 7) (h2 : ¬ z143 = 0) (h3 : 1 ≤ z143 ∧ z143 ≤ 1) : 0 < f_q := by omega
theorem vc_X11_wish_w_8 {z160 : Int} (h0 : z160 < 0) (h1 : (-1) ≤ z160 ∧ z160 ≤ 4) : (-1) ≤ z160 ∧ z160 ≤ (-1) := by omega
theorem vc_X11_wish_w_9 {z153 : Int} (h0 : z153 < 5) (h1 : 0 ≤ z153 ∧ z153 ≤ 5) : 0 ≤ z153 ∧ z153 ≤ 4 := by omega
theorem vc_X11_wish_w_10 {z153 : Int} (h0 : z153 < 5) (h1 : 0 ≤ z153 ∧ z153 ≤ 4) : z153 ≤ 4 := by omega
theorem vc_X11_wish_w_11 {z153 z169 : Int} (h0 : z169 = (z153 + 1)) (h1 : z153 < 5) (h2 : 0 ≤ z153 ∧ z153 ≤ 4) (h3 : (-2147483648) ≤ z169 ∧ z169 ≤ 2147483647) : 1 ≤ z169 ∧ z169 ≤ 5 := by omega
theorem vc_X11_wish_w_13 {z160 : Int} (h0 : z160 < 0) (h1 : (-1) ≤ z160 ∧ z160 ≤ (-1)) : z160 < 0 := by omega
theorem vc_X11_wish_w_14 {z153 z169 : Int} (h0 : z153 < 5) (h1 : z169 = (z153 + 1)) (h2 : 0 ≤ z153 ∧ z153 ≤ 4) (h3 : 1 ≤ z169 ∧ z169 ≤ 5) : z153 < 5 := by omega
theorem vc_X11_wish_w_15 {z153 z169 : Int} (h0 : z153 < 5) (h1 : z169 = (z153 + 1)) (h2 : 0 ≤ z153 ∧ z153 ≤ 4) (h3 : 1 ≤ z169 ∧ z169 ≤ 5) : z169 = z153 + 1 := by omega
theorem vc_X11_wish_w_16 {z153 z169 : Int} (h0 : z169 = (z153 + 1)) (h1 : z153 < 5) (h2 : 0 ≤ z153 ∧ z153 ≤ 4) (h3 : 1 ≤ z169 ∧ z169 ≤ 5) : z169 ≤ 0 ∨ (0 : Int) = 0 := by omega
theorem vc_X11_wish_w_17 {z153 : Int} (h0 : 5 ≤ z153) (h1 : 0 ≤ z153 ∧ z153 ≤ 5) : 5 ≤ z153 ∧ z153 ≤ 5 := by omega
theorem vc_X11_wish_w_18 {z153 : Int} (h0 : 5 ≤ z153) (h1 : 5 ≤ z153 ∧ z153 ≤ 5) : 5 ≤ z153 := by omega
theorem vc_X11_wish_w_19 {z178 : Int} (h0 : 0 ≤ z178 ∧ z178 ≤ 1) : (-3 : Int) ≤ 0 ∨ z178 = 0 := by omega
theorem vc_X11_wish_w_20 {z160 : Int} (h0 : 0 ≤ z160) (h1 : (-1) ≤ z160 ∧ z160 ≤ 4) : 0 ≤ z160 ∧ z160 ≤ 4 := by omega
theorem vc_X11_wish_w_21 {z160 : Int} (h0 : 0 ≤ z160) (h1 : 0 ≤ z160 ∧ z160 ≤ 4) : 0 ≤ z160 := by omega
theorem vc_X11_wish_w_22 {z182 : Int} (h0 : 0 ≤ z182 ∧ z182 ≤ 1) : (-2 : Int) ≤ 0 ∨ z182 = 0 := by omega
theorem vc_X11_wish_w_23 {f_q z143 : Int} (h0 : z143 = 0) (h1 : (z143 = 1 → 2 ≤ f_q ∧ f_q ≤ 7)) (h2 : 0 ≤ f_q ∧ f_q ≤ 20) (h3 : 0 ≤ z143 ∧ z143 ≤ 1) : 0 ≤ z143 ∧ z143 ≤ 0 := by omega
theorem vc_X11_wish_w_24 {f_q z143 : Int} (h0 : (z143 = 1 → 2 ≤ f_q ∧ f_q ≤ 7)) (h1 : z143 = 0) (h2 : 0 ≤ f_q ∧ f_q ≤ 20) (h3 : 0 ≤ z143 ∧ z143 ≤ 0) : z143 = 0 := by omega
theorem vc_X11_wish_w_25 {z186 : Int} (h0 : 0 ≤ z186 ∧ z186 ≤ 1) : (-1 : Int) ≤ 0 ∨ z186 = 0 := by omega
set_option maxRecDepth 4000 in
set_option maxHeartbeats 4000000 in
theorem c_X11_wish_w {l : Launch} {D : va_G} {c : Nat → ClassId} {H0 : Heap} {sa : Nat × Nat × (Nat → Int32)} {w : mW} {μ : mM} (hw : mWF w) (hT : mT w μ) {f_q : Int} (q_f_q : μ 0 11 = f_q) : sC (gG l D c H0 sa) mX11_wish 4 0 0 [.ref 0] (mk w μ) (qI w [94010, 94011, 95999, 96999, 97999] μ (fun z μ1 => ∃ o_k : Int, μ1 94 11 = o_k ∧ ((-2147483648) ≤ z ∧ z ≤ 2147483647) ∧ (wiA μ μ1 95 97 96 7 2 f_q z) ∧ (z ≤ 0 ∨ o_k = 0) ∧ True)) := by
  refine sC.of rfl (by decide) (le_t rfl) ?_
  have ht_f_q : (0 ≤ f_q ∧ f_q ≤ 20) := by rw [← q_f_q]; exact hT 0 0 (A_0 hw) 11
  refine mr_lvE (lv' := [(0, .ref 0)]) rfl ?_
  refine sv_aload_n (pc := 0) dX11_wish_0 rfl rfl ?_
  refine gf_X11_1 (pc := 1) dX11_wish_1 wF_X11_13 (A_0 hw) hT ?_
  refine sv_aload_n (pc := 4) dX11_wish_4 rfl rfl ?_
  refine gk_X11_11 (pc := 5) dX11_wish_5 wF_X11_169 (A_0 hw) q_f_q ?_
  refine mr_cSP (pc := 8) (c_X4_isWish_v hw hT (A_2 hw) ht_f_q) (gOk _ _ _ _ _) dX11_wish_8 (tX4_isWish _ _ _ _ _) wS_X4_isWish wM_X11_397 ⟨le_t rfl, le_t rfl⟩ ⟨le_t rfl, le_t rfl⟩ rfl (le_t rfl) fun z143 h142 => ?_
  refine mr_if_ne (pc := 11) (tgt := 16) dX11_wish_11 (by decide) (r32 h142.1 rfl) (fun h144 => ?_) (fun h144 => ?_)
  · have h145 : 1 ≤ z143 ∧ z143 ≤ 1 := (vc_X11_wish_w_1 h144 h142.2.1 ht_f_q h142.1)
    have h146 : 2 ≤ f_q ∧ f_q ≤ 7 := (h142.2.1 (vc_X11_wish_w_2 h142.2.1 h144 ht_f_q h145))
    have h147 : 2 ≤ f_q ∧ f_q ≤ 7 := (vc_X11_wish_w_3 h146 h142.2.1 ht_f_q h145)
    obtain ⟨z148, q149⟩ : ∃ z, μ 2 ((0 : Int).toNat) = z := ⟨_, rfl⟩
    have h150 : (0 ≤ z148 ∧ z148 ≤ 9) := by rw [← q149]; exact hT 2 2 (A_2 hw) ((0 : Int).toNat)
    have h151 : z148 ≤ 6 := allLe.at (h142.2.2.1 (vc_X11_wish_w_4 h142.2.1 h144 h146 h145)) (e := 0) (by decide) (vc_X11_wish_w_5 h142.2.1 h146 h144 h145) q149
    have h152 : 0 ≤ z148 ∧ z148 ≤ 6 := (vc_X4_find_v_1 h151 h150)
    refine sv_aload_n (pc := 16) dX11_wish_16 rfl rfl ?_
    refine gf_X11_9 (pc := 17) dX11_wish_17 wF_X11_72 (A_0 hw) hT ?_
    obtain ⟨z153, q154⟩ : ∃ z, μ 95 (z148.toNat) = z := ⟨_, rfl⟩
    have h155 : (0 ≤ z153 ∧ z153 ≤ 5) := by rw [← q154]; exact hT 95 95 (A_95 hw) (z148.toNat)
    refine sv_aload_n (pc := 20) dX11_wish_20 rfl rfl ?_
    refine gf_X11_1 (pc := 21) dX11_wish_21 wF_X11_13 (A_0 hw) hT ?_
    refine mr_iconst (pc := 24) (z := 0) dX11_wish_24 ?_
    refine sv_aload_n (pc := 25) dX11_wish_25 rfl rfl ?_
    refine gk_X11_11 (pc := 26) dX11_wish_26 wF_X11_169 (A_0 hw) q_f_q ?_
    refine mr_cVP (pc := 29) (c_X4_find_v hw hT (A_2 hw) (rR (x := 0)) (rW (c := 0) (d := 7) h147 rfl) q149 q154 (vc_X12_wish_v_96 h151 h152)) (gOk _ _ _ _ _) dX11_wish_29 (tX4_find _ _ _ _ _) ⟨wV_X4_find, wL_X4_find⟩ wM_X11_401 (gCX4 _ _ _ _ _) rfl (A_94 hw) rfl ⟨le_t rfl, le_t rfl⟩ ⟨le_t rfl, le_t rfl⟩ rfl (le_t rfl) fun z160 h159 => ?_
    refine mr_if_lt (pc := 32) (tgt := 38) dX11_wish_32 (by decide) (r32 h159.1 rfl) (fun h161 => ?_) (fun h161 => ?_)
    · have h162 : (-1) ≤ z160 ∧ z160 ≤ (-1) := (vc_X11_wish_w_8 h161 h159.1)
      refine sv_aload_n (pc := 38) dX11_wish_38 rfl rfl ?_
      refine gf_X11_9 (pc := 39) dX11_wish_39 wF_X11_72 (A_0 hw) hT ?_
      refine gf_X4_12 (pc := 42) dX11_wish_42 wF_X11_405 (A_94 hw) hT ?_
      refine sv_aload_n (pc := 45) dX11_wish_45 rfl rfl ?_
      refine gf_X11_1 (pc := 46) dX11_wish_46 wF_X11_13 (A_0 hw) hT ?_
      refine mr_iconst (pc := 49) (z := 0) dX11_wish_49 ?_
      refine lk_2 (pc := 50) dX11_wish_50 (A_2 hw) (rIx (n := 20) (rR (x := 0)) rfl) q149 ?_
      refine lk_95 (pc := 51) dX11_wish_51 (A_95 hw) (rIx (n := 7) h152 rfl) q154 ?_
      refine mr_iconst (pc := 52) (z := 5) dX11_wish_52 ?_
      refine mr_icmp_lt (pc := 53) (tgt := 59) dX11_wish_53 (by decide) (r32 h155 rfl) (r32 (rR (x := 5)) rfl) (fun h163 => ?_) (fun h163 => ?_)
      · have h164 : 0 ≤ z153 ∧ z153 ≤ 4 := (vc_X11_wish_w_9 h163 h155)
        refine sv_aload_n (pc := 59) dX11_wish_59 rfl rfl ?_
        refine gf_X11_9 (pc := 60) dX11_wish_60 wF_X11_72 (A_0 hw) hT ?_
        refine sv_aload_n (pc := 63) dX11_wish_63 rfl rfl ?_
        refine gf_X11_1 (pc := 64) dX11_wish_64 wF_X11_13 (A_0 hw) hT ?_
        refine sv_aload_n (pc := 67) dX11_wish_67 rfl rfl ?_
        refine gk_X11_11 (pc := 68) dX11_wish_68 wF_X11_169 (A_0 hw) q_f_q ?_
        refine mr_cVI (pc := 71) (c_X4_addWish_w hw hT (A_2 hw) h147 q149 q154 (vc_X12_wish_v_96 h151 h152) (vc_X11_wish_w_10 h163 h164) (h142.2.2.1 (vc_X11_wish_w_4 h142.2.1 h144 h146 h145))) (gOk _ _ _ _ _) dX11_wish_71 (tX4_addWish _ _ _ _ _) ⟨wV_X4_addWish, wL_X4_addWish⟩ wM_X11_408 (gCX4 _ _ _ _ _) rfl (A_94 hw) rfl ⟨le_t rfl, le_t rfl⟩ ⟨le_t rfl, le_t rfl⟩ rfl (le_t rfl) fun z169 μ165 T166 F167 h168 => ?_
        obtain ⟨z170, q171, h172⟩ := h168
        have h173 : (0 ≤ z170 ∧ z170 ≤ 1) := by rw [← q171]; exact T166 94 94 (A_94 hw) 11
        have h174 : 1 ≤ z169 ∧ z169 ≤ 5 := (vc_X11_wish_w_11 h172.2.1 h163 h164 h172.1)
        have q175 : μ165 94 11 = 0 := q171.trans h172.2.2.2.1
        have h176 : 0 ≤ z170 ∧ z170 ≤ 0 := (vc_X12_ring_22 h172.2.2.2.1 h173)
        exact mr_iret dX11_wish_74 rfl (le_t rfl) (le_t rfl) T166 (mF.call mF.refl F167 rfl) ⟨0, q175, (rW (c := (-2147483648)) (d := 2147483647) h174 rfl), (wiA.add (h142.2.2.2.1 (vc_X11_wish_w_4 h142.2.1 h144 h146 h145)) q149 q154 (h159.2.1 (vc_X11_wish_w_13 h161 h162)) (vc_X11_wish_w_14 h163 h172.2.1 h164 h174) h172.2.2.1 (vc_X11_wish_w_15 h163 h172.2.1 h164 h174)), (vc_X11_wish_w_16 h172.2.1 h163 h164 h174), trivial⟩
      have h177 : 5 ≤ z153 ∧ z153 ≤ 5 := (vc_X11_wish_w_17 h163 h155)
      refine mr_bipush (pc := 56) (z := (-3)) dX11_wish_56 (by decide) ?_
      obtain ⟨z178, q179⟩ : ∃ z, μ 94 11 = z := ⟨_, rfl⟩
      have h180 : (0 ≤ z178 ∧ z178 ≤ 1) := by rw [← q179]; exact hT 94 94 (A_94 hw) 11
      exact mr_iret dX11_wish_58 rfl (le_t rfl) (le_t rfl) hT mF.refl ⟨z178, q179, (rW (c := (-2147483648)) (d := 2147483647) (rR (x := (-3))) rfl), (wiA.full (h142.2.2.2.1 (vc_X11_wish_w_4 h142.2.1 h144 h146 h145)) q149 q154 (h159.2.1 (vc_X11_wish_w_13 h161 h162)) (vc_X11_wish_w_18 h163 h177)), (vc_X11_wish_w_19 h180), trivial⟩
    have h181 : 0 ≤ z160 ∧ z160 ≤ 4 := (vc_X11_wish_w_20 h161 h159.1)
    refine mr_bipush (pc := 35) (z := (-2)) dX11_wish_35 (by decide) ?_
    obtain ⟨z182, q183⟩ : ∃ z, μ 94 11 = z := ⟨_, rfl⟩
    have h184 : (0 ≤ z182 ∧ z182 ≤ 1) := by rw [← q183]; exact hT 94 94 (A_94 hw) 11
    exact mr_iret dX11_wish_37 rfl (le_t rfl) (le_t rfl) hT mF.refl ⟨z182, q183, (rW (c := (-2147483648)) (d := 2147483647) (rR (x := (-2))) rfl), (wiA.has (h142.2.2.2.1 (vc_X11_wish_w_4 h142.2.1 h144 h146 h145)) q149 q154 (h159.2.2.1 (vc_X11_wish_w_21 h161 h181))), (vc_X11_wish_w_22 h184), trivial⟩
  have h185 : 0 ≤ z143 ∧ z143 ≤ 0 := (vc_X11_wish_w_23 h144 h142.2.1 ht_f_q h142.1)
  refine mr_iconst (pc := 14) (z := (-1)) dX11_wish_14 ?_
  obtain ⟨z186, q187⟩ : ∃ z, μ 94 11 = z := ⟨_, rfl⟩
  have h188 : (0 ≤ z186 ∧ z186 ≤ 1) := by rw [← q187]; exact hT 94 94 (A_94 hw) 11
  exact mr_iret dX11_wish_15 rfl (le_t rfl) (le_t rfl) hT mF.refl ⟨z186, q187, (rW (c := (-2147483648)) (d := 2147483647) (rR (x := (-1))) rfl), (wiA.bad (h142.2.2.2.2.1 (vc_X11_wish_w_24 h142.2.1 h144 ht_f_q h185))), (vc_X11_wish_w_25 h188), trivial⟩
theorem vc_X12_states_rv_33 {z4 : Int} (h0 : 0 ≤ z4 ∧ z4 ≤ 5) : 0 < (1 * (z4 + 1)) := by omega
set_option maxRecDepth 4000 in
set_option maxHeartbeats 4000000 in
theorem c_X12_states_rv {l : Launch} {D : va_G} {c : Nat → ClassId} {H0 : Heap} {sa : Nat × Nat × (Nat → Int32)} {w : mW} {μ : mM} (hw : mWF w) (hT : mT w μ) : sC (gG l D c H0 sa) mX12_states 1 0 0 [.ref 106] (mk w μ) (qI w [187999] μ (fun z μ1 => ∃ o_w1 o_w2 o_w3 o_w4 o_w5 o_w6 : Int, μ1 187 ((1 : Int).toNat) = o_w1 ∧ μ1 187 ((2 : Int).toNat) = o_w2 ∧ μ1 187 ((3 : Int).toNat) = o_w3 ∧ μ1 187 ((4 : Int).toNat) = o_w4 ∧ μ1 187 ((5 : Int).toNat) = o_w5 ∧ μ1 187 ((6 : Int).toNat) = o_w6 ∧ (1 ≤ z ∧ z ≤ 46656) ∧ (1 ≤ o_w1) ∧ (1 ≤ o_w2) ∧ (1 ≤ o_w3) ∧ (1 ≤ o_w4) ∧ (1 ≤ o_w5) ∧ (1 ≤ o_w6) ∧ (radix μ1 187 184 z) ∧ ((wgT μ1 187 184 ∧ z = wgk (μ1 184) 6)) ∧ True)) := by
  refine sC.of rfl (by decide) (le_t rfl) ?_
  refine mr_lvE (lv' := [(0, .ref 106)]) rfl ?_
  refine mr_iconst (pc := 0) (z := 1) dX12_states_0 ?_
  refine mr_istore_n (pc := 1) (lv' := [(1, iv 1), (0, .ref 106)]) dX12_states_1 rfl (by decide) rfl ?_
  refine mr_bipush (pc := 2) (z := 6) dX12_states_2 (by decide) ?_
  refine mr_istore_n (pc := 4) (lv' := [(2, iv 6), (1, iv 1), (0, .ref 106)]) dX12_states_4 rfl (by decide) rfl ?_
  refine mr_iload_n (pc := 5) (z := 6) dX12_states_5 rfl rfl ?_
  refine mr_iconst (pc := 6) (z := 1) dX12_states_6 ?_
  refine mr_icmp_lt (pc := 7) (tgt := 34) dX12_states_7 (by decide) (r32 (rR (x := 6)) rfl) (r32 (rR (x := 1)) rfl) (fun h => ((vc_X12_states_1 h)).elim) (fun _ => ?_)
  refine sv_aload_n (pc := 10) dX12_states_10 rfl rfl ?_
  refine gf_X12_121 (pc := 11) dX12_states_11 wF_X12_523 (A_106 hw) hT ?_
  refine mr_iload_n (pc := 14) (z := 6) dX12_states_14 rfl rfl ?_
  refine mr_iload_n (pc := 15) (z := 1) dX12_states_15 rfl rfl ?_
  refine ss_187 (pc := 16) dX12_states_16 (A_187 hw) hT (rIx (n := 8) (rR (x := 6)) rfl) (rW (c := 0) (d := 46656) (rR (x := 1)) rfl) fun μ1 u2 T3 => ?_
  refine mr_iload_n (pc := 17) (z := 1) dX12_states_17 rfl rfl ?_
  refine sv_aload_n (pc := 18) dX12_states_18 rfl rfl ?_
  refine gf_X12_118 (pc := 19) dX12_states_19 wF_X12_514 (A_106 hw) T3 ?_
  refine mr_iload_n (pc := 22) (z := 6) dX12_states_22 rfl rfl ?_
  refine la_184 (pc := 23) dX12_states_23 (A_184 hw) T3 (rIx (n := 7) (rR (x := 6)) rfl) fun z4 q5 h6 => ?_
  refine mr_iconst (pc := 24) (z := 1) dX12_states_24 ?_
  refine mr_iadd (pc := 25) (x := z4) (y := 1) dX12_states_25 ?_
  refine mr_imul (pc := 26) (x := 1) (y := (z4 + 1)) dX12_states_26 ?_
  refine mr_istore_n (pc := 27) (lv' := [(1, iv (1 * (z4 + 1))), (2, iv 6), (0, .ref 106)]) dX12_states_27 rfl (by decide) rfl ?_
  refine mr_iinc (pc := 28) (lv' := [(2, iv 5), (1, iv (1 * (z4 + 1))), (0, .ref 106)]) dX12_states_28 rfl (by decide) rfl ?_
  refine sv_goto (pc := 31) (tgt := 5) dX12_states_31 (by decide) ?_
  refine mr_iload_n (pc := 5) (z := 5) dX12_states_5 rfl rfl ?_
  refine mr_iconst (pc := 6) (z := 1) dX12_states_6 ?_
  refine mr_icmp_lt (pc := 7) (tgt := 34) dX12_states_7 (by decide) (r32 (rR (x := 5)) rfl) (r32 (rR (x := 1)) rfl) (fun h => ((vc_X12_states_2 h)).elim) (fun _ => ?_)
  refine sv_aload_n (pc := 10) dX12_states_10 rfl rfl ?_
  refine gf_X12_121 (pc := 11) dX12_states_11 wF_X12_523 (A_106 hw) T3 ?_
  refine mr_iload_n (pc := 14) (z := 5) dX12_states_14 rfl rfl ?_
  refine mr_iload_n (pc := 15) (z := (1 * (z4 + 1))) dX12_states_15 rfl rfl ?_
  refine ss_187 (pc := 16) dX12_states_16 (A_187 hw) T3 (rIx (n := 8) (rR (x := 5)) rfl) (rW (c := 0) (d := 46656) (rMulL (n := 1) (e := 1) (f := 6) (rAdd (e := 1) (f := 6) h6 (rR (x := 1)) rfl) rfl) rfl) fun μ7 u8 T9 => ?_
  refine mr_iload_n (pc := 17) (z := (1 * (z4 + 1))) dX12_states_17 rfl rfl ?_
  refine sv_aload_n (pc := 18) dX12_states_18 rfl rfl ?_
  refine gf_X12_118 (pc := 19) dX12_states_19 wF_X12_514 (A_106 hw) T9 ?_
  refine mr_iload_n (pc := 22) (z := 5) dX12_states_22 rfl rfl ?_
  refine la_184 (pc := 23) dX12_states_23 (A_184 hw) T9 (rIx (n := 7) (rR (x := 5)) rfl) fun z10 q11 h12 => ?_
  refine mr_iconst (pc := 24) (z := 1) dX12_states_24 ?_
  refine mr_iadd (pc := 25) (x := z10) (y := 1) dX12_states_25 ?_
  refine mr_imul (pc := 26) (x := (1 * (z4 + 1))) (y := (z10 + 1)) dX12_states_26 ?_
  refine mr_gen (P := fun z => 1 ≤ z ∧ z ≤ 36) (rMulP (rMulL (n := 1) (e := 1) (f := 6) (rAdd (e := 1) (f := 6) h6 (rR (x := 1)) rfl) rfl) (rAdd (e := 1) (f := 6) h12 (rR (x := 1)) rfl) rfl) fun z13 q14 h15 => ?_
  refine mr_istore_n (pc := 27) (lv' := [(1, iv z13), (2, iv 5), (0, .ref 106)]) dX12_states_27 rfl (by decide) rfl ?_
  refine mr_iinc (pc := 28) (lv' := [(2, iv 4), (1, iv z13), (0, .ref 106)]) dX12_states_28 rfl (by decide) rfl ?_
  refine sv_goto (pc := 31) (tgt := 5) dX12_states_31 (by decide) ?_
  refine mr_iload_n (pc := 5) (z := 4) dX12_states_5 rfl rfl ?_
  refine mr_iconst (pc := 6) (z := 1) dX12_states_6 ?_
  refine mr_icmp_lt (pc := 7) (tgt := 34) dX12_states_7 (by decide) (r32 (rR (x := 4)) rfl) (r32 (rR (x := 1)) rfl) (fun h => ((vc_X12_states_3 h)).elim) (fun _ => ?_)
  refine sv_aload_n (pc := 10) dX12_states_10 rfl rfl ?_
  refine gf_X12_121 (pc := 11) dX12_states_11 wF_X12_523 (A_106 hw) T9 ?_
  refine mr_iload_n (pc := 14) (z := 4) dX12_states_14 rfl rfl ?_
  refine mr_iload_n (pc := 15) (z := z13) dX12_states_15 rfl rfl ?_
  refine ss_187 (pc := 16) dX12_states_16 (A_187 hw) T9 (rIx (n := 8) (rR (x := 4)) rfl) (rW (c := 0) (d := 46656) h15 rfl) fun μ16 u17 T18 => ?_
  refine mr_iload_n (pc := 17) (z := z13) dX12_states_17 rfl rfl ?_
  refine sv_aload_n (pc := 18) dX12_states_18 rfl rfl ?_
  refine gf_X12_118 (pc := 19) dX12_states_19 wF_X12_514 (A_106 hw) T18 ?_
  refine mr_iload_n (pc := 22) (z := 4) dX12_states_22 rfl rfl ?_
  refine la_184 (pc := 23) dX12_states_23 (A_184 hw) T18 (rIx (n := 7) (rR (x := 4)) rfl) fun z19 q20 h21 => ?_
  refine mr_iconst (pc := 24) (z := 1) dX12_states_24 ?_
  refine mr_iadd (pc := 25) (x := z19) (y := 1) dX12_states_25 ?_
  refine mr_imul (pc := 26) (x := z13) (y := (z19 + 1)) dX12_states_26 ?_
  refine mr_gen (P := fun z => 1 ≤ z ∧ z ≤ 216) (rMulP h15 (rAdd (e := 1) (f := 6) h21 (rR (x := 1)) rfl) rfl) fun z22 q23 h24 => ?_
  refine mr_istore_n (pc := 27) (lv' := [(1, iv z22), (2, iv 4), (0, .ref 106)]) dX12_states_27 rfl (by decide) rfl ?_
  refine mr_iinc (pc := 28) (lv' := [(2, iv 3), (1, iv z22), (0, .ref 106)]) dX12_states_28 rfl (by decide) rfl ?_
  refine sv_goto (pc := 31) (tgt := 5) dX12_states_31 (by decide) ?_
  refine mr_iload_n (pc := 5) (z := 3) dX12_states_5 rfl rfl ?_
  refine mr_iconst (pc := 6) (z := 1) dX12_states_6 ?_
  refine mr_icmp_lt (pc := 7) (tgt := 34) dX12_states_7 (by decide) (r32 (rR (x := 3)) rfl) (r32 (rR (x := 1)) rfl) (fun h => ((vc_X12_states_4 h)).elim) (fun _ => ?_)
  refine sv_aload_n (pc := 10) dX12_states_10 rfl rfl ?_
  refine gf_X12_121 (pc := 11) dX12_states_11 wF_X12_523 (A_106 hw) T18 ?_
  refine mr_iload_n (pc := 14) (z := 3) dX12_states_14 rfl rfl ?_
  refine mr_iload_n (pc := 15) (z := z22) dX12_states_15 rfl rfl ?_
  refine ss_187 (pc := 16) dX12_states_16 (A_187 hw) T18 (rIx (n := 8) (rR (x := 3)) rfl) (rW (c := 0) (d := 46656) h24 rfl) fun μ25 u26 T27 => ?_
  refine mr_iload_n (pc := 17) (z := z22) dX12_states_17 rfl rfl ?_
  refine sv_aload_n (pc := 18) dX12_states_18 rfl rfl ?_
  refine gf_X12_118 (pc := 19) dX12_states_19 wF_X12_514 (A_106 hw) T27 ?_
  refine mr_iload_n (pc := 22) (z := 3) dX12_states_22 rfl rfl ?_
  refine la_184 (pc := 23) dX12_states_23 (A_184 hw) T27 (rIx (n := 7) (rR (x := 3)) rfl) fun z28 q29 h30 => ?_
  refine mr_iconst (pc := 24) (z := 1) dX12_states_24 ?_
  refine mr_iadd (pc := 25) (x := z28) (y := 1) dX12_states_25 ?_
  refine mr_imul (pc := 26) (x := z22) (y := (z28 + 1)) dX12_states_26 ?_
  refine mr_gen (P := fun z => 1 ≤ z ∧ z ≤ 1296) (rMulP h24 (rAdd (e := 1) (f := 6) h30 (rR (x := 1)) rfl) rfl) fun z31 q32 h33 => ?_
  refine mr_istore_n (pc := 27) (lv' := [(1, iv z31), (2, iv 3), (0, .ref 106)]) dX12_states_27 rfl (by decide) rfl ?_
  refine mr_iinc (pc := 28) (lv' := [(2, iv 2), (1, iv z31), (0, .ref 106)]) dX12_states_28 rfl (by decide) rfl ?_
  refine sv_goto (pc := 31) (tgt := 5) dX12_states_31 (by decide) ?_
  refine mr_iload_n (pc := 5) (z := 2) dX12_states_5 rfl rfl ?_
  refine mr_iconst (pc := 6) (z := 1) dX12_states_6 ?_
  refine mr_icmp_lt (pc := 7) (tgt := 34) dX12_states_7 (by decide) (r32 (rR (x := 2)) rfl) (r32 (rR (x := 1)) rfl) (fun h => ((vc_X12_states_5 h)).elim) (fun _ => ?_)
  refine sv_aload_n (pc := 10) dX12_states_10 rfl rfl ?_
  refine gf_X12_121 (pc := 11) dX12_states_11 wF_X12_523 (A_106 hw) T27 ?_
  refine mr_iload_n (pc := 14) (z := 2) dX12_states_14 rfl rfl ?_
  refine mr_iload_n (pc := 15) (z := z31) dX12_states_15 rfl rfl ?_
  refine ss_187 (pc := 16) dX12_states_16 (A_187 hw) T27 (rIx (n := 8) (rR (x := 2)) rfl) (rW (c := 0) (d := 46656) h33 rfl) fun μ34 u35 T36 => ?_
  refine mr_iload_n (pc := 17) (z := z31) dX12_states_17 rfl rfl ?_
  refine sv_aload_n (pc := 18) dX12_states_18 rfl rfl ?_
  refine gf_X12_118 (pc := 19) dX12_states_19 wF_X12_514 (A_106 hw) T36 ?_
  refine mr_iload_n (pc := 22) (z := 2) dX12_states_22 rfl rfl ?_
  refine la_184 (pc := 23) dX12_states_23 (A_184 hw) T36 (rIx (n := 7) (rR (x := 2)) rfl) fun z37 q38 h39 => ?_
  refine mr_iconst (pc := 24) (z := 1) dX12_states_24 ?_
  refine mr_iadd (pc := 25) (x := z37) (y := 1) dX12_states_25 ?_
  refine mr_imul (pc := 26) (x := z31) (y := (z37 + 1)) dX12_states_26 ?_
  refine mr_gen (P := fun z => 1 ≤ z ∧ z ≤ 7776) (rMulP h33 (rAdd (e := 1) (f := 6) h39 (rR (x := 1)) rfl) rfl) fun z40 q41 h42 => ?_
  refine mr_istore_n (pc := 27) (lv' := [(1, iv z40), (2, iv 2), (0, .ref 106)]) dX12_states_27 rfl (by decide) rfl ?_
  refine mr_iinc (pc := 28) (lv' := [(2, iv 1), (1, iv z40), (0, .ref 106)]) dX12_states_28 rfl (by decide) rfl ?_
  refine sv_goto (pc := 31) (tgt := 5) dX12_states_31 (by decide) ?_
  refine mr_iload_n (pc := 5) (z := 1) dX12_states_5 rfl rfl ?_
  refine mr_iconst (pc := 6) (z := 1) dX12_states_6 ?_
  refine mr_icmp_lt (pc := 7) (tgt := 34) dX12_states_7 (by decide) (r32 (rR (x := 1)) rfl) (r32 (rR (x := 1)) rfl) (fun h => ((vc_X12_states_6 h)).elim) (fun _ => ?_)
  refine sv_aload_n (pc := 10) dX12_states_10 rfl rfl ?_
  refine gf_X12_121 (pc := 11) dX12_states_11 wF_X12_523 (A_106 hw) T36 ?_
  refine mr_iload_n (pc := 14) (z := 1) dX12_states_14 rfl rfl ?_
  refine mr_iload_n (pc := 15) (z := z40) dX12_states_15 rfl rfl ?_
  refine ss_187 (pc := 16) dX12_states_16 (A_187 hw) T36 (rIx (n := 8) (rR (x := 1)) rfl) (rW (c := 0) (d := 46656) h42 rfl) fun μ43 u44 T45 => ?_
  refine mr_iload_n (pc := 17) (z := z40) dX12_states_17 rfl rfl ?_
  refine sv_aload_n (pc := 18) dX12_states_18 rfl rfl ?_
  refine gf_X12_118 (pc := 19) dX12_states_19 wF_X12_514 (A_106 hw) T45 ?_
  refine mr_iload_n (pc := 22) (z := 1) dX12_states_22 rfl rfl ?_
  refine la_184 (pc := 23) dX12_states_23 (A_184 hw) T45 (rIx (n := 7) (rR (x := 1)) rfl) fun z46 q47 h48 => ?_
  refine mr_iconst (pc := 24) (z := 1) dX12_states_24 ?_
  refine mr_iadd (pc := 25) (x := z46) (y := 1) dX12_states_25 ?_
  refine mr_imul (pc := 26) (x := z40) (y := (z46 + 1)) dX12_states_26 ?_
  refine mr_gen (P := fun z => 1 ≤ z ∧ z ≤ 46656) (rMulP h42 (rAdd (e := 1) (f := 6) h48 (rR (x := 1)) rfl) rfl) fun z49 q50 h51 => ?_
  refine mr_istore_n (pc := 27) (lv' := [(1, iv z49), (2, iv 1), (0, .ref 106)]) dX12_states_27 rfl (by decide) rfl ?_
  refine mr_iinc (pc := 28) (lv' := [(2, iv 0), (1, iv z49), (0, .ref 106)]) dX12_states_28 rfl (by decide) rfl ?_
  refine sv_goto (pc := 31) (tgt := 5) dX12_states_31 (by decide) ?_
  refine mr_iload_n (pc := 5) (z := 0) dX12_states_5 rfl rfl ?_
  refine mr_iconst (pc := 6) (z := 1) dX12_states_6 ?_
  refine mr_icmp_lt (pc := 7) (tgt := 34) dX12_states_7 (by decide) (r32 (rR (x := 0)) rfl) (r32 (rR (x := 1)) rfl) (fun _ => ?_) (fun h => ((vc_X12_states_7 h)).elim)
  refine mr_iload_n (pc := 34) (z := z49) dX12_states_34 rfl rfl ?_
  exact mr_iret dX12_states_35 rfl (le_t rfl) (le_t rfl) T45 (mF.up (mF.up (mF.up (mF.up (mF.up (mF.up mF.refl (A_187 hw) u2 rfl) (A_187 hw) u8 rfl) (A_187 hw) u17 rfl) (A_187 hw) u26 rfl) (A_187 hw) u35 rfl) (A_187 hw) u44 rfl) ⟨z40, z31, z22, z13, (1 * (z4 + 1)), 1, u44.1, (u44.f (Or.inr vc_X12_states_8) u35.1), (u44.f (Or.inr vc_X12_states_10) (u35.f (Or.inr vc_X12_states_9) u26.1)), (u44.f (Or.inr vc_X12_states_13) (u35.f (Or.inr vc_X12_states_12) (u26.f (Or.inr vc_X12_states_11) u17.1))), (u44.f (Or.inr vc_X12_states_17) (u35.f (Or.inr vc_X12_states_16) (u26.f (Or.inr vc_X12_states_15) (u17.f (Or.inr vc_X12_states_14) u8.1)))), (u44.f (Or.inr vc_X12_states_22) (u35.f (Or.inr vc_X12_states_21) (u26.f (Or.inr vc_X12_states_20) (u17.f (Or.inr vc_X12_states_19) (u8.f (Or.inr vc_X12_states_18) u2.1))))), h51, (vc_X12_states_23 h42), (vc_X12_states_24 h33), (vc_X12_states_25 h24), (vc_X12_states_26 h15), (vc_X12_states_27 h6), vc_X12_states_28, (radix.mk q47 (u44.f (Or.inl (mAt.ne (A_187 hw) (A_184 hw) rfl)) q38) (u44.f (Or.inl (mAt.ne (A_187 hw) (A_184 hw) rfl)) (u35.f (Or.inl (mAt.ne (A_187 hw) (A_184 hw) rfl)) q29)) (u44.f (Or.inl (mAt.ne (A_187 hw) (A_184 hw) rfl)) (u35.f (Or.inl (mAt.ne (A_187 hw) (A_184 hw) rfl)) (u26.f (Or.inl (mAt.ne (A_187 hw) (A_184 hw) rfl)) q20))) (u44.f (Or.inl (mAt.ne (A_187 hw) (A_184 hw) rfl)) (u35.f (Or.inl (mAt.ne (A_187 hw) (A_184 hw) rfl)) (u26.f (Or.inl (mAt.ne (A_187 hw) (A_184 hw) rfl)) (u17.f (Or.inl (mAt.ne (A_187 hw) (A_184 hw) rfl)) q11)))) (u44.f (Or.inl (mAt.ne (A_187 hw) (A_184 hw) rfl)) (u35.f (Or.inl (mAt.ne (A_187 hw) (A_184 hw) rfl)) (u26.f (Or.inl (mAt.ne (A_187 hw) (A_184 hw) rfl)) (u17.f (Or.inl (mAt.ne (A_187 hw) (A_184 hw) rfl)) (u8.f (Or.inl (mAt.ne (A_187 hw) (A_184 hw) rfl)) q5))))) u44.1 (u44.f (Or.inr vc_X12_states_8) u35.1) (u44.f (Or.inr vc_X12_states_10) (u35.f (Or.inr vc_X12_states_9) u26.1)) (u44.f (Or.inr vc_X12_states_13) (u35.f (Or.inr vc_X12_states_12) (u26.f (Or.inr vc_X12_states_11) u17.1))) (u44.f (Or.inr vc_X12_states_17) (u35.f (Or.inr vc_X12_states_16) (u26.f (Or.inr vc_X12_states_15) (u17.f (Or.inr vc_X12_states_14) u8.1)))) (u44.f (Or.inr vc_X12_states_22) (u35.f (Or.inr vc_X12_states_21) (u26.f (Or.inr vc_X12_states_20) (u17.f (Or.inr vc_X12_states_19) (u8.f (Or.inr vc_X12_states_18) u2.1))))) (vc_X4_prepare_30 h42) (vc_X4_prepare_31 h33) (vc_X4_prepare_32 h24) (vc_X4_prepare_33 h15) (vc_X12_states_rv_33 h6) vc_X4_prepare_35 rfl q14.symm q23.symm q32.symm q41.symm q50.symm), (wgT.mk q47 (u44.f (Or.inl (mAt.ne (A_187 hw) (A_184 hw) rfl)) q38) (u44.f (Or.inl (mAt.ne (A_187 hw) (A_184 hw) rfl)) (u35.f (Or.inl (mAt.ne (A_187 hw) (A_184 hw) rfl)) q29)) (u44.f (Or.inl (mAt.ne (A_187 hw) (A_184 hw) rfl)) (u35.f (Or.inl (mAt.ne (A_187 hw) (A_184 hw) rfl)) (u26.f (Or.inl (mAt.ne (A_187 hw) (A_184 hw) rfl)) q20))) (u44.f (Or.inl (mAt.ne (A_187 hw) (A_184 hw) rfl)) (u35.f (Or.inl (mAt.ne (A_187 hw) (A_184 hw) rfl)) (u26.f (Or.inl (mAt.ne (A_187 hw) (A_184 hw) rfl)) (u17.f (Or.inl (mAt.ne (A_187 hw) (A_184 hw) rfl)) q11)))) (u44.f (Or.inl (mAt.ne (A_187 hw) (A_184 hw) rfl)) (u35.f (Or.inl (mAt.ne (A_187 hw) (A_184 hw) rfl)) (u26.f (Or.inl (mAt.ne (A_187 hw) (A_184 hw) rfl)) (u17.f (Or.inl (mAt.ne (A_187 hw) (A_184 hw) rfl)) (u8.f (Or.inl (mAt.ne (A_187 hw) (A_184 hw) rfl)) q5))))) u44.1 (u44.f (Or.inr vc_X12_states_8) u35.1) (u44.f (Or.inr vc_X12_states_10) (u35.f (Or.inr vc_X12_states_9) u26.1)) (u44.f (Or.inr vc_X12_states_13) (u35.f (Or.inr vc_X12_states_12) (u26.f (Or.inr vc_X12_states_11) u17.1))) (u44.f (Or.inr vc_X12_states_17) (u35.f (Or.inr vc_X12_states_16) (u26.f (Or.inr vc_X12_states_15) (u17.f (Or.inr vc_X12_states_14) u8.1)))) (u44.f (Or.inr vc_X12_states_22) (u35.f (Or.inr vc_X12_states_21) (u26.f (Or.inr vc_X12_states_20) (u17.f (Or.inr vc_X12_states_19) (u8.f (Or.inr vc_X12_states_18) u2.1))))) rfl rfl q14.symm q23.symm q32.symm q41.symm q50.symm), trivial⟩
theorem vc_X12_tries_v_1 {p1 z5 : Int} (h0 : ¬ z5 = 0) (h1 : (z5 = 1 → (0 : Int) ≤ p1 ∧ p1 ≤ (3 : Int))) (h2 : (z5 = 0 → p1 < (0 : Int) ∨ (3 : Int) < p1)) (h3 : (-2147483648) ≤ p1 ∧ p1 ≤ 2147483647) (h4 : 0 ≤ z5 ∧ z5 ≤ 1) : 1 ≤ z5 ∧ z5 ≤ 1 := by omega
theorem vc_X12_tries_v_2 {p1 z5 : Int} (h0 : (z5 = 1 → (0 : Int) ≤ p1 ∧ p1 ≤ (3 : Int))) (h1 : (z5 = 0 → p1 < (0 : Int) ∨ (3 : Int) < p1)) (h2 : ¬ z5 = 0) (h3 : (-2147483648) ≤ p1 ∧ p1 ≤ 2147483647) (h4 : 1 ≤ z5 ∧ z5 ≤ 1) : z5 = 1 := by omega
theorem vc_X12_tries_v_3 {p1 z5 : Int} (h0 : (0 : Int) ≤ p1 ∧ p1 ≤ (3 : Int)) (h1 : (z5 = 1 → (0 : Int) ≤ p1 ∧ p1 ≤ (3 : Int))) (h2 : (z5 = 0 → p1 < (0 : Int) ∨ (3 : Int) < p1)) (h3 : (-2147483648) ≤ p1 ∧ p1 ≤ 2147483647) (h4 : 1 ≤ z5 ∧ z5 ≤ 1) : 0 ≤ p1 ∧ p1 ≤ 3 := by omega
theorem vc_X12_tries_v_12 {z14 z24464 : Int} (h0 : z14 ≤ z24464) (h1 : 1 ≤ z14 ∧ z14 ≤ 46656) (h2 : 1 ≤ z24464 ∧ z24464 ≤ 46656) : (z14 - 1) = z14 - 1 := by omega
theorem vc_X12_tries_v_13 {z14 z24464 : Int} (h0 : z14 ≤ z24464) (h1 : 1 ≤ z14 ∧ z14 ≤ 46656) (h2 : 1 ≤ z24464 ∧ z24464 ≤ 46656) : 1 ≤ z14 := by omega
theorem vc_X12_tries_v_14 {z14 z24464 : Int} (h0 : z14 ≤ z24464) (h1 : 1 ≤ z14 ∧ z14 ≤ 46656) (h2 : 1 ≤ z24464 ∧ z24464 ≤ 46656) : z14 ≤ z24464 := by omega
theorem vc_X12_tries_v_15 {z36943 z36945 z36946 : Int} (h0 : (46657 - z36943) < ((0 : Nat) : Int)) (h1 : z36945 ≤ z36943) (h2 : z36943 ≤ z36946) (h3 : 0 ≤ z36943 ∧ z36943 ≤ 46656) (h4 : 0 ≤ z36945 ∧ z36945 ≤ 46656) (h5 : 1 ≤ z36946 ∧ z36946 ≤ 46656) : False := by omega
theorem vc_X12_tries_v_16 {z36943 z36945 z36946 : Int} (h0 : z36946 ≤ z36943) (h1 : z36945 ≤ z36943) (h2 : z36943 ≤ z36946) (h3 : 0 ≤ z36943 ∧ z36943 ≤ 46656) (h4 : 0 ≤ z36945 ∧ z36945 ≤ 46656) (h5 : 1 ≤ z36946 ∧ z36946 ≤ 46656) : 1 ≤ z36943 ∧ z36943 ≤ 46656 := by omega
theorem vc_X12_tries_v_17 {p1 z5 : Int} (h0 : ¬ p1 = 0) (h1 : (z5 = 1 → (0 : Int) ≤ p1 ∧ p1 ≤ (3 : Int))) (h2 : (z5 = 0 → p1 < (0 : Int) ∨ (3 : Int) < p1)) (h3 : (0 : Int) ≤ p1 ∧ p1 ≤ (3 : Int)) (h4 : 0 ≤ p1 ∧ p1 ≤ 3) (h5 : 1 ≤ z5 ∧ z5 ≤ 1) : 1 ≤ p1 ∧ p1 ≤ 3 := by omega
theorem vc_X12_tries_v_18 {p1 z5 : Int} (h0 : ¬ p1 = 1) (h1 : (z5 = 1 → (0 : Int) ≤ p1 ∧ p1 ≤ (3 : Int))) (h2 : (z5 = 0 → p1 < (0 : Int) ∨ (3 : Int) < p1)) (h3 : (0 : Int) ≤ p1 ∧ p1 ≤ (3 : Int)) (h4 : ¬ p1 = 0) (h5 : 1 ≤ p1 ∧ p1 ≤ 3) (h6 : 1 ≤ z5 ∧ z5 ≤ 1) : 2 ≤ p1 ∧ p1 ≤ 3 := by omega
theorem vc_X12_tries_v_19 {p1 z5 : Int} (h0 : ¬ p1 = 3) (h1 : (z5 = 1 → (0 : Int) ≤ p1 ∧ p1 ≤ (3 : Int))) (h2 : (z5 = 0 → p1 < (0 : Int) ∨ (3 : Int) < p1)) (h3 : (0 : Int) ≤ p1 ∧ p1 ≤ (3 : Int)) (h4 : ¬ p1 = 0) (h5 : ¬ p1 = 1) (h6 : 2 ≤ p1 ∧ p1 ≤ 3) (h7 : 1 ≤ z5 ∧ z5 ≤ 1) : 2 ≤ p1 ∧ p1 ≤ 2 := by omega
theorem vc_X12_tries_v_20 {f_k z37985 : Int} (h0 : ((2 * (46656 - f_k)) + z37985) < ((0 : Nat) : Int)) (h1 : 0 ≤ f_k ∧ f_k ≤ 46656) (h2 : 0 ≤ z37985 ∧ z37985 ≤ 1) : False := by omega
theorem vc_X12_tries_v_22 {z36943 z36946 z38509 z38510 : Int} (h0 : (46657 - z38509) < ((0 : Nat) : Int)) (h1 : z38509 ≤ z36946) (h2 : z38510 ≤ z38509) (h3 : z36943 ≤ z36946) (h4 : z36946 ≤ z36943) (h5 : 1 ≤ z36943 ∧ z36943 ≤ 46656) (h6 : 1 ≤ z36946 ∧ z36946 ≤ 46656) (h7 : 0 ≤ z38509 ∧ z38509 ≤ 46656) (h8 : 0 ≤ z38510 ∧ z38510 ≤ 46656) : False := by omega
theorem vc_X12_tries_v_23 {z36943 z36946 z38509 z38510 : Int} (h0 : z36946 ≤ z38509) (h1 : z36943 ≤ z36946) (h2 : z36946 ≤ z36943) (h3 : z38509 ≤ z36946) (h4 : z38510 ≤ z38509) (h5 : 1 ≤ z36943 ∧ z36943 ≤ 46656) (h6 : 1 ≤ z36946 ∧ z36946 ≤ 46656) (h7 : 0 ≤ z38509 ∧ z38509 ≤ 46656) (h8 : 0 ≤ z38510 ∧ z38510 ≤ 46656) : 1 ≤ z38509 ∧ z38509 ≤ 46656 := by omega
theorem vc_X12_tries_v_24 {z36943 z36945 z36946 z38509 z38510 : Int} (h0 : z36945 ≤ z36943) (h1 : z36943 ≤ z36946) (h2 : z36946 ≤ z36943) (h3 : z38509 ≤ z36946) (h4 : z36946 ≤ z38509) (h5 : z38510 ≤ z38509) (h6 : 1 ≤ z36943 ∧ z36943 ≤ 46656) (h7 : 0 ≤ z36945 ∧ z36945 ≤ 46656) (h8 : 1 ≤ z36946 ∧ z36946 ≤ 46656) (h9 : 1 ≤ z38509 ∧ z38509 ≤ 46656) (h10 : 0 ≤ z38510 ∧ z38510 ≤ 46656) : z36946 ≤ z36943 := by omega
theorem vc_X12_tries_v_26 {z14 z24464 : Int} (h0 : z14 ≤ z24464) (h1 : 1 ≤ z14 ∧ z14 ≤ 46656) (h2 : 1 ≤ z24464 ∧ z24464 ≤ 46656) : 0 ≤ z14 := by omega
theorem vc_X12_tries_v_28 {p1 z5 : Int} (h0 : (z5 = 1 → (0 : Int) ≤ p1 ∧ p1 ≤ (3 : Int))) (h1 : (z5 = 0 → p1 < (0 : Int) ∨ (3 : Int) < p1)) (h2 : (0 : Int) ≤ p1 ∧ p1 ≤ (3 : Int)) (h3 : ¬ p1 = 0) (h4 : ¬ p1 = 1) (h5 : ¬ p1 = 3) (h6 : ¬ z5 = 0) (h7 : 2 ≤ p1 ∧ p1 ≤ 2) (h8 : 1 ≤ z5 ∧ z5 ≤ 1) : p1 = 2 := by omega
theorem vc_X12_tries_v_29 {z36943 z36945 z36946 z38509 z38510 : Int} (h0 : z36943 ≤ z36946) (h1 : z36946 ≤ z36943) (h2 : z38509 ≤ z36946) (h3 : z38510 ≤ z38509) (h4 : z36946 ≤ z38509) (h5 : z36945 ≤ z36943) (h6 : 1 ≤ z36943 ∧ z36943 ≤ 46656) (h7 : 0 ≤ z36945 ∧ z36945 ≤ 46656) (h8 : 1 ≤ z36946 ∧ z36946 ≤ 46656) (h9 : 1 ≤ z38509 ∧ z38509 ≤ 46656) (h10 : 0 ≤ z38510 ∧ z38510 ≤ 46656) : z38509 = z36946 := by omega
theorem vc_X12_tries_v_30 {z36943 z36946 z38509 z38510 : Int} (h0 : z38509 < z36946) (h1 : z36943 ≤ z36946) (h2 : z36946 ≤ z36943) (h3 : z38509 ≤ z36946) (h4 : z38510 ≤ z38509) (h5 : 1 ≤ z36943 ∧ z36943 ≤ 46656) (h6 : 1 ≤ z36946 ∧ z36946 ≤ 46656) (h7 : 0 ≤ z38509 ∧ z38509 ≤ 46656) (h8 : 0 ≤ z38510 ∧ z38510 ≤ 46656) : 0 ≤ z38509 ∧ z38509 ≤ 46655 := by omega
theorem vc_X12_tries_v_32 {z36946 z38509 z38510 : Int} (h0 : z38510 ≤ z38509) (h1 : z38509 ≤ z36946) (h2 : z38509 < z36946) (h3 : 1 ≤ z36946 ∧ z36946 ≤ 46656) (h4 : 0 ≤ z38509 ∧ z38509 ≤ 46655) (h5 : 0 ≤ z38510 ∧ z38510 ≤ 46656) : 0 ≤ (z38510 + 1) ∧ (z38510 + 1) ≤ 46656 := by omega
theorem vc_X12_tries_v_33 {z36943 z36945 z36946 z38509 z38510 : Int} (h0 : z36943 ≤ z36946) (h1 : z36946 ≤ z36943) (h2 : z38509 ≤ z36946) (h3 : z38510 ≤ z38509) (h4 : z38509 < z36946) (h5 : z36945 ≤ z36943) (h6 : 1 ≤ z36943 ∧ z36943 ≤ 46656) (h7 : 0 ≤ z36945 ∧ z36945 ≤ 46656) (h8 : 1 ≤ z36946 ∧ z36946 ≤ 46656) (h9 : 0 ≤ z38509 ∧ z38509 ≤ 46655) (h10 : 0 ≤ z38510 ∧ z38510 ≤ 46656) : (z38509 + 1) ≤ z36946 := by omega
theorem vc_X12_tries_v_34 {z36943 z36946 z38509 z38510 : Int} (h0 : z38509 ≤ z36946) (h1 : z38510 ≤ z38509) (h2 : z38509 < z36946) (h3 : z36943 ≤ z36946) (h4 : z36946 ≤ z36943) (h5 : 1 ≤ z36943 ∧ z36943 ≤ 46656) (h6 : 1 ≤ z36946 ∧ z36946 ≤ 46656) (h7 : 0 ≤ z38509 ∧ z38509 ≤ 46655) (h8 : 0 ≤ z38510 ∧ z38510 ≤ 46656) : (z38510 + 1) ≤ (z38509 + 1) := by omega
theorem vc_X12_tries_v_35 {N z36943 z36946 z38509 z38510 : Int} (h0 : (46657 - z38509) < N + 1) (h1 : z38509 ≤ z36946) (h2 : z38510 ≤ z38509) (h3 : z38509 < z36946) (h4 : z36943 ≤ z36946) (h5 : z36946 ≤ z36943) (h6 : 1 ≤ z36943 ∧ z36943 ≤ 46656) (h7 : 1 ≤ z36946 ∧ z36946 ≤ 46656) (h8 : 0 ≤ z38509 ∧ z38509 ≤ 46655) (h9 : 0 ≤ z38510 ∧ z38510 ≤ 46656) : (46657 - (z38509 + 1)) < N := by omega
theorem vc_X12_tries_v_36 {z36943 z36946 z38509 z38510 : Int} (h0 : z38509 ≤ z36946) (h1 : z38510 ≤ z38509) (h2 : z38509 < z36946) (h3 : z36943 ≤ z36946) (h4 : z36946 ≤ z36943) (h5 : 1 ≤ z36943 ∧ z36943 ≤ 46656) (h6 : 1 ≤ z36946 ∧ z36946 ≤ 46656) (h7 : 0 ≤ z38509 ∧ z38509 ≤ 46655) (h8 : 0 ≤ z38510 ∧ z38510 ≤ 46656) : 0 ≤ z38509 := by omega
theorem vc_X12_tries_v_37 {z36946 z38509 z38510 z38538 : Int} (h0 : z38510 ≤ z38509) (h1 : z38538 = 0) (h2 : z38509 ≤ z36946) (h3 : z38509 < z36946) (h4 : 1 ≤ z36946 ∧ z36946 ≤ 46656) (h5 : 0 ≤ z38509 ∧ z38509 ≤ 46655) (h6 : 0 ≤ z38510 ∧ z38510 ≤ 46656) (h7 : 0 ≤ z38538 ∧ z38538 ≤ 0) : (z38538 = 1 ∧ (z38510 + 1) = z38510) ∨ (¬ z38538 = 1 ∧ (z38510 + 1) = z38510 + 1) := by omega
theorem vc_X12_tries_v_39 {z36943 z36946 z38509 z38510 : Int} (h0 : z38509 ≤ z36946) (h1 : z38510 ≤ z38509) (h2 : z38509 < z36946) (h3 : z36943 ≤ z36946) (h4 : z36946 ≤ z36943) (h5 : 1 ≤ z36943 ∧ z36943 ≤ 46656) (h6 : 1 ≤ z36946 ∧ z36946 ≤ 46656) (h7 : 0 ≤ z38509 ∧ z38509 ≤ 46655) (h8 : 0 ≤ z38510 ∧ z38510 ≤ 46656) : (z38510 + 0) ≤ (z38509 + 1) := by omega
theorem vc_X12_tries_v_40 {z36946 z38509 z38510 z38538 : Int} (h0 : z38510 ≤ z38509) (h1 : ¬ z38538 = 0) (h2 : z38509 ≤ z36946) (h3 : z38509 < z36946) (h4 : 1 ≤ z36946 ∧ z36946 ≤ 46656) (h5 : 0 ≤ z38509 ∧ z38509 ≤ 46655) (h6 : 0 ≤ z38510 ∧ z38510 ≤ 46656) (h7 : 1 ≤ z38538 ∧ z38538 ≤ 1) : (z38538 = 1 ∧ (z38510 + 0) = z38510) ∨ (¬ z38538 = 1 ∧ (z38510 + 0) = z38510 + 1) := by omega
theorem vc_X12_tries_v_41 {z36943 z36945 z36946 : Int} (h0 : z36943 ≤ z36946) (h1 : z36946 ≤ z36943) (h2 : z36945 ≤ z36943) (h3 : 1 ≤ z36943 ∧ z36943 ≤ 46656) (h4 : 0 ≤ z36945 ∧ z36945 ≤ 46656) (h5 : 1 ≤ z36946 ∧ z36946 ≤ 46656) : (0 : Int) ≤ z36946 := by omega
theorem vc_X12_tries_v_45 {f_k f_k2 z36943 z36946 z38937 z38938 : Int} (h0 : (z38937 - (-2)) < ((0 : Nat) : Int)) (h1 : 0 ≤ f_k2 ∧ f_k2 ≤ 46656) (h2 : f_k ≤ f_k2) (h3 : z38938 = 0 ∨ f_k + 1 ≤ f_k2) (h4 : z38937 < z36946) (h5 : z36943 ≤ z36946) (h6 : z36946 ≤ z36943) (h7 : 0 ≤ f_k ∧ f_k ≤ 46656) (h8 : 1 ≤ z36943 ∧ z36943 ≤ 46656) (h9 : 1 ≤ z36946 ∧ z36946 ≤ 46656) (h10 : (-1) ≤ z38937 ∧ z38937 ≤ 46655) (h11 : 0 ≤ z38938 ∧ z38938 ≤ 1) : False := by omega
theorem vc_X12_tries_v_46 {z36946 z38937 : Int} (h0 : z38937 < 0) (h1 : z38937 < z36946) (h2 : 1 ≤ z36946 ∧ z36946 ≤ 46656) (h3 : (-1) ≤ z38937 ∧ z38937 ≤ 46655) : (-1) ≤ z38937 ∧ z38937 ≤ (-1) := by omega
theorem vc_X12_tries_v_47 {N f_k f_k2 z37985 z38938 : Int} (h0 : ((2 * (46656 - f_k)) + z37985) < N + 1) (h1 : ¬ z37985 = 0) (h2 : f_k ≤ f_k2) (h3 : z38938 = 0 ∨ f_k + 1 ≤ f_k2) (h4 : 0 ≤ f_k ∧ f_k ≤ 46656) (h5 : 0 ≤ f_k2 ∧ f_k2 ≤ 46656) (h6 : 1 ≤ z37985 ∧ z37985 ≤ 1) (h7 : 0 ≤ z38938 ∧ z38938 ≤ 1) : ((2 * (46656 - f_k2)) + z38938) < N := by omega
theorem vc_X12_tries_v_48 {z36943 z36946 z38937 : Int} (h0 : z38937 < z36946) (h1 : z38937 < 0) (h2 : z36943 ≤ z36946) (h3 : z36946 ≤ z36943) (h4 : 1 ≤ z36943 ∧ z36943 ≤ 46656) (h5 : 1 ≤ z36946 ∧ z36946 ≤ 46656) (h6 : (-1) ≤ z38937 ∧ z38937 ≤ (-1)) : z38937 < 0 := by omega
theorem vc_X12_tries_v_49 {z36946 z38937 : Int} (h0 : 0 ≤ z38937) (h1 : z38937 < z36946) (h2 : 1 ≤ z36946 ∧ z36946 ≤ 46656) (h3 : (-1) ≤ z38937 ∧ z38937 ≤ 46655) : 0 ≤ z38937 ∧ z38937 ≤ 46655 := by omega
theorem vc_X12_tries_v_50 {z36943 z36946 z38937 : Int} (h0 : z38937 < z36946) (h1 : 0 ≤ z38937) (h2 : z36943 ≤ z36946) (h3 : z36946 ≤ z36943) (h4 : 1 ≤ z36943 ∧ z36943 ≤ 46656) (h5 : 1 ≤ z36946 ∧ z36946 ≤ 46656) (h6 : 0 ≤ z38937 ∧ z38937 ≤ 46655) : 0 ≤ z38937 := by omega
theorem vc_X12_tries_v_51 {z36943 z36945 z36946 z38937 : Int} (h0 : z36943 ≤ z36946) (h1 : z36946 ≤ z36943) (h2 : z38937 < z36946) (h3 : 0 ≤ z38937) (h4 : z36945 ≤ z36943) (h5 : 1 ≤ z36943 ∧ z36943 ≤ 46656) (h6 : 0 ≤ z36945 ∧ z36945 ≤ 46656) (h7 : 1 ≤ z36946 ∧ z36946 ≤ 46656) (h8 : 0 ≤ z38937 ∧ z38937 ≤ 46655) : z38937 < z36946 := by omega
theorem vc_X12_tries_v_60 {f_hs f_k f_k2 f_k3 z38938 z39405 : Int} (h0 : (8 - z39405) < ((0 : Nat) : Int)) (h1 : 0 ≤ f_k3 ∧ f_k3 ≤ 46656) (h2 : f_k3 = f_k2 + f_hs) (h3 : f_k ≤ f_k2) (h4 : z38938 = 0 ∨ f_k + 1 ≤ f_k2) (h5 : 0 ≤ f_k ∧ f_k ≤ 46656) (h6 : 0 ≤ f_k2 ∧ f_k2 ≤ 46656) (h7 : 0 ≤ z38938 ∧ z38938 ≤ 1) (h8 : 1 ≤ z39405 ∧ z39405 ≤ 7) : False := by omega
theorem vc_X12_tries_v_62 {z14 z24464 z39086 : Int} (h0 : z14 ≤ z24464) (h1 : 0 ≤ z39086 ∧ z39086 < z14) (h2 : 1 ≤ z14 ∧ z14 ≤ 46656) (h3 : 1 ≤ z24464 ∧ z24464 ≤ 46656) (h4 : 0 ≤ z39086 ∧ z39086 ≤ 46655) : 0 ≤ z39086 ∧ z39086 < z14 := by omega
theorem vc_X12_tries_v_63 {z36943 z36945 z36946 z38937 : Int} (h0 : z36943 ≤ z36946) (h1 : z36946 ≤ z36943) (h2 : z38937 < z36946) (h3 : 0 ≤ z38937) (h4 : z36945 ≤ z36943) (h5 : 1 ≤ z36943 ∧ z36943 ≤ 46656) (h6 : 0 ≤ z36945 ∧ z36945 ≤ 46656) (h7 : 1 ≤ z36946 ∧ z36946 ≤ 46656) (h8 : 0 ≤ z38937 ∧ z38937 ≤ 46655) : 0 ≤ z38937 ∧ z38937 < z36946 := by omega
theorem vc_X12_tries_v_64 {z14 z24464 z39086 : Int} (h0 : 0 ≤ z39086 ∧ z39086 < z14) (h1 : z14 ≤ z24464) (h2 : 1 ≤ z14 ∧ z14 ≤ 46656) (h3 : 1 ≤ z24464 ∧ z24464 ≤ 46656) (h4 : 0 ≤ z39086 ∧ z39086 ≤ 46655) : z39086 = (((z39086).toNat : Nat) : Int) := by omega
theorem vc_X12_tries_v_65 {f_k f_k2 z38938 : Int} (h0 : ¬ z38938 = 0) (h1 : z38938 = 0 ∨ f_k + 1 ≤ f_k2) (h2 : 0 ≤ f_k ∧ f_k ≤ 46656) (h3 : 0 ≤ f_k2 ∧ f_k2 ≤ 46656) (h4 : 0 ≤ z38938 ∧ z38938 ≤ 1) : 1 ≤ z38938 ∧ z38938 ≤ 1 := by omega
theorem vc_X12_tries_v_66 {f_hs f_k f_k2 f_k3 z38938 : Int} (h0 : f_k ≤ f_k2) (h1 : z38938 = 0 ∨ f_k + 1 ≤ f_k2) (h2 : f_k3 = f_k2 + f_hs) (h3 : ¬ z38938 = 0) (h4 : 0 ≤ f_hs ∧ f_hs ≤ 1) (h5 : 0 ≤ f_k ∧ f_k ≤ 46656) (h6 : 0 ≤ f_k2 ∧ f_k2 ≤ 46656) (h7 : 0 ≤ f_k3 ∧ f_k3 ≤ 46656) (h8 : 1 ≤ z38938 ∧ z38938 ≤ 1) : f_k ≤ f_k3 := by omega
theorem vc_X12_tries_v_67 {f_hs f_k f_k2 f_k3 z38938 : Int} (h0 : f_k ≤ f_k2) (h1 : z38938 = 0 ∨ f_k + 1 ≤ f_k2) (h2 : f_k3 = f_k2 + f_hs) (h3 : ¬ z38938 = 0) (h4 : 0 ≤ f_hs ∧ f_hs ≤ 1) (h5 : 0 ≤ f_k ∧ f_k ≤ 46656) (h6 : 0 ≤ f_k2 ∧ f_k2 ≤ 46656) (h7 : 0 ≤ f_k3 ∧ f_k3 ≤ 46656) (h8 : 1 ≤ z38938 ∧ z38938 ≤ 1) : (1 : Int) = 0 ∨ f_k + 1 ≤ f_k3 := by omega
theorem vc_X12_tries_v_68 {z36943 z36945 z36946 z38937 : Int} (h0 : z36943 ≤ z36946) (h1 : z36946 ≤ z36943) (h2 : z38937 < z36946) (h3 : 0 ≤ z38937) (h4 : z36945 ≤ z36943) (h5 : 1 ≤ z36943 ∧ z36943 ≤ 46656) (h6 : 0 ≤ z36945 ∧ z36945 ≤ 46656) (h7 : 1 ≤ z36946 ∧ z36946 ≤ 46656) (h8 : 0 ≤ z38937 ∧ z38937 ≤ 46655) : (z38937 + (-1)) < z36946 := by omega
theorem vc_X12_tries_v_69 {N z36943 z36946 z38937 : Int} (h0 : (z38937 - (-2)) < N + 1) (h1 : z38937 < z36946) (h2 : 0 ≤ z38937) (h3 : z36943 ≤ z36946) (h4 : z36946 ≤ z36943) (h5 : 1 ≤ z36943 ∧ z36943 ≤ 46656) (h6 : 1 ≤ z36946 ∧ z36946 ≤ 46656) (h7 : 0 ≤ z38937 ∧ z38937 ≤ 46655) : ((z38937 + (-1)) - (-2)) < N := by omega
theorem vc_X12_tries_v_70 {f_k f_k2 z38938 : Int} (h0 : z38938 = 0) (h1 : z38938 = 0 ∨ f_k + 1 ≤ f_k2) (h2 : 0 ≤ f_k ∧ f_k ≤ 46656) (h3 : 0 ≤ f_k2 ∧ f_k2 ≤ 46656) (h4 : 0 ≤ z38938 ∧ z38938 ≤ 1) : 0 ≤ z38938 ∧ z38938 ≤ 0 := by omega
theorem vc_X12_tries_v_71 {f_hs f_k2 f_k3 : Int} (h0 : f_hs = 0) (h1 : f_k3 = f_k2 + f_hs) (h2 : 0 ≤ f_hs ∧ f_hs ≤ 1) (h3 : 0 ≤ f_k2 ∧ f_k2 ≤ 46656) (h4 : 0 ≤ f_k3 ∧ f_k3 ≤ 46656) : 0 ≤ f_hs ∧ f_hs ≤ 0 := by omega
theorem vc_X12_tries_v_72 {f_hs f_k f_k2 f_k3 z38938 : Int} (h0 : f_k ≤ f_k2) (h1 : z38938 = 0 ∨ f_k + 1 ≤ f_k2) (h2 : f_k3 = f_k2 + f_hs) (h3 : z38938 = 0) (h4 : f_hs = 0) (h5 : 0 ≤ f_hs ∧ f_hs ≤ 0) (h6 : 0 ≤ f_k ∧ f_k ≤ 46656) (h7 : 0 ≤ f_k2 ∧ f_k2 ≤ 46656) (h8 : 0 ≤ f_k3 ∧ f_k3 ≤ 46656) (h9 : 0 ≤ z38938 ∧ z38938 ≤ 0) : f_k ≤ f_k3 := by omega
theorem vc_X12_tries_v_73 {f_hs f_k f_k2 f_k3 z38938 : Int} (h0 : f_k ≤ f_k2) (h1 : z38938 = 0 ∨ f_k + 1 ≤ f_k2) (h2 : f_k3 = f_k2 + f_hs) (h3 : z38938 = 0) (h4 : f_hs = 0) (h5 : 0 ≤ f_hs ∧ f_hs ≤ 0) (h6 : 0 ≤ f_k ∧ f_k ≤ 46656) (h7 : 0 ≤ f_k2 ∧ f_k2 ≤ 46656) (h8 : 0 ≤ f_k3 ∧ f_k3 ≤ 46656) (h9 : 0 ≤ z38938 ∧ z38938 ≤ 0) : (0 : Int) = 0 ∨ f_k + 1 ≤ f_k3 := by omega
theorem vc_X12_tries_v_74 {f_hs f_k f_k2 f_k3 z38938 : Int} (h0 : z38938 = 0 ∨ f_k + 1 ≤ f_k2) (h1 : z38938 = 0) (h2 : f_k ≤ f_k2) (h3 : f_k3 = f_k2 + f_hs) (h4 : 0 ≤ f_hs ∧ f_hs ≤ 0) (h5 : 0 ≤ f_k ∧ f_k ≤ 46656) (h6 : 0 ≤ f_k2 ∧ f_k2 ≤ 46656) (h7 : 0 ≤ f_k3 ∧ f_k3 ≤ 46656) (h8 : 0 ≤ z38938 ∧ z38938 ≤ 0) : ¬ z38938 = 1 := by omega
theorem vc_X12_tries_v_75 {z39405 : Int} (h0 : 6 < z39405) (h1 : 7 ≤ z39405 ∧ z39405 ≤ 7) : 7 ≤ z39405 := by omega
theorem vc_X12_tries_v_76 {f_hs f_k f_k2 f_k3 z38938 : Int} (h0 : f_k3 = f_k2 + f_hs) (h1 : f_hs = 0) (h2 : f_k ≤ f_k2) (h3 : z38938 = 0 ∨ f_k + 1 ≤ f_k2) (h4 : 0 ≤ f_hs ∧ f_hs ≤ 0) (h5 : 0 ≤ f_k ∧ f_k ≤ 46656) (h6 : 0 ≤ f_k2 ∧ f_k2 ≤ 46656) (h7 : 0 ≤ f_k3 ∧ f_k3 ≤ 46656) (h8 : 0 ≤ z38938 ∧ z38938 ≤ 0) : f_hs = 0 := by omega
theorem vc_X12_tries_v_77 {f_hs f_k2 f_k3 : Int} (h0 : ¬ f_hs = 0) (h1 : f_k3 = f_k2 + f_hs) (h2 : 0 ≤ f_hs ∧ f_hs ≤ 1) (h3 : 0 ≤ f_k2 ∧ f_k2 ≤ 46656) (h4 : 0 ≤ f_k3 ∧ f_k3 ≤ 46656) : 1 ≤ f_hs ∧ f_hs ≤ 1 := by omega
theorem vc_X12_tries_v_78 {f_hs f_k f_k2 f_k3 z38938 : Int} (h0 : f_k ≤ f_k2) (h1 : z38938 = 0 ∨ f_k + 1 ≤ f_k2) (h2 : f_k3 = f_k2 + f_hs) (h3 : z38938 = 0) (h4 : ¬ f_hs = 0) (h5 : 1 ≤ f_hs ∧ f_hs ≤ 1) (h6 : 0 ≤ f_k ∧ f_k ≤ 46656) (h7 : 0 ≤ f_k2 ∧ f_k2 ≤ 46656) (h8 : 0 ≤ f_k3 ∧ f_k3 ≤ 46656) (h9 : 0 ≤ z38938 ∧ z38938 ≤ 0) : f_k ≤ f_k3 := by omega
theorem vc_X12_tries_v_79 {f_hs f_k f_k2 f_k3 z38938 : Int} (h0 : f_k ≤ f_k2) (h1 : z38938 = 0 ∨ f_k + 1 ≤ f_k2) (h2 : f_k3 = f_k2 + f_hs) (h3 : z38938 = 0) (h4 : ¬ f_hs = 0) (h5 : 1 ≤ f_hs ∧ f_hs ≤ 1) (h6 : 0 ≤ f_k ∧ f_k ≤ 46656) (h7 : 0 ≤ f_k2 ∧ f_k2 ≤ 46656) (h8 : 0 ≤ f_k3 ∧ f_k3 ≤ 46656) (h9 : 0 ≤ z38938 ∧ z38938 ≤ 0) : (1 : Int) = 0 ∨ f_k + 1 ≤ f_k3 := by omega
theorem vc_X12_tries_v_81 {f_hs f_k f_k2 f_k3 z38938 : Int} (h0 : f_k ≤ f_k2) (h1 : z38938 = 0 ∨ f_k + 1 ≤ f_k2) (h2 : f_k3 = f_k2 + f_hs) (h3 : ¬ f_hs = 0) (h4 : ¬ z38938 = 0) (h5 : 1 ≤ f_hs ∧ f_hs ≤ 1) (h6 : 0 ≤ f_k ∧ f_k ≤ 46656) (h7 : 0 ≤ f_k2 ∧ f_k2 ≤ 46656) (h8 : 0 ≤ f_k3 ∧ f_k3 ≤ 46656) (h9 : 1 ≤ z38938 ∧ z38938 ≤ 1) : f_k ≤ f_k3 := by omega
theorem vc_X12_tries_v_82 {f_hs f_k f_k2 f_k3 z38938 : Int} (h0 : f_k ≤ f_k2) (h1 : z38938 = 0 ∨ f_k + 1 ≤ f_k2) (h2 : f_k3 = f_k2 + f_hs) (h3 : ¬ f_hs = 0) (h4 : ¬ z38938 = 0) (h5 : 1 ≤ f_hs ∧ f_hs ≤ 1) (h6 : 0 ≤ f_k ∧ f_k ≤ 46656) (h7 : 0 ≤ f_k2 ∧ f_k2 ≤ 46656) (h8 : 0 ≤ f_k3 ∧ f_k3 ≤ 46656) (h9 : 1 ≤ z38938 ∧ z38938 ≤ 1) : (1 : Int) = 0 ∨ f_k + 1 ≤ f_k3 := by omega
theorem vc_X12_tries_v_84 {f_hs f_k f_k2 f_k3 z38938 : Int} (h0 : f_k ≤ f_k2) (h1 : z38938 = 0 ∨ f_k + 1 ≤ f_k2) (h2 : f_k3 = f_k2 + f_hs) (h3 : ¬ f_hs = 0) (h4 : z38938 = 0) (h5 : 1 ≤ f_hs ∧ f_hs ≤ 1) (h6 : 0 ≤ f_k ∧ f_k ≤ 46656) (h7 : 0 ≤ f_k2 ∧ f_k2 ≤ 46656) (h8 : 0 ≤ f_k3 ∧ f_k3 ≤ 46656) (h9 : 0 ≤ z38938 ∧ z38938 ≤ 0) : f_k ≤ f_k3 := by omega
theorem vc_X12_tries_v_85 {f_hs f_k f_k2 f_k3 z38938 : Int} (h0 : f_k ≤ f_k2) (h1 : z38938 = 0 ∨ f_k + 1 ≤ f_k2) (h2 : f_k3 = f_k2 + f_hs) (h3 : ¬ f_hs = 0) (h4 : z38938 = 0) (h5 : 1 ≤ f_hs ∧ f_hs ≤ 1) (h6 : 0 ≤ f_k ∧ f_k ≤ 46656) (h7 : 0 ≤ f_k2 ∧ f_k2 ≤ 46656) (h8 : 0 ≤ f_k3 ∧ f_k3 ≤ 46656) (h9 : 0 ≤ z38938 ∧ z38938 ≤ 0) : (1 : Int) = 0 ∨ f_k + 1 ≤ f_k3 := by omega
theorem vc_X12_tries_v_92 {z39405 : Int} (h0 : z39405 ≤ 6) (h1 : 1 ≤ z39405 ∧ z39405 ≤ 6) : 1 ≤ z39405 ∧ z39405 ≤ 6 := by omega
theorem vc_X12_tries_v_93 {z39438 z39445 : Int} (h0 : z39445 ≤ z39438) (h1 : 0 ≤ z39438 ∧ z39438 ≤ 5) (h2 : 0 ≤ z39445 ∧ z39445 ≤ 5) : 0 ≤ z39438 := by omega
theorem vc_X12_tries_v_94 {z39438 z39445 : Int} (h0 : z39445 ≤ z39438) (h1 : 0 ≤ z39438 ∧ z39438 ≤ 5) (h2 : 0 ≤ z39445 ∧ z39445 ≤ 5) : 0 ≤ z39445 ∧ z39445 ≤ z39438 := by omega
theorem vc_X12_tries_v_95 {z14 z24464 z39086 z39452 : Int} (h0 : 0 ≤ z39086 ∧ z39086 < z14) (h1 : 0 ≤ (z39086 + z39452) ∧ (z39086 + z39452) < z14) (h2 : z14 ≤ z24464) (h3 : 1 ≤ z14 ∧ z14 ≤ 46656) (h4 : 1 ≤ z24464 ∧ z24464 ≤ 46656) (h5 : 0 ≤ z39086 ∧ z39086 ≤ 46655) (h6 : (-233280) ≤ z39452 ∧ z39452 ≤ 233280) : 0 ≤ z39086 := by omega
theorem vc_X12_tries_v_96 {z14 z24464 z39086 z39452 : Int} (h0 : 0 ≤ z39086 ∧ z39086 < z14) (h1 : 0 ≤ (z39086 + z39452) ∧ (z39086 + z39452) < z14) (h2 : z14 ≤ z24464) (h3 : 1 ≤ z14 ∧ z14 ≤ 46656) (h4 : 1 ≤ z24464 ∧ z24464 ≤ 46656) (h5 : 0 ≤ z39086 ∧ z39086 ≤ 46655) (h6 : (-233280) ≤ z39452 ∧ z39452 ≤ 233280) : 0 ≤ (z39086 + z39452) := by omega
theorem vc_X12_tries_v_97 {z14 z24464 z39086 z39452 : Int} (h0 : 0 ≤ z39086 ∧ z39086 < z14) (h1 : 0 ≤ (z39086 + z39452) ∧ (z39086 + z39452) < z14) (h2 : z14 ≤ z24464) (h3 : 1 ≤ z14 ∧ z14 ≤ 46656) (h4 : 1 ≤ z24464 ∧ z24464 ≤ 46656) (h5 : 0 ≤ z39086 ∧ z39086 ≤ 46655) (h6 : (-233280) ≤ z39452 ∧ z39452 ≤ 233280) : 0 ≤ (z39086 + z39452) ∧ (z39086 + z39452) < 46656 := by omega
theorem vc_X12_tries_v_98 {f_hs f_k f_k2 f_k3 z38938 z39457 : Int} (h0 : f_k ≤ f_k2) (h1 : z38938 = 0 ∨ f_k + 1 ≤ f_k2) (h2 : f_k3 = f_k2 + f_hs) (h3 : f_hs = 0) (h4 : 0 ≤ f_hs ∧ f_hs ≤ 0) (h5 : 0 ≤ f_k ∧ f_k ≤ 46656) (h6 : 0 ≤ f_k2 ∧ f_k2 ≤ 46656) (h7 : 0 ≤ f_k3 ∧ f_k3 ≤ 46656) (h8 : 0 ≤ z38938 ∧ z38938 ≤ 1) (h9 : 0 ≤ z39457 ∧ z39457 ≤ 1) : ((f_k3 + z39457) - f_hs) = f_k2 + z39457 := by omega
theorem vc_X12_tries_v_100 {f_hs f_k f_k2 f_k3 z38938 : Int} (h0 : f_k3 = f_k2 + f_hs) (h1 : f_hs = 0) (h2 : f_k ≤ f_k2) (h3 : z38938 = 0 ∨ f_k + 1 ≤ f_k2) (h4 : 0 ≤ f_hs ∧ f_hs ≤ 0) (h5 : 0 ≤ f_k ∧ f_k ≤ 46656) (h6 : 0 ≤ f_k2 ∧ f_k2 ≤ 46656) (h7 : 0 ≤ f_k3 ∧ f_k3 ≤ 46656) (h8 : 0 ≤ z38938 ∧ z38938 ≤ 1) : f_hs = 0 := by omega
theorem vc_X12_tries_v_101 {z39457 : Int} (h0 : 0 ≤ z39457 ∧ z39457 ≤ 1) : z39457 = 0 ∨ z39457 = 1 := by omega
theorem vc_X12_tries_v_102 {f_k f_k2 z38938 z39090 : Int} (h0 : f_k ≤ f_k2) (h1 : z38938 = 0 ∨ f_k + 1 ≤ f_k2) (h2 : z39090 = 0) (h3 : 0 ≤ f_k ∧ f_k ≤ 46656) (h4 : 0 ≤ f_k2 ∧ f_k2 ≤ 46656) (h5 : 0 ≤ z38938 ∧ z38938 ≤ 1) (h6 : 0 ≤ z39090 ∧ z39090 ≤ 0) : f_k2 = f_k2 + z39090 := by omega
theorem vc_X12_tries_v_107 {f_k f_k2 z38938 : Int} (h0 : f_k ≤ f_k2) (h1 : z38938 = 0 ∨ f_k + 1 ≤ f_k2) (h2 : 0 ≤ f_k ∧ f_k ≤ 46656) (h3 : 0 ≤ f_k2 ∧ f_k2 ≤ 46656) (h4 : 0 ≤ z38938 ∧ z38938 ≤ 1) : f_k ≤ f_k2 := by omega
theorem vc_X12_tries_v_108 {f_k f_k2 z38938 : Int} (h0 : f_k ≤ f_k2) (h1 : z38938 = 0 ∨ f_k + 1 ≤ f_k2) (h2 : 0 ≤ f_k ∧ f_k ≤ 46656) (h3 : 0 ≤ f_k2 ∧ f_k2 ≤ 46656) (h4 : 0 ≤ z38938 ∧ z38938 ≤ 1) : z38938 = 0 ∨ f_k + 1 ≤ f_k2 := by omega
theorem vc_X12_tries_v_109 {f_k : Int} (h0 : 0 ≤ f_k ∧ f_k ≤ 46656) : f_k ≤ f_k := by omega
theorem vc_X12_tries_v_110 {f_k : Int} (h0 : 0 ≤ f_k ∧ f_k ≤ 46656) : (0 : Int) = 0 ∨ f_k + 1 ≤ f_k := by omega
theorem vc_X12_tries_v_111 {z36943 z36945 z36946 : Int} (h0 : z36943 ≤ z36946) (h1 : z36946 ≤ z36943) (h2 : z36945 ≤ z36943) (h3 : 1 ≤ z36943 ∧ z36943 ≤ 46656) (h4 : 0 ≤ z36945 ∧ z36945 ≤ 46656) (h5 : 1 ≤ z36946 ∧ z36946 ≤ 46656) : (z36946 - 1) < z36946 := by omega
theorem vc_X12_tries_v_112 {z36943 z36945 z36946 : Int} (h0 : z36943 ≤ z36946) (h1 : z36946 ≤ z36943) (h2 : z36945 ≤ z36943) (h3 : 1 ≤ z36943 ∧ z36943 ≤ 46656) (h4 : 0 ≤ z36945 ∧ z36945 ≤ 46656) (h5 : 1 ≤ z36946 ∧ z36946 ≤ 46656) : ((z36946 - 1) - (-2)) < ((46658 : Nat) : Int) := by omega
theorem vc_X12_tries_v_113 {z36943 z36945 z36946 : Int} (h0 : z36943 ≤ z36946) (h1 : z36946 ≤ z36943) (h2 : z36945 ≤ z36943) (h3 : 1 ≤ z36943 ∧ z36943 ≤ 46656) (h4 : 0 ≤ z36945 ∧ z36945 ≤ 46656) (h5 : 1 ≤ z36946 ∧ z36946 ≤ 46656) : (z36946 - 1) = z36946 - 1 := by omega
theorem vc_X12_tries_v_114 {z39464 : Int} (h0 : 0 ≤ z39464 ∧ z39464 ≤ 46656) : ((2 * (46656 - z39464)) + 1) < ((93314 : Nat) : Int) := by omega
theorem vc_X12_tries_v_115 {z36943 z36945 z36946 : Int} (h0 : z36945 ≤ z36943) (h1 : z36943 ≤ z36946) (h2 : z36946 ≤ z36943) (h3 : 1 ≤ z36943 ∧ z36943 ≤ 46656) (h4 : 0 ≤ z36945 ∧ z36945 ≤ 46656) (h5 : 1 ≤ z36946 ∧ z36946 ≤ 46656) : z36946 ≤ z36943 := by omega
theorem vc_X12_tries_v_116 {z36943 z36945 z36946 : Int} (h0 : z36945 ≤ z36943) (h1 : z36943 ≤ z36946) (h2 : z36946 ≤ z36943) (h3 : 1 ≤ z36943 ∧ z36943 ≤ 46656) (h4 : 0 ≤ z36945 ∧ z36945 ≤ 46656) (h5 : 1 ≤ z36946 ∧ z36946 ≤ 46656) : z36943 ≤ z36946 := by omega
theorem vc_X12_tries_v_118 {p1 z5 : Int} (h0 : p1 = 3) (h1 : (z5 = 1 → (0 : Int) ≤ p1 ∧ p1 ≤ (3 : Int))) (h2 : (z5 = 0 → p1 < (0 : Int) ∨ (3 : Int) < p1)) (h3 : (0 : Int) ≤ p1 ∧ p1 ≤ (3 : Int)) (h4 : ¬ p1 = 0) (h5 : ¬ p1 = 1) (h6 : 2 ≤ p1 ∧ p1 ≤ 3) (h7 : 1 ≤ z5 ∧ z5 ≤ 1) : 3 ≤ p1 ∧ p1 ≤ 3 := by omega
theorem vc_X12_tries_v_119 {p1 z5 : Int} (h0 : (z5 = 1 → (0 : Int) ≤ p1 ∧ p1 ≤ (3 : Int))) (h1 : (z5 = 0 → p1 < (0 : Int) ∨ (3 : Int) < p1)) (h2 : (0 : Int) ≤ p1 ∧ p1 ≤ (3 : Int)) (h3 : ¬ p1 = 0) (h4 : ¬ p1 = 1) (h5 : p1 = 3) (h6 : ¬ z5 = 0) (h7 : 3 ≤ p1 ∧ p1 ≤ 3) (h8 : 1 ≤ z5 ∧ z5 ≤ 1) : p1 = 3 := by omega
theorem vc_X12_tries_v_120 {p1 z5 : Int} (h0 : p1 = 1) (h1 : (z5 = 1 → (0 : Int) ≤ p1 ∧ p1 ≤ (3 : Int))) (h2 : (z5 = 0 → p1 < (0 : Int) ∨ (3 : Int) < p1)) (h3 : (0 : Int) ≤ p1 ∧ p1 ≤ (3 : Int)) (h4 : ¬ p1 = 0) (h5 : 1 ≤ p1 ∧ p1 ≤ 3) (h6 : 1 ≤ z5 ∧ z5 ≤ 1) : 1 ≤ p1 ∧ p1 ≤ 1 := by omega
theorem vc_X12_tries_v_121 {p1 z5 : Int} (h0 : (z5 = 1 → (0 : Int) ≤ p1 ∧ p1 ≤ (3 : Int))) (h1 : (z5 = 0 → p1 < (0 : Int) ∨ (3 : Int) < p1)) (h2 : (0 : Int) ≤ p1 ∧ p1 ≤ (3 : Int)) (h3 : ¬ p1 = 0) (h4 : p1 = 1) (h5 : ¬ z5 = 0) (h6 : 1 ≤ p1 ∧ p1 ≤ 1) (h7 : 1 ≤ z5 ∧ z5 ≤ 1) : p1 = 1 := by omega
theorem vc_X12_tries_v_122 {p1 z5 : Int} (h0 : p1 = 0) (h1 : (z5 = 1 → (0 : Int) ≤ p1 ∧ p1 ≤ (3 : Int))) (h2 : (z5 = 0 → p1 < (0 : Int) ∨ (3 : Int) < p1)) (h3 : (0 : Int) ≤ p1 ∧ p1 ≤ (3 : Int)) (h4 : 0 ≤ p1 ∧ p1 ≤ 3) (h5 : 1 ≤ z5 ∧ z5 ≤ 1) : 0 ≤ p1 ∧ p1 ≤ 0 := by omega
theorem vc_X12_tries_v_123 {p1 z5 : Int} (h0 : (z5 = 1 → (0 : Int) ≤ p1 ∧ p1 ≤ (3 : Int))) (h1 : (z5 = 0 → p1 < (0 : Int) ∨ (3 : Int) < p1)) (h2 : (0 : Int) ≤ p1 ∧ p1 ≤ (3 : Int)) (h3 : p1 = 0) (h4 : ¬ z5 = 0) (h5 : 0 ≤ p1 ∧ p1 ≤ 0) (h6 : 1 ≤ z5 ∧ z5 ≤ 1) : p1 = 0 := by omega
theorem vc_X12_tries_v_124 {z36943 z36945 z36946 : Int} (h0 : z36943 ≤ z36946) (h1 : z36946 ≤ z36943) (h2 : z36945 ≤ z36943) (h3 : 1 ≤ z36943 ∧ z36943 ≤ 46656) (h4 : 0 ≤ z36945 ∧ z36945 ≤ 46656) (h5 : 1 ≤ z36946 ∧ z36946 ≤ 46656) : z36946 = z36946 := by omega
theorem vc_X12_tries_v_125 {z36943 z36945 z36946 : Int} (h0 : z36943 < z36946) (h1 : z36945 ≤ z36943) (h2 : z36943 ≤ z36946) (h3 : 0 ≤ z36943 ∧ z36943 ≤ 46656) (h4 : 0 ≤ z36945 ∧ z36945 ≤ 46656) (h5 : 1 ≤ z36946 ∧ z36946 ≤ 46656) : 0 ≤ z36943 ∧ z36943 ≤ 46655 := by omega
theorem vc_X12_tries_v_126 {z36943 z36945 z36946 : Int} (h0 : z36945 ≤ z36943) (h1 : z36943 ≤ z36946) (h2 : z36943 < z36946) (h3 : 0 ≤ z36943 ∧ z36943 ≤ 46655) (h4 : 0 ≤ z36945 ∧ z36945 ≤ 46656) (h5 : 1 ≤ z36946 ∧ z36946 ≤ 46656) : 0 ≤ z36943 := by omega
theorem vc_X12_tries_v_127 {z36943 z36945 z36946 : Int} (h0 : z36945 ≤ z36943) (h1 : z36943 ≤ z36946) (h2 : z36943 < z36946) (h3 : 0 ≤ z36943 ∧ z36943 ≤ 46655) (h4 : 0 ≤ z36945 ∧ z36945 ≤ 46656) (h5 : 1 ≤ z36946 ∧ z36946 ≤ 46656) : z36943 < z36946 := by omega
theorem vc_X12_tries_v_130 {z14 z24464 z39471 : Int} (h0 : 0 ≤ z39471 ∧ z39471 < z14) (h1 : z14 ≤ z24464) (h2 : 1 ≤ z14 ∧ z14 ≤ 46656) (h3 : 1 ≤ z24464 ∧ z24464 ≤ 46656) (h4 : 0 ≤ z39471 ∧ z39471 ≤ 46655) : 0 ≤ z39471 := by omega
theorem vc_X12_tries_v_131 {z39827 z39828 : Int} (h0 : 6 < z39827) (h1 : 7 ≤ z39827 ∧ z39827 ≤ 7) (h2 : 0 ≤ z39828 ∧ z39828 ≤ 1) : ¬ z39828 = 1 ∨ 7 ≤ z39827 := by omega
theorem vc_X12_tries_v_132 {z36943 z36945 z36946 z39829 : Int} (h0 : z36945 ≤ z36943) (h1 : z36943 ≤ z36946) (h2 : z36943 < z36946) (h3 : z36943 < z39829) (h4 : 0 ≤ z36943 ∧ z36943 ≤ 46655) (h5 : 0 ≤ z36945 ∧ z36945 ≤ 46656) (h6 : 1 ≤ z36946 ∧ z36946 ≤ 46656) (h7 : 1 ≤ z39829 ∧ z39829 ≤ 46656) : 0 ≤ z36943 ∧ z36943 ≤ z36946 := by omega
theorem vc_X12_tries_v_134 {z36943 z36945 z36946 z39829 : Int} (h0 : z36945 ≤ z36943) (h1 : z36943 ≤ z36946) (h2 : z36943 < z36946) (h3 : z36943 < z39829) (h4 : 0 ≤ z36943 ∧ z36943 ≤ 46655) (h5 : 0 ≤ z36945 ∧ z36945 ≤ 46656) (h6 : 1 ≤ z36946 ∧ z36946 ≤ 46656) (h7 : 1 ≤ z39829 ∧ z39829 ≤ 46656) : z36945 ≤ (z36943 + 1) := by omega
theorem vc_X12_tries_v_135 {z36943 z36945 z36946 z39829 : Int} (h0 : z36945 ≤ z36943) (h1 : z36943 ≤ z36946) (h2 : z36943 < z36946) (h3 : z36943 < z39829) (h4 : 0 ≤ z36943 ∧ z36943 ≤ 46655) (h5 : 0 ≤ z36945 ∧ z36945 ≤ 46656) (h6 : 1 ≤ z36946 ∧ z36946 ≤ 46656) (h7 : 1 ≤ z39829 ∧ z39829 ≤ 46656) : (z36943 + 1) ≤ z39829 := by omega
theorem vc_X12_tries_v_136 {N z36943 z36945 z36946 z39829 : Int} (h0 : (46657 - z36943) < N + 1) (h1 : z36945 ≤ z36943) (h2 : z36943 ≤ z36946) (h3 : z36943 < z36946) (h4 : z36943 < z39829) (h5 : 0 ≤ z36943 ∧ z36943 ≤ 46655) (h6 : 0 ≤ z36945 ∧ z36945 ≤ 46656) (h7 : 1 ≤ z36946 ∧ z36946 ≤ 46656) (h8 : 1 ≤ z39829 ∧ z39829 ≤ 46656) : (46657 - (z36943 + 1)) < N := by omega
theorem vc_X12_tries_v_137 {z36943 z36945 z36946 z39829 : Int} (h0 : z36945 ≤ z36943) (h1 : z36943 ≤ z36946) (h2 : z36943 < z36946) (h3 : z36943 < z39829) (h4 : 0 ≤ z36943 ∧ z36943 ≤ 46655) (h5 : 0 ≤ z36945 ∧ z36945 ≤ 46656) (h6 : 1 ≤ z36946 ∧ z36946 ≤ 46656) (h7 : 1 ≤ z39829 ∧ z39829 ≤ 46656) : z36943 < z39829 := by omega
theorem vc_X12_tries_v_139 {z36943 z36945 z36946 z39829 : Int} (h0 : z36945 ≤ z36943) (h1 : z36943 ≤ z36946) (h2 : z36943 < z36946) (h3 : z36943 < z39829) (h4 : 0 ≤ z36943 ∧ z36943 ≤ 46655) (h5 : 0 ≤ z36945 ∧ z36945 ≤ 46656) (h6 : 1 ≤ z36946 ∧ z36946 ≤ 46656) (h7 : 1 ≤ z39829 ∧ z39829 ≤ 46656) : 0 ≤ z36943 := by omega
theorem vc_X12_tries_v_142 {z36943 z36945 z36946 z39829 : Int} (h0 : z36945 ≤ z36943) (h1 : z36943 ≤ z36946) (h2 : z36943 < z36946) (h3 : z36943 < z39829) (h4 : 0 ≤ z36943 ∧ z36943 ≤ 46655) (h5 : 0 ≤ z36945 ∧ z36945 ≤ 46656) (h6 : 1 ≤ z36946 ∧ z36946 ≤ 46656) (h7 : 1 ≤ z39829 ∧ z39829 ≤ 46656) : 0 ≤ (z36945 + 1) ∧ (z36945 + 1) ≤ 46656 := by omega
theorem vc_X12_tries_v_143 {z36943 z36945 z36946 z39829 : Int} (h0 : z36945 ≤ z36943) (h1 : z36943 ≤ z36946) (h2 : z36943 < z36946) (h3 : z36943 < z39829) (h4 : 0 ≤ z36943 ∧ z36943 ≤ 46655) (h5 : 0 ≤ z36945 ∧ z36945 ≤ 46656) (h6 : 1 ≤ z36946 ∧ z36946 ≤ 46656) (h7 : 1 ≤ z39829 ∧ z39829 ≤ 46656) : (z36945 + 1) ≤ (z36943 + 1) := by omega
theorem vc_X12_tries_v_145 {z36943 z36945 z36946 z39829 : Int} (h0 : z36945 ≤ z36943) (h1 : z36943 ≤ z36946) (h2 : z36943 < z36946) (h3 : z36943 < z39829) (h4 : 0 ≤ z36943 ∧ z36943 ≤ 46655) (h5 : 0 ≤ z36945 ∧ z36945 ≤ 46656) (h6 : 1 ≤ z36946 ∧ z36946 ≤ 46656) (h7 : 1 ≤ z39829 ∧ z39829 ≤ 46656) : 0 ≤ z36943 ∧ z36943 < z39829 := by omega
theorem vc_X12_tries_v_147 {z36944 z39886 : Int} (h0 : ¬ z36944 = (-99999999)) (h1 : (-2147483648) ≤ z36944 ∧ z36944 ≤ 2147483647) (h2 : (-2147483648) ≤ z39886 ∧ z39886 ≤ 2147483647) : (z36944 = -99999999 ∧ z36944 = z39886) ∨ (¬ z36944 = -99999999 ∧ z36944 = z36944) := by omega
theorem vc_X12_tries_v_148 {z36943 z36945 z36946 z39829 : Int} (h0 : z36945 ≤ z36943) (h1 : z36943 ≤ z36946) (h2 : z36943 < z36946) (h3 : z36943 < z39829) (h4 : 0 ≤ z36943 ∧ z36943 ≤ 46655) (h5 : 0 ≤ z36945 ∧ z36945 ≤ 46656) (h6 : 1 ≤ z36946 ∧ z36946 ≤ 46656) (h7 : 1 ≤ z39829 ∧ z39829 ≤ 46656) : (z36945 + 1) = z36945 + 1 := by omega
theorem vc_X12_tries_v_150 {z36944 z39886 : Int} (h0 : z36944 = (-99999999)) (h1 : (-99999999) ≤ z36944 ∧ z36944 ≤ (-99999999)) (h2 : (-2147483648) ≤ z39886 ∧ z39886 ≤ 2147483647) : (z36944 = -99999999 ∧ z39886 = z39886) ∨ (¬ z36944 = -99999999 ∧ z39886 = z36944) := by omega
theorem vc_X12_tries_v_159 {z39895 z39902 z39903 : Int} (h0 : z39902 ≤ z39895) (h1 : ¬ z39902 = z39903) (h2 : 0 ≤ z39895 ∧ z39895 ≤ 5) (h3 : 0 ≤ z39902 ∧ z39902 ≤ 5) (h4 : 0 ≤ z39903 ∧ z39903 ≤ 5) : 0 ≤ z39895 := by omega
theorem vc_X12_tries_v_160 {z39895 z39902 z39903 : Int} (h0 : z39902 ≤ z39895) (h1 : ¬ z39902 = z39903) (h2 : 0 ≤ z39895 ∧ z39895 ≤ 5) (h3 : 0 ≤ z39902 ∧ z39902 ≤ 5) (h4 : 0 ≤ z39903 ∧ z39903 ≤ 5) : 0 ≤ z39902 ∧ z39902 ≤ z39895 := by omega
theorem vc_X12_tries_v_166 {z14 z24464 z39471 z39910 : Int} (h0 : z14 ≤ z24464) (h1 : 0 ≤ z39471 ∧ z39471 < z14) (h2 : 0 ≤ (z39471 + z39910) ∧ (z39471 + z39910) < z14) (h3 : 1 ≤ z14 ∧ z14 ≤ 46656) (h4 : 1 ≤ z24464 ∧ z24464 ≤ 46656) (h5 : 0 ≤ z39471 ∧ z39471 ≤ 46655) (h6 : (-233280) ≤ z39910 ∧ z39910 ≤ 233280) : 0 ≤ (z39471 + z39910) ∧ (z39471 + z39910) < z14 := by omega
theorem vc_X12_tries_v_167 {z39915 : Int} (h0 : 0 ≤ z39915) (h1 : 0 ≤ z39915 ∧ z39915 ≤ 2147483647) : 0 ≤ z39915 := by omega
theorem vc_X12_tries_v_168 {z39828 z39895 z39902 z39903 : Int} (h0 : z39902 ≤ z39895) (h1 : ¬ z39902 = z39903) (h2 : 0 ≤ z39828 ∧ z39828 ≤ 1) (h3 : 0 ≤ z39895 ∧ z39895 ≤ 5) (h4 : 0 ≤ z39902 ∧ z39902 ≤ 5) (h5 : 0 ≤ z39903 ∧ z39903 ≤ 5) : (z39902 = z39903 ∧ (0 : Int) = z39828) ∨ (¬ z39902 = z39903 ∧ ¬ (0 : Int) = 1) := by omega
theorem vc_X12_tries_v_170 {z36943 z36945 z36946 z39829 : Int} (h0 : z36943 < z39829) (h1 : z36945 ≤ z36943) (h2 : z36943 ≤ z36946) (h3 : z36943 < z36946) (h4 : 0 ≤ z36943 ∧ z36943 ≤ 46655) (h5 : 0 ≤ z36945 ∧ z36945 ≤ 46656) (h6 : 1 ≤ z36946 ∧ z36946 ≤ 46656) (h7 : 1 ≤ z39829 ∧ z39829 ≤ 46656) : 0 ≤ z39829 := by omega
theorem vc_X12_tries_v_171 {z39915 : Int} (h0 : z39915 < 0) (h1 : (-2147483648) ≤ z39915 ∧ z39915 ≤ (-1)) : z39915 < 0 := by omega
theorem vc_X12_tries_v_172 {z14 z36943 z36945 z36946 z39829 : Int} (h0 : z36945 ≤ z36943) (h1 : z36943 ≤ z36946) (h2 : z36943 < z36946) (h3 : z36943 < z39829) (h4 : z39829 < z14) (h5 : 1 ≤ z14 ∧ z14 ≤ 46656) (h6 : 0 ≤ z36943 ∧ z36943 ≤ 46655) (h7 : 0 ≤ z36945 ∧ z36945 ≤ 46656) (h8 : 1 ≤ z36946 ∧ z36946 ≤ 46656) (h9 : 1 ≤ z39829 ∧ z39829 ≤ 46656) : 0 ≤ z36943 := by omega
theorem vc_X12_tries_v_173 {z14 z24464 z36943 z36945 z36946 z39471 z39829 z39910 : Int} (h0 : z36945 ≤ z36943) (h1 : z36943 ≤ z36946) (h2 : z36943 < z36946) (h3 : z36943 < z39829) (h4 : z39829 < z14) (h5 : z14 ≤ z24464) (h6 : 0 ≤ z39471 ∧ z39471 < z14) (h7 : 0 ≤ (z39471 + z39910) ∧ (z39471 + z39910) < z14) (h8 : 1 ≤ z14 ∧ z14 ≤ 46656) (h9 : 1 ≤ z24464 ∧ z24464 ≤ 46656) (h10 : 0 ≤ z36943 ∧ z36943 ≤ 46655) (h11 : 0 ≤ z36945 ∧ z36945 ≤ 46656) (h12 : 1 ≤ z36946 ∧ z36946 ≤ 46656) (h13 : 0 ≤ z39471 ∧ z39471 ≤ 46655) (h14 : 1 ≤ z39829 ∧ z39829 ≤ 46656) (h15 : (-233280) ≤ z39910 ∧ z39910 ≤ 233280) : z36943 < z39829 := by omega
theorem vc_X12_tries_v_174 {z14 z36943 z36945 z36946 z39829 z39922 : Int} (h0 : z36945 ≤ z36943) (h1 : z36943 ≤ z36946) (h2 : z36943 < z36946) (h3 : z36943 < z39829) (h4 : 0 ≤ z39922 ∧ z39922 ≤ z36943) (h5 : z39829 < z14) (h6 : 1 ≤ z14 ∧ z14 ≤ 46656) (h7 : 0 ≤ z36943 ∧ z36943 ≤ 46655) (h8 : 0 ≤ z36945 ∧ z36945 ≤ 46656) (h9 : 1 ≤ z36946 ∧ z36946 ≤ 46656) (h10 : 1 ≤ z39829 ∧ z39829 ≤ 46656) (h11 : (-2147483648) ≤ z39922 ∧ z39922 ≤ 2147483647) : 0 ≤ z39922 ∧ z39922 ≤ 46656 := by omega
theorem vc_X12_tries_v_175 {z14 z24464 z39471 z39829 z39910 : Int} (h0 : 0 ≤ z39471 ∧ z39471 < z14) (h1 : 0 ≤ (z39471 + z39910) ∧ (z39471 + z39910) < z14) (h2 : z14 ≤ z24464) (h3 : z39829 < z14) (h4 : 1 ≤ z14 ∧ z14 ≤ 46656) (h5 : 1 ≤ z24464 ∧ z24464 ≤ 46656) (h6 : 0 ≤ z39471 ∧ z39471 ≤ 46655) (h7 : 1 ≤ z39829 ∧ z39829 ≤ 46656) (h8 : (-233280) ≤ z39910 ∧ z39910 ≤ 233280) : 0 ≤ (z39471 + z39910) ∧ (z39471 + z39910) < 46656 := by omega
theorem vc_X12_tries_v_176 {z14 z24464 z36943 z36945 z36946 z39471 z39829 z39910 z39922 : Int} (h0 : z36943 < z39829) (h1 : z39829 < z14) (h2 : z14 ≤ z24464) (h3 : z36945 ≤ z36943) (h4 : z36943 ≤ z36946) (h5 : z36943 < z36946) (h6 : 0 ≤ z39471 ∧ z39471 < z14) (h7 : 0 ≤ (z39471 + z39910) ∧ (z39471 + z39910) < z14) (h8 : 0 ≤ z39922 ∧ z39922 ≤ z36943) (h9 : 1 ≤ z14 ∧ z14 ≤ 46656) (h10 : 1 ≤ z24464 ∧ z24464 ≤ 46656) (h11 : 0 ≤ z36943 ∧ z36943 ≤ 46655) (h12 : 0 ≤ z36945 ∧ z36945 ≤ 46656) (h13 : 1 ≤ z36946 ∧ z36946 ≤ 46656) (h14 : 0 ≤ z39471 ∧ z39471 ≤ 46655) (h15 : 1 ≤ z39829 ∧ z39829 ≤ 46656) (h16 : (-233280) ≤ z39910 ∧ z39910 ≤ 233280) (h17 : 0 ≤ z39922 ∧ z39922 ≤ 46656) : 0 ≤ z39829 ∧ z39829 < 46656 := by omega
theorem vc_X12_tries_v_177 {z14 z24464 z39471 z39829 z39910 : Int} (h0 : 0 ≤ z39471 ∧ z39471 < z14) (h1 : 0 ≤ (z39471 + z39910) ∧ (z39471 + z39910) < z14) (h2 : z14 ≤ z24464) (h3 : z39829 < z14) (h4 : 1 ≤ z14 ∧ z14 ≤ 46656) (h5 : 1 ≤ z24464 ∧ z24464 ≤ 46656) (h6 : 0 ≤ z39471 ∧ z39471 ≤ 46655) (h7 : 1 ≤ z39829 ∧ z39829 ≤ 46656) (h8 : (-233280) ≤ z39910 ∧ z39910 ≤ 233280) : 0 ≤ (z39471 + z39910) ∧ (z39471 + z39910) ≤ 46655 := by omega
theorem vc_X12_tries_v_178 {z14 z24464 z36943 z36945 z36946 z39471 z39829 z39910 z39922 : Int} (h0 : z36943 < z39829) (h1 : z39829 < z14) (h2 : z14 ≤ z24464) (h3 : z36945 ≤ z36943) (h4 : z36943 ≤ z36946) (h5 : z36943 < z36946) (h6 : 0 ≤ z39471 ∧ z39471 < z14) (h7 : 0 ≤ (z39471 + z39910) ∧ (z39471 + z39910) < z14) (h8 : 0 ≤ z39922 ∧ z39922 ≤ z36943) (h9 : 1 ≤ z14 ∧ z14 ≤ 46656) (h10 : 1 ≤ z24464 ∧ z24464 ≤ 46656) (h11 : 0 ≤ z36943 ∧ z36943 ≤ 46655) (h12 : 0 ≤ z36945 ∧ z36945 ≤ 46656) (h13 : 1 ≤ z36946 ∧ z36946 ≤ 46656) (h14 : 0 ≤ z39471 ∧ z39471 ≤ 46655) (h15 : 1 ≤ z39829 ∧ z39829 ≤ 46656) (h16 : (-233280) ≤ z39910 ∧ z39910 ≤ 233280) (h17 : 0 ≤ z39922 ∧ z39922 ≤ 46656) : 0 ≤ z39829 := by omega
theorem vc_X12_tries_v_179 {z14 z24464 z36943 z39471 z39829 z39910 : Int} (h0 : z14 ≤ z24464) (h1 : 0 ≤ z39471 ∧ z39471 < z14) (h2 : 0 ≤ (z39471 + z39910) ∧ (z39471 + z39910) < z14) (h3 : z39829 < z14) (h4 : z36943 < z39829) (h5 : 1 ≤ z14 ∧ z14 ≤ 46656) (h6 : 1 ≤ z24464 ∧ z24464 ≤ 46656) (h7 : 0 ≤ z36943 ∧ z36943 ≤ 46655) (h8 : 0 ≤ z39471 ∧ z39471 ≤ 46655) (h9 : 1 ≤ z39829 ∧ z39829 ≤ 46656) (h10 : (-233280) ≤ z39910 ∧ z39910 ≤ 233280) : 0 ≤ (z39471 + z39910) ∧ (z39471 + z39910) < z14 := by omega
theorem vc_X12_tries_v_180 {z14 z24464 z36943 z36945 z36946 z39471 z39829 z39910 z39922 : Int} (h0 : z36943 < z39829) (h1 : z39829 < z14) (h2 : 0 ≤ z39922 ∧ z39922 ≤ z36943) (h3 : z14 ≤ z24464) (h4 : z36945 ≤ z36943) (h5 : z36943 ≤ z36946) (h6 : z36943 < z36946) (h7 : 0 ≤ z39471 ∧ z39471 < z14) (h8 : 0 ≤ (z39471 + z39910) ∧ (z39471 + z39910) < z14) (h9 : 1 ≤ z14 ∧ z14 ≤ 46656) (h10 : 1 ≤ z24464 ∧ z24464 ≤ 46656) (h11 : 0 ≤ z36943 ∧ z36943 ≤ 46655) (h12 : 0 ≤ z36945 ∧ z36945 ≤ 46656) (h13 : 1 ≤ z36946 ∧ z36946 ≤ 46656) (h14 : 0 ≤ z39471 ∧ z39471 ≤ 46655) (h15 : 1 ≤ z39829 ∧ z39829 ≤ 46656) (h16 : (-233280) ≤ z39910 ∧ z39910 ≤ 233280) (h17 : 0 ≤ z39922 ∧ z39922 ≤ 46656) : 0 ≤ (z39922 + 1) ∧ (z39922 + 1) ≤ z39829 := by omega
theorem vc_X12_tries_v_181 {z14 z24464 z36943 z36945 z36946 z39471 z39829 z39910 z39922 : Int} (h0 : z36945 ≤ z36943) (h1 : z36943 ≤ z36946) (h2 : z36943 < z36946) (h3 : z36943 < z39829) (h4 : z39829 < z14) (h5 : 0 ≤ z39922 ∧ z39922 ≤ z36943) (h6 : z14 ≤ z24464) (h7 : 0 ≤ z39471 ∧ z39471 < z14) (h8 : 0 ≤ (z39471 + z39910) ∧ (z39471 + z39910) < z14) (h9 : 1 ≤ z14 ∧ z14 ≤ 46656) (h10 : 1 ≤ z24464 ∧ z24464 ≤ 46656) (h11 : 0 ≤ z36943 ∧ z36943 ≤ 46655) (h12 : 0 ≤ z36945 ∧ z36945 ≤ 46656) (h13 : 1 ≤ z36946 ∧ z36946 ≤ 46656) (h14 : 0 ≤ z39471 ∧ z39471 ≤ 46655) (h15 : 1 ≤ z39829 ∧ z39829 ≤ 46656) (h16 : (-233280) ≤ z39910 ∧ z39910 ≤ 233280) (h17 : 0 ≤ z39922 ∧ z39922 ≤ 46656) : z36943.toNat ≠ z39829.toNat := by omega
theorem vc_X12_tries_v_182 {z14 z24464 z36943 z36945 z36946 z39471 z39829 z39910 z39922 : Int} (h0 : z36945 ≤ z36943) (h1 : z36943 ≤ z36946) (h2 : z36943 < z36946) (h3 : z36943 < z39829) (h4 : z39829 < z14) (h5 : 0 ≤ z39922 ∧ z39922 ≤ z36943) (h6 : z14 ≤ z24464) (h7 : 0 ≤ z39471 ∧ z39471 < z14) (h8 : 0 ≤ (z39471 + z39910) ∧ (z39471 + z39910) < z14) (h9 : 1 ≤ z14 ∧ z14 ≤ 46656) (h10 : 1 ≤ z24464 ∧ z24464 ≤ 46656) (h11 : 0 ≤ z36943 ∧ z36943 ≤ 46655) (h12 : 0 ≤ z36945 ∧ z36945 ≤ 46656) (h13 : 1 ≤ z36946 ∧ z36946 ≤ 46656) (h14 : 0 ≤ z39471 ∧ z39471 ≤ 46655) (h15 : 1 ≤ z39829 ∧ z39829 ≤ 46656) (h16 : (-233280) ≤ z39910 ∧ z39910 ≤ 233280) (h17 : 0 ≤ z39922 ∧ z39922 ≤ 46656) : 0 ≤ z36943 ∧ z36943 < z39829 := by omega
theorem vc_X12_tries_v_183 {z36943 z36945 z36946 z39829 z39922 : Int} (h0 : 0 ≤ z39922 ∧ z39922 ≤ z36943) (h1 : z36945 ≤ z36943) (h2 : z36943 ≤ z36946) (h3 : z36943 < z36946) (h4 : z36943 < z39829) (h5 : 0 ≤ z36943 ∧ z36943 ≤ 46655) (h6 : 0 ≤ z36945 ∧ z36945 ≤ 46656) (h7 : 1 ≤ z36946 ∧ z36946 ≤ 46656) (h8 : 1 ≤ z39829 ∧ z39829 ≤ 46656) (h9 : 0 ≤ z39922 ∧ z39922 ≤ 46656) : (z39922 + 1) = z39922 + 1 := by omega
theorem vc_X12_tries_v_184 {z14 z24464 z36943 z36945 z36946 z39471 z39829 z39910 z39922 : Int} (h0 : z36943 < z39829) (h1 : z39829 < z14) (h2 : z14 ≤ z24464) (h3 : z36945 ≤ z36943) (h4 : z36943 ≤ z36946) (h5 : z36943 < z36946) (h6 : 0 ≤ z39471 ∧ z39471 < z14) (h7 : 0 ≤ (z39471 + z39910) ∧ (z39471 + z39910) < z14) (h8 : 0 ≤ z39922 ∧ z39922 ≤ z36943) (h9 : 1 ≤ z14 ∧ z14 ≤ 46656) (h10 : 1 ≤ z24464 ∧ z24464 ≤ 46656) (h11 : 0 ≤ z36943 ∧ z36943 ≤ 46655) (h12 : 0 ≤ z36945 ∧ z36945 ≤ 46656) (h13 : 1 ≤ z36946 ∧ z36946 ≤ 46656) (h14 : 0 ≤ z39471 ∧ z39471 ≤ 46655) (h15 : 1 ≤ z39829 ∧ z39829 ≤ 46656) (h16 : (-233280) ≤ z39910 ∧ z39910 ≤ 233280) (h17 : 0 ≤ z39922 ∧ z39922 ≤ 46656) : 1 ≤ (z39829 + 1) ∧ (z39829 + 1) ≤ 46656 := by omega
theorem vc_X12_tries_v_185 {z14 z24464 z36943 z36945 z36946 z39471 z39829 z39910 z39922 : Int} (h0 : z36945 ≤ z36943) (h1 : z36943 ≤ z36946) (h2 : z36943 < z36946) (h3 : z36943 < z39829) (h4 : z39829 < z14) (h5 : 0 ≤ z39922 ∧ z39922 ≤ z36943) (h6 : z14 ≤ z24464) (h7 : 0 ≤ z39471 ∧ z39471 < z14) (h8 : 0 ≤ (z39471 + z39910) ∧ (z39471 + z39910) < z14) (h9 : 1 ≤ z14 ∧ z14 ≤ 46656) (h10 : 1 ≤ z24464 ∧ z24464 ≤ 46656) (h11 : 0 ≤ z36943 ∧ z36943 ≤ 46655) (h12 : 0 ≤ z36945 ∧ z36945 ≤ 46656) (h13 : 1 ≤ z36946 ∧ z36946 ≤ 46656) (h14 : 0 ≤ z39471 ∧ z39471 ≤ 46655) (h15 : 1 ≤ z39829 ∧ z39829 ≤ 46656) (h16 : (-233280) ≤ z39910 ∧ z39910 ≤ 233280) (h17 : 0 ≤ z39922 ∧ z39922 ≤ 46656) : z36943 < (z39829 + 1) := by omega
theorem vc_X12_tries_v_187 {z14 z24464 z36943 z36945 z36946 z39471 z39829 z39910 z39922 : Int} (h0 : z36943 < z39829) (h1 : z39829 < z14) (h2 : z14 ≤ z24464) (h3 : z36945 ≤ z36943) (h4 : z36943 ≤ z36946) (h5 : z36943 < z36946) (h6 : 0 ≤ z39471 ∧ z39471 < z14) (h7 : 0 ≤ (z39471 + z39910) ∧ (z39471 + z39910) < z14) (h8 : 0 ≤ z39922 ∧ z39922 ≤ z36943) (h9 : 1 ≤ z14 ∧ z14 ≤ 46656) (h10 : 1 ≤ z24464 ∧ z24464 ≤ 46656) (h11 : 0 ≤ z36943 ∧ z36943 ≤ 46655) (h12 : 0 ≤ z36945 ∧ z36945 ≤ 46656) (h13 : 1 ≤ z36946 ∧ z36946 ≤ 46656) (h14 : 0 ≤ z39471 ∧ z39471 ≤ 46655) (h15 : 1 ≤ z39829 ∧ z39829 ≤ 46656) (h16 : (-233280) ≤ z39910 ∧ z39910 ≤ 233280) (h17 : 0 ≤ z39922 ∧ z39922 ≤ 46656) : z39829 ≤ (z39829 + 1) := by omega
theorem vc_X12_tries_v_188 {z39895 z39902 z39903 : Int} (h0 : z39902 ≤ z39895) (h1 : z39902 = z39903) (h2 : 0 ≤ z39895 ∧ z39895 ≤ 5) (h3 : 0 ≤ z39902 ∧ z39902 ≤ 5) (h4 : 0 ≤ z39903 ∧ z39903 ≤ 5) : z39902 = z39903 := by omega
theorem vc_X12_tries_v_189 {z39827 : Int} (h0 : z39827 ≤ 6) (h1 : 1 ≤ z39827 ∧ z39827 ≤ 6) : 0 ≤ z39827 := by omega
theorem vc_X12_tries_v_190 {z39828 z39895 z39902 z39903 : Int} (h0 : z39902 ≤ z39895) (h1 : z39902 = z39903) (h2 : 0 ≤ z39828 ∧ z39828 ≤ 1) (h3 : 0 ≤ z39895 ∧ z39895 ≤ 5) (h4 : 0 ≤ z39902 ∧ z39902 ≤ 5) (h5 : 0 ≤ z39903 ∧ z39903 ≤ 5) : (z39902 = z39903 ∧ z39828 = z39828) ∨ (¬ z39902 = z39903 ∧ ¬ z39828 = 1) := by omega
theorem vc_X12_tries_v_191  : ((0 : Int) : Int) ≤ ((1 : Int) : Int) := by omega
theorem vc_X12_tries_v_194 {z14 z24464 : Int} (h0 : z24464 < z14) (h1 : 1 ≤ z14 ∧ z14 ≤ 46656) (h2 : 0 ≤ z24464 ∧ z24464 ≤ 46655) : 0 ≤ z24464 := by omega
theorem vc_X12_tries_v_196 {p1 z5 : Int} (h0 : z5 = 0) (h1 : (z5 = 1 → (0 : Int) ≤ p1 ∧ p1 ≤ (3 : Int))) (h2 : (z5 = 0 → p1 < (0 : Int) ∨ (3 : Int) < p1)) (h3 : (-2147483648) ≤ p1 ∧ p1 ≤ 2147483647) (h4 : 0 ≤ z5 ∧ z5 ≤ 1) : 0 ≤ z5 ∧ z5 ≤ 0 := by omega
theorem vc_X12_tries_v_197 {p1 z5 : Int} (h0 : (z5 = 1 → (0 : Int) ≤ p1 ∧ p1 ≤ (3 : Int))) (h1 : (z5 = 0 → p1 < (0 : Int) ∨ (3 : Int) < p1)) (h2 : z5 = 0) (h3 : (-2147483648) ≤ p1 ∧ p1 ≤ 2147483647) (h4 : 0 ≤ z5 ∧ z5 ≤ 0) : z5 = 0 := by omega
theorem vc_X12_tries_v_198 {p1 z5 : Int} (h0 : (z5 = 1 → (0 : Int) ≤ p1 ∧ p1 ≤ (3 : Int))) (h1 : (z5 = 0 → p1 < (0 : Int) ∨ (3 : Int) < p1)) (h2 : p1 < (0 : Int) ∨ (3 : Int) < p1) (h3 : z5 = 0) (h4 : (-2147483648) ≤ p1 ∧ p1 ≤ 2147483647) (h5 : 0 ≤ z5 ∧ z5 ≤ 0) : p1 < 0 ∨ 3 < p1 := by omega
set_option maxRecDepth 4000 in
set_option maxHeartbeats 4000000 in
theorem c_X12_tries_v {l : Launch} {D : va_G} {c : Nat → ClassId} {H0 : Heap} {sa : Nat × Nat × (Nat → Int32)} {w : mW} {μ : mM} (hw : mWF w) (hT : mT w μ) {p1 : Int} (hp1 : (-2147483648) ≤ p1 ∧ p1 ≤ 2147483647) : sC (gG l D c H0 sa) mX12_tries 3 0 0 [.ref 106, iv p1] (mk w μ) (qI w [187999, 188999, 189999, 190999, 191999] μ (fun z μ1 => ((-2147483648) ≤ z ∧ z ≤ 2147483647) ∧ (trA (trE μ) (trP μ) (trr μ) (trN μ).toNat p1 z) ∧ True)) := by
  refine sC.of rfl (by decide) (le_t rfl) ?_
  refine mr_lvE (lv' := [(0, .ref 106), (1, iv p1)]) rfl ?_
  refine mr_iload_n (pc := 0) (z := p1) dX12_tries_0 rfl rfl ?_
  refine mr_iconst (pc := 1) (z := 0) dX12_tries_1 ?_
  refine mr_iconst (pc := 2) (z := 3) dX12_tries_2 ?_
  refine mr_cSP (pc := 3) (c_X12_in hw hT hp1 (rW (c := (-2147483648)) (d := 2147483647) (rR (x := 0)) rfl) (rW (c := (-2147483648)) (d := 2147483647) (rR (x := 3)) rfl)) (gOk _ _ _ _ _) dX12_tries_3 (tX12_in _ _ _ _ _) wS_X12_in wM_X12_18 ⟨le_t rfl, le_t rfl⟩ ⟨le_t rfl, le_t rfl⟩ rfl (le_t rfl) fun z5 h4 => ?_
  refine mr_if_ne (pc := 6) (tgt := 11) dX12_tries_6 (by decide) (r32 h4.1 rfl) (fun h6 => ?_) (fun h6 => ?_)
  · have h7 : 1 ≤ z5 ∧ z5 ≤ 1 := (vc_X12_tries_v_1 h6 h4.2.1 h4.2.2.1 hp1 h4.1)
    have h8 : (0 : Int) ≤ p1 ∧ p1 ≤ (3 : Int) := (h4.2.1 (vc_X12_tries_v_2 h4.2.1 h4.2.2.1 h6 hp1 h7))
    have h9 : 0 ≤ p1 ∧ p1 ≤ 3 := (vc_X12_tries_v_3 h8 h4.2.1 h4.2.2.1 hp1 h7)
    refine sv_aload_n (pc := 11) dX12_tries_11 rfl rfl ?_
    refine mr_cVI (pc := 12) (c_X12_states_rv hw hT) (gOk _ _ _ _ _) dX12_tries_12 (tX12_states _ _ _ _ _) ⟨wV_X12_states, wL_X12_states⟩ wM_X12_728 (gCX12 _ _ _ _ _) rfl (A_106 hw) rfl ⟨le_t rfl, le_t rfl⟩ ⟨le_t rfl, le_t rfl⟩ rfl (le_t rfl) fun z14 μ10 T11 F12 h13 => ?_
    obtain ⟨z15, z17, z19, z21, z23, z25, q16, q18, q20, q22, q24, q26, h27⟩ := h13
    have h28 : (0 ≤ z15 ∧ z15 ≤ 46656) := by rw [← q16]; exact T11 187 187 (A_187 hw) ((1 : Int).toNat)
    have h29 : (0 ≤ z17 ∧ z17 ≤ 46656) := by rw [← q18]; exact T11 187 187 (A_187 hw) ((2 : Int).toNat)
    have h30 : (0 ≤ z19 ∧ z19 ≤ 46656) := by rw [← q20]; exact T11 187 187 (A_187 hw) ((3 : Int).toNat)
    have h31 : (0 ≤ z21 ∧ z21 ≤ 46656) := by rw [← q22]; exact T11 187 187 (A_187 hw) ((4 : Int).toNat)
    have h32 : (0 ≤ z23 ∧ z23 ≤ 46656) := by rw [← q24]; exact T11 187 187 (A_187 hw) ((5 : Int).toNat)
    have h33 : (0 ≤ z25 ∧ z25 ≤ 46656) := by rw [← q26]; exact T11 187 187 (A_187 hw) ((6 : Int).toNat)
    have h34 : 1 ≤ z15 ∧ z15 ≤ 46656 := (vc_X12_open_1 h27.2.1 h28)
    have h35 : 1 ≤ z17 ∧ z17 ≤ 46656 := (vc_X12_open_1 h27.2.2.1 h29)
    have h36 : 1 ≤ z19 ∧ z19 ≤ 46656 := (vc_X12_open_1 h27.2.2.2.1 h30)
    have h37 : 1 ≤ z21 ∧ z21 ≤ 46656 := (vc_X12_open_1 h27.2.2.2.2.1 h31)
    have h38 : 1 ≤ z23 ∧ z23 ≤ 46656 := (vc_X12_open_1 h27.2.2.2.2.2.1 h32)
    have h39 : 1 ≤ z25 ∧ z25 ≤ 46656 := (vc_X12_open_1 h27.2.2.2.2.2.2.1 h33)
    refine mr_istore_n (pc := 15) (lv' := [(2, iv z14), (0, .ref 106), (1, iv p1)]) dX12_tries_15 rfl (by decide) rfl ?_
    refine mr_iconst (pc := 16) (z := 0) dX12_tries_16 ?_
    refine mr_istore_n (pc := 17) (lv' := [(3, iv 0), (2, iv z14), (0, .ref 106), (1, iv p1)]) dX12_tries_17 rfl (by decide) rfl ?_
    have L24466 : ∀ (nL24466 : Nat) (z24464 : Int) (μ24465 : mM), mT w μ24465 → mF [189999, 191999] w μ10 μ24465 → (0 ≤ z24464 ∧ z24464 ≤ 46656) → trZ0 μ24465 z24464 → (46657 - z24464) < (nL24466 : Int) → sV (gG l D c H0 sa) mX12_tries (sRm 3 0 0) (sZ (gG l D c H0 sa) 0 0 (qI w [187999, 188999, 189999, 190999, 191999] μ (fun z μ1 => ((-2147483648) ≤ z ∧ z ≤ 2147483647) ∧ (trA (trE μ) (trP μ) (trr μ) (trN μ).toNat p1 z) ∧ True))) 18 [(0, .ref 106), (1, iv p1), (2, iv z14), (3, iv z24464)] [] (mk w μ24465) 0 0 := by
      intro nL24466
      induction nL24466 with
      | zero => intro z24464 μ24465 T24468 F24469 h24467 R24471 h24472; exact ((vc_X12_rests_7 h24472 h24467)).elim
      | succ nL24466 ih24473 =>
        intro z24464 μ24465 T24468 F24469 h24467 R24471 h24472
        refine mr_iload_n (pc := 18) (z := z24464) dX12_tries_18 rfl rfl ?_
        refine mr_iload_n (pc := 19) (z := z14) dX12_tries_19 rfl rfl ?_
        refine mr_icmp_ge (pc := 20) (tgt := 43) dX12_tries_20 (by decide) (r32 h24467 rfl) (r32 h27.1 rfl) (fun h24482 => ?_) (fun h24482 => ?_)
        · have h24483 : 1 ≤ z24464 ∧ z24464 ≤ 46656 := (vc_X12_rest_13 h24482 h27.1 h24467)
          refine mr_iconst (pc := 43) (z := 0) dX12_tries_43 ?_
          refine mr_istore_n (pc := 44) (lv' := [(3, iv 0), (0, .ref 106), (1, iv p1), (2, iv z14)]) dX12_tries_44 rfl (by decide) rfl ?_
          refine sv_aload_n (pc := 45) dX12_tries_45 rfl rfl ?_
          refine gf_X12_124 (pc := 46) dX12_tries_46 wF_X12_533 (A_106 hw) T24468 ?_
          refine mr_iload_n (pc := 49) (z := 0) dX12_tries_49 rfl rfl ?_
          refine mr_iload_n (pc := 50) (z := z14) dX12_tries_50 rfl rfl ?_
          refine mr_iconst (pc := 51) (z := 1) dX12_tries_51 ?_
          refine mr_isub (pc := 52) (x := z14) (y := 1) dX12_tries_52 ?_
          refine ss_190 (pc := 53) dX12_tries_53 (A_190 hw) T24468 (rIx (n := 46656) (rR (x := 0)) rfl) (rSub (e := 0) (f := 46655) h27.1 (rR (x := 1)) rfl) fun μ24484 u24485 T24486 => ?_
          refine sv_aload_n (pc := 54) dX12_tries_54 rfl rfl ?_
          refine gf_X12_123 (pc := 55) dX12_tries_55 wF_X12_530 (A_106 hw) T24486 ?_
          refine mr_iload_n (pc := 58) (z := z14) dX12_tries_58 rfl rfl ?_
          refine mr_iconst (pc := 59) (z := 1) dX12_tries_59 ?_
          refine mr_isub (pc := 60) (x := z14) (y := 1) dX12_tries_60 ?_
          refine mr_iconst (pc := 61) (z := 0) dX12_tries_61 ?_
          refine ss_189 (pc := 62) dX12_tries_62 (A_189 hw) T24486 (rIx (n := 46656) (rSub (e := 0) (f := 46655) h27.1 (rR (x := 1)) rfl) rfl) (rW (c := (-2147483648)) (d := 2147483647) (rR (x := 0)) rfl) fun μ24487 u24488 T24489 => ?_
          have Q24490 : quOK μ24487 1 z14 := quOK.init (vc_X12_tries_v_12 h24482 h27.1 h24483) (vc_X12_tries_v_13 h24482 h27.1 h24483) u24485 u24488
          have h24491 := trB.init (trZ0.le R24471 (vc_X12_tries_v_14 h24482 h27.1 h24483)) (cnP.N (h27.2.2.2.2.2.2.2.2.1).2 (rowB (A_184 hw) ((mF.call mF.refl F12 rfl) : mF [187999] w μ μ10) rfl rfl)) (vc_X12_tries_v_13 h24482 h27.1 h24483) (vc_X12_tries_v_12 h24482 h27.1 h24483) u24485 u24488
          refine mr_iinc (pc := 63) (lv' := [(3, iv 1), (0, .ref 106), (1, iv p1), (2, iv z14)]) dX12_tries_63 rfl (by decide) rfl ?_
          refine mr_iconst (pc := 66) (z := 0) dX12_tries_66 ?_
          refine mr_istore (pc := 67) (lv' := [(4, iv 0), (3, iv 1), (0, .ref 106), (1, iv p1), (2, iv z14)]) dX12_tries_67 (by decide) rfl ?_
          refine mr_ldc (pc := 69) (z := (-99999999)) dX12_tries_69 wG_X12_29 (by decide) ?_
          refine mr_istore (pc := 71) (lv' := [(5, iv (-99999999)), (4, iv 0), (3, iv 1), (0, .ref 106), (1, iv p1), (2, iv z14)]) dX12_tries_71 (by decide) rfl ?_
          refine mr_iconst (pc := 73) (z := 0) dX12_tries_73 ?_
          refine mr_istore (pc := 74) (lv' := [(6, iv 0), (5, iv (-99999999)), (4, iv 0), (3, iv 1), (0, .ref 106), (1, iv p1), (2, iv z14)]) dX12_tries_74 (by decide) rfl ?_
          have L36948 : ∀ (nL36948 : Nat) (z36946 z36945 z36944 z36943 : Int) (μ36947 : mM), mT w μ36947 → mF [188999, 189999, 190999, 191999] w μ24487 μ36947 → (1 ≤ z36946 ∧ z36946 ≤ 46656) → (0 ≤ z36945 ∧ z36945 ≤ 46656) → ((-2147483648) ≤ z36944 ∧ z36944 ≤ 2147483647) → (0 ≤ z36943 ∧ z36943 ≤ 46656) → (z36945 ≤ z36943) → (z36943 ≤ z36946) → quOK μ36947 z36946 z14 → wgT μ36947 187 184 → trB μ μ36947 z36946 z36943 1 → trK μ μ36947 z36943 z36945 z36944 → (46657 - z36943) < (nL36948 : Int) → sV (gG l D c H0 sa) mX12_tries (sRm 3 0 0) (sZ (gG l D c H0 sa) 0 0 (qI w [187999, 188999, 189999, 190999, 191999] μ (fun z μ1 => ((-2147483648) ≤ z ∧ z ≤ 2147483647) ∧ (trA (trE μ) (trP μ) (trr μ) (trN μ).toNat p1 z) ∧ True))) 76 [(0, .ref 106), (1, iv p1), (3, iv z36946), (4, iv z36945), (5, iv z36944), (6, iv z36943)] [] (mk w μ36947) 0 0 := by
            intro nL36948
            induction nL36948 with
            | zero => intro z36946 z36945 z36944 z36943 μ36947 T36953 F36954 h36949 h36950 h36951 h36952 h36956 h36957 R36958 R36959 R36960 R36961 h36962; exact ((vc_X12_tries_v_15 h36962 h36956 h36957 h36952 h36950 h36949)).elim
            | succ nL36948 ih36963 =>
              intro z36946 z36945 z36944 z36943 μ36947 T36953 F36954 h36949 h36950 h36951 h36952 h36956 h36957 R36958 R36959 R36960 R36961 h36962
              refine mr_iload (pc := 76) (z := z36943) dX12_tries_76 rfl ?_
              refine mr_iload_n (pc := 78) (z := z36946) dX12_tries_78 rfl rfl ?_
              refine mr_icmp_ge (pc := 79) (tgt := 240) dX12_tries_79 (by decide) (r32 h36952 rfl) (r32 h36949 rfl) (fun h37104 => ?_) (fun h37104 => ?_)
              · have h37105 : 1 ≤ z36943 ∧ z36943 ≤ 46656 := (vc_X12_tries_v_16 h37104 h36956 h36957 h36952 h36950 h36949)
                refine mr_iload_n (pc := 240) (z := p1) dX12_tries_240 rfl rfl ?_
                refine mr_if_ne (pc := 241) (tgt := 246) dX12_tries_241 (by decide) (r32 h9 rfl) (fun h37106 => ?_) (fun h37106 => ?_)
                · have h37107 : 1 ≤ p1 ∧ p1 ≤ 3 := (vc_X12_tries_v_17 h37106 h4.2.1 h4.2.2.1 h8 h9 h7)
                  refine mr_iload_n (pc := 246) (z := p1) dX12_tries_246 rfl rfl ?_
                  refine mr_iconst (pc := 247) (z := 1) dX12_tries_247 ?_
                  refine mr_icmp_ne (pc := 248) (tgt := 254) dX12_tries_248 (by decide) (r32 h37107 rfl) (r32 (rR (x := 1)) rfl) (fun h37108 => ?_) (fun h37108 => ?_)
                  · have h37109 : 2 ≤ p1 ∧ p1 ≤ 3 := (vc_X12_tries_v_18 h37108 h4.2.1 h4.2.2.1 h8 h37106 h37107 h7)
                    refine mr_iload_n (pc := 254) (z := p1) dX12_tries_254 rfl rfl ?_
                    refine mr_iconst (pc := 255) (z := 3) dX12_tries_255 ?_
                    refine mr_icmp_ne (pc := 256) (tgt := 262) dX12_tries_256 (by decide) (r32 h37109 rfl) (r32 (rR (x := 3)) rfl) (fun h37110 => ?_) (fun h37110 => ?_)
                    · have h37111 : 2 ≤ p1 ∧ p1 ≤ 2 := (vc_X12_tries_v_19 h37110 h4.2.1 h4.2.2.1 h8 h37106 h37108 h37109 h7)
                      refine mr_iconst (pc := 262) (z := 1) dX12_tries_262 ?_
                      refine mr_istore (pc := 263) (lv' := [(6, iv 1), (0, .ref 106), (1, iv p1), (3, iv z36946), (4, iv z36945), (5, iv z36944)]) dX12_tries_263 (by decide) rfl ?_
                      have L37987 : ∀ (nL37987 : Nat) (z37985 : Int) (μ37986 : mM) (f_k : Int), mT w μ37986 → mF [188999, 191999] w μ36947 μ37986 → cnt μ37986 191 46656 = f_k → (0 ≤ z37985 ∧ z37985 ≤ 1) → wgT μ37986 187 184 → hoS (trE μ) (trP μ) (trr μ) (trN μ) (μ37986 191) → (z37985 = 1 ∨ hoC (trE μ) (μ36947 190) (μ37986 191) z36946 (-1)) → ((2 * (46656 - f_k)) + z37985) < (nL37987 : Int) → sV (gG l D c H0 sa) mX12_tries (sRm 3 0 0) (sZ (gG l D c H0 sa) 0 0 (qI w [187999, 188999, 189999, 190999, 191999] μ (fun z μ1 => ((-2147483648) ≤ z ∧ z ≤ 2147483647) ∧ (trA (trE μ) (trP μ) (trr μ) (trN μ).toNat p1 z) ∧ True))) 265 [(0, .ref 106), (3, iv z36946), (6, iv z37985)] [] (mk w μ37986) 0 0 := by
                        intro nL37987
                        induction nL37987 with
                        | zero => intro z37985 μ37986 f_k T37989 F37990 q37996 h37988 R37992 R37993 R37994 h37995; exact ((vc_X12_tries_v_20 h37995 (by rw [← q37996]; exact cnt_rng (fun i => T37989 191 191 (A_191 hw) i) 46656) h37988)).elim
                        | succ nL37987 ih37997 =>
                          intro z37985 μ37986 f_k T37989 F37990 q37996 h37988 R37992 R37993 R37994 h37995
                          have h37998 : 0 ≤ f_k ∧ f_k ≤ 46656 := by rw [← q37996]; exact cnt_rng (fun i => T37989 191 191 (A_191 hw) i) 46656
                          refine mr_iload (pc := 265) (z := z37985) dX12_tries_265 rfl ?_
                          refine mr_if_eq (pc := 267) (tgt := 405) dX12_tries_267 (by decide) (r32 h37988 rfl) (fun h38269 => ?_) (fun h38269 => ?_)
                          · have h38270 : 0 ≤ z37985 ∧ z37985 ≤ 0 := (vc_X12_ring_22 h38269 h37988)
                            refine mr_iconst (pc := 405) (z := 0) dX12_tries_405 ?_
                            refine mr_istore (pc := 406) (lv' := [(7, iv 0), (0, .ref 106), (3, iv z36946), (6, iv z37985)]) dX12_tries_406 (by decide) rfl ?_
                            refine mr_iconst (pc := 408) (z := 0) dX12_tries_408 ?_
                            refine mr_istore (pc := 409) (lv' := [(8, iv 0), (7, iv 0), (0, .ref 106), (3, iv z36946), (6, iv z37985)]) dX12_tries_409 (by decide) rfl ?_
                            have L38511 : ∀ (nL38511 : Nat) (z38510 z38509 : Int), True → (0 ≤ z38510 ∧ z38510 ≤ 46656) → (0 ≤ z38509 ∧ z38509 ≤ 46656) → (z38509 ≤ z36946) → (z38510 ≤ z38509) → (z38510 = cnP (fun j => ¬ μ37986 191 (μ37986 190 j).toNat = 1) (z38509).toNat) → (46657 - z38509) < (nL38511 : Int) → sV (gG l D c H0 sa) mX12_tries (sRm 3 0 0) (sZ (gG l D c H0 sa) 0 0 (qI w [187999, 188999, 189999, 190999, 191999] μ (fun z μ1 => ((-2147483648) ≤ z ∧ z ≤ 2147483647) ∧ (trA (trE μ) (trP μ) (trr μ) (trN μ).toNat p1 z) ∧ True))) 411 [(0, .ref 106), (3, iv z36946), (7, iv z38510), (8, iv z38509)] [] (mk w μ37986) 0 0 := by
                              intro nL38511
                              induction nL38511 with
                              | zero => intro z38510 z38509 _ h38512 h38513 h38517 h38518 R38519 h38520; exact ((vc_X12_tries_v_22 h38520 h38517 h38518 h36957 h37104 h37105 h36949 h38513 h38512)).elim
                              | succ nL38511 ih38521 =>
                                intro z38510 z38509 _ h38512 h38513 h38517 h38518 R38519 h38520
                                refine mr_iload (pc := 411) (z := z38509) dX12_tries_411 rfl ?_
                                refine mr_iload_n (pc := 413) (z := z36946) dX12_tries_413 rfl rfl ?_
                                refine mr_icmp_ge (pc := 414) (tgt := 448) dX12_tries_414 (by decide) (r32 h38513 rfl) (r32 h36949 rfl) (fun h38532 => ?_) (fun h38532 => ?_)
                                · have h38533 : 1 ≤ z38509 ∧ z38509 ≤ 46656 := (vc_X12_tries_v_23 h38532 h36957 h37104 h38517 h38518 h37105 h36949 h38513 h38512)
                                  refine mr_iload (pc := 448) (z := z38510) dX12_tries_448 rfl ?_
                                  exact mr_iret dX12_tries_450 rfl (le_t rfl) (le_t rfl) T37989 (mF.call (mF.call (mF.up (mF.up (mF.call (mF.call mF.refl F12 rfl) F24469 rfl) (A_190 hw) u24485 rfl) (A_189 hw) u24488 rfl) F36954 rfl) F37990 rfl) ⟨(rW (c := (-2147483648)) (d := 2147483647) h38512 rfl), (trA.two (l := -1) (R36960).1 (vc_X12_tries_v_24 h36956 h36957 h37104 h38517 h38532 h38518 h37105 h36950 h36949 h38533 h38512) (by have e := (cnP.N (h27.2.2.2.2.2.2.2.2.1).2 (rowB (A_184 hw) ((mF.call mF.refl F12 rfl) : mF [187999] w μ μ10) rfl rfl)); have h := (vc_X12_tries_v_26 h24482 h27.1 h24483); show 0 ≤ wgk (μ 184) 6; omega) R37993 ((R37994).elim (fun h => absurd h (vc_X12_acted_w_17 h38269 h38270)) id) (by decide) (vc_X12_tries_v_28 h4.2.1 h4.2.2.1 h8 h37106 h37108 h37110 h6 h37111 h7) (by have h := R38519; rw [(rowB (A_190 hw) ((mF.call mF.refl F37990 rfl) : mF [188999, 191999] w μ36947 μ37986) rfl rfl)] at h; exact h) (vc_X12_tries_v_29 h36957 h37104 h38517 h38518 h38532 h36956 h37105 h36950 h36949 h38533 h38512)), trivial⟩
                                have h38534 : 0 ≤ z38509 ∧ z38509 ≤ 46655 := (vc_X12_tries_v_30 h38532 h36957 h37104 h38517 h38518 h37105 h36949 h38513 h38512)
                                refine mr_iload (pc := 417) (z := z38510) dX12_tries_417 rfl ?_
                                refine sv_aload_n (pc := 419) dX12_tries_419 rfl rfl ?_
                                refine gf_X12_125 (pc := 420) dX12_tries_420 wF_X12_536 (A_106 hw) T37989 ?_
                                refine sv_aload_n (pc := 423) dX12_tries_423 rfl rfl ?_
                                refine gf_X12_124 (pc := 424) dX12_tries_424 wF_X12_533 (A_106 hw) T37989 ?_
                                refine mr_iload (pc := 427) (z := z38509) dX12_tries_427 rfl ?_
                                refine la_190 (pc := 429) dX12_tries_429 (A_190 hw) T37989 (rIx (n := 46656) h38534 rfl) fun z38535 q38536 h38537 => ?_
                                refine la_191 (pc := 430) dX12_tries_430 (A_191 hw) T37989 (rIx (n := 46656) h38537 rfl) fun z38538 q38539 h38540 => ?_
                                refine mr_if_eq (pc := 431) (tgt := 438) dX12_tries_431 (by decide) (r32 h38540 rfl) (fun h38541 => ?_) (fun h38541 => ?_)
                                · have h38542 : 0 ≤ z38538 ∧ z38538 ≤ 0 := (vc_X12_ring_22 h38541 h38540)
                                  refine mr_iconst (pc := 438) (z := 1) dX12_tries_438 ?_
                                  refine mr_iadd (pc := 439) (x := z38510) (y := 1) dX12_tries_439 ?_
                                  refine mr_istore (pc := 440) (lv' := [(7, iv (z38510 + 1)), (0, .ref 106), (3, iv z36946), (8, iv z38509)]) dX12_tries_440 (by decide) rfl ?_
                                  refine mr_iinc (pc := 442) (lv' := [(8, iv (z38509 + 1)), (7, iv (z38510 + 1)), (0, .ref 106), (3, iv z36946)]) dX12_tries_442 rfl (by decide) rfl ?_
                                  refine sv_goto (pc := 445) (tgt := 411) dX12_tries_445 (by decide) ?_
                                  refine mr_lvS (lv' := [(0, .ref 106), (3, iv z36946), (7, iv (z38510 + 1)), (8, iv (z38509 + 1))]) (List.forall_mem_cons.mpr ⟨rfl, List.forall_mem_cons.mpr ⟨rfl, List.forall_mem_cons.mpr ⟨rfl, List.forall_mem_cons.mpr ⟨rfl, fun _ h => absurd h List.not_mem_nil⟩⟩⟩⟩) ?_
                                  exact ih38521 (z38510 + 1) (z38509 + 1) trivial (vc_X12_tries_v_32 h38518 h38517 h38532 h36949 h38534 h38512) (rW (c := 0) (d := 46656) (rAdd (e := 1) (f := 46656) h38534 (rR (x := 1)) rfl) rfl) (vc_X12_tries_v_33 h36957 h37104 h38517 h38518 h38532 h36956 h37105 h36950 h36949 h38534 h38512) (vc_X12_tries_v_34 h38517 h38518 h38532 h36957 h37104 h37105 h36949 h38534 h38512) (cnP.step (z := if z38538 = 1 then 0 else 1) R38519 (vc_X12_tries_v_36 h38517 h38518 h38532 h36957 h37104 h37105 h36949 h38534 h38512) (by show _ ↔ ¬ _; rw [q38536, q38539]; by_cases c : z38538 = 1 <;> simp [c]) (by have h := (vc_X12_tries_v_37 h38518 h38541 h38517 h38532 h36949 h38534 h38512 h38542); by_cases c : z38538 = 1; (rw [if_pos c]; omega); (rw [if_neg c]; omega))) (vc_X12_tries_v_35 (nS h38520) h38517 h38518 h38532 h36957 h37104 h37105 h36949 h38534 h38512)
                                have h38543 : 1 ≤ z38538 ∧ z38538 ≤ 1 := (vc_X12_ring_24 h38541 h38540)
                                refine mr_iconst (pc := 434) (z := 0) dX12_tries_434 ?_
                                refine sv_goto (pc := 435) (tgt := 439) dX12_tries_435 (by decide) ?_
                                refine mr_iadd (pc := 439) (x := z38510) (y := 0) dX12_tries_439 ?_
                                refine mr_istore (pc := 440) (lv' := [(7, iv (z38510 + 0)), (0, .ref 106), (3, iv z36946), (8, iv z38509)]) dX12_tries_440 (by decide) rfl ?_
                                refine mr_iinc (pc := 442) (lv' := [(8, iv (z38509 + 1)), (7, iv (z38510 + 0)), (0, .ref 106), (3, iv z36946)]) dX12_tries_442 rfl (by decide) rfl ?_
                                refine sv_goto (pc := 445) (tgt := 411) dX12_tries_445 (by decide) ?_
                                refine mr_lvS (lv' := [(0, .ref 106), (3, iv z36946), (7, iv (z38510 + 0)), (8, iv (z38509 + 1))]) (List.forall_mem_cons.mpr ⟨rfl, List.forall_mem_cons.mpr ⟨rfl, List.forall_mem_cons.mpr ⟨rfl, List.forall_mem_cons.mpr ⟨rfl, fun _ h => absurd h List.not_mem_nil⟩⟩⟩⟩) ?_
                                exact ih38521 (z38510 + 0) (z38509 + 1) trivial (rAdd (e := 0) (f := 46656) h38512 (rR (x := 0)) rfl) (rW (c := 0) (d := 46656) (rAdd (e := 1) (f := 46656) h38534 (rR (x := 1)) rfl) rfl) (vc_X12_tries_v_33 h36957 h37104 h38517 h38518 h38532 h36956 h37105 h36950 h36949 h38534 h38512) (vc_X12_tries_v_39 h38517 h38518 h38532 h36957 h37104 h37105 h36949 h38534 h38512) (cnP.step (z := if z38538 = 1 then 0 else 1) R38519 (vc_X12_tries_v_36 h38517 h38518 h38532 h36957 h37104 h37105 h36949 h38534 h38512) (by show _ ↔ ¬ _; rw [q38536, q38539]; by_cases c : z38538 = 1 <;> simp [c]) (by have h := (vc_X12_tries_v_40 h38518 h38541 h38517 h38532 h36949 h38534 h38512 h38543); by_cases c : z38538 = 1; (rw [if_pos c]; omega); (rw [if_neg c]; omega))) (vc_X12_tries_v_35 (nS h38520) h38517 h38518 h38532 h36957 h37104 h37105 h36949 h38534 h38512)
                            refine mr_lvS (lv' := [(0, .ref 106), (3, iv z36946), (7, iv 0), (8, iv 0)]) (List.forall_mem_cons.mpr ⟨rfl, List.forall_mem_cons.mpr ⟨rfl, List.forall_mem_cons.mpr ⟨rfl, List.forall_mem_cons.mpr ⟨rfl, fun _ h => absurd h List.not_mem_nil⟩⟩⟩⟩) ?_
                            exact L38511 46658 0 0 trivial (rW (c := 0) (d := 46656) (rR (x := 0)) rfl) (rW (c := 0) (d := 46656) (rR (x := 0)) rfl) (vc_X12_tries_v_41 h36957 h37104 h36956 h37105 h36950 h36949) vc_X12_dropMark_20 (by rfl) vc_X12_rests_19
                          have h38544 : 1 ≤ z37985 ∧ z37985 ≤ 1 := (vc_X12_ring_24 h38269 h37988)
                          refine mr_iconst (pc := 270) (z := 0) dX12_tries_270 ?_
                          refine mr_istore (pc := 271) (lv' := [(6, iv 0), (0, .ref 106), (3, iv z36946)]) dX12_tries_271 (by decide) rfl ?_
                          refine mr_iload_n (pc := 273) (z := z36946) dX12_tries_273 rfl rfl ?_
                          refine mr_iconst (pc := 274) (z := 1) dX12_tries_274 ?_
                          refine mr_isub (pc := 275) (x := z36946) (y := 1) dX12_tries_275 ?_
                          refine mr_istore (pc := 276) (lv' := [(7, iv (z36946 - 1)), (6, iv 0), (0, .ref 106), (3, iv z36946)]) dX12_tries_276 (by decide) rfl ?_
                          have L38940 : ∀ (nL38940 : Nat) (z38938 z38937 : Int) (μ38939 : mM) (f_k2 : Int), mT w μ38939 → mF [188999, 191999] w μ37986 μ38939 → cnt μ38939 191 46656 = f_k2 → (0 ≤ z38938 ∧ z38938 ≤ 1) → ((-1) ≤ z38937 ∧ z38937 ≤ 46655) → (f_k ≤ f_k2) → (z38938 = 0 ∨ f_k + 1 ≤ f_k2) → (z38937 < z36946) → wgT μ38939 187 184 → hoS (trE μ) (trP μ) (trr μ) (trN μ) (μ38939 191) → (z38938 = 1 ∨ hoC (trE μ) (μ36947 190) (μ38939 191) z36946 z38937) → (z38937 - (-2)) < (nL38940 : Int) → sV (gG l D c H0 sa) mX12_tries (sRm 3 0 0) (sZ (gG l D c H0 sa) 0 0 (qI w [187999, 188999, 189999, 190999, 191999] μ (fun z μ1 => ((-2147483648) ≤ z ∧ z ≤ 2147483647) ∧ (trA (trE μ) (trP μ) (trr μ) (trN μ).toNat p1 z) ∧ True))) 278 [(0, .ref 106), (3, iv z36946), (6, iv z38938), (7, iv z38937)] [] (mk w μ38939) 0 0 := by
                            intro nL38940
                            induction nL38940 with
                            | zero => intro z38938 z38937 μ38939 f_k2 T38943 F38944 q38953 h38941 h38942 h38946 h38947 h38948 R38949 R38950 R38951 h38952; exact ((vc_X12_tries_v_45 h38952 (by rw [← q38953]; exact cnt_rng (fun i => T38943 191 191 (A_191 hw) i) 46656) h38946 h38947 h38948 h36957 h37104 h37998 h37105 h36949 h38942 h38941)).elim
                            | succ nL38940 ih38954 =>
                              intro z38938 z38937 μ38939 f_k2 T38943 F38944 q38953 h38941 h38942 h38946 h38947 h38948 R38949 R38950 R38951 h38952
                              have h38955 : 0 ≤ f_k2 ∧ f_k2 ≤ 46656 := by rw [← q38953]; exact cnt_rng (fun i => T38943 191 191 (A_191 hw) i) 46656
                              refine mr_iload (pc := 278) (z := z38937) dX12_tries_278 rfl ?_
                              refine mr_if_lt (pc := 280) (tgt := 402) dX12_tries_280 (by decide) (r32 h38942 rfl) (fun h39083 => ?_) (fun h39083 => ?_)
                              · have h39084 : (-1) ≤ z38937 ∧ z38937 ≤ (-1) := (vc_X12_tries_v_46 h39083 h38948 h36949 h38942)
                                refine sv_goto (pc := 402) (tgt := 265) dX12_tries_402 (by decide) ?_
                                refine mr_lvS (lv' := [(0, .ref 106), (3, iv z36946), (6, iv z38938)]) (List.forall_mem_cons.mpr ⟨rfl, List.forall_mem_cons.mpr ⟨rfl, List.forall_mem_cons.mpr ⟨rfl, fun _ h => absurd h List.not_mem_nil⟩⟩⟩) ?_
                                exact ih37997 z38938 μ38939 f_k2 T38943 (mF.call (mF.call mF.refl F37990 rfl) F38944 rfl) q38953 h38941 (wgT.of (h27.2.2.2.2.2.2.2.2.1).1 (rowB (A_187 hw) ((mF.call (mF.call (mF.call (mF.up (mF.up (mF.call mF.refl F24469 rfl) (A_190 hw) u24485 rfl) (A_189 hw) u24488 rfl) F36954 rfl) F37990 rfl) F38944 rfl) : mF [188999, 189999, 190999, 191999] w μ10 μ38939) rfl rfl) (rowB (A_184 hw) ((mF.call (mF.call (mF.call (mF.up (mF.up (mF.call mF.refl F24469 rfl) (A_190 hw) u24485 rfl) (A_189 hw) u24488 rfl) F36954 rfl) F37990 rfl) F38944 rfl) : mF [188999, 189999, 190999, 191999] w μ10 μ38939) rfl rfl)) R38950 ((R38951).imp id (fun h j hj => h j (by have g := (vc_X12_tries_v_48 h38948 h39083 h36957 h37104 h37105 h36949 h39084); omega))) (vc_X12_tries_v_47 (nS h37995) h38269 h38946 h38947 h37998 h38955 h38544 h38941)
                              have h39085 : 0 ≤ z38937 ∧ z38937 ≤ 46655 := (vc_X12_tries_v_49 h39083 h38948 h36949 h38942)
                              refine sv_aload_n (pc := 283) dX12_tries_283 rfl rfl ?_
                              refine gf_X12_124 (pc := 284) dX12_tries_284 wF_X12_533 (A_106 hw) T38943 ?_
                              refine mr_iload (pc := 287) (z := z38937) dX12_tries_287 rfl ?_
                              refine la_190 (pc := 289) dX12_tries_289 (A_190 hw) T38943 (rIx (n := 46656) h39085 rfl) fun z39086 q39087 h39088 => ?_
                              have h39089 : 0 ≤ z39086 ∧ z39086 < z14 := quOK.st (quOK.keep R36958 hw ((mF.call (mF.call mF.refl F37990 rfl) F38944 rfl) : mF [188999, 191999] w μ36947 μ38939) rfl) (vc_X12_tries_v_50 h38948 h39083 h36957 h37104 h37105 h36949 h39085) (vc_X12_tries_v_51 h36957 h37104 h38948 h39083 h36956 h37105 h36950 h36949 h39085) q39087
                              refine mr_istore (pc := 290) (lv' := [(8, iv z39086), (0, .ref 106), (3, iv z36946), (6, iv z38938), (7, iv z38937)]) dX12_tries_290 (by decide) rfl ?_
                              refine sv_aload_n (pc := 292) dX12_tries_292 rfl rfl ?_
                              refine gf_X12_125 (pc := 293) dX12_tries_293 wF_X12_536 (A_106 hw) T38943 ?_
                              refine mr_iload (pc := 296) (z := z39086) dX12_tries_296 rfl ?_
                              refine la_191 (pc := 298) dX12_tries_298 (A_191 hw) T38943 (rIx (n := 46656) h39088 rfl) fun z39090 q39091 h39092 => ?_
                              refine mr_if_eq (pc := 299) (tgt := 305) dX12_tries_299 (by decide) (r32 h39092 rfl) (fun h39093 => ?_) (fun h39093 => ?_)
                              · have h39094 : 0 ≤ z39090 ∧ z39090 ≤ 0 := (vc_X12_ring_22 h39093 h39092)
                                refine sv_aload_n (pc := 305) dX12_tries_305 rfl rfl ?_
                                refine mr_iload (pc := 306) (z := z39086) dX12_tries_306 rfl ?_
                                obtain ⟨z39095, q39096⟩ : ∃ z, μ38939 184 ((1 : Int).toNat) = z := ⟨_, rfl⟩
                                have h39097 : (0 ≤ z39095 ∧ z39095 ≤ 5) := by rw [← q39096]; exact T38943 184 184 (A_184 hw) ((1 : Int).toNat)
                                obtain ⟨z39098, q39099⟩ : ∃ z, μ38939 184 ((2 : Int).toNat) = z := ⟨_, rfl⟩
                                have h39100 : (0 ≤ z39098 ∧ z39098 ≤ 5) := by rw [← q39099]; exact T38943 184 184 (A_184 hw) ((2 : Int).toNat)
                                obtain ⟨z39101, q39102⟩ : ∃ z, μ38939 184 ((3 : Int).toNat) = z := ⟨_, rfl⟩
                                have h39103 : (0 ≤ z39101 ∧ z39101 ≤ 5) := by rw [← q39102]; exact T38943 184 184 (A_184 hw) ((3 : Int).toNat)
                                obtain ⟨z39104, q39105⟩ : ∃ z, μ38939 184 ((4 : Int).toNat) = z := ⟨_, rfl⟩
                                have h39106 : (0 ≤ z39104 ∧ z39104 ≤ 5) := by rw [← q39105]; exact T38943 184 184 (A_184 hw) ((4 : Int).toNat)
                                obtain ⟨z39107, q39108⟩ : ∃ z, μ38939 184 ((5 : Int).toNat) = z := ⟨_, rfl⟩
                                have h39109 : (0 ≤ z39107 ∧ z39107 ≤ 5) := by rw [← q39108]; exact T38943 184 184 (A_184 hw) ((5 : Int).toNat)
                                obtain ⟨z39110, q39111⟩ : ∃ z, μ38939 184 ((6 : Int).toNat) = z := ⟨_, rfl⟩
                                have h39112 : (0 ≤ z39110 ∧ z39110 ≤ 5) := by rw [← q39111]; exact T38943 184 184 (A_184 hw) ((6 : Int).toNat)
                                refine mr_cVV (pc := 308) (c_X12_open_r hw T38943 h39088 (F38944.f (A_187 hw) rfl (F37990.f (A_187 hw) rfl (F36954.f (A_187 hw) rfl (u24488.f (Or.inl (mAt.ne (A_189 hw) (A_187 hw) rfl)) (u24485.f (Or.inl (mAt.ne (A_190 hw) (A_187 hw) rfl)) (F24469.f (A_187 hw) rfl q16)))))) (F38944.f (A_187 hw) rfl (F37990.f (A_187 hw) rfl (F36954.f (A_187 hw) rfl (u24488.f (Or.inl (mAt.ne (A_189 hw) (A_187 hw) rfl)) (u24485.f (Or.inl (mAt.ne (A_190 hw) (A_187 hw) rfl)) (F24469.f (A_187 hw) rfl q18)))))) (F38944.f (A_187 hw) rfl (F37990.f (A_187 hw) rfl (F36954.f (A_187 hw) rfl (u24488.f (Or.inl (mAt.ne (A_189 hw) (A_187 hw) rfl)) (u24485.f (Or.inl (mAt.ne (A_190 hw) (A_187 hw) rfl)) (F24469.f (A_187 hw) rfl q20)))))) (F38944.f (A_187 hw) rfl (F37990.f (A_187 hw) rfl (F36954.f (A_187 hw) rfl (u24488.f (Or.inl (mAt.ne (A_189 hw) (A_187 hw) rfl)) (u24485.f (Or.inl (mAt.ne (A_190 hw) (A_187 hw) rfl)) (F24469.f (A_187 hw) rfl q22)))))) (F38944.f (A_187 hw) rfl (F37990.f (A_187 hw) rfl (F36954.f (A_187 hw) rfl (u24488.f (Or.inl (mAt.ne (A_189 hw) (A_187 hw) rfl)) (u24485.f (Or.inl (mAt.ne (A_190 hw) (A_187 hw) rfl)) (F24469.f (A_187 hw) rfl q24)))))) (F38944.f (A_187 hw) rfl (F37990.f (A_187 hw) rfl (F36954.f (A_187 hw) rfl (u24488.f (Or.inl (mAt.ne (A_189 hw) (A_187 hw) rfl)) (u24485.f (Or.inl (mAt.ne (A_190 hw) (A_187 hw) rfl)) (F24469.f (A_187 hw) rfl q26)))))) q39096 q39099 q39102 q39105 q39108 q39111 (vc_X12_isRest_7 h27.2.1 h34) (vc_X12_isRest_7 h27.2.2.1 h35) (vc_X12_isRest_7 h27.2.2.2.1 h36) (vc_X12_isRest_7 h27.2.2.2.2.1 h37) (vc_X12_isRest_7 h27.2.2.2.2.2.1 h38) (vc_X12_isRest_7 h27.2.2.2.2.2.2.1 h39)) (gOk _ _ _ _ _) dX12_tries_308 (tX12_open _ _ _ _ _) ⟨wV_X12_open, wL_X12_open⟩ wM_X12_722 (gCX12 _ _ _ _ _) rfl (A_106 hw) rfl ⟨le_t rfl, le_t rfl⟩ ⟨le_t rfl, le_t rfl⟩ rfl (le_t rfl) fun μ39113 T39114 F39115 h39116 => ?_
                                obtain ⟨z39117, z39119, z39121, z39123, z39125, z39127, q39118, q39120, q39122, q39124, q39126, q39128, h39129⟩ := h39116
                                have h39130 : (0 ≤ z39117 ∧ z39117 ≤ 5) := by rw [← q39118]; exact T39114 188 188 (A_188 hw) ((1 : Int).toNat)
                                have h39131 : (0 ≤ z39119 ∧ z39119 ≤ 5) := by rw [← q39120]; exact T39114 188 188 (A_188 hw) ((2 : Int).toNat)
                                have h39132 : (0 ≤ z39121 ∧ z39121 ≤ 5) := by rw [← q39122]; exact T39114 188 188 (A_188 hw) ((3 : Int).toNat)
                                have h39133 : (0 ≤ z39123 ∧ z39123 ≤ 5) := by rw [← q39124]; exact T39114 188 188 (A_188 hw) ((4 : Int).toNat)
                                have h39134 : (0 ≤ z39125 ∧ z39125 ≤ 5) := by rw [← q39126]; exact T39114 188 188 (A_188 hw) ((5 : Int).toNat)
                                have h39135 : (0 ≤ z39127 ∧ z39127 ≤ 5) := by rw [← q39128]; exact T39114 188 188 (A_188 hw) ((6 : Int).toNat)
                                have h39136 : hasD μ39113 188 184 z39086 := digs.hasD h39129.2.2.2.2.2.2.1 (wgT.of (h27.2.2.2.2.2.2.2.2.1).1 (rowB (A_187 hw) ((mF.call (mF.call (mF.call (mF.call (mF.up (mF.up (mF.call mF.refl F24469 rfl) (A_190 hw) u24485 rfl) (A_189 hw) u24488 rfl) F36954 rfl) F37990 rfl) F38944 rfl) F39115 rfl) : mF [188999, 189999, 190999, 191999] w μ10 μ39113) rfl rfl) (rowB (A_184 hw) ((mF.call (mF.call (mF.call (mF.call (mF.up (mF.up (mF.call mF.refl F24469 rfl) (A_190 hw) u24485 rfl) (A_189 hw) u24488 rfl) F36954 rfl) F37990 rfl) F38944 rfl) F39115 rfl) : mF [188999, 189999, 190999, 191999] w μ10 μ39113) rfl rfl))
                                refine mr_iconst (pc := 311) (z := 1) dX12_tries_311 ?_
                                refine mr_istore (pc := 312) (lv' := [(9, iv 1), (8, iv z39086), (0, .ref 106), (3, iv z36946), (6, iv z38938), (7, iv z38937)]) dX12_tries_312 (by decide) rfl ?_
                                have L39407 : ∀ (nL39407 : Nat) (z39405 : Int) (μ39406 : mM) (f_k3 : Int) (f_hs : Int), mT w μ39406 → mF [191999] w μ39113 μ39406 → cnt μ39406 191 46656 = f_k3 → μ39406 191 (z39086.toNat) = f_hs → (1 ≤ z39405 ∧ z39405 ≤ 7) → (f_k3 = f_k2 + f_hs) → wgT μ39406 187 184 → hoP (trE μ) (μ39113 191) (μ39406 191) (z39086).toNat z39405 → (8 - z39405) < (nL39407 : Int) → sV (gG l D c H0 sa) mX12_tries (sRm 3 0 0) (sZ (gG l D c H0 sa) 0 0 (qI w [187999, 188999, 189999, 190999, 191999] μ (fun z μ1 => ((-2147483648) ≤ z ∧ z ≤ 2147483647) ∧ (trA (trE μ) (trP μ) (trr μ) (trN μ).toNat p1 z) ∧ True))) 314 [(0, .ref 106), (3, iv z36946), (6, iv z38938), (7, iv z38937), (8, iv z39086), (9, iv z39405)] [] (mk w μ39406) 0 0 := by
                                  intro nL39407
                                  induction nL39407 with
                                  | zero => intro z39405 μ39406 f_k3 f_hs T39409 F39410 q39416 q39417 h39408 h39412 R39413 R39414 h39415; exact ((vc_X12_tries_v_60 h39415 (by rw [← q39416]; exact cnt_rng (fun i => T39409 191 191 (A_191 hw) i) 46656) h39412 h38946 h38947 h37998 h38955 h38941 h39408)).elim
                                  | succ nL39407 ih39418 =>
                                    intro z39405 μ39406 f_k3 f_hs T39409 F39410 q39416 q39417 h39408 h39412 R39413 R39414 h39415
                                    have h39419 : 0 ≤ f_k3 ∧ f_k3 ≤ 46656 := by rw [← q39416]; exact cnt_rng (fun i => T39409 191 191 (A_191 hw) i) 46656
                                    have h39420 : (0 ≤ f_hs ∧ f_hs ≤ 1) := by rw [← q39417]; exact T39409 191 191 (A_191 hw) (z39086.toNat)
                                    refine mr_iload (pc := 314) (z := z39405) dX12_tries_314 rfl ?_
                                    refine mr_bipush (pc := 316) (z := 6) dX12_tries_316 (by decide) ?_
                                    refine mr_icmp_gt (pc := 318) (tgt := 374) dX12_tries_318 (by decide) (r32 h39408 rfl) (r32 (rR (x := 6)) rfl) (fun h39421 => ?_) (fun h39421 => ?_)
                                    · have h39422 : 7 ≤ z39405 ∧ z39405 ≤ 7 := (vc_X12_isRest_14 h39421 h39408)
                                      have h39423 := hoS.put (E := trE μ) (P := trP μ) (r := trr μ) (N := trN μ) (by rw [(rowB (A_191 hw) ((mF.call mF.refl F39115 rfl) : mF [188999] w μ38939 μ39113) rfl rfl)]; exact R38950) R39414 (by have h := (vc_X12_tries_v_62 h24482 h39089 h27.1 h24483 h39088); have e := (cnP.N (h27.2.2.2.2.2.2.2.2.1).2 (rowB (A_184 hw) ((mF.call mF.refl F12 rfl) : mF [187999] w μ μ10) rfl rfl)); show ((((z39086).toNat : Nat) : Int)) < wgk (μ 184) 6; omega) (trB.rch R36960 (vc_X12_tries_v_63 h36957 h37104 h38948 h39083 h36956 h37105 h36950 h36949 h39085) (((congrFun (rowB (A_190 hw) ((mF.call (mF.call (mF.call (mF.call mF.refl F37990 rfl) F38944 rfl) F39115 rfl) F39410 rfl) : mF [188999, 191999] w μ36947 μ39406) rfl rfl) _).symm.trans (F39410.f (A_190 hw) rfl (F39115.f (A_190 hw) rfl q39087))).trans (vc_X12_tries_v_64 h39089 h24482 h27.1 h24483 h39088))) (fun t => nxP.lt (fun p _ _ => (hT 184 184 (A_184 hw) p).1) (by have h := (vc_X12_tries_v_62 h24482 h39089 h27.1 h24483 h39088); have e := (cnP.N (h27.2.2.2.2.2.2.2.2.1).2 (rowB (A_184 hw) ((mF.call mF.refl F12 rfl) : mF [187999] w μ μ10) rfl rfl)); show ((((z39086).toNat : Nat) : Int)) < wgk (μ 184) 6; omega)) ((F39115.f (A_191 hw) rfl q39091).trans (vc_X12_goes_7 h39093 h39094))
                                      refine mr_iload (pc := 374) (z := z38938) dX12_tries_374 rfl ?_
                                      refine mr_if_ne (pc := 376) (tgt := 389) dX12_tries_376 (by decide) (r32 h38941 rfl) (fun h39424 => ?_) (fun h39424 => ?_)
                                      · have h39425 : 1 ≤ z38938 ∧ z38938 ≤ 1 := (vc_X12_tries_v_65 h39424 h38947 h37998 h38955 h38941)
                                        refine mr_iconst (pc := 389) (z := 1) dX12_tries_389 ?_
                                        refine sv_goto (pc := 390) (tgt := 394) dX12_tries_390 (by decide) ?_
                                        refine mr_istore (pc := 394) (lv' := [(6, iv 1), (0, .ref 106), (3, iv z36946), (7, iv z38937), (8, iv z39086), (9, iv z39405)]) dX12_tries_394 (by decide) rfl ?_
                                        refine mr_iinc (pc := 396) (lv' := [(7, iv (z38937 + (-1))), (6, iv 1), (0, .ref 106), (3, iv z36946), (8, iv z39086), (9, iv z39405)]) dX12_tries_396 rfl (by decide) rfl ?_
                                        refine sv_goto (pc := 399) (tgt := 278) dX12_tries_399 (by decide) ?_
                                        refine mr_lvS (lv' := [(0, .ref 106), (3, iv z36946), (6, iv 1), (7, iv (z38937 + (-1)))]) (List.forall_mem_cons.mpr ⟨rfl, List.forall_mem_cons.mpr ⟨rfl, List.forall_mem_cons.mpr ⟨rfl, List.forall_mem_cons.mpr ⟨rfl, fun _ h => absurd h List.not_mem_nil⟩⟩⟩⟩) ?_
                                        exact ih38954 1 (z38937 + (-1)) μ39406 f_k3 T39409 (mF.call (mF.call (mF.call mF.refl F38944 rfl) F39115 rfl) F39410 rfl) q39416 (rW (c := 0) (d := 1) (rR (x := 1)) rfl) (rW (c := (-1)) (d := 46655) (rAdd (e := (-1)) (f := 46654) h39085 (rR (x := (-1))) rfl) rfl) (vc_X12_tries_v_66 h38946 h38947 h39412 h39424 h39420 h37998 h38955 h39419 h39425) (vc_X12_tries_v_67 h38946 h38947 h39412 h39424 h39420 h37998 h38955 h39419 h39425) (vc_X12_tries_v_68 h36957 h37104 h38948 h39083 h36956 h37105 h36950 h36949 h39085) (wgT.of (h27.2.2.2.2.2.2.2.2.1).1 (rowB (A_187 hw) ((mF.call (mF.call (mF.call (mF.call (mF.call (mF.up (mF.up (mF.call mF.refl F24469 rfl) (A_190 hw) u24485 rfl) (A_189 hw) u24488 rfl) F36954 rfl) F37990 rfl) F38944 rfl) F39115 rfl) F39410 rfl) : mF [188999, 189999, 190999, 191999] w μ10 μ39406) rfl rfl) (rowB (A_184 hw) ((mF.call (mF.call (mF.call (mF.call (mF.call (mF.up (mF.up (mF.call mF.refl F24469 rfl) (A_190 hw) u24485 rfl) (A_189 hw) u24488 rfl) F36954 rfl) F37990 rfl) F38944 rfl) F39115 rfl) F39410 rfl) : mF [188999, 189999, 190999, 191999] w μ10 μ39406) rfl rfl)) h39423 (Or.inl rfl) (vc_X12_tries_v_69 (nS h38952) h38948 h39083 h36957 h37104 h37105 h36949 h39085)
                                      have h39426 : 0 ≤ z38938 ∧ z38938 ≤ 0 := (vc_X12_tries_v_70 h39424 h38947 h37998 h38955 h38941)
                                      refine sv_aload_n (pc := 379) dX12_tries_379 rfl rfl ?_
                                      refine gf_X12_125 (pc := 380) dX12_tries_380 wF_X12_536 (A_106 hw) T39409 ?_
                                      refine mr_iload (pc := 383) (z := z39086) dX12_tries_383 rfl ?_
                                      refine lk_191 (pc := 385) dX12_tries_385 (A_191 hw) (rIx (n := 46656) h39088 rfl) q39417 ?_
                                      refine mr_if_eq (pc := 386) (tgt := 393) dX12_tries_386 (by decide) (r32 h39420 rfl) (fun h39427 => ?_) (fun h39427 => ?_)
                                      · have h39428 : 0 ≤ f_hs ∧ f_hs ≤ 0 := (vc_X12_tries_v_71 h39427 h39412 h39420 h38955 h39419)
                                        refine mr_iconst (pc := 393) (z := 0) dX12_tries_393 ?_
                                        refine mr_istore (pc := 394) (lv' := [(6, iv 0), (0, .ref 106), (3, iv z36946), (7, iv z38937), (8, iv z39086), (9, iv z39405)]) dX12_tries_394 (by decide) rfl ?_
                                        refine mr_iinc (pc := 396) (lv' := [(7, iv (z38937 + (-1))), (6, iv 0), (0, .ref 106), (3, iv z36946), (8, iv z39086), (9, iv z39405)]) dX12_tries_396 rfl (by decide) rfl ?_
                                        refine sv_goto (pc := 399) (tgt := 278) dX12_tries_399 (by decide) ?_
                                        refine mr_lvS (lv' := [(0, .ref 106), (3, iv z36946), (6, iv 0), (7, iv (z38937 + (-1)))]) (List.forall_mem_cons.mpr ⟨rfl, List.forall_mem_cons.mpr ⟨rfl, List.forall_mem_cons.mpr ⟨rfl, List.forall_mem_cons.mpr ⟨rfl, fun _ h => absurd h List.not_mem_nil⟩⟩⟩⟩) ?_
                                        exact ih38954 0 (z38937 + (-1)) μ39406 f_k3 T39409 (mF.call (mF.call (mF.call mF.refl F38944 rfl) F39115 rfl) F39410 rfl) q39416 (rW (c := 0) (d := 1) (rR (x := 0)) rfl) (rW (c := (-1)) (d := 46655) (rAdd (e := (-1)) (f := 46654) h39085 (rR (x := (-1))) rfl) rfl) (vc_X12_tries_v_72 h38946 h38947 h39412 h39424 h39427 h39428 h37998 h38955 h39419 h39426) (vc_X12_tries_v_73 h38946 h38947 h39412 h39424 h39427 h39428 h37998 h38955 h39419 h39426) (vc_X12_tries_v_68 h36957 h37104 h38948 h39083 h36956 h37105 h36950 h36949 h39085) (wgT.of (h27.2.2.2.2.2.2.2.2.1).1 (rowB (A_187 hw) ((mF.call (mF.call (mF.call (mF.call (mF.call (mF.up (mF.up (mF.call mF.refl F24469 rfl) (A_190 hw) u24485 rfl) (A_189 hw) u24488 rfl) F36954 rfl) F37990 rfl) F38944 rfl) F39115 rfl) F39410 rfl) : mF [188999, 189999, 190999, 191999] w μ10 μ39406) rfl rfl) (rowB (A_184 hw) ((mF.call (mF.call (mF.call (mF.call (mF.call (mF.up (mF.up (mF.call mF.refl F24469 rfl) (A_190 hw) u24485 rfl) (A_189 hw) u24488 rfl) F36954 rfl) F37990 rfl) F38944 rfl) F39115 rfl) F39410 rfl) : mF [188999, 189999, 190999, 191999] w μ10 μ39406) rfl rfl)) h39423 ((R38951).elim (fun h => absurd h (vc_X12_tries_v_74 h38947 h39424 h38946 h39412 h39428 h37998 h38955 h39419 h39426)) (fun h => Or.inr (hoC.put (by rw [(rowB (A_191 hw) ((mF.call mF.refl F39115 rfl) : mF [188999] w μ38939 μ39113) rfl rfl)]; exact h) R39414 (vc_X12_tries_v_75 h39421 h39422) ((F39115.f (A_191 hw) rfl q39091).trans (vc_X12_goes_7 h39093 h39094)) (q39417.trans (vc_X12_tries_v_76 h39412 h39427 h38946 h38947 h39428 h37998 h38955 h39419 h39426)) (((congrFun (rowB (A_190 hw) ((mF.call (mF.call (mF.call (mF.call mF.refl F37990 rfl) F38944 rfl) F39115 rfl) F39410 rfl) : mF [188999, 191999] w μ36947 μ39406) rfl rfl) _).symm.trans (F39410.f (A_190 hw) rfl (F39115.f (A_190 hw) rfl q39087))).trans (vc_X12_tries_v_64 h39089 h24482 h27.1 h24483 h39088)) (vc_X12_tries_v_50 h38948 h39083 h36957 h37104 h37105 h36949 h39085)))) (vc_X12_tries_v_69 (nS h38952) h38948 h39083 h36957 h37104 h37105 h36949 h39085)
                                      have h39429 : 1 ≤ f_hs ∧ f_hs ≤ 1 := (vc_X12_tries_v_77 h39427 h39412 h39420 h38955 h39419)
                                      refine mr_iconst (pc := 389) (z := 1) dX12_tries_389 ?_
                                      refine sv_goto (pc := 390) (tgt := 394) dX12_tries_390 (by decide) ?_
                                      refine mr_istore (pc := 394) (lv' := [(6, iv 1), (0, .ref 106), (3, iv z36946), (7, iv z38937), (8, iv z39086), (9, iv z39405)]) dX12_tries_394 (by decide) rfl ?_
                                      refine mr_iinc (pc := 396) (lv' := [(7, iv (z38937 + (-1))), (6, iv 1), (0, .ref 106), (3, iv z36946), (8, iv z39086), (9, iv z39405)]) dX12_tries_396 rfl (by decide) rfl ?_
                                      refine sv_goto (pc := 399) (tgt := 278) dX12_tries_399 (by decide) ?_
                                      refine mr_lvS (lv' := [(0, .ref 106), (3, iv z36946), (6, iv 1), (7, iv (z38937 + (-1)))]) (List.forall_mem_cons.mpr ⟨rfl, List.forall_mem_cons.mpr ⟨rfl, List.forall_mem_cons.mpr ⟨rfl, List.forall_mem_cons.mpr ⟨rfl, fun _ h => absurd h List.not_mem_nil⟩⟩⟩⟩) ?_
                                      exact ih38954 1 (z38937 + (-1)) μ39406 f_k3 T39409 (mF.call (mF.call (mF.call mF.refl F38944 rfl) F39115 rfl) F39410 rfl) q39416 (rW (c := 0) (d := 1) (rR (x := 1)) rfl) (rW (c := (-1)) (d := 46655) (rAdd (e := (-1)) (f := 46654) h39085 (rR (x := (-1))) rfl) rfl) (vc_X12_tries_v_78 h38946 h38947 h39412 h39424 h39427 h39429 h37998 h38955 h39419 h39426) (vc_X12_tries_v_79 h38946 h38947 h39412 h39424 h39427 h39429 h37998 h38955 h39419 h39426) (vc_X12_tries_v_68 h36957 h37104 h38948 h39083 h36956 h37105 h36950 h36949 h39085) (wgT.of (h27.2.2.2.2.2.2.2.2.1).1 (rowB (A_187 hw) ((mF.call (mF.call (mF.call (mF.call (mF.call (mF.up (mF.up (mF.call mF.refl F24469 rfl) (A_190 hw) u24485 rfl) (A_189 hw) u24488 rfl) F36954 rfl) F37990 rfl) F38944 rfl) F39115 rfl) F39410 rfl) : mF [188999, 189999, 190999, 191999] w μ10 μ39406) rfl rfl) (rowB (A_184 hw) ((mF.call (mF.call (mF.call (mF.call (mF.call (mF.up (mF.up (mF.call mF.refl F24469 rfl) (A_190 hw) u24485 rfl) (A_189 hw) u24488 rfl) F36954 rfl) F37990 rfl) F38944 rfl) F39115 rfl) F39410 rfl) : mF [188999, 189999, 190999, 191999] w μ10 μ39406) rfl rfl)) h39423 (Or.inl rfl) (vc_X12_tries_v_69 (nS h38952) h38948 h39083 h36957 h37104 h37105 h36949 h39085)
                                    have h39430 : 1 ≤ z39405 ∧ z39405 ≤ 6 := (vc_X12_isRest_15 h39421 h39408)
                                    refine sv_aload_n (pc := 321) dX12_tries_321 rfl rfl ?_
                                    refine gf_X12_125 (pc := 322) dX12_tries_322 wF_X12_536 (A_106 hw) T39409 ?_
                                    refine mr_iload (pc := 325) (z := z39086) dX12_tries_325 rfl ?_
                                    refine lk_191 (pc := 327) dX12_tries_327 (A_191 hw) (rIx (n := 46656) h39088 rfl) q39417 ?_
                                    refine mr_if_ne (pc := 328) (tgt := 374) dX12_tries_328 (by decide) (r32 h39420 rfl) (fun h39431 => ?_) (fun h39431 => ?_)
                                    · have h39432 : 1 ≤ f_hs ∧ f_hs ≤ 1 := (vc_X12_tries_v_77 h39431 h39412 h39420 h38955 h39419)
                                      have h39433 := hoS.put (E := trE μ) (P := trP μ) (r := trr μ) (N := trN μ) (by rw [(rowB (A_191 hw) ((mF.call mF.refl F39115 rfl) : mF [188999] w μ38939 μ39113) rfl rfl)]; exact R38950) R39414 (by have h := (vc_X12_tries_v_62 h24482 h39089 h27.1 h24483 h39088); have e := (cnP.N (h27.2.2.2.2.2.2.2.2.1).2 (rowB (A_184 hw) ((mF.call mF.refl F12 rfl) : mF [187999] w μ μ10) rfl rfl)); show ((((z39086).toNat : Nat) : Int)) < wgk (μ 184) 6; omega) (trB.rch R36960 (vc_X12_tries_v_63 h36957 h37104 h38948 h39083 h36956 h37105 h36950 h36949 h39085) (((congrFun (rowB (A_190 hw) ((mF.call (mF.call (mF.call (mF.call mF.refl F37990 rfl) F38944 rfl) F39115 rfl) F39410 rfl) : mF [188999, 191999] w μ36947 μ39406) rfl rfl) _).symm.trans (F39410.f (A_190 hw) rfl (F39115.f (A_190 hw) rfl q39087))).trans (vc_X12_tries_v_64 h39089 h24482 h27.1 h24483 h39088))) (fun t => nxP.lt (fun p _ _ => (hT 184 184 (A_184 hw) p).1) (by have h := (vc_X12_tries_v_62 h24482 h39089 h27.1 h24483 h39088); have e := (cnP.N (h27.2.2.2.2.2.2.2.2.1).2 (rowB (A_184 hw) ((mF.call mF.refl F12 rfl) : mF [187999] w μ μ10) rfl rfl)); show ((((z39086).toNat : Nat) : Int)) < wgk (μ 184) 6; omega)) ((F39115.f (A_191 hw) rfl q39091).trans (vc_X12_goes_7 h39093 h39094))
                                      refine mr_iload (pc := 374) (z := z38938) dX12_tries_374 rfl ?_
                                      refine mr_if_ne (pc := 376) (tgt := 389) dX12_tries_376 (by decide) (r32 h38941 rfl) (fun h39434 => ?_) (fun h39434 => ?_)
                                      · have h39435 : 1 ≤ z38938 ∧ z38938 ≤ 1 := (vc_X12_tries_v_65 h39434 h38947 h37998 h38955 h38941)
                                        refine mr_iconst (pc := 389) (z := 1) dX12_tries_389 ?_
                                        refine sv_goto (pc := 390) (tgt := 394) dX12_tries_390 (by decide) ?_
                                        refine mr_istore (pc := 394) (lv' := [(6, iv 1), (0, .ref 106), (3, iv z36946), (7, iv z38937), (8, iv z39086), (9, iv z39405)]) dX12_tries_394 (by decide) rfl ?_
                                        refine mr_iinc (pc := 396) (lv' := [(7, iv (z38937 + (-1))), (6, iv 1), (0, .ref 106), (3, iv z36946), (8, iv z39086), (9, iv z39405)]) dX12_tries_396 rfl (by decide) rfl ?_
                                        refine sv_goto (pc := 399) (tgt := 278) dX12_tries_399 (by decide) ?_
                                        refine mr_lvS (lv' := [(0, .ref 106), (3, iv z36946), (6, iv 1), (7, iv (z38937 + (-1)))]) (List.forall_mem_cons.mpr ⟨rfl, List.forall_mem_cons.mpr ⟨rfl, List.forall_mem_cons.mpr ⟨rfl, List.forall_mem_cons.mpr ⟨rfl, fun _ h => absurd h List.not_mem_nil⟩⟩⟩⟩) ?_
                                        exact ih38954 1 (z38937 + (-1)) μ39406 f_k3 T39409 (mF.call (mF.call (mF.call mF.refl F38944 rfl) F39115 rfl) F39410 rfl) q39416 (rW (c := 0) (d := 1) (rR (x := 1)) rfl) (rW (c := (-1)) (d := 46655) (rAdd (e := (-1)) (f := 46654) h39085 (rR (x := (-1))) rfl) rfl) (vc_X12_tries_v_81 h38946 h38947 h39412 h39431 h39434 h39432 h37998 h38955 h39419 h39435) (vc_X12_tries_v_82 h38946 h38947 h39412 h39431 h39434 h39432 h37998 h38955 h39419 h39435) (vc_X12_tries_v_68 h36957 h37104 h38948 h39083 h36956 h37105 h36950 h36949 h39085) (wgT.of (h27.2.2.2.2.2.2.2.2.1).1 (rowB (A_187 hw) ((mF.call (mF.call (mF.call (mF.call (mF.call (mF.up (mF.up (mF.call mF.refl F24469 rfl) (A_190 hw) u24485 rfl) (A_189 hw) u24488 rfl) F36954 rfl) F37990 rfl) F38944 rfl) F39115 rfl) F39410 rfl) : mF [188999, 189999, 190999, 191999] w μ10 μ39406) rfl rfl) (rowB (A_184 hw) ((mF.call (mF.call (mF.call (mF.call (mF.call (mF.up (mF.up (mF.call mF.refl F24469 rfl) (A_190 hw) u24485 rfl) (A_189 hw) u24488 rfl) F36954 rfl) F37990 rfl) F38944 rfl) F39115 rfl) F39410 rfl) : mF [188999, 189999, 190999, 191999] w μ10 μ39406) rfl rfl)) h39433 (Or.inl rfl) (vc_X12_tries_v_69 (nS h38952) h38948 h39083 h36957 h37104 h37105 h36949 h39085)
                                      have h39436 : 0 ≤ z38938 ∧ z38938 ≤ 0 := (vc_X12_tries_v_70 h39434 h38947 h37998 h38955 h38941)
                                      refine sv_aload_n (pc := 379) dX12_tries_379 rfl rfl ?_
                                      refine gf_X12_125 (pc := 380) dX12_tries_380 wF_X12_536 (A_106 hw) T39409 ?_
                                      refine mr_iload (pc := 383) (z := z39086) dX12_tries_383 rfl ?_
                                      refine lk_191 (pc := 385) dX12_tries_385 (A_191 hw) (rIx (n := 46656) h39088 rfl) q39417 ?_
                                      refine mr_if_eq (pc := 386) (tgt := 393) dX12_tries_386 (by decide) (r32 h39432 rfl) (fun h => ((vc_X12_letWay_13 h h39432)).elim) (fun _ => ?_)
                                      refine mr_iconst (pc := 389) (z := 1) dX12_tries_389 ?_
                                      refine sv_goto (pc := 390) (tgt := 394) dX12_tries_390 (by decide) ?_
                                      refine mr_istore (pc := 394) (lv' := [(6, iv 1), (0, .ref 106), (3, iv z36946), (7, iv z38937), (8, iv z39086), (9, iv z39405)]) dX12_tries_394 (by decide) rfl ?_
                                      refine mr_iinc (pc := 396) (lv' := [(7, iv (z38937 + (-1))), (6, iv 1), (0, .ref 106), (3, iv z36946), (8, iv z39086), (9, iv z39405)]) dX12_tries_396 rfl (by decide) rfl ?_
                                      refine sv_goto (pc := 399) (tgt := 278) dX12_tries_399 (by decide) ?_
                                      refine mr_lvS (lv' := [(0, .ref 106), (3, iv z36946), (6, iv 1), (7, iv (z38937 + (-1)))]) (List.forall_mem_cons.mpr ⟨rfl, List.forall_mem_cons.mpr ⟨rfl, List.forall_mem_cons.mpr ⟨rfl, List.forall_mem_cons.mpr ⟨rfl, fun _ h => absurd h List.not_mem_nil⟩⟩⟩⟩) ?_
                                      exact ih38954 1 (z38937 + (-1)) μ39406 f_k3 T39409 (mF.call (mF.call (mF.call mF.refl F38944 rfl) F39115 rfl) F39410 rfl) q39416 (rW (c := 0) (d := 1) (rR (x := 1)) rfl) (rW (c := (-1)) (d := 46655) (rAdd (e := (-1)) (f := 46654) h39085 (rR (x := (-1))) rfl) rfl) (vc_X12_tries_v_84 h38946 h38947 h39412 h39431 h39434 h39432 h37998 h38955 h39419 h39436) (vc_X12_tries_v_85 h38946 h38947 h39412 h39431 h39434 h39432 h37998 h38955 h39419 h39436) (vc_X12_tries_v_68 h36957 h37104 h38948 h39083 h36956 h37105 h36950 h36949 h39085) (wgT.of (h27.2.2.2.2.2.2.2.2.1).1 (rowB (A_187 hw) ((mF.call (mF.call (mF.call (mF.call (mF.call (mF.up (mF.up (mF.call mF.refl F24469 rfl) (A_190 hw) u24485 rfl) (A_189 hw) u24488 rfl) F36954 rfl) F37990 rfl) F38944 rfl) F39115 rfl) F39410 rfl) : mF [188999, 189999, 190999, 191999] w μ10 μ39406) rfl rfl) (rowB (A_184 hw) ((mF.call (mF.call (mF.call (mF.call (mF.call (mF.up (mF.up (mF.call mF.refl F24469 rfl) (A_190 hw) u24485 rfl) (A_189 hw) u24488 rfl) F36954 rfl) F37990 rfl) F38944 rfl) F39115 rfl) F39410 rfl) : mF [188999, 189999, 190999, 191999] w μ10 μ39406) rfl rfl)) h39433 (Or.inl rfl) (vc_X12_tries_v_69 (nS h38952) h38948 h39083 h36957 h37104 h37105 h36949 h39085)
                                    have h39437 : 0 ≤ f_hs ∧ f_hs ≤ 0 := (vc_X12_tries_v_71 h39431 h39412 h39420 h38955 h39419)
                                    refine sv_aload_n (pc := 331) dX12_tries_331 rfl rfl ?_
                                    refine gf_X12_125 (pc := 332) dX12_tries_332 wF_X12_536 (A_106 hw) T39409 ?_
                                    refine mr_iload (pc := 335) (z := z39086) dX12_tries_335 rfl ?_
                                    refine sv_aload_n (pc := 337) dX12_tries_337 rfl rfl ?_
                                    refine gf_X12_125 (pc := 338) dX12_tries_338 wF_X12_536 (A_106 hw) T39409 ?_
                                    refine mr_iload (pc := 341) (z := z39086) dX12_tries_341 rfl ?_
                                    refine sv_aload_n (pc := 343) dX12_tries_343 rfl rfl ?_
                                    refine mr_iload (pc := 344) (z := z39405) dX12_tries_344 rfl ?_
                                    obtain ⟨z39438, q39439⟩ : ∃ z, μ39406 184 (z39405.toNat) = z := ⟨_, rfl⟩
                                    have h39440 : (0 ≤ z39438 ∧ z39438 ≤ 5) := by rw [← q39439]; exact T39409 184 184 (A_184 hw) (z39405.toNat)
                                    refine mr_cVP (pc := 346) (c_X12_acted_w hw T39409 h39430 (F39410.f (A_188 hw) rfl q39118) (F39410.f (A_188 hw) rfl q39120) (F39410.f (A_188 hw) rfl q39122) (F39410.f (A_188 hw) rfl q39124) (F39410.f (A_188 hw) rfl q39126) (F39410.f (A_188 hw) rfl q39128) (F39410.f (A_184 hw) rfl (F39115.f (A_184 hw) rfl q39096)) (F39410.f (A_184 hw) rfl (F39115.f (A_184 hw) rfl q39099)) (F39410.f (A_184 hw) rfl (F39115.f (A_184 hw) rfl q39102)) (F39410.f (A_184 hw) rfl (F39115.f (A_184 hw) rfl q39105)) (F39410.f (A_184 hw) rfl (F39115.f (A_184 hw) rfl q39108)) (F39410.f (A_184 hw) rfl (F39115.f (A_184 hw) rfl q39111)) q39439 (vc_X12_isRest_18 h39129.1 h39097 h39130) (vc_X12_isRest_18 h39129.2.1 h39100 h39131) (vc_X12_isRest_18 h39129.2.2.1 h39103 h39132) (vc_X12_isRest_18 h39129.2.2.2.1 h39106 h39133) (vc_X12_isRest_18 h39129.2.2.2.2.1 h39109 h39134) (vc_X12_isRest_18 h39129.2.2.2.2.2.1 h39112 h39135)) (gOk _ _ _ _ _) dX12_tries_346 (tX12_acted _ _ _ _ _) ⟨wV_X12_acted, wL_X12_acted⟩ wM_X12_725 (gCX12 _ _ _ _ _) rfl (A_106 hw) rfl ⟨le_t rfl, le_t rfl⟩ ⟨le_t rfl, le_t rfl⟩ rfl (le_t rfl) fun z39445 h39444 => ?_
                                    refine sv_aload_n (pc := 349) dX12_tries_349 rfl rfl ?_
                                    refine gf_X12_122 (pc := 350) dX12_tries_350 wF_X12_526 (A_106 hw) T39409 ?_
                                    refine mr_iload (pc := 353) (z := z39405) dX12_tries_353 rfl ?_
                                    refine la_188 (pc := 355) dX12_tries_355 (A_188 hw) T39409 (rIx (n := 7) h39430 rfl) fun z39446 q39447 h39448 => ?_
                                    refine mr_isub (pc := 356) (x := z39445) (y := z39446) dX12_tries_356 ?_
                                    refine sv_aload_n (pc := 357) dX12_tries_357 rfl rfl ?_
                                    refine gf_X12_121 (pc := 358) dX12_tries_358 wF_X12_523 (A_106 hw) T39409 ?_
                                    refine mr_iload (pc := 361) (z := z39405) dX12_tries_361 rfl ?_
                                    refine la_187 (pc := 363) dX12_tries_363 (A_187 hw) T39409 (rIx (n := 8) h39430 rfl) fun z39449 q39450 h39451 => ?_
                                    refine mr_imul (pc := 364) (x := (z39445 - z39446)) (y := z39449) dX12_tries_364 ?_
                                    refine mr_gen (P := fun z => (-233280) ≤ z ∧ z ≤ 233280) (rMulS (m := 5) (k := 46656) (e := 233280) (rSub (e := (-5)) (f := 5) h39444.1 h39448 rfl) h39451 (by decide) rfl) fun z39452 q39453 h39454 => ?_
                                    refine mr_iadd (pc := 365) (x := z39086) (y := z39452) dX12_tries_365 ?_
                                    have h39455 : 0 ≤ (z39086 + z39452) ∧ (z39086 + z39452) < z14 := net_t (radix.keep h27.2.2.2.2.2.2.2.1 ((mF.call (mF.call (mF.call (mF.call (mF.call (mF.up (mF.up (mF.call mF.refl F24469 rfl) (A_190 hw) u24485 rfl) (A_189 hw) u24488 rfl) F36954 rfl) F37990 rfl) F38944 rfl) F39115 rfl) F39410 rfl) : mF [188999, 189999, 190999, 191999] w μ10 μ39406) (A_187 hw) (A_184 hw) (fun _ => rfl) (fun _ => rfl)) (digs.keep h39129.2.2.2.2.2.2.1 ((mF.call mF.refl F39410 rfl) : mF [191999] w μ39113 μ39406) (A_188 hw) (A_187 hw) (A_184 hw) (fun _ => rfl) (fun _ => rfl) (fun _ => rfl)) (vc_X12_tries_v_92 h39421 h39430) (vc_X12_tries_v_62 h24482 h39089 h27.1 h24483 h39088) q39450 q39439 q39447 (vc_X12_tries_v_93 h39444.2.1 h39440 h39444.1) (vc_X12_tries_v_94 h39444.2.1 h39440 h39444.1) q39453
                                    have h39456 := (nxP.is (hasD.of h39136 (rowB (A_188 hw) ((mF.call mF.refl F39410 rfl) : mF [191999] w μ39113 μ39406) rfl rfl) (rowB (A_184 hw) ((mF.call mF.refl F39410 rfl) : mF [191999] w μ39113 μ39406) rfl rfl)) (wgT.of (h27.2.2.2.2.2.2.2.2.1).1 (rowB (A_187 hw) ((mF.call (mF.call (mF.call (mF.call (mF.call (mF.up (mF.up (mF.call mF.refl F24469 rfl) (A_190 hw) u24485 rfl) (A_189 hw) u24488 rfl) F36954 rfl) F37990 rfl) F38944 rfl) F39115 rfl) F39410 rfl) : mF [188999, 189999, 190999, 191999] w μ10 μ39406) rfl rfl) (rowB (A_184 hw) ((mF.call (mF.call (mF.call (mF.call (mF.call (mF.up (mF.up (mF.call mF.refl F24469 rfl) (A_190 hw) u24485 rfl) (A_189 hw) u24488 rfl) F36954 rfl) F37990 rfl) F38944 rfl) F39115 rfl) F39410 rfl) : mF [188999, 189999, 190999, 191999] w μ10 μ39406) rfl rfl)) (rowB (A_184 hw) ((mF.call (mF.call (mF.call (mF.call (mF.call (mF.up (mF.up (mF.call (mF.call mF.refl F12 rfl) F24469 rfl) (A_190 hw) u24485 rfl) (A_189 hw) u24488 rfl) F36954 rfl) F37990 rfl) F38944 rfl) F39115 rfl) F39410 rfl) : mF [187999, 188999, 189999, 190999, 191999] w μ μ39406) rfl rfl) (rowB (A_185 hw) ((mF.call (mF.call (mF.call (mF.call (mF.call (mF.up (mF.up (mF.call (mF.call mF.refl F12 rfl) F24469 rfl) (A_190 hw) u24485 rfl) (A_189 hw) u24488 rfl) F36954 rfl) F37990 rfl) F38944 rfl) F39115 rfl) F39410 rfl) : mF [187999, 188999, 189999, 190999, 191999] w μ μ39406) rfl rfl) (rowB (A_186 hw) ((mF.call (mF.call (mF.call (mF.call (mF.call (mF.up (mF.up (mF.call (mF.call mF.refl F12 rfl) F24469 rfl) (A_190 hw) u24485 rfl) (A_189 hw) u24488 rfl) F36954 rfl) F37990 rfl) F38944 rfl) F39115 rfl) F39410 rfl) : mF [187999, 188999, 189999, 190999, 191999] w μ μ39406) rfl rfl) (fun i => T39409 186 186 (A_186 hw) i) (vc_X12_tries_v_95 h39089 h39455 h24482 h27.1 h24483 h39088 h39454) (vc_X12_tries_v_92 h39421 h39430) h39444.2.2.1 q39447 q39450 (by rw [q39453]) (vc_X12_tries_v_96 h39089 h39455 h24482 h27.1 h24483 h39088 h39454))
                                    refine la_191 (pc := 366) dX12_tries_366 (A_191 hw) T39409 (vc_X12_tries_v_97 h39089 h39455 h24482 h27.1 h24483 h39088 h39454) fun z39457 q39458 h39459 => ?_
                                    refine ss_191 (pc := 367) dX12_tries_367 (A_191 hw) T39409 (rIx (n := 46656) h39088 rfl) h39459 fun μ39460 u39461 T39462 => ?_
                                    refine mr_iinc (pc := 368) (lv' := [(9, iv (z39405 + 1)), (0, .ref 106), (3, iv z36946), (6, iv z38938), (7, iv z38937), (8, iv z39086)]) dX12_tries_368 rfl (by decide) rfl ?_
                                    refine sv_goto (pc := 371) (tgt := 314) dX12_tries_371 (by decide) ?_
                                    refine mr_lvS (lv' := [(0, .ref 106), (3, iv z36946), (6, iv z38938), (7, iv z38937), (8, iv z39086), (9, iv (z39405 + 1))]) (List.forall_mem_cons.mpr ⟨rfl, List.forall_mem_cons.mpr ⟨rfl, List.forall_mem_cons.mpr ⟨rfl, List.forall_mem_cons.mpr ⟨rfl, List.forall_mem_cons.mpr ⟨rfl, List.forall_mem_cons.mpr ⟨rfl, fun _ h => absurd h List.not_mem_nil⟩⟩⟩⟩⟩⟩) ?_
                                    exact ih39418 (z39405 + 1) μ39460 ((f_k3 + z39457) - f_hs) z39457 T39462 (mF.up (mF.call mF.refl F39410 rfl) (A_191 hw) u39461 rfl) (cntU u39461 (rIx (n := 46656) h39088 rfl) rfl q39416 q39417) u39461.1 (rW (c := 1) (d := 7) (rAdd (e := 2) (f := 7) h39430 (rR (x := 1)) rfl) rfl) (vc_X12_tries_v_98 h38946 h38947 h39412 h39431 h39437 h37998 h38955 h39419 h38941 h39459) (wgT.of (h27.2.2.2.2.2.2.2.2.1).1 (rowB (A_187 hw) ((mF.up (mF.call (mF.call (mF.call (mF.call (mF.call (mF.up (mF.up (mF.call mF.refl F24469 rfl) (A_190 hw) u24485 rfl) (A_189 hw) u24488 rfl) F36954 rfl) F37990 rfl) F38944 rfl) F39115 rfl) F39410 rfl) (A_191 hw) u39461 rfl) : mF [188999, 189999, 190999, 191999] w μ10 μ39460) rfl rfl) (rowB (A_184 hw) ((mF.up (mF.call (mF.call (mF.call (mF.call (mF.call (mF.up (mF.up (mF.call mF.refl F24469 rfl) (A_190 hw) u24485 rfl) (A_189 hw) u24488 rfl) F36954 rfl) F37990 rfl) F38944 rfl) F39115 rfl) F39410 rfl) (A_191 hw) u39461 rfl) : mF [188999, 189999, 190999, 191999] w μ10 μ39460) rfl rfl)) (hoP.next R39414 (q39417.trans (vc_X12_tries_v_100 h39412 h39431 h38946 h38947 h39437 h37998 h38955 h39419 h38941)) ((F39115.f (A_191 hw) rfl q39091).trans (vc_X12_goes_7 h39093 h39094)) (vc_X12_tries_v_92 h39421 h39430) h39456 q39458 (vc_X12_tries_v_101 h39459) u39461.1 (fun s hs => u39461.2 191 s (Or.inr hs))) (vc_X12_isRest_24 (nS h39415) h39421 h39430)
                                refine mr_lvS (lv' := [(0, .ref 106), (3, iv z36946), (6, iv z38938), (7, iv z38937), (8, iv z39086), (9, iv 1)]) (List.forall_mem_cons.mpr ⟨rfl, List.forall_mem_cons.mpr ⟨rfl, List.forall_mem_cons.mpr ⟨rfl, List.forall_mem_cons.mpr ⟨rfl, List.forall_mem_cons.mpr ⟨rfl, List.forall_mem_cons.mpr ⟨rfl, fun _ h => absurd h List.not_mem_nil⟩⟩⟩⟩⟩⟩) ?_
                                exact L39407 8 1 μ39113 f_k2 z39090 T39114 mF.refl (cntF F39115 (A_191 hw) rfl rfl q38953) (F39115.f (A_191 hw) rfl q39091) (rW (c := 1) (d := 7) (rR (x := 1)) rfl) (vc_X12_tries_v_102 h38946 h38947 h39093 h37998 h38955 h38941 h39094) (wgT.of (h27.2.2.2.2.2.2.2.2.1).1 (rowB (A_187 hw) ((mF.call (mF.call (mF.call (mF.call (mF.up (mF.up (mF.call mF.refl F24469 rfl) (A_190 hw) u24485 rfl) (A_189 hw) u24488 rfl) F36954 rfl) F37990 rfl) F38944 rfl) F39115 rfl) : mF [188999, 189999, 190999, 191999] w μ10 μ39113) rfl rfl) (rowB (A_184 hw) ((mF.call (mF.call (mF.call (mF.call (mF.up (mF.up (mF.call mF.refl F24469 rfl) (A_190 hw) u24485 rfl) (A_189 hw) u24488 rfl) F36954 rfl) F37990 rfl) F38944 rfl) F39115 rfl) : mF [188999, 189999, 190999, 191999] w μ10 μ39113) rfl rfl)) (hoP.start ((F39115.f (A_191 hw) rfl q39091).trans (vc_X12_goes_7 h39093 h39094)) vc_X4_isRest_v_11) vc_X12_isRest_25
                              have h39463 : 1 ≤ z39090 ∧ z39090 ≤ 1 := (vc_X12_ring_24 h39093 h39092)
                              refine sv_goto (pc := 302) (tgt := 396) dX12_tries_302 (by decide) ?_
                              refine mr_iinc (pc := 396) (lv' := [(7, iv (z38937 + (-1))), (8, iv z39086), (0, .ref 106), (3, iv z36946), (6, iv z38938)]) dX12_tries_396 rfl (by decide) rfl ?_
                              refine sv_goto (pc := 399) (tgt := 278) dX12_tries_399 (by decide) ?_
                              refine mr_lvS (lv' := [(0, .ref 106), (3, iv z36946), (6, iv z38938), (7, iv (z38937 + (-1)))]) (List.forall_mem_cons.mpr ⟨rfl, List.forall_mem_cons.mpr ⟨rfl, List.forall_mem_cons.mpr ⟨rfl, List.forall_mem_cons.mpr ⟨rfl, fun _ h => absurd h List.not_mem_nil⟩⟩⟩⟩) ?_
                              exact ih38954 z38938 (z38937 + (-1)) μ38939 f_k2 T38943 (mF.call mF.refl F38944 rfl) q38953 h38941 (rW (c := (-1)) (d := 46655) (rAdd (e := (-1)) (f := 46654) h39085 (rR (x := (-1))) rfl) rfl) (vc_X12_tries_v_107 h38946 h38947 h37998 h38955 h38941) (vc_X12_tries_v_108 h38946 h38947 h37998 h38955 h38941) (vc_X12_tries_v_68 h36957 h37104 h38948 h39083 h36956 h37105 h36950 h36949 h39085) (wgT.of (h27.2.2.2.2.2.2.2.2.1).1 (rowB (A_187 hw) ((mF.call (mF.call (mF.call (mF.up (mF.up (mF.call mF.refl F24469 rfl) (A_190 hw) u24485 rfl) (A_189 hw) u24488 rfl) F36954 rfl) F37990 rfl) F38944 rfl) : mF [188999, 189999, 190999, 191999] w μ10 μ38939) rfl rfl) (rowB (A_184 hw) ((mF.call (mF.call (mF.call (mF.up (mF.up (mF.call mF.refl F24469 rfl) (A_190 hw) u24485 rfl) (A_189 hw) u24488 rfl) F36954 rfl) F37990 rfl) F38944 rfl) : mF [188999, 189999, 190999, 191999] w μ10 μ38939) rfl rfl)) R38950 ((R38951).imp id (fun h => hoC.skip h (q39091.trans (vc_X12_best_l_18 h39093 h39463)) (((congrFun (rowB (A_190 hw) ((mF.call (mF.call mF.refl F37990 rfl) F38944 rfl) : mF [188999, 191999] w μ36947 μ38939) rfl rfl) _).symm.trans q39087).trans (vc_X12_tries_v_64 h39089 h24482 h27.1 h24483 h39088)) (vc_X12_tries_v_50 h38948 h39083 h36957 h37104 h37105 h36949 h39085))) (vc_X12_tries_v_69 (nS h38952) h38948 h39083 h36957 h37104 h37105 h36949 h39085)
                          refine mr_lvS (lv' := [(0, .ref 106), (3, iv z36946), (6, iv 0), (7, iv (z36946 - 1))]) (List.forall_mem_cons.mpr ⟨rfl, List.forall_mem_cons.mpr ⟨rfl, List.forall_mem_cons.mpr ⟨rfl, List.forall_mem_cons.mpr ⟨rfl, fun _ h => absurd h List.not_mem_nil⟩⟩⟩⟩) ?_
                          exact L38940 46658 0 (z36946 - 1) μ37986 f_k T37989 mF.refl q37996 (rW (c := 0) (d := 1) (rR (x := 0)) rfl) (rW (c := (-1)) (d := 46655) (rSub (e := 0) (f := 46655) h36949 (rR (x := 1)) rfl) rfl) (vc_X12_tries_v_109 h37998) (vc_X12_tries_v_110 h37998) (vc_X12_tries_v_111 h36957 h37104 h36956 h37105 h36950 h36949) (wgT.of (h27.2.2.2.2.2.2.2.2.1).1 (rowB (A_187 hw) ((mF.call (mF.call (mF.up (mF.up (mF.call mF.refl F24469 rfl) (A_190 hw) u24485 rfl) (A_189 hw) u24488 rfl) F36954 rfl) F37990 rfl) : mF [188999, 189999, 190999, 191999] w μ10 μ37986) rfl rfl) (rowB (A_184 hw) ((mF.call (mF.call (mF.up (mF.up (mF.call mF.refl F24469 rfl) (A_190 hw) u24485 rfl) (A_189 hw) u24488 rfl) F36954 rfl) F37990 rfl) : mF [188999, 189999, 190999, 191999] w μ10 μ37986) rfl rfl)) R37993 (Or.inr (fun j hj hn => absurd hn (by have g := (vc_X12_tries_v_113 h36957 h37104 h36956 h37105 h36950 h36949); omega))) (vc_X12_tries_v_112 h36957 h37104 h36956 h37105 h36950 h36949)
                      obtain ⟨z39464, q39465⟩ : ∃ z, cnt μ36947 191 46656 = z := ⟨_, rfl⟩
                      have h39466 : 0 ≤ z39464 ∧ z39464 ≤ 46656 := by rw [← q39465]; exact cnt_rng (fun i => T36953 191 191 (A_191 hw) i) 46656
                      refine mr_lvS (lv' := [(0, .ref 106), (3, iv z36946), (6, iv 1)]) (List.forall_mem_cons.mpr ⟨rfl, List.forall_mem_cons.mpr ⟨rfl, List.forall_mem_cons.mpr ⟨rfl, fun _ h => absurd h List.not_mem_nil⟩⟩⟩) ?_
                      exact L37987 93314 1 μ36947 z39464 T36953 mF.refl q39465 (rW (c := 0) (d := 1) (rR (x := 1)) rfl) (wgT.of (h27.2.2.2.2.2.2.2.2.1).1 (rowB (A_187 hw) ((mF.call (mF.up (mF.up (mF.call mF.refl F24469 rfl) (A_190 hw) u24485 rfl) (A_189 hw) u24488 rfl) F36954 rfl) : mF [188999, 189999, 190999, 191999] w μ10 μ36947) rfl rfl) (rowB (A_184 hw) ((mF.call (mF.up (mF.up (mF.call mF.refl F24469 rfl) (A_190 hw) u24485 rfl) (A_189 hw) u24488 rfl) F36954 rfl) : mF [188999, 189999, 190999, 191999] w μ10 μ36947) rfl rfl)) (hoS.of R36960 (vc_X12_tries_v_115 h36956 h36957 h37104 h37105 h36950 h36949) (vc_X12_tries_v_116 h36956 h36957 h37104 h37105 h36950 h36949) R36961) (Or.inl vc_X4_prepare_v_36) (vc_X12_tries_v_114 h39466)
                    have h39467 : 3 ≤ p1 ∧ p1 ≤ 3 := (vc_X12_tries_v_118 h37110 h4.2.1 h4.2.2.1 h8 h37106 h37108 h37109 h7)
                    refine mr_iload (pc := 259) (z := z36944) dX12_tries_259 rfl ?_
                    exact mr_iret dX12_tries_261 rfl (le_t rfl) (le_t rfl) T36953 (mF.call (mF.up (mF.up (mF.call (mF.call mF.refl F12 rfl) F24469 rfl) (A_190 hw) u24485 rfl) (A_189 hw) u24488 rfl) F36954 rfl) ⟨h36951, (trA.three (R36960).1 (vc_X12_tries_v_115 h36956 h36957 h37104 h37105 h36950 h36949) (vc_X12_tries_v_116 h36956 h36957 h37104 h37105 h36950 h36949) (vc_X12_tries_v_119 h4.2.1 h4.2.2.1 h8 h37106 h37108 h37110 h6 h39467 h7) (R36961).2.2), trivial⟩
                  have h39468 : 1 ≤ p1 ∧ p1 ≤ 1 := (vc_X12_tries_v_120 h37108 h4.2.1 h4.2.2.1 h8 h37106 h37107 h7)
                  refine mr_iload (pc := 251) (z := z36945) dX12_tries_251 rfl ?_
                  exact mr_iret dX12_tries_253 rfl (le_t rfl) (le_t rfl) T36953 (mF.call (mF.up (mF.up (mF.call (mF.call mF.refl F12 rfl) F24469 rfl) (A_190 hw) u24485 rfl) (A_189 hw) u24488 rfl) F36954 rfl) ⟨(rW (c := (-2147483648)) (d := 2147483647) h36950 rfl), (trA.one (R36960).1 (vc_X12_tries_v_115 h36956 h36957 h37104 h37105 h36950 h36949) (vc_X12_tries_v_116 h36956 h36957 h37104 h37105 h36950 h36949) (by have e := (cnP.N (h27.2.2.2.2.2.2.2.2.1).2 (rowB (A_184 hw) ((mF.call mF.refl F12 rfl) : mF [187999] w μ μ10) rfl rfl)); have h := (vc_X12_tries_v_26 h24482 h27.1 h24483); show 0 ≤ wgk (μ 184) 6; omega) (vc_X12_tries_v_121 h4.2.1 h4.2.2.1 h8 h37106 h37108 h6 h39468 h7) (R36961).1), trivial⟩
                have h39469 : 0 ≤ p1 ∧ p1 ≤ 0 := (vc_X12_tries_v_122 h37106 h4.2.1 h4.2.2.1 h8 h9 h7)
                refine mr_iload_n (pc := 244) (z := z36946) dX12_tries_244 rfl rfl ?_
                exact mr_iret dX12_tries_245 rfl (le_t rfl) (le_t rfl) T36953 (mF.call (mF.up (mF.up (mF.call (mF.call mF.refl F12 rfl) F24469 rfl) (A_190 hw) u24485 rfl) (A_189 hw) u24488 rfl) F36954 rfl) ⟨(rW (c := (-2147483648)) (d := 2147483647) h36949 rfl), (trA.zero (R36960).1 (vc_X12_tries_v_115 h36956 h36957 h37104 h37105 h36950 h36949) (by have e := (cnP.N (h27.2.2.2.2.2.2.2.2.1).2 (rowB (A_184 hw) ((mF.call mF.refl F12 rfl) : mF [187999] w μ μ10) rfl rfl)); have h := (vc_X12_tries_v_26 h24482 h27.1 h24483); show 0 ≤ wgk (μ 184) 6; omega) (vc_X12_tries_v_123 h4.2.1 h4.2.2.1 h8 h37106 h6 h39469 h7) (vc_X12_tries_v_124 h36957 h37104 h36956 h37105 h36950 h36949)), trivial⟩
              have h39470 : 0 ≤ z36943 ∧ z36943 ≤ 46655 := (vc_X12_tries_v_125 h37104 h36956 h36957 h36952 h36950 h36949)
              refine sv_aload_n (pc := 82) dX12_tries_82 rfl rfl ?_
              refine gf_X12_124 (pc := 83) dX12_tries_83 wF_X12_533 (A_106 hw) T36953 ?_
              refine mr_iload (pc := 86) (z := z36943) dX12_tries_86 rfl ?_
              refine la_190 (pc := 88) dX12_tries_88 (A_190 hw) T36953 (rIx (n := 46656) h39470 rfl) fun z39471 q39472 h39473 => ?_
              have h39474 : 0 ≤ z39471 ∧ z39471 < z14 := quOK.st R36958 (vc_X12_tries_v_126 h36956 h36957 h37104 h39470 h36950 h36949) (vc_X12_tries_v_127 h36956 h36957 h37104 h39470 h36950 h36949) q39472
              refine mr_istore (pc := 89) (lv' := [(7, iv z39471), (0, .ref 106), (1, iv p1), (3, iv z36946), (4, iv z36945), (5, iv z36944), (6, iv z36943)]) dX12_tries_89 (by decide) rfl ?_
              refine mr_iconst (pc := 91) (z := 1) dX12_tries_91 ?_
              refine mr_istore (pc := 92) (lv' := [(8, iv 1), (7, iv z39471), (0, .ref 106), (1, iv p1), (3, iv z36946), (4, iv z36945), (5, iv z36944), (6, iv z36943)]) dX12_tries_92 (by decide) rfl ?_
              refine sv_aload_n (pc := 94) dX12_tries_94 rfl rfl ?_
              refine mr_iload (pc := 95) (z := z39471) dX12_tries_95 rfl ?_
              obtain ⟨z39475, q39476⟩ : ∃ z, μ36947 184 ((1 : Int).toNat) = z := ⟨_, rfl⟩
              have h39477 : (0 ≤ z39475 ∧ z39475 ≤ 5) := by rw [← q39476]; exact T36953 184 184 (A_184 hw) ((1 : Int).toNat)
              obtain ⟨z39478, q39479⟩ : ∃ z, μ36947 184 ((2 : Int).toNat) = z := ⟨_, rfl⟩
              have h39480 : (0 ≤ z39478 ∧ z39478 ≤ 5) := by rw [← q39479]; exact T36953 184 184 (A_184 hw) ((2 : Int).toNat)
              obtain ⟨z39481, q39482⟩ : ∃ z, μ36947 184 ((3 : Int).toNat) = z := ⟨_, rfl⟩
              have h39483 : (0 ≤ z39481 ∧ z39481 ≤ 5) := by rw [← q39482]; exact T36953 184 184 (A_184 hw) ((3 : Int).toNat)
              obtain ⟨z39484, q39485⟩ : ∃ z, μ36947 184 ((4 : Int).toNat) = z := ⟨_, rfl⟩
              have h39486 : (0 ≤ z39484 ∧ z39484 ≤ 5) := by rw [← q39485]; exact T36953 184 184 (A_184 hw) ((4 : Int).toNat)
              obtain ⟨z39487, q39488⟩ : ∃ z, μ36947 184 ((5 : Int).toNat) = z := ⟨_, rfl⟩
              have h39489 : (0 ≤ z39487 ∧ z39487 ≤ 5) := by rw [← q39488]; exact T36953 184 184 (A_184 hw) ((5 : Int).toNat)
              obtain ⟨z39490, q39491⟩ : ∃ z, μ36947 184 ((6 : Int).toNat) = z := ⟨_, rfl⟩
              have h39492 : (0 ≤ z39490 ∧ z39490 ≤ 5) := by rw [← q39491]; exact T36953 184 184 (A_184 hw) ((6 : Int).toNat)
              refine mr_cVV (pc := 97) (c_X12_open_r hw T36953 h39473 (F36954.f (A_187 hw) rfl (u24488.f (Or.inl (mAt.ne (A_189 hw) (A_187 hw) rfl)) (u24485.f (Or.inl (mAt.ne (A_190 hw) (A_187 hw) rfl)) (F24469.f (A_187 hw) rfl q16)))) (F36954.f (A_187 hw) rfl (u24488.f (Or.inl (mAt.ne (A_189 hw) (A_187 hw) rfl)) (u24485.f (Or.inl (mAt.ne (A_190 hw) (A_187 hw) rfl)) (F24469.f (A_187 hw) rfl q18)))) (F36954.f (A_187 hw) rfl (u24488.f (Or.inl (mAt.ne (A_189 hw) (A_187 hw) rfl)) (u24485.f (Or.inl (mAt.ne (A_190 hw) (A_187 hw) rfl)) (F24469.f (A_187 hw) rfl q20)))) (F36954.f (A_187 hw) rfl (u24488.f (Or.inl (mAt.ne (A_189 hw) (A_187 hw) rfl)) (u24485.f (Or.inl (mAt.ne (A_190 hw) (A_187 hw) rfl)) (F24469.f (A_187 hw) rfl q22)))) (F36954.f (A_187 hw) rfl (u24488.f (Or.inl (mAt.ne (A_189 hw) (A_187 hw) rfl)) (u24485.f (Or.inl (mAt.ne (A_190 hw) (A_187 hw) rfl)) (F24469.f (A_187 hw) rfl q24)))) (F36954.f (A_187 hw) rfl (u24488.f (Or.inl (mAt.ne (A_189 hw) (A_187 hw) rfl)) (u24485.f (Or.inl (mAt.ne (A_190 hw) (A_187 hw) rfl)) (F24469.f (A_187 hw) rfl q26)))) q39476 q39479 q39482 q39485 q39488 q39491 (vc_X12_isRest_7 h27.2.1 h34) (vc_X12_isRest_7 h27.2.2.1 h35) (vc_X12_isRest_7 h27.2.2.2.1 h36) (vc_X12_isRest_7 h27.2.2.2.2.1 h37) (vc_X12_isRest_7 h27.2.2.2.2.2.1 h38) (vc_X12_isRest_7 h27.2.2.2.2.2.2.1 h39)) (gOk _ _ _ _ _) dX12_tries_97 (tX12_open _ _ _ _ _) ⟨wV_X12_open, wL_X12_open⟩ wM_X12_722 (gCX12 _ _ _ _ _) rfl (A_106 hw) rfl ⟨le_t rfl, le_t rfl⟩ ⟨le_t rfl, le_t rfl⟩ rfl (le_t rfl) fun μ39493 T39494 F39495 h39496 => ?_
              obtain ⟨z39497, z39499, z39501, z39503, z39505, z39507, q39498, q39500, q39502, q39504, q39506, q39508, h39509⟩ := h39496
              have h39510 : (0 ≤ z39497 ∧ z39497 ≤ 5) := by rw [← q39498]; exact T39494 188 188 (A_188 hw) ((1 : Int).toNat)
              have h39511 : (0 ≤ z39499 ∧ z39499 ≤ 5) := by rw [← q39500]; exact T39494 188 188 (A_188 hw) ((2 : Int).toNat)
              have h39512 : (0 ≤ z39501 ∧ z39501 ≤ 5) := by rw [← q39502]; exact T39494 188 188 (A_188 hw) ((3 : Int).toNat)
              have h39513 : (0 ≤ z39503 ∧ z39503 ≤ 5) := by rw [← q39504]; exact T39494 188 188 (A_188 hw) ((4 : Int).toNat)
              have h39514 : (0 ≤ z39505 ∧ z39505 ≤ 5) := by rw [← q39506]; exact T39494 188 188 (A_188 hw) ((5 : Int).toNat)
              have h39515 : (0 ≤ z39507 ∧ z39507 ≤ 5) := by rw [← q39508]; exact T39494 188 188 (A_188 hw) ((6 : Int).toNat)
              have h39516 : hasD μ39493 188 184 z39471 := digs.hasD h39509.2.2.2.2.2.2.1 (wgT.of (h27.2.2.2.2.2.2.2.2.1).1 (rowB (A_187 hw) ((mF.call (mF.call (mF.up (mF.up (mF.call mF.refl F24469 rfl) (A_190 hw) u24485 rfl) (A_189 hw) u24488 rfl) F36954 rfl) F39495 rfl) : mF [188999, 189999, 190999, 191999] w μ10 μ39493) rfl rfl) (rowB (A_184 hw) ((mF.call (mF.call (mF.up (mF.up (mF.call mF.refl F24469 rfl) (A_190 hw) u24485 rfl) (A_189 hw) u24488 rfl) F36954 rfl) F39495 rfl) : mF [188999, 189999, 190999, 191999] w μ10 μ39493) rfl rfl))
              refine mr_iconst (pc := 100) (z := 1) dX12_tries_100 ?_
              refine mr_istore (pc := 101) (lv' := [(9, iv 1), (8, iv 1), (7, iv z39471), (0, .ref 106), (1, iv p1), (3, iv z36946), (4, iv z36945), (5, iv z36944), (6, iv z36943)]) dX12_tries_101 (by decide) rfl ?_
              have L39831 : ∀ (nL39831 : Nat) (z39829 z39828 z39827 : Int) (μ39830 : mM), mT w μ39830 → mF [189999, 190999] w μ39493 μ39830 → (1 ≤ z39829 ∧ z39829 ≤ 46656) → (0 ≤ z39828 ∧ z39828 ≤ 1) → (1 ≤ z39827 ∧ z39827 ≤ 7) → (z36943 < z39829) → quOK μ39830 z39829 z14 → μ39830 190 (z36943).toNat = z39471 → trB μ μ39830 z39829 z36943 z39827 → (agQ μ36947 μ39830 z36946 ∧ z36946 ≤ z39829) → rsI μ39493 184 185 186 8 (μ39493 188) z39827 z39828 → (8 - z39827) < (nL39831 : Int) → sV (gG l D c H0 sa) mX12_tries (sRm 3 0 0) (sZ (gG l D c H0 sa) 0 0 (qI w [187999, 188999, 189999, 190999, 191999] μ (fun z μ1 => ((-2147483648) ≤ z ∧ z ≤ 2147483647) ∧ (trA (trE μ) (trP μ) (trr μ) (trN μ).toNat p1 z) ∧ True))) 103 [(0, .ref 106), (1, iv p1), (3, iv z39829), (4, iv z36945), (5, iv z36944), (6, iv z36943), (7, iv z39471), (8, iv z39828), (9, iv z39827)] [] (mk w μ39830) 0 0 := by
                intro nL39831
                induction nL39831 with
                | zero => intro z39829 z39828 z39827 μ39830 T39835 F39836 h39832 h39833 h39834 h39838 R39839 R39840 R39841 R39842 R39843 h39844; exact ((vc_X12_isRest_13 h39844 h39834)).elim
                | succ nL39831 ih39845 =>
                  intro z39829 z39828 z39827 μ39830 T39835 F39836 h39832 h39833 h39834 h39838 R39839 R39840 R39841 R39842 R39843 h39844
                  refine mr_iload (pc := 103) (z := z39827) dX12_tries_103 rfl ?_
                  refine mr_bipush (pc := 105) (z := 6) dX12_tries_105 (by decide) ?_
                  refine mr_icmp_gt (pc := 107) (tgt := 202) dX12_tries_107 (by decide) (r32 h39834 rfl) (r32 (rR (x := 6)) rfl) (fun h39879 => ?_) (fun h39879 => ?_)
                  · have h39880 : 7 ≤ z39827 ∧ z39827 ≤ 7 := (vc_X12_isRest_14 h39879 h39834)
                    have h39881 := rsZ (z := z39828) (vc_X12_tries_v_130 h39474 h24482 h27.1 h24483 h39473) (fun i => T39494 186 186 (A_186 hw) i) h39516 (rowB (A_184 hw) ((mF.call (mF.call (mF.up (mF.up (mF.call (mF.call mF.refl F12 rfl) F24469 rfl) (A_190 hw) u24485 rfl) (A_189 hw) u24488 rfl) F36954 rfl) F39495 rfl) : mF [187999, 188999, 189999, 190999, 191999] w μ μ39493) rfl rfl) (rowB (A_185 hw) ((mF.call (mF.call (mF.up (mF.up (mF.call (mF.call mF.refl F12 rfl) F24469 rfl) (A_190 hw) u24485 rfl) (A_189 hw) u24488 rfl) F36954 rfl) F39495 rfl) : mF [187999, 188999, 189999, 190999, 191999] w μ μ39493) rfl rfl) (rowB (A_186 hw) ((mF.call (mF.call (mF.up (mF.up (mF.call (mF.call mF.refl F12 rfl) F24469 rfl) (A_190 hw) u24485 rfl) (A_189 hw) u24488 rfl) F36954 rfl) F39495 rfl) : mF [187999, 188999, 189999, 190999, 191999] w μ μ39493) rfl rfl) R39843 rfl (vc_X12_tries_v_131 h39879 h39880 h39833)
                    have h39882 := trK.ag R36961 (R39842).1 (vc_X12_tries_v_132 h36956 h36957 h37104 h39838 h39470 h36950 h36949 h39832) (rowB (A_191 hw) ((mF.call (mF.call mF.refl F39495 rfl) F39836 rfl) : mF [188999, 189999, 190999] w μ36947 μ39830) rfl rfl)
                    refine mr_iload (pc := 202) (z := z39828) dX12_tries_202 rfl ?_
                    refine mr_if_eq (pc := 204) (tgt := 234) dX12_tries_204 (by decide) (r32 h39833 rfl) (fun h39883 => ?_) (fun h39883 => ?_)
                    · have h39884 : 0 ≤ z39828 ∧ z39828 ≤ 0 := (vc_X12_ring_22 h39883 h39833)
                      refine mr_iinc (pc := 234) (lv' := [(6, iv (z36943 + 1)), (0, .ref 106), (1, iv p1), (3, iv z39829), (4, iv z36945), (5, iv z36944), (7, iv z39471), (8, iv z39828), (9, iv z39827)]) dX12_tries_234 rfl (by decide) rfl ?_
                      refine sv_goto (pc := 237) (tgt := 76) dX12_tries_237 (by decide) ?_
                      refine mr_lvS (lv' := [(0, .ref 106), (1, iv p1), (3, iv z39829), (4, iv z36945), (5, iv z36944), (6, iv (z36943 + 1))]) (List.forall_mem_cons.mpr ⟨rfl, List.forall_mem_cons.mpr ⟨rfl, List.forall_mem_cons.mpr ⟨rfl, List.forall_mem_cons.mpr ⟨rfl, List.forall_mem_cons.mpr ⟨rfl, List.forall_mem_cons.mpr ⟨rfl, fun _ h => absurd h List.not_mem_nil⟩⟩⟩⟩⟩⟩) ?_
                      exact ih36963 z39829 z36945 z36944 (z36943 + 1) μ39830 T39835 (mF.call (mF.call (mF.call mF.refl F36954 rfl) F39495 rfl) F39836 rfl) h39832 h36950 h36951 (rW (c := 0) (d := 46656) (rAdd (e := 1) (f := 46656) h39470 (rR (x := 1)) rfl) rfl) (vc_X12_tries_v_134 h36956 h36957 h37104 h39838 h39470 h36950 h36949 h39832) (vc_X12_tries_v_135 h36956 h36957 h37104 h39838 h39470 h36950 h36949 h39832) R39839 (wgT.of (h27.2.2.2.2.2.2.2.2.1).1 (rowB (A_187 hw) ((mF.call (mF.call (mF.call (mF.up (mF.up (mF.call mF.refl F24469 rfl) (A_190 hw) u24485 rfl) (A_189 hw) u24488 rfl) F36954 rfl) F39495 rfl) F39836 rfl) : mF [188999, 189999, 190999, 191999] w μ10 μ39830) rfl rfl) (rowB (A_184 hw) ((mF.call (mF.call (mF.call (mF.up (mF.up (mF.call mF.refl F24469 rfl) (A_190 hw) u24485 rfl) (A_189 hw) u24488 rfl) F36954 rfl) F39495 rfl) F39836 rfl) : mF [188999, 189999, 190999, 191999] w μ10 μ39830) rfl rfl)) (trB.next R39841 (vc_X12_tries_v_137 h36956 h36957 h37104 h39838 h39470 h36950 h36949 h39832) (vc_X12_tries_v_75 h39879 h39880)) (trK.no h39882 (vc_X12_tries_v_139 h36956 h36957 h37104 h39838 h39470 h36950 h36949 h39832) R39840 (fun g => (vc_X12_acted_w_17 h39883 h39884) ((h39881).mpr g)) (vc_X12_tries_v_130 h39474 h24482 h27.1 h24483 h39473)) (vc_X12_tries_v_136 (nS h36962) h36956 h36957 h37104 h39838 h39470 h36950 h36949 h39832)
                    have h39885 : 1 ≤ z39828 ∧ z39828 ≤ 1 := (vc_X12_ring_24 h39883 h39833)
                    obtain ⟨z39886, q39887⟩ : ∃ z, μ39830 189 (z39471.toNat) = z := ⟨_, rfl⟩
                    have h39888 : ((-2147483648) ≤ z39886 ∧ z39886 ≤ 2147483647) := by rw [← q39887]; exact T39835 189 189 (A_189 hw) (z39471.toNat)
                    refine mr_iinc (pc := 207) (lv' := [(4, iv (z36945 + 1)), (0, .ref 106), (1, iv p1), (3, iv z39829), (5, iv z36944), (6, iv z36943), (7, iv z39471), (8, iv z39828), (9, iv z39827)]) dX12_tries_207 rfl (by decide) rfl ?_
                    refine sv_aload_n (pc := 210) dX12_tries_210 rfl rfl ?_
                    refine gf_X12_125 (pc := 211) dX12_tries_211 wF_X12_536 (A_106 hw) T39835 ?_
                    refine mr_iload (pc := 214) (z := z39471) dX12_tries_214 rfl ?_
                    refine mr_iconst (pc := 216) (z := 1) dX12_tries_216 ?_
                    refine ss_191 (pc := 217) dX12_tries_217 (A_191 hw) T39835 (rIx (n := 46656) h39473 rfl) (rW (c := 0) (d := 1) (rR (x := 1)) rfl) fun μ39889 u39890 T39891 => ?_
                    refine mr_iload (pc := 218) (z := z36944) dX12_tries_218 rfl ?_
                    refine mr_ldc (pc := 220) (z := (-99999999)) dX12_tries_220 wG_X12_29 (by decide) ?_
                    refine mr_icmp_ne (pc := 222) (tgt := 234) dX12_tries_222 (by decide) h36951 (r32 (rR (x := (-99999999))) rfl) (fun h39892 => ?_) (fun h39892 => ?_)
                    · refine mr_iinc (pc := 234) (lv' := [(6, iv (z36943 + 1)), (4, iv (z36945 + 1)), (0, .ref 106), (1, iv p1), (3, iv z39829), (5, iv z36944), (7, iv z39471), (8, iv z39828), (9, iv z39827)]) dX12_tries_234 rfl (by decide) rfl ?_
                      refine sv_goto (pc := 237) (tgt := 76) dX12_tries_237 (by decide) ?_
                      refine mr_lvS (lv' := [(0, .ref 106), (1, iv p1), (3, iv z39829), (4, iv (z36945 + 1)), (5, iv z36944), (6, iv (z36943 + 1))]) (List.forall_mem_cons.mpr ⟨rfl, List.forall_mem_cons.mpr ⟨rfl, List.forall_mem_cons.mpr ⟨rfl, List.forall_mem_cons.mpr ⟨rfl, List.forall_mem_cons.mpr ⟨rfl, List.forall_mem_cons.mpr ⟨rfl, fun _ h => absurd h List.not_mem_nil⟩⟩⟩⟩⟩⟩) ?_
                      exact ih36963 z39829 (z36945 + 1) z36944 (z36943 + 1) μ39889 T39891 (mF.up (mF.call (mF.call (mF.call mF.refl F36954 rfl) F39495 rfl) F39836 rfl) (A_191 hw) u39890 rfl) h39832 (vc_X12_tries_v_142 h36956 h36957 h37104 h39838 h39470 h36950 h36949 h39832) h36951 (rW (c := 0) (d := 46656) (rAdd (e := 1) (f := 46656) h39470 (rR (x := 1)) rfl) rfl) (vc_X12_tries_v_143 h36956 h36957 h37104 h39838 h39470 h36950 h36949 h39832) (vc_X12_tries_v_135 h36956 h36957 h37104 h39838 h39470 h36950 h36949 h39832) (quOK.keep R39839 hw ((mF.up mF.refl (A_191 hw) u39890 rfl) : mF [191999] w μ39830 μ39889) rfl) (wgT.of (h27.2.2.2.2.2.2.2.2.1).1 (rowB (A_187 hw) ((mF.up (mF.call (mF.call (mF.call (mF.up (mF.up (mF.call mF.refl F24469 rfl) (A_190 hw) u24485 rfl) (A_189 hw) u24488 rfl) F36954 rfl) F39495 rfl) F39836 rfl) (A_191 hw) u39890 rfl) : mF [188999, 189999, 190999, 191999] w μ10 μ39889) rfl rfl) (rowB (A_184 hw) ((mF.up (mF.call (mF.call (mF.call (mF.up (mF.up (mF.call mF.refl F24469 rfl) (A_190 hw) u24485 rfl) (A_189 hw) u24488 rfl) F36954 rfl) F39495 rfl) F39836 rfl) (A_191 hw) u39890 rfl) : mF [188999, 189999, 190999, 191999] w μ10 μ39889) rfl rfl)) (trB.of (trB.next R39841 (vc_X12_tries_v_137 h36956 h36957 h37104 h39838 h39470 h36950 h36949 h39832) (vc_X12_tries_v_75 h39879 h39880)) (rowB (A_189 hw) ((mF.up mF.refl (A_191 hw) u39890 rfl) : mF [191999] w μ39830 μ39889) rfl rfl) (rowB (A_190 hw) ((mF.up mF.refl (A_191 hw) u39890 rfl) : mF [191999] w μ39830 μ39889) rfl rfl)) (trK.yes h39882 (vc_X12_tries_v_139 h36956 h36957 h37104 h39838 h39470 h36950 h36949 h39832) R39840 ((h39881).mp (vc_X12_best_l_18 h39883 h39885)) (vc_X12_tries_v_130 h39474 h24482 h27.1 h24483 h39473) u39890 q39887 (trB.lv0 R39841 (vc_X12_tries_v_145 h36956 h36957 h37104 h39838 h39470 h36950 h36949 h39832) R39840 (by have h := (vc_X12_tries_v_62 h24482 h39474 h27.1 h24483 h39473); have e := (cnP.N (h27.2.2.2.2.2.2.2.2.1).2 (rowB (A_184 hw) ((mF.call mF.refl F12 rfl) : mF [187999] w μ μ10) rfl rfl)); show 0 ≤ z39471 ∧ z39471 < wgk (μ 184) 6; omega) q39887) (vc_X12_tries_v_147 h39892 h36951 h39888) (vc_X12_tries_v_148 h36956 h36957 h37104 h39838 h39470 h36950 h36949 h39832)) (vc_X12_tries_v_136 (nS h36962) h36956 h36957 h37104 h39838 h39470 h36950 h36949 h39832)
                    have h39893 : (-99999999) ≤ z36944 ∧ z36944 ≤ (-99999999) := (vc_X12_judgedAnew_21 h39892 h36951)
                    refine sv_aload_n (pc := 225) dX12_tries_225 rfl rfl ?_
                    refine gf_X12_123 (pc := 226) dX12_tries_226 wF_X12_530 (A_106 hw) T39891 ?_
                    refine mr_iload (pc := 229) (z := z39471) dX12_tries_229 rfl ?_
                    refine lk_189 (pc := 231) dX12_tries_231 (A_189 hw) (rIx (n := 46656) h39473 rfl) (u39890.f (Or.inl (mAt.ne (A_191 hw) (A_189 hw) rfl)) q39887) ?_
                    refine mr_istore (pc := 232) (lv' := [(5, iv z39886), (4, iv (z36945 + 1)), (0, .ref 106), (1, iv p1), (3, iv z39829), (6, iv z36943), (7, iv z39471), (8, iv z39828), (9, iv z39827)]) dX12_tries_232 (by decide) rfl ?_
                    refine mr_iinc (pc := 234) (lv' := [(6, iv (z36943 + 1)), (5, iv z39886), (4, iv (z36945 + 1)), (0, .ref 106), (1, iv p1), (3, iv z39829), (7, iv z39471), (8, iv z39828), (9, iv z39827)]) dX12_tries_234 rfl (by decide) rfl ?_
                    refine sv_goto (pc := 237) (tgt := 76) dX12_tries_237 (by decide) ?_
                    refine mr_lvS (lv' := [(0, .ref 106), (1, iv p1), (3, iv z39829), (4, iv (z36945 + 1)), (5, iv z39886), (6, iv (z36943 + 1))]) (List.forall_mem_cons.mpr ⟨rfl, List.forall_mem_cons.mpr ⟨rfl, List.forall_mem_cons.mpr ⟨rfl, List.forall_mem_cons.mpr ⟨rfl, List.forall_mem_cons.mpr ⟨rfl, List.forall_mem_cons.mpr ⟨rfl, fun _ h => absurd h List.not_mem_nil⟩⟩⟩⟩⟩⟩) ?_
                    exact ih36963 z39829 (z36945 + 1) z39886 (z36943 + 1) μ39889 T39891 (mF.up (mF.call (mF.call (mF.call mF.refl F36954 rfl) F39495 rfl) F39836 rfl) (A_191 hw) u39890 rfl) h39832 (vc_X12_tries_v_142 h36956 h36957 h37104 h39838 h39470 h36950 h36949 h39832) h39888 (rW (c := 0) (d := 46656) (rAdd (e := 1) (f := 46656) h39470 (rR (x := 1)) rfl) rfl) (vc_X12_tries_v_143 h36956 h36957 h37104 h39838 h39470 h36950 h36949 h39832) (vc_X12_tries_v_135 h36956 h36957 h37104 h39838 h39470 h36950 h36949 h39832) (quOK.keep R39839 hw ((mF.up mF.refl (A_191 hw) u39890 rfl) : mF [191999] w μ39830 μ39889) rfl) (wgT.of (h27.2.2.2.2.2.2.2.2.1).1 (rowB (A_187 hw) ((mF.up (mF.call (mF.call (mF.call (mF.up (mF.up (mF.call mF.refl F24469 rfl) (A_190 hw) u24485 rfl) (A_189 hw) u24488 rfl) F36954 rfl) F39495 rfl) F39836 rfl) (A_191 hw) u39890 rfl) : mF [188999, 189999, 190999, 191999] w μ10 μ39889) rfl rfl) (rowB (A_184 hw) ((mF.up (mF.call (mF.call (mF.call (mF.up (mF.up (mF.call mF.refl F24469 rfl) (A_190 hw) u24485 rfl) (A_189 hw) u24488 rfl) F36954 rfl) F39495 rfl) F39836 rfl) (A_191 hw) u39890 rfl) : mF [188999, 189999, 190999, 191999] w μ10 μ39889) rfl rfl)) (trB.of (trB.next R39841 (vc_X12_tries_v_137 h36956 h36957 h37104 h39838 h39470 h36950 h36949 h39832) (vc_X12_tries_v_75 h39879 h39880)) (rowB (A_189 hw) ((mF.up mF.refl (A_191 hw) u39890 rfl) : mF [191999] w μ39830 μ39889) rfl rfl) (rowB (A_190 hw) ((mF.up mF.refl (A_191 hw) u39890 rfl) : mF [191999] w μ39830 μ39889) rfl rfl)) (trK.yes h39882 (vc_X12_tries_v_139 h36956 h36957 h37104 h39838 h39470 h36950 h36949 h39832) R39840 ((h39881).mp (vc_X12_best_l_18 h39883 h39885)) (vc_X12_tries_v_130 h39474 h24482 h27.1 h24483 h39473) u39890 q39887 (trB.lv0 R39841 (vc_X12_tries_v_145 h36956 h36957 h37104 h39838 h39470 h36950 h36949 h39832) R39840 (by have h := (vc_X12_tries_v_62 h24482 h39474 h27.1 h24483 h39473); have e := (cnP.N (h27.2.2.2.2.2.2.2.2.1).2 (rowB (A_184 hw) ((mF.call mF.refl F12 rfl) : mF [187999] w μ μ10) rfl rfl)); show 0 ≤ z39471 ∧ z39471 < wgk (μ 184) 6; omega) q39887) (vc_X12_tries_v_150 h39892 h39893 h39888) (vc_X12_tries_v_148 h36956 h36957 h37104 h39838 h39470 h36950 h36949 h39832)) (vc_X12_tries_v_136 (nS h36962) h36956 h36957 h37104 h39838 h39470 h36950 h36949 h39832)
                  have h39894 : 1 ≤ z39827 ∧ z39827 ≤ 6 := (vc_X12_isRest_15 h39879 h39834)
                  refine sv_aload_n (pc := 110) dX12_tries_110 rfl rfl ?_
                  refine mr_iload (pc := 111) (z := z39827) dX12_tries_111 rfl ?_
                  obtain ⟨z39895, q39896⟩ : ∃ z, μ39830 184 (z39827.toNat) = z := ⟨_, rfl⟩
                  have h39897 : (0 ≤ z39895 ∧ z39895 ≤ 5) := by rw [← q39896]; exact T39835 184 184 (A_184 hw) (z39827.toNat)
                  refine mr_cVP (pc := 113) (c_X12_acted_w hw T39835 h39894 (F39836.f (A_188 hw) rfl q39498) (F39836.f (A_188 hw) rfl q39500) (F39836.f (A_188 hw) rfl q39502) (F39836.f (A_188 hw) rfl q39504) (F39836.f (A_188 hw) rfl q39506) (F39836.f (A_188 hw) rfl q39508) (F39836.f (A_184 hw) rfl (F39495.f (A_184 hw) rfl q39476)) (F39836.f (A_184 hw) rfl (F39495.f (A_184 hw) rfl q39479)) (F39836.f (A_184 hw) rfl (F39495.f (A_184 hw) rfl q39482)) (F39836.f (A_184 hw) rfl (F39495.f (A_184 hw) rfl q39485)) (F39836.f (A_184 hw) rfl (F39495.f (A_184 hw) rfl q39488)) (F39836.f (A_184 hw) rfl (F39495.f (A_184 hw) rfl q39491)) q39896 (vc_X12_isRest_18 h39509.1 h39477 h39510) (vc_X12_isRest_18 h39509.2.1 h39480 h39511) (vc_X12_isRest_18 h39509.2.2.1 h39483 h39512) (vc_X12_isRest_18 h39509.2.2.2.1 h39486 h39513) (vc_X12_isRest_18 h39509.2.2.2.2.1 h39489 h39514) (vc_X12_isRest_18 h39509.2.2.2.2.2.1 h39492 h39515)) (gOk _ _ _ _ _) dX12_tries_113 (tX12_acted _ _ _ _ _) ⟨wV_X12_acted, wL_X12_acted⟩ wM_X12_725 (gCX12 _ _ _ _ _) rfl (A_106 hw) rfl ⟨le_t rfl, le_t rfl⟩ ⟨le_t rfl, le_t rfl⟩ rfl (le_t rfl) fun z39902 h39901 => ?_
                  refine mr_istore (pc := 116) (lv' := [(10, iv z39902), (0, .ref 106), (1, iv p1), (3, iv z39829), (4, iv z36945), (5, iv z36944), (6, iv z36943), (7, iv z39471), (8, iv z39828), (9, iv z39827)]) dX12_tries_116 (by decide) rfl ?_
                  refine mr_iload (pc := 118) (z := z39902) dX12_tries_118 rfl ?_
                  refine sv_aload_n (pc := 120) dX12_tries_120 rfl rfl ?_
                  refine gf_X12_122 (pc := 121) dX12_tries_121 wF_X12_526 (A_106 hw) T39835 ?_
                  refine mr_iload (pc := 124) (z := z39827) dX12_tries_124 rfl ?_
                  refine la_188 (pc := 126) dX12_tries_126 (A_188 hw) T39835 (rIx (n := 7) h39894 rfl) fun z39903 q39904 h39905 => ?_
                  refine mr_icmp_ne (pc := 127) (tgt := 133) dX12_tries_127 (by decide) (r32 h39901.1 rfl) (r32 h39905 rfl) (fun h39906 => ?_) (fun h39906 => ?_)
                  · refine mr_iconst (pc := 133) (z := 0) dX12_tries_133 ?_
                    refine mr_istore (pc := 134) (lv' := [(8, iv 0), (10, iv z39902), (0, .ref 106), (1, iv p1), (3, iv z39829), (4, iv z36945), (5, iv z36944), (6, iv z36943), (7, iv z39471), (9, iv z39827)]) dX12_tries_134 (by decide) rfl ?_
                    refine mr_iload (pc := 136) (z := z39471) dX12_tries_136 rfl ?_
                    refine mr_iload (pc := 138) (z := z39902) dX12_tries_138 rfl ?_
                    refine sv_aload_n (pc := 140) dX12_tries_140 rfl rfl ?_
                    refine gf_X12_122 (pc := 141) dX12_tries_141 wF_X12_526 (A_106 hw) T39835 ?_
                    refine mr_iload (pc := 144) (z := z39827) dX12_tries_144 rfl ?_
                    refine lk_188 (pc := 146) dX12_tries_146 (A_188 hw) (rIx (n := 7) h39894 rfl) q39904 ?_
                    refine mr_isub (pc := 147) (x := z39902) (y := z39903) dX12_tries_147 ?_
                    refine sv_aload_n (pc := 148) dX12_tries_148 rfl rfl ?_
                    refine gf_X12_121 (pc := 149) dX12_tries_149 wF_X12_523 (A_106 hw) T39835 ?_
                    refine mr_iload (pc := 152) (z := z39827) dX12_tries_152 rfl ?_
                    refine la_187 (pc := 154) dX12_tries_154 (A_187 hw) T39835 (rIx (n := 8) h39894 rfl) fun z39907 q39908 h39909 => ?_
                    refine mr_imul (pc := 155) (x := (z39902 - z39903)) (y := z39907) dX12_tries_155 ?_
                    refine mr_gen (P := fun z => (-233280) ≤ z ∧ z ≤ 233280) (rMulS (m := 5) (k := 46656) (e := 233280) (rSub (e := (-5)) (f := 5) h39901.1 h39905 rfl) h39909 (by decide) rfl) fun z39910 q39911 h39912 => ?_
                    refine mr_iadd (pc := 156) (x := z39471) (y := z39910) dX12_tries_156 ?_
                    have h39913 : 0 ≤ (z39471 + z39910) ∧ (z39471 + z39910) < z14 := net_t (radix.keep h27.2.2.2.2.2.2.2.1 ((mF.call (mF.call (mF.call (mF.up (mF.up (mF.call mF.refl F24469 rfl) (A_190 hw) u24485 rfl) (A_189 hw) u24488 rfl) F36954 rfl) F39495 rfl) F39836 rfl) : mF [188999, 189999, 190999, 191999] w μ10 μ39830) (A_187 hw) (A_184 hw) (fun _ => rfl) (fun _ => rfl)) (digs.keep h39509.2.2.2.2.2.2.1 ((mF.call mF.refl F39836 rfl) : mF [189999, 190999] w μ39493 μ39830) (A_188 hw) (A_187 hw) (A_184 hw) (fun _ => rfl) (fun _ => rfl) (fun _ => rfl)) (vc_X12_tries_v_92 h39879 h39894) (vc_X12_tries_v_62 h24482 h39474 h27.1 h24483 h39473) q39908 q39896 q39904 (vc_X12_tries_v_159 h39901.2.1 h39906 h39897 h39901.1 h39905) (vc_X12_tries_v_160 h39901.2.1 h39906 h39897 h39901.1 h39905) q39911
                    have h39914 := (nxP.is (hasD.of h39516 (rowB (A_188 hw) ((mF.call mF.refl F39836 rfl) : mF [189999, 190999] w μ39493 μ39830) rfl rfl) (rowB (A_184 hw) ((mF.call mF.refl F39836 rfl) : mF [189999, 190999] w μ39493 μ39830) rfl rfl)) (wgT.of (h27.2.2.2.2.2.2.2.2.1).1 (rowB (A_187 hw) ((mF.call (mF.call (mF.call (mF.up (mF.up (mF.call mF.refl F24469 rfl) (A_190 hw) u24485 rfl) (A_189 hw) u24488 rfl) F36954 rfl) F39495 rfl) F39836 rfl) : mF [188999, 189999, 190999, 191999] w μ10 μ39830) rfl rfl) (rowB (A_184 hw) ((mF.call (mF.call (mF.call (mF.up (mF.up (mF.call mF.refl F24469 rfl) (A_190 hw) u24485 rfl) (A_189 hw) u24488 rfl) F36954 rfl) F39495 rfl) F39836 rfl) : mF [188999, 189999, 190999, 191999] w μ10 μ39830) rfl rfl)) (rowB (A_184 hw) ((mF.call (mF.call (mF.call (mF.up (mF.up (mF.call (mF.call mF.refl F12 rfl) F24469 rfl) (A_190 hw) u24485 rfl) (A_189 hw) u24488 rfl) F36954 rfl) F39495 rfl) F39836 rfl) : mF [187999, 188999, 189999, 190999, 191999] w μ μ39830) rfl rfl) (rowB (A_185 hw) ((mF.call (mF.call (mF.call (mF.up (mF.up (mF.call (mF.call mF.refl F12 rfl) F24469 rfl) (A_190 hw) u24485 rfl) (A_189 hw) u24488 rfl) F36954 rfl) F39495 rfl) F39836 rfl) : mF [187999, 188999, 189999, 190999, 191999] w μ μ39830) rfl rfl) (rowB (A_186 hw) ((mF.call (mF.call (mF.call (mF.up (mF.up (mF.call (mF.call mF.refl F12 rfl) F24469 rfl) (A_190 hw) u24485 rfl) (A_189 hw) u24488 rfl) F36954 rfl) F39495 rfl) F39836 rfl) : mF [187999, 188999, 189999, 190999, 191999] w μ μ39830) rfl rfl) (fun i => T39835 186 186 (A_186 hw) i) (vc_X12_tries_v_95 h39474 h39913 h24482 h27.1 h24483 h39473 h39912) (vc_X12_tries_v_92 h39879 h39894) h39901.2.2.1 q39904 q39908 (by rw [q39911]) (vc_X12_tries_v_96 h39474 h39913 h24482 h27.1 h24483 h39473 h39912))
                    refine mr_istore (pc := 157) (lv' := [(11, iv (z39471 + z39910)), (8, iv 0), (10, iv z39902), (0, .ref 106), (1, iv p1), (3, iv z39829), (4, iv z36945), (5, iv z36944), (6, iv z36943), (7, iv z39471), (9, iv z39827)]) dX12_tries_157 (by decide) rfl ?_
                    refine sv_aload_n (pc := 159) dX12_tries_159 rfl rfl ?_
                    refine gf_X12_123 (pc := 160) dX12_tries_160 wF_X12_530 (A_106 hw) T39835 ?_
                    refine mr_iload (pc := 163) (z := (z39471 + z39910)) dX12_tries_163 rfl ?_
                    refine la_189 (pc := 165) dX12_tries_165 (A_189 hw) T39835 (vc_X12_tries_v_97 h39474 h39913 h24482 h27.1 h24483 h39473 h39912) fun z39915 q39916 h39917 => ?_
                    refine mr_if_ge (pc := 166) (tgt := 196) dX12_tries_166 (by decide) h39917 (fun h39918 => ?_) (fun h39918 => ?_)
                    · have h39919 : 0 ≤ z39915 ∧ z39915 ≤ 2147483647 := (vc_X12_cut_2 h39918 h39917)
                      refine mr_iinc (pc := 196) (lv' := [(9, iv (z39827 + 1)), (11, iv (z39471 + z39910)), (8, iv 0), (10, iv z39902), (0, .ref 106), (1, iv p1), (3, iv z39829), (4, iv z36945), (5, iv z36944), (6, iv z36943), (7, iv z39471)]) dX12_tries_196 rfl (by decide) rfl ?_
                      refine sv_goto (pc := 199) (tgt := 103) dX12_tries_199 (by decide) ?_
                      refine mr_lvS (lv' := [(0, .ref 106), (1, iv p1), (3, iv z39829), (4, iv z36945), (5, iv z36944), (6, iv z36943), (7, iv z39471), (8, iv 0), (9, iv (z39827 + 1))]) (List.forall_mem_cons.mpr ⟨rfl, List.forall_mem_cons.mpr ⟨rfl, List.forall_mem_cons.mpr ⟨rfl, List.forall_mem_cons.mpr ⟨rfl, List.forall_mem_cons.mpr ⟨rfl, List.forall_mem_cons.mpr ⟨rfl, List.forall_mem_cons.mpr ⟨rfl, List.forall_mem_cons.mpr ⟨rfl, List.forall_mem_cons.mpr ⟨rfl, fun _ h => absurd h List.not_mem_nil⟩⟩⟩⟩⟩⟩⟩⟩⟩) ?_
                      exact ih39845 z39829 0 (z39827 + 1) μ39830 T39835 (mF.call mF.refl F39836 rfl) h39832 (rW (c := 0) (d := 1) (rR (x := 0)) rfl) (rW (c := 1) (d := 7) (rAdd (e := 2) (f := 7) h39894 (rR (x := 1)) rfl) rfl) (vc_X12_tries_v_137 h36956 h36957 h37104 h39838 h39470 h36950 h36949 h39832) R39839 R39840 (trB.seen R39841 (vc_X12_tries_v_145 h36956 h36957 h37104 h39838 h39470 h36950 h36949 h39832) R39840 (by have h := (vc_X12_tries_v_166 h24482 h39474 h39913 h27.1 h24483 h39473 h39912); have e := (cnP.N (h27.2.2.2.2.2.2.2.2.1).2 (rowB (A_184 hw) ((mF.call mF.refl F12 rfl) : mF [187999] w μ μ10) rfl rfl)); unfold trN; omega) q39916 (vc_X12_tries_v_167 h39918 h39919) h39914) R39842 (rsI.any R39843 (vc_X12_tries_v_92 h39879 h39894) (actR.of h39901.2.2.1 (rowB (A_184 hw) ((mF.call mF.refl F39836 rfl) : mF [189999, 190999] w μ39493 μ39830) rfl rfl) (rowB (A_185 hw) ((mF.call mF.refl F39836 rfl) : mF [189999, 190999] w μ39493 μ39830) rfl rfl) (rowB (A_186 hw) ((mF.call mF.refl F39836 rfl) : mF [189999, 190999] w μ39493 μ39830) rfl rfl) (rowB (A_188 hw) ((mF.call mF.refl F39836 rfl) : mF [189999, 190999] w μ39493 μ39830) rfl rfl)) ((congrFun (rowB (A_188 hw) ((mF.call mF.refl F39836 rfl) : mF [189999, 190999] w μ39493 μ39830) rfl rfl) _).symm.trans q39904) (vc_X12_tries_v_168 h39901.2.1 h39906 h39833 h39897 h39901.1 h39905)) (vc_X12_isRest_24 (nS h39844) h39879 h39894)
                    have h39920 : (-2147483648) ≤ z39915 ∧ z39915 ≤ (-1) := (vc_X12_cut_1 h39918 h39917)
                    have h39921 : z39829 < z14 := quOK.room R39839 (vc_X12_tries_v_170 h39838 h36956 h36957 h37104 h39470 h36950 h36949 h39832) (vc_X12_tries_v_166 h24482 h39474 h39913 h27.1 h24483 h39473 h39912) q39916 (vc_X12_tries_v_171 h39918 h39920)
                    refine sv_aload_n (pc := 169) dX12_tries_169 rfl rfl ?_
                    refine gf_X12_123 (pc := 170) dX12_tries_170 wF_X12_530 (A_106 hw) T39835 ?_
                    refine mr_iload (pc := 173) (z := (z39471 + z39910)) dX12_tries_173 rfl ?_
                    refine sv_aload_n (pc := 175) dX12_tries_175 rfl rfl ?_
                    refine gf_X12_123 (pc := 176) dX12_tries_176 wF_X12_530 (A_106 hw) T39835 ?_
                    refine mr_iload (pc := 179) (z := z39471) dX12_tries_179 rfl ?_
                    refine la_189 (pc := 181) dX12_tries_181 (A_189 hw) T39835 (rIx (n := 46656) h39473 rfl) fun z39922 q39923 h39924 => ?_
                    have h39925 : 0 ≤ z39922 ∧ z39922 ≤ z36943 := quOK.rd R39839 (vc_X12_tries_v_172 h36956 h36957 h37104 h39838 h39921 h27.1 h39470 h36950 h36949 h39832) (vc_X12_tries_v_173 h36956 h36957 h37104 h39838 h39921 h24482 h39474 h39913 h27.1 h24483 h39470 h36950 h36949 h39473 h39832 h39912) R39840 q39923
                    have h39926 : 0 ≤ z39922 ∧ z39922 ≤ 46656 := (vc_X12_tries_v_174 h36956 h36957 h37104 h39838 h39925 h39921 h27.1 h39470 h36950 h36949 h39832 h39924)
                    refine mr_iconst (pc := 182) (z := 1) dX12_tries_182 ?_
                    refine mr_iadd (pc := 183) (x := z39922) (y := 1) dX12_tries_183 ?_
                    refine ss_189 (pc := 184) dX12_tries_184 (A_189 hw) T39835 (vc_X12_tries_v_175 h39474 h39913 h24482 h39921 h27.1 h24483 h39473 h39832 h39912) (rW (c := (-2147483648)) (d := 2147483647) (rAdd (e := 1) (f := 46657) h39926 (rR (x := 1)) rfl) rfl) fun μ39927 u39928 T39929 => ?_
                    refine sv_aload_n (pc := 185) dX12_tries_185 rfl rfl ?_
                    refine gf_X12_124 (pc := 186) dX12_tries_186 wF_X12_533 (A_106 hw) T39929 ?_
                    refine mr_iload_n (pc := 189) (z := z39829) dX12_tries_189 rfl rfl ?_
                    refine mr_iload (pc := 190) (z := (z39471 + z39910)) dX12_tries_190 rfl ?_
                    refine ss_190 (pc := 192) dX12_tries_192 (A_190 hw) T39929 (vc_X12_tries_v_176 h39838 h39921 h24482 h36956 h36957 h37104 h39474 h39913 h39925 h27.1 h24483 h39470 h36950 h36949 h39473 h39832 h39912 h39926) (vc_X12_tries_v_177 h39474 h39913 h24482 h39921 h27.1 h24483 h39473 h39832 h39912) fun μ39930 u39931 T39932 => ?_
                    have Q39933 : quOK μ39930 (z39829 + 1) z14 := quOK.push R39839 (vc_X12_tries_v_178 h39838 h39921 h24482 h36956 h36957 h37104 h39474 h39913 h39925 h27.1 h24483 h39470 h36950 h36949 h39473 h39832 h39912 h39926) (vc_X12_tries_v_179 h24482 h39474 h39913 h39921 h39838 h27.1 h24483 h39470 h39473 h39832 h39912) q39916 (vc_X12_tries_v_171 h39918 h39920) u39928 (vc_X12_tries_v_180 h39838 h39921 h39925 h24482 h36956 h36957 h37104 h39474 h39913 h27.1 h24483 h39470 h36950 h36949 h39473 h39832 h39912 h39926) u39931
                    have h39934 := trB.push R39841 (vc_X12_tries_v_182 h36956 h36957 h37104 h39838 h39921 h39925 h24482 h39474 h39913 h27.1 h24483 h39470 h36950 h36949 h39473 h39832 h39912 h39926) (vc_X12_tries_v_92 h39879 h39894) R39840 (by have h := (vc_X12_tries_v_179 h24482 h39474 h39913 h39921 h39838 h27.1 h24483 h39470 h39473 h39832 h39912); have e := (cnP.N (h27.2.2.2.2.2.2.2.2.1).2 (rowB (A_184 hw) ((mF.call mF.refl F12 rfl) : mF [187999] w μ μ10) rfl rfl)); unfold trN; omega) q39916 (vc_X12_tries_v_171 h39918 h39920) q39923 h39914 u39928 (vc_X12_tries_v_183 h39925 h36956 h36957 h37104 h39838 h39470 h36950 h36949 h39832 h39926) u39931
                    refine mr_iinc (pc := 193) (lv' := [(3, iv (z39829 + 1)), (11, iv (z39471 + z39910)), (8, iv 0), (10, iv z39902), (0, .ref 106), (1, iv p1), (4, iv z36945), (5, iv z36944), (6, iv z36943), (7, iv z39471), (9, iv z39827)]) dX12_tries_193 rfl (by decide) rfl ?_
                    refine mr_iinc (pc := 196) (lv' := [(9, iv (z39827 + 1)), (3, iv (z39829 + 1)), (11, iv (z39471 + z39910)), (8, iv 0), (10, iv z39902), (0, .ref 106), (1, iv p1), (4, iv z36945), (5, iv z36944), (6, iv z36943), (7, iv z39471)]) dX12_tries_196 rfl (by decide) rfl ?_
                    refine sv_goto (pc := 199) (tgt := 103) dX12_tries_199 (by decide) ?_
                    refine mr_lvS (lv' := [(0, .ref 106), (1, iv p1), (3, iv (z39829 + 1)), (4, iv z36945), (5, iv z36944), (6, iv z36943), (7, iv z39471), (8, iv 0), (9, iv (z39827 + 1))]) (List.forall_mem_cons.mpr ⟨rfl, List.forall_mem_cons.mpr ⟨rfl, List.forall_mem_cons.mpr ⟨rfl, List.forall_mem_cons.mpr ⟨rfl, List.forall_mem_cons.mpr ⟨rfl, List.forall_mem_cons.mpr ⟨rfl, List.forall_mem_cons.mpr ⟨rfl, List.forall_mem_cons.mpr ⟨rfl, List.forall_mem_cons.mpr ⟨rfl, fun _ h => absurd h List.not_mem_nil⟩⟩⟩⟩⟩⟩⟩⟩⟩) ?_
                    exact ih39845 (z39829 + 1) 0 (z39827 + 1) μ39930 T39932 (mF.up (mF.up (mF.call mF.refl F39836 rfl) (A_189 hw) u39928 rfl) (A_190 hw) u39931 rfl) (vc_X12_tries_v_184 h39838 h39921 h24482 h36956 h36957 h37104 h39474 h39913 h39925 h27.1 h24483 h39470 h36950 h36949 h39473 h39832 h39912 h39926) (rW (c := 0) (d := 1) (rR (x := 0)) rfl) (rW (c := 1) (d := 7) (rAdd (e := 2) (f := 7) h39894 (rR (x := 1)) rfl) rfl) (vc_X12_tries_v_185 h36956 h36957 h37104 h39838 h39921 h39925 h24482 h39474 h39913 h27.1 h24483 h39470 h36950 h36949 h39473 h39832 h39912 h39926) Q39933 (mU.f u39931 (Or.inr (vc_X12_tries_v_181 h36956 h36957 h37104 h39838 h39921 h39925 h24482 h39474 h39913 h27.1 h24483 h39470 h36950 h36949 h39473 h39832 h39912 h39926)) (mU.f u39928 (Or.inl (by decide)) R39840)) (h39934).1 ⟨agQ.trans (R39842).1 (h39934).2 (R39842).2, Int.le_trans (R39842).2 (vc_X12_tries_v_187 h39838 h39921 h24482 h36956 h36957 h37104 h39474 h39913 h39925 h27.1 h24483 h39470 h36950 h36949 h39473 h39832 h39912 h39926)⟩ (rsI.any R39843 (vc_X12_tries_v_92 h39879 h39894) (actR.of h39901.2.2.1 (rowB (A_184 hw) ((mF.call mF.refl F39836 rfl) : mF [189999, 190999] w μ39493 μ39830) rfl rfl) (rowB (A_185 hw) ((mF.call mF.refl F39836 rfl) : mF [189999, 190999] w μ39493 μ39830) rfl rfl) (rowB (A_186 hw) ((mF.call mF.refl F39836 rfl) : mF [189999, 190999] w μ39493 μ39830) rfl rfl) (rowB (A_188 hw) ((mF.call mF.refl F39836 rfl) : mF [189999, 190999] w μ39493 μ39830) rfl rfl)) ((congrFun (rowB (A_188 hw) ((mF.call mF.refl F39836 rfl) : mF [189999, 190999] w μ39493 μ39830) rfl rfl) _).symm.trans q39904) (vc_X12_tries_v_168 h39901.2.1 h39906 h39833 h39897 h39901.1 h39905)) (vc_X12_isRest_24 (nS h39844) h39879 h39894)
                  have h39935 := (nxP.isS (hasD.of h39516 (rowB (A_188 hw) ((mF.call mF.refl F39836 rfl) : mF [189999, 190999] w μ39493 μ39830) rfl rfl) (rowB (A_184 hw) ((mF.call mF.refl F39836 rfl) : mF [189999, 190999] w μ39493 μ39830) rfl rfl)) (wgT.of (h27.2.2.2.2.2.2.2.2.1).1 (rowB (A_187 hw) ((mF.call (mF.call (mF.call (mF.up (mF.up (mF.call mF.refl F24469 rfl) (A_190 hw) u24485 rfl) (A_189 hw) u24488 rfl) F36954 rfl) F39495 rfl) F39836 rfl) : mF [188999, 189999, 190999, 191999] w μ10 μ39830) rfl rfl) (rowB (A_184 hw) ((mF.call (mF.call (mF.call (mF.up (mF.up (mF.call mF.refl F24469 rfl) (A_190 hw) u24485 rfl) (A_189 hw) u24488 rfl) F36954 rfl) F39495 rfl) F39836 rfl) : mF [188999, 189999, 190999, 191999] w μ10 μ39830) rfl rfl)) (rowB (A_184 hw) ((mF.call (mF.call (mF.call (mF.up (mF.up (mF.call (mF.call mF.refl F12 rfl) F24469 rfl) (A_190 hw) u24485 rfl) (A_189 hw) u24488 rfl) F36954 rfl) F39495 rfl) F39836 rfl) : mF [187999, 188999, 189999, 190999, 191999] w μ μ39830) rfl rfl) (rowB (A_185 hw) ((mF.call (mF.call (mF.call (mF.up (mF.up (mF.call (mF.call mF.refl F12 rfl) F24469 rfl) (A_190 hw) u24485 rfl) (A_189 hw) u24488 rfl) F36954 rfl) F39495 rfl) F39836 rfl) : mF [187999, 188999, 189999, 190999, 191999] w μ μ39830) rfl rfl) (rowB (A_186 hw) ((mF.call (mF.call (mF.call (mF.up (mF.up (mF.call (mF.call mF.refl F12 rfl) F24469 rfl) (A_190 hw) u24485 rfl) (A_189 hw) u24488 rfl) F36954 rfl) F39495 rfl) F39836 rfl) : mF [187999, 188999, 189999, 190999, 191999] w μ μ39830) rfl rfl) (fun i => T39835 186 186 (A_186 hw) i) (vc_X12_tries_v_130 h39474 h24482 h27.1 h24483 h39473) (vc_X12_tries_v_92 h39879 h39894) h39901.2.2.1 q39904 (vc_X12_tries_v_188 h39901.2.1 h39906 h39897 h39901.1 h39905))
                  refine sv_goto (pc := 130) (tgt := 196) dX12_tries_130 (by decide) ?_
                  refine mr_iinc (pc := 196) (lv' := [(9, iv (z39827 + 1)), (10, iv z39902), (0, .ref 106), (1, iv p1), (3, iv z39829), (4, iv z36945), (5, iv z36944), (6, iv z36943), (7, iv z39471), (8, iv z39828)]) dX12_tries_196 rfl (by decide) rfl ?_
                  refine sv_goto (pc := 199) (tgt := 103) dX12_tries_199 (by decide) ?_
                  refine mr_lvS (lv' := [(0, .ref 106), (1, iv p1), (3, iv z39829), (4, iv z36945), (5, iv z36944), (6, iv z36943), (7, iv z39471), (8, iv z39828), (9, iv (z39827 + 1))]) (List.forall_mem_cons.mpr ⟨rfl, List.forall_mem_cons.mpr ⟨rfl, List.forall_mem_cons.mpr ⟨rfl, List.forall_mem_cons.mpr ⟨rfl, List.forall_mem_cons.mpr ⟨rfl, List.forall_mem_cons.mpr ⟨rfl, List.forall_mem_cons.mpr ⟨rfl, List.forall_mem_cons.mpr ⟨rfl, List.forall_mem_cons.mpr ⟨rfl, fun _ h => absurd h List.not_mem_nil⟩⟩⟩⟩⟩⟩⟩⟩⟩) ?_
                  exact ih39845 z39829 z39828 (z39827 + 1) μ39830 T39835 (mF.call mF.refl F39836 rfl) h39832 h39833 (rW (c := 1) (d := 7) (rAdd (e := 2) (f := 7) h39894 (rR (x := 1)) rfl) rfl) (vc_X12_tries_v_137 h36956 h36957 h37104 h39838 h39470 h36950 h36949 h39832) R39839 R39840 (trB.same R39841 (vc_X12_tries_v_145 h36956 h36957 h37104 h39838 h39470 h36950 h36949 h39832) (vc_X12_tries_v_189 h39879 h39894) R39840 (vc_X12_tries_v_130 h39474 h24482 h27.1 h24483 h39473) rfl h39935) R39842 (rsI.any R39843 (vc_X12_tries_v_92 h39879 h39894) (actR.of h39901.2.2.1 (rowB (A_184 hw) ((mF.call mF.refl F39836 rfl) : mF [189999, 190999] w μ39493 μ39830) rfl rfl) (rowB (A_185 hw) ((mF.call mF.refl F39836 rfl) : mF [189999, 190999] w μ39493 μ39830) rfl rfl) (rowB (A_186 hw) ((mF.call mF.refl F39836 rfl) : mF [189999, 190999] w μ39493 μ39830) rfl rfl) (rowB (A_188 hw) ((mF.call mF.refl F39836 rfl) : mF [189999, 190999] w μ39493 μ39830) rfl rfl)) ((congrFun (rowB (A_188 hw) ((mF.call mF.refl F39836 rfl) : mF [189999, 190999] w μ39493 μ39830) rfl rfl) _).symm.trans q39904) (vc_X12_tries_v_190 h39901.2.1 h39906 h39833 h39897 h39901.1 h39905)) (vc_X12_isRest_24 (nS h39844) h39879 h39894)
              refine mr_lvS (lv' := [(0, .ref 106), (1, iv p1), (3, iv z36946), (4, iv z36945), (5, iv z36944), (6, iv z36943), (7, iv z39471), (8, iv 1), (9, iv 1)]) (List.forall_mem_cons.mpr ⟨rfl, List.forall_mem_cons.mpr ⟨rfl, List.forall_mem_cons.mpr ⟨rfl, List.forall_mem_cons.mpr ⟨rfl, List.forall_mem_cons.mpr ⟨rfl, List.forall_mem_cons.mpr ⟨rfl, List.forall_mem_cons.mpr ⟨rfl, List.forall_mem_cons.mpr ⟨rfl, List.forall_mem_cons.mpr ⟨rfl, fun _ h => absurd h List.not_mem_nil⟩⟩⟩⟩⟩⟩⟩⟩⟩) ?_
              exact L39831 8 z36946 1 1 μ39493 T39494 mF.refl h36949 (rW (c := 0) (d := 1) (rR (x := 1)) rfl) (rW (c := 1) (d := 7) (rR (x := 1)) rfl) (vc_X12_tries_v_127 h36956 h36957 h37104 h39470 h36950 h36949) (quOK.keep R36958 hw ((mF.call mF.refl F39495 rfl) : mF [188999] w μ36947 μ39493) rfl) (F39495.f (A_190 hw) rfl q39472) (trB.of R36960 (rowB (A_189 hw) ((mF.call mF.refl F39495 rfl) : mF [188999] w μ36947 μ39493) rfl rfl) (rowB (A_190 hw) ((mF.call mF.refl F39495 rfl) : mF [188999] w μ36947 μ39493) rfl rfl)) ⟨agQ.of agQ.refl (rowB (A_189 hw) ((mF.call mF.refl F39495 rfl) : mF [188999] w μ36947 μ39493) rfl rfl) (rowB (A_190 hw) ((mF.call mF.refl F39495 rfl) : mF [188999] w μ36947 μ39493) rfl rfl), Int.le_refl _⟩ (rsI.start vc_X4_isRest_v_11 vc_X4_prepare_v_36) vc_X12_isRest_25
          refine mr_lvS (lv' := [(0, .ref 106), (1, iv p1), (3, iv 1), (4, iv 0), (5, iv (-99999999)), (6, iv 0)]) (List.forall_mem_cons.mpr ⟨rfl, List.forall_mem_cons.mpr ⟨rfl, List.forall_mem_cons.mpr ⟨rfl, List.forall_mem_cons.mpr ⟨rfl, List.forall_mem_cons.mpr ⟨rfl, List.forall_mem_cons.mpr ⟨rfl, fun _ h => absurd h List.not_mem_nil⟩⟩⟩⟩⟩⟩) ?_
          exact L36948 46658 1 0 (-99999999) 0 μ24487 T24489 mF.refl (rW (c := 1) (d := 46656) (rR (x := 1)) rfl) (rW (c := 0) (d := 46656) (rR (x := 0)) rfl) (rW (c := (-2147483648)) (d := 2147483647) (rR (x := (-99999999))) rfl) (rW (c := 0) (d := 46656) (rR (x := 0)) rfl) vc_X12_dropMark_20 vc_X12_tries_v_191 Q24490 (wgT.of (h27.2.2.2.2.2.2.2.2.1).1 (rowB (A_187 hw) ((mF.up (mF.up (mF.call mF.refl F24469 rfl) (A_190 hw) u24485 rfl) (A_189 hw) u24488 rfl) : mF [189999, 190999, 191999] w μ10 μ24487) rfl rfl) (rowB (A_184 hw) ((mF.up (mF.up (mF.call mF.refl F24469 rfl) (A_190 hw) u24485 rfl) (A_189 hw) u24488 rfl) : mF [189999, 190999, 191999] w μ10 μ24487) rfl rfl)) (h24491).1 (trK.start (fun s hs => (h24491).2 s (by rw [(cnP.N (h27.2.2.2.2.2.2.2.2.1).2 (rowB (A_184 hw) ((mF.call mF.refl F12 rfl) : mF [187999] w μ μ10) rfl rfl))]; exact hs))) vc_X12_rests_19
        have h39936 : 0 ≤ z24464 ∧ z24464 ≤ 46655 := (vc_X12_rest_14 h24482 h27.1 h24467)
        refine sv_aload_n (pc := 23) dX12_tries_23 rfl rfl ?_
        refine gf_X12_123 (pc := 24) dX12_tries_24 wF_X12_530 (A_106 hw) T24468 ?_
        refine mr_iload_n (pc := 27) (z := z24464) dX12_tries_27 rfl rfl ?_
        refine mr_iconst (pc := 28) (z := (-1)) dX12_tries_28 ?_
        refine ss_189 (pc := 29) dX12_tries_29 (A_189 hw) T24468 (rIx (n := 46656) h39936 rfl) (rW (c := (-2147483648)) (d := 2147483647) (rR (x := (-1))) rfl) fun μ39937 u39938 T39939 => ?_
        refine sv_aload_n (pc := 30) dX12_tries_30 rfl rfl ?_
        refine gf_X12_125 (pc := 31) dX12_tries_31 wF_X12_536 (A_106 hw) T39939 ?_
        refine mr_iload_n (pc := 34) (z := z24464) dX12_tries_34 rfl rfl ?_
        refine mr_iconst (pc := 35) (z := 0) dX12_tries_35 ?_
        refine ss_191 (pc := 36) dX12_tries_36 (A_191 hw) T39939 (rIx (n := 46656) h39936 rfl) (rW (c := 0) (d := 1) (rR (x := 0)) rfl) fun μ39940 u39941 T39942 => ?_
        refine mr_iinc (pc := 37) (lv' := [(3, iv (z24464 + 1)), (0, .ref 106), (1, iv p1), (2, iv z14)]) dX12_tries_37 rfl (by decide) rfl ?_
        refine sv_goto (pc := 40) (tgt := 18) dX12_tries_40 (by decide) ?_
        refine mr_lvS (lv' := [(0, .ref 106), (1, iv p1), (2, iv z14), (3, iv (z24464 + 1))]) (List.forall_mem_cons.mpr ⟨rfl, List.forall_mem_cons.mpr ⟨rfl, List.forall_mem_cons.mpr ⟨rfl, List.forall_mem_cons.mpr ⟨rfl, fun _ h => absurd h List.not_mem_nil⟩⟩⟩⟩) ?_
        exact ih24473 (z24464 + 1) μ39940 T39942 (mF.up (mF.up (mF.call mF.refl F24469 rfl) (A_189 hw) u39938 rfl) (A_191 hw) u39941 rfl) (rW (c := 0) (d := 46656) (rAdd (e := 1) (f := 46656) h39936 (rR (x := 1)) rfl) rfl) (trZ0.next R24471 (vc_X12_tries_v_194 h24482 h27.1 h39936) u39938 u39941) (vc_X12_rest_23 (nS h24472) h24482 h27.1 h39936)
    refine mr_lvS (lv' := [(0, .ref 106), (1, iv p1), (2, iv z14), (3, iv 0)]) (List.forall_mem_cons.mpr ⟨rfl, List.forall_mem_cons.mpr ⟨rfl, List.forall_mem_cons.mpr ⟨rfl, List.forall_mem_cons.mpr ⟨rfl, fun _ h => absurd h List.not_mem_nil⟩⟩⟩⟩) ?_
    exact L24466 46658 0 μ10 T11 mF.refl (rW (c := 0) (d := 46656) (rR (x := 0)) rfl) (fun s hs => absurd hs (by have h := vc_X12_isOffered_v_15; omega)) vc_X12_rests_19
  have h39943 : 0 ≤ z5 ∧ z5 ≤ 0 := (vc_X12_tries_v_196 h6 h4.2.1 h4.2.2.1 hp1 h4.1)
  have h39944 : p1 < (0 : Int) ∨ (3 : Int) < p1 := (h4.2.2.1 (vc_X12_tries_v_197 h4.2.1 h4.2.2.1 h6 hp1 h39943))
  refine mr_iconst (pc := 9) (z := (-1)) dX12_tries_9 ?_
  exact mr_iret dX12_tries_10 rfl (le_t rfl) (le_t rfl) hT mF.refl ⟨(rW (c := (-2147483648)) (d := 2147483647) (rR (x := (-1))) rfl), (Or.inl ⟨(vc_X12_tries_v_198 h4.2.1 h4.2.2.1 h39944 h6 hp1 h39943), rfl⟩), trivial⟩
