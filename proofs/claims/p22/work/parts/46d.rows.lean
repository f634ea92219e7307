section
theorem vc_X12_rests_7 {z427 : Int} (h0 : (46657 - z427) < ((0 : Nat) : Int)) (h1 : 0 ≤ z427 ∧ z427 ≤ 46656) : False := by omega
theorem vc_X12_rests_8 {z427 z5 : Int} (h0 : z5 ≤ z427) (h1 : 0 ≤ z427 ∧ z427 ≤ 46656) (h2 : 1 ≤ z5 ∧ z5 ≤ 46656) : 1 ≤ z427 ∧ z427 ≤ 46656 := by omega
theorem vc_X12_rests_9 {z427 z5 : Int} (h0 : z427 < z5) (h1 : 0 ≤ z427 ∧ z427 ≤ 46656) (h2 : 1 ≤ z5 ∧ z5 ≤ 46656) : 0 ≤ z427 ∧ z427 ≤ 46655 := by omega
theorem vc_X12_rests_17 {N z427 z5 : Int} (h0 : (46657 - z427) < N + 1) (h1 : z427 < z5) (h2 : 0 ≤ z427 ∧ z427 ≤ 46655) (h3 : 1 ≤ z5 ∧ z5 ≤ 46656) : (46657 - (z427 + 1)) < N := by omega
theorem vc_X12_rests_19  : (46657 - 0) < ((46658 : Nat) : Int) := by omega
set_option maxRecDepth 4000 in
set_option maxHeartbeats 4000000 in
theorem c_X12_rests {l : Launch} {D : va_G} {c : Nat → ClassId} {H0 : Heap} {sa : Nat × Nat × (Nat → Int32)} {w : mW} {μ : mM} (hw : mWF w) (hT : mT w μ) : sC (gG l D c H0 sa) mX12_rests 4 0 0 [.ref 106] (mk w μ) (qI w [187999, 188999] μ (fun z μ1 => ((-2147483648) ≤ z ∧ z ≤ 2147483647) ∧ True)) := by
  refine sC.of rfl (by decide) (le_t rfl) ?_
  refine mr_lvE (lv' := [(0, .ref 106)]) rfl ?_
  refine sv_aload_n (pc := 0) dX12_rests_0 rfl rfl ?_
  refine mr_cVI (pc := 1) (c_X12_states hw hT) (gOk _ _ _ _ _) dX12_rests_1 (tX12_states _ _ _ _ _) ⟨wV_X12_states, wL_X12_states⟩ wM_X12_728 (gCX12 _ _ _ _ _) rfl (A_106 hw) rfl ⟨le_t rfl, le_t rfl⟩ ⟨le_t rfl, le_t rfl⟩ rfl (le_t rfl) fun z5 μ1 T2 F3 h4 => ?_
  obtain ⟨z6, z8, z10, z12, z14, z16, q7, q9, q11, q13, q15, q17, h18⟩ := h4
  have h19 : (0 ≤ z6 ∧ z6 ≤ 46656) := by rw [← q7]; exact T2 187 187 (A_187 hw) ((1 : Int).toNat)
  have h20 : (0 ≤ z8 ∧ z8 ≤ 46656) := by rw [← q9]; exact T2 187 187 (A_187 hw) ((2 : Int).toNat)
  have h21 : (0 ≤ z10 ∧ z10 ≤ 46656) := by rw [← q11]; exact T2 187 187 (A_187 hw) ((3 : Int).toNat)
  have h22 : (0 ≤ z12 ∧ z12 ≤ 46656) := by rw [← q13]; exact T2 187 187 (A_187 hw) ((4 : Int).toNat)
  have h23 : (0 ≤ z14 ∧ z14 ≤ 46656) := by rw [← q15]; exact T2 187 187 (A_187 hw) ((5 : Int).toNat)
  have h24 : (0 ≤ z16 ∧ z16 ≤ 46656) := by rw [← q17]; exact T2 187 187 (A_187 hw) ((6 : Int).toNat)
  have h25 : 1 ≤ z6 ∧ z6 ≤ 46656 := (vc_X12_open_1 h18.2.1 h19)
  have h26 : 1 ≤ z8 ∧ z8 ≤ 46656 := (vc_X12_open_1 h18.2.2.1 h20)
  have h27 : 1 ≤ z10 ∧ z10 ≤ 46656 := (vc_X12_open_1 h18.2.2.2.1 h21)
  have h28 : 1 ≤ z12 ∧ z12 ≤ 46656 := (vc_X12_open_1 h18.2.2.2.2.1 h22)
  have h29 : 1 ≤ z14 ∧ z14 ≤ 46656 := (vc_X12_open_1 h18.2.2.2.2.2.1 h23)
  have h30 : 1 ≤ z16 ∧ z16 ≤ 46656 := (vc_X12_open_1 h18.2.2.2.2.2.2.1 h24)
  refine mr_istore_n (pc := 4) (lv' := [(1, iv z5), (0, .ref 106)]) dX12_rests_4 rfl (by decide) rfl ?_
  refine mr_iconst (pc := 5) (z := 0) dX12_rests_5 ?_
  refine mr_istore_n (pc := 6) (lv' := [(2, iv 0), (1, iv z5), (0, .ref 106)]) dX12_rests_6 rfl (by decide) rfl ?_
  refine mr_iconst (pc := 7) (z := 0) dX12_rests_7 ?_
  refine mr_istore_n (pc := 8) (lv' := [(3, iv 0), (2, iv 0), (1, iv z5), (0, .ref 106)]) dX12_rests_8 rfl (by decide) rfl ?_
  have L430 : ∀ (nL430 : Nat) (z428 z427 : Int) (μ429 : mM), mT w μ429 → mF [188999] w μ1 μ429 → ((-2147483648) ≤ z428 ∧ z428 ≤ 2147483647) → (0 ≤ z427 ∧ z427 ≤ 46656) → (46657 - z427) < (nL430 : Int) → sV (gG l D c H0 sa) mX12_rests (sRm 4 0 0) (sZ (gG l D c H0 sa) 0 0 (qI w [187999, 188999] μ (fun z μ1 => ((-2147483648) ≤ z ∧ z ≤ 2147483647) ∧ True))) 9 [(0, .ref 106), (1, iv z5), (2, iv z428), (3, iv z427)] [] (mk w μ429) 0 0 := by
    intro nL430
    induction nL430 with
    | zero => intro z428 z427 μ429 T433 F434 h431 h432 h436; exact ((vc_X12_rests_7 h436 h432)).elim
    | succ nL430 ih437 =>
      intro z428 z427 μ429 T433 F434 h431 h432 h436
      refine mr_iload_n (pc := 9) (z := z427) dX12_rests_9 rfl rfl ?_
      refine mr_iload_n (pc := 10) (z := z5) dX12_rests_10 rfl rfl ?_
      refine mr_icmp_ge (pc := 11) (tgt := 36) dX12_rests_11 (by decide) (r32 h432 rfl) (r32 h18.1 rfl) (fun h467 => ?_) (fun h467 => ?_)
      · have h468 : 1 ≤ z427 ∧ z427 ≤ 46656 := (vc_X12_rests_8 h467 h432 h18.1)
        refine mr_iload_n (pc := 36) (z := z428) dX12_rests_36 rfl rfl ?_
        exact mr_iret dX12_rests_37 rfl (le_t rfl) (le_t rfl) T433 (mF.call (mF.call mF.refl F3 rfl) F434 rfl) ⟨h431, trivial⟩
      have h469 : 0 ≤ z427 ∧ z427 ≤ 46655 := (vc_X12_rests_9 h467 h432 h18.1)
      refine mr_iload_n (pc := 14) (z := z428) dX12_rests_14 rfl rfl ?_
      refine sv_aload_n (pc := 15) dX12_rests_15 rfl rfl ?_
      refine mr_iload_n (pc := 16) (z := z427) dX12_rests_16 rfl rfl ?_
      obtain ⟨z470, q471⟩ : ∃ z, μ429 184 ((1 : Int).toNat) = z := ⟨_, rfl⟩
      have h472 : (0 ≤ z470 ∧ z470 ≤ 5) := by rw [← q471]; exact T433 184 184 (A_184 hw) ((1 : Int).toNat)
      obtain ⟨z473, q474⟩ : ∃ z, μ429 184 ((2 : Int).toNat) = z := ⟨_, rfl⟩
      have h475 : (0 ≤ z473 ∧ z473 ≤ 5) := by rw [← q474]; exact T433 184 184 (A_184 hw) ((2 : Int).toNat)
      obtain ⟨z476, q477⟩ : ∃ z, μ429 184 ((3 : Int).toNat) = z := ⟨_, rfl⟩
      have h478 : (0 ≤ z476 ∧ z476 ≤ 5) := by rw [← q477]; exact T433 184 184 (A_184 hw) ((3 : Int).toNat)
      obtain ⟨z479, q480⟩ : ∃ z, μ429 184 ((4 : Int).toNat) = z := ⟨_, rfl⟩
      have h481 : (0 ≤ z479 ∧ z479 ≤ 5) := by rw [← q480]; exact T433 184 184 (A_184 hw) ((4 : Int).toNat)
      obtain ⟨z482, q483⟩ : ∃ z, μ429 184 ((5 : Int).toNat) = z := ⟨_, rfl⟩
      have h484 : (0 ≤ z482 ∧ z482 ≤ 5) := by rw [← q483]; exact T433 184 184 (A_184 hw) ((5 : Int).toNat)
      obtain ⟨z485, q486⟩ : ∃ z, μ429 184 ((6 : Int).toNat) = z := ⟨_, rfl⟩
      have h487 : (0 ≤ z485 ∧ z485 ≤ 5) := by rw [← q486]; exact T433 184 184 (A_184 hw) ((6 : Int).toNat)
      refine mr_cVI (pc := 17) (c_X12_isRest hw T433 h469 (F434.f (A_187 hw) rfl q7) (F434.f (A_187 hw) rfl q9) (F434.f (A_187 hw) rfl q11) (F434.f (A_187 hw) rfl q13) (F434.f (A_187 hw) rfl q15) (F434.f (A_187 hw) rfl q17) q471 q474 q477 q480 q483 q486 (vc_X12_isRest_7 h18.2.1 h25) (vc_X12_isRest_7 h18.2.2.1 h26) (vc_X12_isRest_7 h18.2.2.2.1 h27) (vc_X12_isRest_7 h18.2.2.2.2.1 h28) (vc_X12_isRest_7 h18.2.2.2.2.2.1 h29) (vc_X12_isRest_7 h18.2.2.2.2.2.2.1 h30)) (gOk _ _ _ _ _) dX12_rests_17 (tX12_isRest _ _ _ _ _) ⟨wV_X12_isRest, wL_X12_isRest⟩ wM_X12_731 (gCX12 _ _ _ _ _) rfl (A_106 hw) rfl ⟨le_t rfl, le_t rfl⟩ ⟨le_t rfl, le_t rfl⟩ rfl (le_t rfl) fun z492 μ488 T489 F490 h491 => ?_
      refine mr_if_eq (pc := 20) (tgt := 27) dX12_rests_20 (by decide) (r32 h491.1 rfl) (fun h495 => ?_) (fun h495 => ?_)
      · have h496 : 0 ≤ z492 ∧ z492 ≤ 0 := (vc_X12_ring_22 h495 h491.1)
        refine mr_iconst (pc := 27) (z := 0) dX12_rests_27 ?_
        refine mr_iadd (pc := 28) (x := z428) (y := 0) dX12_rests_28 ?_
        refine mr_istore_n (pc := 29) (lv' := [(2, iv (z428 + 0)), (0, .ref 106), (1, iv z5), (3, iv z427)]) dX12_rests_29 rfl (by decide) rfl ?_
        refine mr_iinc (pc := 30) (lv' := [(3, iv (z427 + 1)), (2, iv (z428 + 0)), (0, .ref 106), (1, iv z5)]) dX12_rests_30 rfl (by decide) rfl ?_
        refine sv_goto (pc := 33) (tgt := 9) dX12_rests_33 (by decide) ?_
        refine mr_lvS (lv' := [(0, .ref 106), (1, iv z5), (2, iv (z428 + 0)), (3, iv (z427 + 1))]) (List.forall_mem_cons.mpr ⟨rfl, List.forall_mem_cons.mpr ⟨rfl, List.forall_mem_cons.mpr ⟨rfl, List.forall_mem_cons.mpr ⟨rfl, fun _ h => absurd h List.not_mem_nil⟩⟩⟩⟩) ?_
        exact ih437 (z428 + 0) (z427 + 1) μ488 T489 (mF.call (mF.call mF.refl F434 rfl) F490 rfl) (rAdd (e := (-2147483648)) (f := 2147483647) h431 (rR (x := 0)) rfl) (rW (c := 0) (d := 46656) (rAdd (e := 1) (f := 46656) h469 (rR (x := 1)) rfl) rfl) (vc_X12_rests_17 (nS h436) h467 h469 h18.1)
      have h497 : 1 ≤ z492 ∧ z492 ≤ 1 := (vc_X12_ring_24 h495 h491.1)
      refine mr_iconst (pc := 23) (z := 1) dX12_rests_23 ?_
      refine sv_goto (pc := 24) (tgt := 28) dX12_rests_24 (by decide) ?_
      refine mr_iadd (pc := 28) (x := z428) (y := 1) dX12_rests_28 ?_
      refine mr_wrap fun z498 h499 => ?_
      refine mr_istore_n (pc := 29) (lv' := [(2, iv z498), (0, .ref 106), (1, iv z5), (3, iv z427)]) dX12_rests_29 rfl (by decide) rfl ?_
      refine mr_iinc (pc := 30) (lv' := [(3, iv (z427 + 1)), (2, iv z498), (0, .ref 106), (1, iv z5)]) dX12_rests_30 rfl (by decide) rfl ?_
      refine sv_goto (pc := 33) (tgt := 9) dX12_rests_33 (by decide) ?_
      refine mr_lvS (lv' := [(0, .ref 106), (1, iv z5), (2, iv z498), (3, iv (z427 + 1))]) (List.forall_mem_cons.mpr ⟨rfl, List.forall_mem_cons.mpr ⟨rfl, List.forall_mem_cons.mpr ⟨rfl, List.forall_mem_cons.mpr ⟨rfl, fun _ h => absurd h List.not_mem_nil⟩⟩⟩⟩) ?_
      exact ih437 z498 (z427 + 1) μ488 T489 (mF.call (mF.call mF.refl F434 rfl) F490 rfl) h499 (rW (c := 0) (d := 46656) (rAdd (e := 1) (f := 46656) h469 (rR (x := 1)) rfl) rfl) (vc_X12_rests_17 (nS h436) h467 h469 h18.1)
  refine mr_lvS (lv' := [(0, .ref 106), (1, iv z5), (2, iv 0), (3, iv 0)]) (List.forall_mem_cons.mpr ⟨rfl, List.forall_mem_cons.mpr ⟨rfl, List.forall_mem_cons.mpr ⟨rfl, List.forall_mem_cons.mpr ⟨rfl, fun _ h => absurd h List.not_mem_nil⟩⟩⟩⟩) ?_
  exact L430 46658 0 0 μ1 T2 mF.refl (rW (c := (-2147483648)) (d := 2147483647) (rR (x := 0)) rfl) (rW (c := 0) (d := 46656) (rR (x := 0)) rfl) vc_X12_rests_19
theorem vc_X12_rest_3 {p2 z8 : Int} (h0 : ¬ z8 = 0) (h1 : (z8 = 1 → (1 : Int) ≤ p2 ∧ p2 ≤ (6 : Int))) (h2 : (z8 = 0 → p2 < (1 : Int) ∨ (6 : Int) < p2)) (h3 : (-2147483648) ≤ p2 ∧ p2 ≤ 2147483647) (h4 : 0 ≤ z8 ∧ z8 ≤ 1) : 1 ≤ z8 ∧ z8 ≤ 1 := by omega
theorem vc_X12_rest_4 {p2 z8 : Int} (h0 : (z8 = 1 → (1 : Int) ≤ p2 ∧ p2 ≤ (6 : Int))) (h1 : (z8 = 0 → p2 < (1 : Int) ∨ (6 : Int) < p2)) (h2 : ¬ z8 = 0) (h3 : (-2147483648) ≤ p2 ∧ p2 ≤ 2147483647) (h4 : 1 ≤ z8 ∧ z8 ≤ 1) : z8 = 1 := by omega
theorem vc_X12_rest_5 {p2 z8 : Int} (h0 : (1 : Int) ≤ p2 ∧ p2 ≤ (6 : Int)) (h1 : (z8 = 1 → (1 : Int) ≤ p2 ∧ p2 ≤ (6 : Int))) (h2 : (z8 = 0 → p2 < (1 : Int) ∨ (6 : Int) < p2)) (h3 : (-2147483648) ≤ p2 ∧ p2 ≤ 2147483647) (h4 : 1 ≤ z8 ∧ z8 ≤ 1) : 1 ≤ p2 ∧ p2 ≤ 6 := by omega
theorem vc_X12_rest_13 {z17 z956 : Int} (h0 : z17 ≤ z956) (h1 : 1 ≤ z17 ∧ z17 ≤ 46656) (h2 : 0 ≤ z956 ∧ z956 ≤ 46656) : 1 ≤ z956 ∧ z956 ≤ 46656 := by omega
theorem vc_X12_rest_14 {z17 z956 : Int} (h0 : z956 < z17) (h1 : 1 ≤ z17 ∧ z17 ≤ 46656) (h2 : 0 ≤ z956 ∧ z956 ≤ 46656) : 0 ≤ z956 ∧ z956 ≤ 46655 := by omega
theorem vc_X12_rest_22 {z957 : Int} (h0 : ¬ z957 = 0) (h1 : 0 ≤ z957 ∧ z957 ≤ 2147483647) : 1 ≤ z957 ∧ z957 ≤ 2147483647 := by omega
theorem vc_X12_rest_23 {N z17 z956 : Int} (h0 : (46657 - z956) < N + 1) (h1 : z956 < z17) (h2 : 1 ≤ z17 ∧ z17 ≤ 46656) (h3 : 0 ≤ z956 ∧ z956 ≤ 46655) : (46657 - (z956 + 1)) < N := by omega
theorem vc_X12_rest_24 {z957 : Int} (h0 : z957 = 0) (h1 : 0 ≤ z957 ∧ z957 ≤ 2147483647) : 0 ≤ z957 ∧ z957 ≤ 0 := by omega
theorem vc_X12_rest_27 {p2 z8 : Int} (h0 : z8 = 0) (h1 : (z8 = 1 → (1 : Int) ≤ p2 ∧ p2 ≤ (6 : Int))) (h2 : (z8 = 0 → p2 < (1 : Int) ∨ (6 : Int) < p2)) (h3 : (-2147483648) ≤ p2 ∧ p2 ≤ 2147483647) (h4 : 0 ≤ z8 ∧ z8 ≤ 1) : 0 ≤ z8 ∧ z8 ≤ 0 := by omega
theorem vc_X12_rest_28 {p2 z8 : Int} (h0 : (z8 = 1 → (1 : Int) ≤ p2 ∧ p2 ≤ (6 : Int))) (h1 : (z8 = 0 → p2 < (1 : Int) ∨ (6 : Int) < p2)) (h2 : z8 = 0) (h3 : (-2147483648) ≤ p2 ∧ p2 ≤ 2147483647) (h4 : 0 ≤ z8 ∧ z8 ≤ 0) : z8 = 0 := by omega
set_option maxRecDepth 4000 in
set_option maxHeartbeats 4000000 in
theorem c_X12_rest {l : Launch} {D : va_G} {c : Nat → ClassId} {H0 : Heap} {sa : Nat × Nat × (Nat → Int32)} {w : mW} {μ : mM} (hw : mWF w) (hT : mT w μ) {p1 : Int} (hp1 : (-2147483648) ≤ p1 ∧ p1 ≤ 2147483647) {p2 : Int} (hp2 : (-2147483648) ≤ p2 ∧ p2 ≤ 2147483647) : sC (gG l D c H0 sa) mX12_rest 4 0 0 [.ref 106, iv p1, iv p2] (mk w μ) (qI w [187999, 188999] μ (fun z μ1 => ((-2147483648) ≤ z ∧ z ≤ 2147483647) ∧ True)) := by
  refine sC.of rfl (by decide) (le_t rfl) ?_
  refine mr_lvE (lv' := [(0, .ref 106), (1, iv p1), (2, iv p2)]) rfl ?_
  refine mr_iload_n (pc := 0) (z := p1) dX12_rest_0 rfl rfl ?_
  refine mr_if_lt (pc := 1) (tgt := 14) dX12_rest_1 (by decide) hp1 (fun h1 => ?_) (fun h1 => ?_)
  · have h2 : (-2147483648) ≤ p1 ∧ p1 ≤ (-1) := (vc_X12_ring_60 h1 hp1)
    refine mr_iconst (pc := 14) (z := (-1)) dX12_rest_14 ?_
    exact mr_iret dX12_rest_15 rfl (le_t rfl) (le_t rfl) hT mF.refl ⟨(rW (c := (-2147483648)) (d := 2147483647) (rR (x := (-1))) rfl), trivial⟩
  have h3 : 0 ≤ p1 ∧ p1 ≤ 2147483647 := (vc_X12_ring_1 h1 hp1)
  refine mr_iload_n (pc := 4) (z := p2) dX12_rest_4 rfl rfl ?_
  refine mr_iconst (pc := 5) (z := 1) dX12_rest_5 ?_
  refine mr_bipush (pc := 6) (z := 6) dX12_rest_6 (by decide) ?_
  refine mr_cSP (pc := 8) (c_X12_in hw hT hp2 (rW (c := (-2147483648)) (d := 2147483647) (rR (x := 1)) rfl) (rW (c := (-2147483648)) (d := 2147483647) (rR (x := 6)) rfl)) (gOk _ _ _ _ _) dX12_rest_8 (tX12_in _ _ _ _ _) wS_X12_in wM_X12_18 ⟨le_t rfl, le_t rfl⟩ ⟨le_t rfl, le_t rfl⟩ rfl (le_t rfl) fun z8 h7 => ?_
  refine mr_if_ne (pc := 11) (tgt := 16) dX12_rest_11 (by decide) (r32 h7.1 rfl) (fun h9 => ?_) (fun h9 => ?_)
  · have h10 : 1 ≤ z8 ∧ z8 ≤ 1 := (vc_X12_rest_3 h9 h7.2.1 h7.2.2.1 hp2 h7.1)
    have h11 : (1 : Int) ≤ p2 ∧ p2 ≤ (6 : Int) := (h7.2.1 (vc_X12_rest_4 h7.2.1 h7.2.2.1 h9 hp2 h10))
    have h12 : 1 ≤ p2 ∧ p2 ≤ 6 := (vc_X12_rest_5 h11 h7.2.1 h7.2.2.1 hp2 h10)
    refine sv_aload_n (pc := 16) dX12_rest_16 rfl rfl ?_
    refine mr_cVI (pc := 17) (c_X12_states hw hT) (gOk _ _ _ _ _) dX12_rest_17 (tX12_states _ _ _ _ _) ⟨wV_X12_states, wL_X12_states⟩ wM_X12_728 (gCX12 _ _ _ _ _) rfl (A_106 hw) rfl ⟨le_t rfl, le_t rfl⟩ ⟨le_t rfl, le_t rfl⟩ rfl (le_t rfl) fun z17 μ13 T14 F15 h16 => ?_
    obtain ⟨z18, z20, z22, z24, z26, z28, q19, q21, q23, q25, q27, q29, h30⟩ := h16
    have h31 : (0 ≤ z18 ∧ z18 ≤ 46656) := by rw [← q19]; exact T14 187 187 (A_187 hw) ((1 : Int).toNat)
    have h32 : (0 ≤ z20 ∧ z20 ≤ 46656) := by rw [← q21]; exact T14 187 187 (A_187 hw) ((2 : Int).toNat)
    have h33 : (0 ≤ z22 ∧ z22 ≤ 46656) := by rw [← q23]; exact T14 187 187 (A_187 hw) ((3 : Int).toNat)
    have h34 : (0 ≤ z24 ∧ z24 ≤ 46656) := by rw [← q25]; exact T14 187 187 (A_187 hw) ((4 : Int).toNat)
    have h35 : (0 ≤ z26 ∧ z26 ≤ 46656) := by rw [← q27]; exact T14 187 187 (A_187 hw) ((5 : Int).toNat)
    have h36 : (0 ≤ z28 ∧ z28 ≤ 46656) := by rw [← q29]; exact T14 187 187 (A_187 hw) ((6 : Int).toNat)
    have h37 : 1 ≤ z18 ∧ z18 ≤ 46656 := (vc_X12_open_1 h30.2.1 h31)
    have h38 : 1 ≤ z20 ∧ z20 ≤ 46656 := (vc_X12_open_1 h30.2.2.1 h32)
    have h39 : 1 ≤ z22 ∧ z22 ≤ 46656 := (vc_X12_open_1 h30.2.2.2.1 h33)
    have h40 : 1 ≤ z24 ∧ z24 ≤ 46656 := (vc_X12_open_1 h30.2.2.2.2.1 h34)
    have h41 : 1 ≤ z26 ∧ z26 ≤ 46656 := (vc_X12_open_1 h30.2.2.2.2.2.1 h35)
    have h42 : 1 ≤ z28 ∧ z28 ≤ 46656 := (vc_X12_open_1 h30.2.2.2.2.2.2.1 h36)
    refine mr_istore_n (pc := 20) (lv' := [(3, iv z17), (0, .ref 106), (1, iv p1), (2, iv p2)]) dX12_rest_20 rfl (by decide) rfl ?_
    refine mr_iload_n (pc := 21) (z := p1) dX12_rest_21 rfl rfl ?_
    refine mr_istore (pc := 22) (lv' := [(4, iv p1), (3, iv z17), (0, .ref 106), (1, iv p1), (2, iv p2)]) dX12_rest_22 (by decide) rfl ?_
    refine mr_iconst (pc := 24) (z := 0) dX12_rest_24 ?_
    refine mr_istore (pc := 25) (lv' := [(5, iv 0), (4, iv p1), (3, iv z17), (0, .ref 106), (1, iv p1), (2, iv p2)]) dX12_rest_25 (by decide) rfl ?_
    have L959 : ∀ (nL959 : Nat) (z957 z956 : Int) (μ958 : mM), mT w μ958 → mF [188999] w μ13 μ958 → (0 ≤ z957 ∧ z957 ≤ 2147483647) → (0 ≤ z956 ∧ z956 ≤ 46656) → (46657 - z956) < (nL959 : Int) → sV (gG l D c H0 sa) mX12_rest (sRm 4 0 0) (sZ (gG l D c H0 sa) 0 0 (qI w [187999, 188999] μ (fun z μ1 => ((-2147483648) ≤ z ∧ z ≤ 2147483647) ∧ True))) 27 [(0, .ref 106), (2, iv p2), (3, iv z17), (4, iv z957), (5, iv z956)] [] (mk w μ958) 0 0 := by
      intro nL959
      induction nL959 with
      | zero => intro z957 z956 μ958 T962 F963 h960 h961 h965; exact ((vc_X12_rests_7 h965 h961)).elim
      | succ nL959 ih966 =>
        intro z957 z956 μ958 T962 F963 h960 h961 h965
        refine mr_iload (pc := 27) (z := z956) dX12_rest_27 rfl ?_
        refine mr_iload_n (pc := 29) (z := z17) dX12_rest_29 rfl rfl ?_
        refine mr_icmp_ge (pc := 30) (tgt := 92) dX12_rest_30 (by decide) (r32 h961 rfl) (r32 h30.1 rfl) (fun h967 => ?_) (fun h967 => ?_)
        · have h968 : 1 ≤ z956 ∧ z956 ≤ 46656 := (vc_X12_rest_13 h967 h30.1 h961)
          refine mr_iconst (pc := 92) (z := (-1)) dX12_rest_92 ?_
          exact mr_iret dX12_rest_93 rfl (le_t rfl) (le_t rfl) T962 (mF.call (mF.call mF.refl F15 rfl) F963 rfl) ⟨(rW (c := (-2147483648)) (d := 2147483647) (rR (x := (-1))) rfl), trivial⟩
        have h969 : 0 ≤ z956 ∧ z956 ≤ 46655 := (vc_X12_rest_14 h967 h30.1 h961)
        refine sv_aload_n (pc := 33) dX12_rest_33 rfl rfl ?_
        refine mr_iload (pc := 34) (z := z956) dX12_rest_34 rfl ?_
        obtain ⟨z970, q971⟩ : ∃ z, μ958 184 ((1 : Int).toNat) = z := ⟨_, rfl⟩
        have h972 : (0 ≤ z970 ∧ z970 ≤ 5) := by rw [← q971]; exact T962 184 184 (A_184 hw) ((1 : Int).toNat)
        obtain ⟨z973, q974⟩ : ∃ z, μ958 184 ((2 : Int).toNat) = z := ⟨_, rfl⟩
        have h975 : (0 ≤ z973 ∧ z973 ≤ 5) := by rw [← q974]; exact T962 184 184 (A_184 hw) ((2 : Int).toNat)
        obtain ⟨z976, q977⟩ : ∃ z, μ958 184 ((3 : Int).toNat) = z := ⟨_, rfl⟩
        have h978 : (0 ≤ z976 ∧ z976 ≤ 5) := by rw [← q977]; exact T962 184 184 (A_184 hw) ((3 : Int).toNat)
        obtain ⟨z979, q980⟩ : ∃ z, μ958 184 ((4 : Int).toNat) = z := ⟨_, rfl⟩
        have h981 : (0 ≤ z979 ∧ z979 ≤ 5) := by rw [← q980]; exact T962 184 184 (A_184 hw) ((4 : Int).toNat)
        obtain ⟨z982, q983⟩ : ∃ z, μ958 184 ((5 : Int).toNat) = z := ⟨_, rfl⟩
        have h984 : (0 ≤ z982 ∧ z982 ≤ 5) := by rw [← q983]; exact T962 184 184 (A_184 hw) ((5 : Int).toNat)
        obtain ⟨z985, q986⟩ : ∃ z, μ958 184 ((6 : Int).toNat) = z := ⟨_, rfl⟩
        have h987 : (0 ≤ z985 ∧ z985 ≤ 5) := by rw [← q986]; exact T962 184 184 (A_184 hw) ((6 : Int).toNat)
        refine mr_cVI (pc := 36) (c_X12_isRest hw T962 h969 (F963.f (A_187 hw) rfl q19) (F963.f (A_187 hw) rfl q21) (F963.f (A_187 hw) rfl q23) (F963.f (A_187 hw) rfl q25) (F963.f (A_187 hw) rfl q27) (F963.f (A_187 hw) rfl q29) q971 q974 q977 q980 q983 q986 (vc_X12_isRest_7 h30.2.1 h37) (vc_X12_isRest_7 h30.2.2.1 h38) (vc_X12_isRest_7 h30.2.2.2.1 h39) (vc_X12_isRest_7 h30.2.2.2.2.1 h40) (vc_X12_isRest_7 h30.2.2.2.2.2.1 h41) (vc_X12_isRest_7 h30.2.2.2.2.2.2.1 h42)) (gOk _ _ _ _ _) dX12_rest_36 (tX12_isRest _ _ _ _ _) ⟨wV_X12_isRest, wL_X12_isRest⟩ wM_X12_731 (gCX12 _ _ _ _ _) rfl (A_106 hw) rfl ⟨le_t rfl, le_t rfl⟩ ⟨le_t rfl, le_t rfl⟩ rfl (le_t rfl) fun z992 μ988 T989 F990 h991 => ?_
        refine mr_if_ne (pc := 39) (tgt := 45) dX12_rest_39 (by decide) (r32 h991.1 rfl) (fun h993 => ?_) (fun h993 => ?_)
        · have h994 : 1 ≤ z992 ∧ z992 ≤ 1 := (vc_X12_ring_24 h993 h991.1)
          refine mr_iload (pc := 45) (z := z957) dX12_rest_45 rfl ?_
          refine mr_if_ne (pc := 47) (tgt := 83) dX12_rest_47 (by decide) (r32 h960 rfl) (fun h995 => ?_) (fun h995 => ?_)
          · have h996 : 1 ≤ z957 ∧ z957 ≤ 2147483647 := (vc_X12_rest_22 h995 h960)
            refine mr_iinc (pc := 83) (lv' := [(4, iv (z957 + (-1))), (0, .ref 106), (2, iv p2), (3, iv z17), (5, iv z956)]) dX12_rest_83 rfl (by decide) rfl ?_
            refine mr_iinc (pc := 86) (lv' := [(5, iv (z956 + 1)), (4, iv (z957 + (-1))), (0, .ref 106), (2, iv p2), (3, iv z17)]) dX12_rest_86 rfl (by decide) rfl ?_
            refine sv_goto (pc := 89) (tgt := 27) dX12_rest_89 (by decide) ?_
            refine mr_lvS (lv' := [(0, .ref 106), (2, iv p2), (3, iv z17), (4, iv (z957 + (-1))), (5, iv (z956 + 1))]) (List.forall_mem_cons.mpr ⟨rfl, List.forall_mem_cons.mpr ⟨rfl, List.forall_mem_cons.mpr ⟨rfl, List.forall_mem_cons.mpr ⟨rfl, List.forall_mem_cons.mpr ⟨rfl, fun _ h => absurd h List.not_mem_nil⟩⟩⟩⟩⟩) ?_
            exact ih966 (z957 + (-1)) (z956 + 1) μ988 T989 (mF.call (mF.call mF.refl F963 rfl) F990 rfl) (rW (c := 0) (d := 2147483647) (rAdd (e := 0) (f := 2147483646) h996 (rR (x := (-1))) rfl) rfl) (rW (c := 0) (d := 46656) (rAdd (e := 1) (f := 46656) h969 (rR (x := 1)) rfl) rfl) (vc_X12_rest_23 (nS h965) h967 h30.1 h969)
          have h997 : 0 ≤ z957 ∧ z957 ≤ 0 := (vc_X12_rest_24 h995 h960)
          refine sv_aload_n (pc := 50) dX12_rest_50 rfl rfl ?_
          refine mr_iload (pc := 51) (z := z956) dX12_rest_51 rfl ?_
          refine mr_cVV (pc := 53) (c_X12_open hw T989 h969 (F990.f (A_187 hw) rfl (F963.f (A_187 hw) rfl q19)) (F990.f (A_187 hw) rfl (F963.f (A_187 hw) rfl q21)) (F990.f (A_187 hw) rfl (F963.f (A_187 hw) rfl q23)) (F990.f (A_187 hw) rfl (F963.f (A_187 hw) rfl q25)) (F990.f (A_187 hw) rfl (F963.f (A_187 hw) rfl q27)) (F990.f (A_187 hw) rfl (F963.f (A_187 hw) rfl q29)) (F990.f (A_184 hw) rfl q971) (F990.f (A_184 hw) rfl q974) (F990.f (A_184 hw) rfl q977) (F990.f (A_184 hw) rfl q980) (F990.f (A_184 hw) rfl q983) (F990.f (A_184 hw) rfl q986) (vc_X12_isRest_7 h30.2.1 h37) (vc_X12_isRest_7 h30.2.2.1 h38) (vc_X12_isRest_7 h30.2.2.2.1 h39) (vc_X12_isRest_7 h30.2.2.2.2.1 h40) (vc_X12_isRest_7 h30.2.2.2.2.2.1 h41) (vc_X12_isRest_7 h30.2.2.2.2.2.2.1 h42)) (gOk _ _ _ _ _) dX12_rest_53 (tX12_open _ _ _ _ _) ⟨wV_X12_open, wL_X12_open⟩ wM_X12_722 (gCX12 _ _ _ _ _) rfl (A_106 hw) rfl ⟨le_t rfl, le_t rfl⟩ ⟨le_t rfl, le_t rfl⟩ rfl (le_t rfl) fun μ998 T999 F1000 h1001 => ?_
          obtain ⟨z1002, z1004, z1006, z1008, z1010, z1012, q1003, q1005, q1007, q1009, q1011, q1013, h1014⟩ := h1001
          have h1015 : (0 ≤ z1002 ∧ z1002 ≤ 5) := by rw [← q1003]; exact T999 188 188 (A_188 hw) ((1 : Int).toNat)
          have h1016 : (0 ≤ z1004 ∧ z1004 ≤ 5) := by rw [← q1005]; exact T999 188 188 (A_188 hw) ((2 : Int).toNat)
          have h1017 : (0 ≤ z1006 ∧ z1006 ≤ 5) := by rw [← q1007]; exact T999 188 188 (A_188 hw) ((3 : Int).toNat)
          have h1018 : (0 ≤ z1008 ∧ z1008 ≤ 5) := by rw [← q1009]; exact T999 188 188 (A_188 hw) ((4 : Int).toNat)
          have h1019 : (0 ≤ z1010 ∧ z1010 ≤ 5) := by rw [← q1011]; exact T999 188 188 (A_188 hw) ((5 : Int).toNat)
          have h1020 : (0 ≤ z1012 ∧ z1012 ≤ 5) := by rw [← q1013]; exact T999 188 188 (A_188 hw) ((6 : Int).toNat)
          refine sv_aload_n (pc := 56) dX12_rest_56 rfl rfl ?_
          refine gf_X12_122 (pc := 57) dX12_rest_57 wF_X12_526 (A_106 hw) T999 ?_
          refine mr_iload_n (pc := 60) (z := p2) dX12_rest_60 rfl rfl ?_
          refine la_188 (pc := 61) dX12_rest_61 (A_188 hw) T999 (rIx (n := 7) h12 rfl) fun z1021 q1022 h1023 => ?_
          refine sv_aload_n (pc := 62) dX12_rest_62 rfl rfl ?_
          refine gf_X12_118 (pc := 63) dX12_rest_63 wF_X12_514 (A_106 hw) T999 ?_
          refine mr_iload_n (pc := 66) (z := p2) dX12_rest_66 rfl rfl ?_
          refine la_184 (pc := 67) dX12_rest_67 (A_184 hw) T999 (rIx (n := 7) h12 rfl) fun z1024 q1025 h1026 => ?_
          refine mr_icmp_ne (pc := 68) (tgt := 76) dX12_rest_68 (by decide) (r32 h1023 rfl) (r32 h1026 rfl) (fun h1027 => ?_) (fun h1027 => ?_)
          · refine sv_aload_n (pc := 76) dX12_rest_76 rfl rfl ?_
            refine gf_X12_122 (pc := 77) dX12_rest_77 wF_X12_526 (A_106 hw) T999 ?_
            refine mr_iload_n (pc := 80) (z := p2) dX12_rest_80 rfl rfl ?_
            refine lk_188 (pc := 81) dX12_rest_81 (A_188 hw) (rIx (n := 7) h12 rfl) q1022 ?_
            exact mr_iret dX12_rest_82 rfl (le_t rfl) (le_t rfl) T999 (mF.call (mF.call (mF.call (mF.call mF.refl F15 rfl) F963 rfl) F990 rfl) F1000 rfl) ⟨(rW (c := (-2147483648)) (d := 2147483647) h1023 rfl), trivial⟩
          refine mr_bipush (pc := 71) (z := (-4)) dX12_rest_71 (by decide) ?_
          refine sv_goto (pc := 73) (tgt := 82) dX12_rest_73 (by decide) ?_
          exact mr_iret dX12_rest_82 rfl (le_t rfl) (le_t rfl) T999 (mF.call (mF.call (mF.call (mF.call mF.refl F15 rfl) F963 rfl) F990 rfl) F1000 rfl) ⟨(rW (c := (-2147483648)) (d := 2147483647) (rR (x := (-4))) rfl), trivial⟩
        have h1028 : 0 ≤ z992 ∧ z992 ≤ 0 := (vc_X12_ring_22 h993 h991.1)
        refine sv_goto (pc := 42) (tgt := 86) dX12_rest_42 (by decide) ?_
        refine mr_iinc (pc := 86) (lv' := [(5, iv (z956 + 1)), (0, .ref 106), (2, iv p2), (3, iv z17), (4, iv z957)]) dX12_rest_86 rfl (by decide) rfl ?_
        refine sv_goto (pc := 89) (tgt := 27) dX12_rest_89 (by decide) ?_
        refine mr_lvS (lv' := [(0, .ref 106), (2, iv p2), (3, iv z17), (4, iv z957), (5, iv (z956 + 1))]) (List.forall_mem_cons.mpr ⟨rfl, List.forall_mem_cons.mpr ⟨rfl, List.forall_mem_cons.mpr ⟨rfl, List.forall_mem_cons.mpr ⟨rfl, List.forall_mem_cons.mpr ⟨rfl, fun _ h => absurd h List.not_mem_nil⟩⟩⟩⟩⟩) ?_
        exact ih966 z957 (z956 + 1) μ988 T989 (mF.call (mF.call mF.refl F963 rfl) F990 rfl) h960 (rW (c := 0) (d := 46656) (rAdd (e := 1) (f := 46656) h969 (rR (x := 1)) rfl) rfl) (vc_X12_rest_23 (nS h965) h967 h30.1 h969)
    refine mr_lvS (lv' := [(0, .ref 106), (2, iv p2), (3, iv z17), (4, iv p1), (5, iv 0)]) (List.forall_mem_cons.mpr ⟨rfl, List.forall_mem_cons.mpr ⟨rfl, List.forall_mem_cons.mpr ⟨rfl, List.forall_mem_cons.mpr ⟨rfl, List.forall_mem_cons.mpr ⟨rfl, fun _ h => absurd h List.not_mem_nil⟩⟩⟩⟩⟩) ?_
    exact L959 46658 p1 0 μ13 T14 mF.refl h3 (rW (c := 0) (d := 46656) (rR (x := 0)) rfl) vc_X12_rests_19
  have h1029 : 0 ≤ z8 ∧ z8 ≤ 0 := (vc_X12_rest_27 h9 h7.2.1 h7.2.2.1 hp2 h7.1)
  have h1030 : p2 < (1 : Int) ∨ (6 : Int) < p2 := (h7.2.2.1 (vc_X12_rest_28 h7.2.1 h7.2.2.1 h9 hp2 h1029))
  refine mr_iconst (pc := 14) (z := (-1)) dX12_rest_14 ?_
  exact mr_iret dX12_rest_15 rfl (le_t rfl) (le_t rfl) hT mF.refl ⟨(rW (c := (-2147483648)) (d := 2147483647) (rR (x := (-1))) rfl), trivial⟩
theorem vc_X12_count_2 {z414 : Int} (h0 : 400 ≤ z414) (h1 : 0 ≤ z414 ∧ z414 ≤ 400) : 400 ≤ z414 ∧ z414 ≤ 400 := by omega
theorem vc_X12_count_4 {p1 : Int} (h0 : p1 = 1) (h1 : ¬ p1 = 0) (h2 : (-2147483648) ≤ p1 ∧ p1 ≤ 2147483647) : 1 ≤ p1 ∧ p1 ≤ 1 := by omega
theorem vc_X12_count_5 {p1 : Int} (h0 : p1 = 2) (h1 : ¬ p1 = 0) (h2 : ¬ p1 = 1) (h3 : (-2147483648) ≤ p1 ∧ p1 ≤ 2147483647) : 2 ≤ p1 ∧ p1 ≤ 2 := by omega
theorem vc_X12_count_6 {p1 : Int} (h0 : p1 = 3) (h1 : ¬ p1 = 0) (h2 : ¬ p1 = 1) (h3 : ¬ p1 = 2) (h4 : (-2147483648) ≤ p1 ∧ p1 ≤ 2147483647) : 3 ≤ p1 ∧ p1 ≤ 3 := by omega
theorem vc_X12_count_7 {p1 : Int} (h0 : p1 = 4) (h1 : ¬ p1 = 0) (h2 : ¬ p1 = 1) (h3 : ¬ p1 = 2) (h4 : ¬ p1 = 3) (h5 : (-2147483648) ≤ p1 ∧ p1 ≤ 2147483647) : 4 ≤ p1 ∧ p1 ≤ 4 := by omega
theorem vc_X12_count_8 {p1 : Int} (h0 : p1 = 5) (h1 : ¬ p1 = 0) (h2 : ¬ p1 = 1) (h3 : ¬ p1 = 2) (h4 : ¬ p1 = 3) (h5 : ¬ p1 = 4) (h6 : (-2147483648) ≤ p1 ∧ p1 ≤ 2147483647) : 5 ≤ p1 ∧ p1 ≤ 5 := by omega
theorem vc_X12_count_9 {p1 : Int} (h0 : p1 = 6) (h1 : ¬ p1 = 0) (h2 : ¬ p1 = 1) (h3 : ¬ p1 = 2) (h4 : ¬ p1 = 3) (h5 : ¬ p1 = 4) (h6 : ¬ p1 = 5) (h7 : (-2147483648) ≤ p1 ∧ p1 ≤ 2147483647) : 6 ≤ p1 ∧ p1 ≤ 6 := by omega
theorem vc_X12_count_10 {p1 : Int} (h0 : p1 = 7) (h1 : ¬ p1 = 0) (h2 : ¬ p1 = 1) (h3 : ¬ p1 = 2) (h4 : ¬ p1 = 3) (h5 : ¬ p1 = 4) (h6 : ¬ p1 = 5) (h7 : ¬ p1 = 6) (h8 : (-2147483648) ≤ p1 ∧ p1 ≤ 2147483647) : 7 ≤ p1 ∧ p1 ≤ 7 := by omega
theorem vc_X12_count_11 {p1 : Int} (h0 : p1 = 8) (h1 : ¬ p1 = 1) (h2 : ¬ p1 = 2) (h3 : ¬ p1 = 3) (h4 : ¬ p1 = 4) (h5 : ¬ p1 = 5) (h6 : ¬ p1 = 6) (h7 : ¬ p1 = 7) (h8 : (-2147483648) ≤ p1 ∧ p1 ≤ 2147483647) : 8 ≤ p1 ∧ p1 ≤ 8 := by omega
theorem vc_X12_count_12 {p1 : Int} (h0 : p1 = 9) (h1 : ¬ p1 = 2) (h2 : ¬ p1 = 3) (h3 : ¬ p1 = 4) (h4 : ¬ p1 = 5) (h5 : ¬ p1 = 6) (h6 : ¬ p1 = 7) (h7 : ¬ p1 = 8) (h8 : (-2147483648) ≤ p1 ∧ p1 ≤ 2147483647) : 9 ≤ p1 ∧ p1 ≤ 9 := by omega
theorem vc_X12_count_13 {p1 : Int} (h0 : p1 = 10) (h1 : ¬ p1 = 3) (h2 : ¬ p1 = 4) (h3 : ¬ p1 = 5) (h4 : ¬ p1 = 6) (h5 : ¬ p1 = 7) (h6 : ¬ p1 = 8) (h7 : ¬ p1 = 9) (h8 : (-2147483648) ≤ p1 ∧ p1 ≤ 2147483647) : 10 ≤ p1 ∧ p1 ≤ 10 := by omega
theorem vc_X12_count_14 {p1 : Int} (h0 : p1 = 11) (h1 : ¬ p1 = 4) (h2 : ¬ p1 = 5) (h3 : ¬ p1 = 6) (h4 : ¬ p1 = 7) (h5 : ¬ p1 = 8) (h6 : ¬ p1 = 9) (h7 : ¬ p1 = 10) (h8 : (-2147483648) ≤ p1 ∧ p1 ≤ 2147483647) : 11 ≤ p1 ∧ p1 ≤ 11 := by omega
theorem vc_X12_count_15 {p1 : Int} (h0 : ¬ p1 = 0) (h1 : ¬ p1 = 1) (h2 : ¬ p1 = 2) (h3 : ¬ p1 = 3) (h4 : ¬ p1 = 4) (h5 : ¬ p1 = 5) (h6 : ¬ p1 = 6) (h7 : ¬ p1 = 7) (h8 : ¬ p1 = 8) (h9 : ¬ p1 = 9) (h10 : ¬ p1 = 10) (h11 : ¬ p1 = 11) (h12 : (-2147483648) ≤ p1 ∧ p1 ≤ 2147483647) : p1 < 0 ∨ 11 < p1 := by omega
theorem vc_X12_count_16 {z414 : Int} (h0 : z414 < 400) (h1 : 0 ≤ z414 ∧ z414 ≤ 400) : 0 ≤ z414 ∧ z414 ≤ 399 := by omega
theorem vc_X12_count_17 {z510 : Int} (h0 : z510 < 0) (h1 : (-1) ≤ z510 ∧ z510 ≤ 2000001000) : (-1) ≤ z510 ∧ z510 ≤ (-1) := by omega
theorem vc_X12_count_18 {N z414 : Int} (h0 : (401 - z414) < N + 1) (h1 : z414 < 400) (h2 : 0 ≤ z414 ∧ z414 ≤ 399) : (401 - (z414 + 1)) < N := by omega
theorem vc_X12_count_19 {z510 : Int} (h0 : 0 ≤ z510) (h1 : (-1) ≤ z510 ∧ z510 ≤ 2000001000) : 0 ≤ z510 ∧ z510 ≤ 2000001000 := by omega
set_option maxRecDepth 4000 in
set_option maxHeartbeats 4000000 in
theorem c_X12_count {l : Launch} {D : va_G} {c : Nat → ClassId} {H0 : Heap} {sa : Nat × Nat × (Nat → Int32)} {w : mW} {μ : mM} (hw : mWF w) (hT : mT w μ) {p1 : Int} (hp1 : (-2147483648) ≤ p1 ∧ p1 ≤ 2147483647) : sC (gG l D c H0 sa) mX12_count 1 0 0 [.ref 106, iv p1] (mk w μ) (qP w μ (fun z => ((-2147483648) ≤ z ∧ z ≤ 2147483647) ∧ True)) := by
  refine sC.of rfl (by decide) (le_t rfl) ?_
  refine mr_lvE (lv' := [(0, .ref 106), (1, iv p1)]) rfl ?_
  refine mr_iconst (pc := 0) (z := 0) dX12_count_0 ?_
  refine mr_istore_n (pc := 1) (lv' := [(2, iv 0), (0, .ref 106), (1, iv p1)]) dX12_count_1 rfl (by decide) rfl ?_
  refine mr_iconst (pc := 2) (z := 0) dX12_count_2 ?_
  refine mr_istore_n (pc := 3) (lv' := [(3, iv 0), (2, iv 0), (0, .ref 106), (1, iv p1)]) dX12_count_3 rfl (by decide) rfl ?_
  have L416 : ∀ (nL416 : Nat) (z415 z414 : Int), True → ((-2147483648) ≤ z415 ∧ z415 ≤ 2147483647) → (0 ≤ z414 ∧ z414 ≤ 400) → (401 - z414) < (nL416 : Int) → sV (gG l D c H0 sa) mX12_count (sRm 1 0 0) (sZ (gG l D c H0 sa) 0 0 (qP w μ (fun z => ((-2147483648) ≤ z ∧ z ≤ 2147483647) ∧ True))) 4 [(0, .ref 106), (1, iv p1), (2, iv z415), (3, iv z414)] [] (mk w μ) 0 0 := by
    intro nL416
    induction nL416 with
    | zero => intro z415 z414 _ h417 h418 h422; exact ((vc_X12_nodeOf_1 h422 h418)).elim
    | succ nL416 ih423 =>
      intro z415 z414 _ h417 h418 h422
      refine mr_iload_n (pc := 4) (z := z414) dX12_count_4 rfl rfl ?_
      refine mr_sipush (pc := 5) (z := 400) dX12_count_5 (by decide) ?_
      refine mr_icmp_ge (pc := 8) (tgt := 49) dX12_count_8 (by decide) (r32 h418 rfl) (r32 (rR (x := 400)) rfl) (fun h442 => ?_) (fun h442 => ?_)
      · have h443 : 400 ≤ z414 ∧ z414 ≤ 400 := (vc_X12_count_2 h442 h418)
        refine mr_iload_n (pc := 49) (z := p1) dX12_count_49 rfl rfl ?_
        by_cases h444 : p1 = 0
        · refine mr_tableIn (pc := 50) (v := 0) (tgt := 112) dX12_count_50 h444 rfl rfl (by decide) ?_
          have h445 : 0 ≤ p1 ∧ p1 ≤ 0 := (vc_X12_mask_1 h444 hp1)
          refine sv_aload_n (pc := 112) dX12_count_112 rfl rfl ?_
          refine gf_X12_2 (pc := 113) dX12_count_113 wF_X12_15 (A_106 hw) hT fun z446 q447 h448 => ?_
          exact mr_iretP dX12_count_116 rfl (le_t rfl) (le_t rfl) ⟨(rW (c := (-2147483648)) (d := 2147483647) h448 rfl), trivial⟩
        by_cases h449 : p1 = 1
        · refine mr_tableIn (pc := 50) (v := 1) (tgt := 117) dX12_count_50 h449 rfl rfl (by decide) ?_
          have h450 : 1 ≤ p1 ∧ p1 ≤ 1 := (vc_X12_count_4 h449 h444 hp1)
          refine sv_aload_n (pc := 117) dX12_count_117 rfl rfl ?_
          refine gf_X12_5 (pc := 118) dX12_count_118 wF_X12_34 (A_106 hw) hT fun z451 q452 h453 => ?_
          exact mr_iretP dX12_count_121 rfl (le_t rfl) (le_t rfl) ⟨(rW (c := (-2147483648)) (d := 2147483647) h453 rfl), trivial⟩
        by_cases h454 : p1 = 2
        · refine mr_tableIn (pc := 50) (v := 2) (tgt := 122) dX12_count_50 h454 rfl rfl (by decide) ?_
          have h455 : 2 ≤ p1 ∧ p1 ≤ 2 := (vc_X12_count_5 h454 h444 h449 hp1)
          refine sv_aload_n (pc := 122) dX12_count_122 rfl rfl ?_
          refine gf_X12_6 (pc := 123) dX12_count_123 wF_X12_37 (A_106 hw) hT fun z456 q457 h458 => ?_
          exact mr_iretP dX12_count_126 rfl (le_t rfl) (le_t rfl) ⟨(rW (c := (-2147483648)) (d := 2147483647) h458 rfl), trivial⟩
        by_cases h459 : p1 = 3
        · refine mr_tableIn (pc := 50) (v := 3) (tgt := 127) dX12_count_50 h459 rfl rfl (by decide) ?_
          have h460 : 3 ≤ p1 ∧ p1 ≤ 3 := (vc_X12_count_6 h459 h444 h449 h454 hp1)
          refine sv_aload_n (pc := 127) dX12_count_127 rfl rfl ?_
          refine gf_X12_18 (pc := 128) dX12_count_128 wF_X12_95 (A_106 hw) hT fun z461 q462 h463 => ?_
          exact mr_iretP dX12_count_131 rfl (le_t rfl) (le_t rfl) ⟨(rW (c := (-2147483648)) (d := 2147483647) h463 rfl), trivial⟩
        by_cases h464 : p1 = 4
        · refine mr_tableIn (pc := 50) (v := 4) (tgt := 132) dX12_count_50 h464 rfl rfl (by decide) ?_
          have h465 : 4 ≤ p1 ∧ p1 ≤ 4 := (vc_X12_count_7 h464 h444 h449 h454 h459 hp1)
          refine sv_aload_n (pc := 132) dX12_count_132 rfl rfl ?_
          refine gf_X12_39 (pc := 133) dX12_count_133 wF_X12_355 (A_106 hw) hT fun z466 q467 h468 => ?_
          exact mr_iretP dX12_count_136 rfl (le_t rfl) (le_t rfl) ⟨(rW (c := (-2147483648)) (d := 2147483647) h468 rfl), trivial⟩
        by_cases h469 : p1 = 5
        · refine mr_tableIn (pc := 50) (v := 5) (tgt := 137) dX12_count_50 h469 rfl rfl (by decide) ?_
          have h470 : 5 ≤ p1 ∧ p1 ≤ 5 := (vc_X12_count_8 h469 h444 h449 h454 h459 h464 hp1)
          refine sv_aload_n (pc := 137) dX12_count_137 rfl rfl ?_
          refine gf_X12_109 (pc := 138) dX12_count_138 wF_X12_695 (A_106 hw) hT fun z471 q472 h473 => ?_
          exact mr_iretP dX12_count_141 rfl (le_t rfl) (le_t rfl) ⟨(rW (c := (-2147483648)) (d := 2147483647) h473 rfl), trivial⟩
        by_cases h474 : p1 = 6
        · refine mr_tableIn (pc := 50) (v := 6) (tgt := 142) dX12_count_50 h474 rfl rfl (by decide) ?_
          have h475 : 6 ≤ p1 ∧ p1 ≤ 6 := (vc_X12_count_9 h474 h444 h449 h454 h459 h464 h469 hp1)
          refine sv_aload_n (pc := 142) dX12_count_142 rfl rfl ?_
          refine gf_X12_1 (pc := 143) dX12_count_143 wF_X12_1 (A_106 hw) hT fun z476 q477 h478 => ?_
          exact mr_iretP dX12_count_146 rfl (le_t rfl) (le_t rfl) ⟨(rW (c := (-2147483648)) (d := 2147483647) h478 rfl), trivial⟩
        by_cases h479 : p1 = 7
        · refine mr_tableIn (pc := 50) (v := 7) (tgt := 147) dX12_count_50 h479 rfl rfl (by decide) ?_
          have h480 : 7 ≤ p1 ∧ p1 ≤ 7 := (vc_X12_count_10 h479 h444 h449 h454 h459 h464 h469 h474 hp1)
          refine sv_aload_n (pc := 147) dX12_count_147 rfl rfl ?_
          refine gf_X12_71 (pc := 148) dX12_count_148 wF_X12_591 (A_106 hw) hT fun z481 q482 h483 => ?_
          exact mr_iretP dX12_count_151 rfl (le_t rfl) (le_t rfl) ⟨(rW (c := (-2147483648)) (d := 2147483647) h483 rfl), trivial⟩
        by_cases h484 : p1 = 8
        · refine mr_tableIn (pc := 50) (v := 8) (tgt := 152) dX12_count_50 h484 rfl rfl (by decide) ?_
          have h485 : 8 ≤ p1 ∧ p1 ≤ 8 := (vc_X12_count_11 h484 h449 h454 h459 h464 h469 h474 h479 hp1)
          refine mr_iload_n (pc := 152) (z := z415) dX12_count_152 rfl rfl ?_
          exact mr_iretP dX12_count_153 rfl (le_t rfl) (le_t rfl) ⟨h417, trivial⟩
        by_cases h486 : p1 = 9
        · refine mr_tableIn (pc := 50) (v := 9) (tgt := 154) dX12_count_50 h486 rfl rfl (by decide) ?_
          have h487 : 9 ≤ p1 ∧ p1 ≤ 9 := (vc_X12_count_12 h486 h454 h459 h464 h469 h474 h479 h484 hp1)
          refine sv_aload_n (pc := 154) dX12_count_154 rfl rfl ?_
          refine gf_X12_73 (pc := 155) dX12_count_155 wF_X12_610 (A_106 hw) hT fun z488 q489 h490 => ?_
          exact mr_iretP dX12_count_158 rfl (le_t rfl) (le_t rfl) ⟨h490, trivial⟩
        by_cases h491 : p1 = 10
        · refine mr_tableIn (pc := 50) (v := 10) (tgt := 159) dX12_count_50 h491 rfl rfl (by decide) ?_
          have h492 : 10 ≤ p1 ∧ p1 ≤ 10 := (vc_X12_count_13 h491 h459 h464 h469 h474 h479 h484 h486 hp1)
          refine sv_aload_n (pc := 159) dX12_count_159 rfl rfl ?_
          refine gf_X12_15 (pc := 160) dX12_count_160 wF_X12_79 (A_106 hw) hT fun z493 q494 h495 => ?_
          exact mr_iretP dX12_count_163 rfl (le_t rfl) (le_t rfl) ⟨(rW (c := (-2147483648)) (d := 2147483647) h495 rfl), trivial⟩
        by_cases h496 : p1 = 11
        · refine mr_tableIn (pc := 50) (v := 11) (tgt := 164) dX12_count_50 h496 rfl rfl (by decide) ?_
          have h497 : 11 ≤ p1 ∧ p1 ≤ 11 := (vc_X12_count_14 h496 h464 h469 h474 h479 h484 h486 h491 hp1)
          refine sv_aload_n (pc := 164) dX12_count_164 rfl rfl ?_
          refine gf_X12_17 (pc := 165) dX12_count_165 wF_X12_85 (A_106 hw) hT fun z498 q499 h500 => ?_
          exact mr_iretP dX12_count_168 rfl (le_t rfl) (le_t rfl) ⟨(rW (c := (-2147483648)) (d := 2147483647) h500 rfl), trivial⟩
        refine mr_tableOut (pc := 50) (tgt := 169) dX12_count_50 hp1 (vc_X12_count_15 h444 h449 h454 h459 h464 h469 h474 h479 h484 h486 h491 h496 hp1) (by decide) ?_
        refine mr_iconst (pc := 169) (z := (-1)) dX12_count_169 ?_
        exact mr_iretP dX12_count_170 rfl (le_t rfl) (le_t rfl) ⟨(rW (c := (-2147483648)) (d := 2147483647) (rR (x := (-1))) rfl), trivial⟩
      have h501 : 0 ≤ z414 ∧ z414 ≤ 399 := (vc_X12_count_16 h442 h418)
      refine mr_iload_n (pc := 11) (z := z415) dX12_count_11 rfl rfl ?_
      refine sv_aload_n (pc := 12) dX12_count_12 rfl rfl ?_
      refine gf_X12_77 (pc := 13) dX12_count_13 wF_X12_433 (A_106 hw) hT ?_
      refine mr_iload_n (pc := 16) (z := z414) dX12_count_16 rfl rfl ?_
      refine la_157 (pc := 17) dX12_count_17 (A_157 hw) hT (rIx (n := 400) h501 rfl) fun z502 q503 h504 => ?_
      have J509 : ∀ (z507 : Int), ((0 ≤ z507 ∧ z507 ≤ 1)) → sV (gG l D c H0 sa) mX12_count (sRm 1 0 0) (sZ (gG l D c H0 sa) 0 0 (qP w μ (fun z => ((-2147483648) ≤ z ∧ z ≤ 2147483647) ∧ True))) 26 [(0, .ref 106), (1, iv p1), (3, iv z414)] [iv z507, iv z415] (mk w μ) 0 0 := by
        intro z507 h508
        refine sv_aload_n (pc := 26) dX12_count_26 rfl rfl ?_
        refine gf_X12_79 (pc := 27) dX12_count_27 wF_X12_439 (A_106 hw) hT ?_
        refine mr_iload_n (pc := 30) (z := z414) dX12_count_30 rfl rfl ?_
        refine la_159 (pc := 31) dX12_count_31 (A_159 hw) hT (rIx (n := 400) h501 rfl) fun z510 q511 h512 => ?_
        refine mr_if_lt (pc := 32) (tgt := 39) dX12_count_32 (by decide) (r32 h512 rfl) (fun h515 => ?_) (fun h515 => ?_)
        · have h516 : (-1) ≤ z510 ∧ z510 ≤ (-1) := (vc_X12_count_17 h515 h512)
          refine mr_iconst (pc := 39) (z := 0) dX12_count_39 ?_
          refine mr_iadd (pc := 40) (x := z507) (y := 0) dX12_count_40 ?_
          refine mr_iadd (pc := 41) (x := z415) (y := (z507 + 0)) dX12_count_41 ?_
          refine mr_wrap fun z517 h518 => ?_
          refine mr_istore_n (pc := 42) (lv' := [(2, iv z517), (0, .ref 106), (1, iv p1), (3, iv z414)]) dX12_count_42 rfl (by decide) rfl ?_
          refine mr_iinc (pc := 43) (lv' := [(3, iv (z414 + 1)), (2, iv z517), (0, .ref 106), (1, iv p1)]) dX12_count_43 rfl (by decide) rfl ?_
          refine sv_goto (pc := 46) (tgt := 4) dX12_count_46 (by decide) ?_
          refine mr_lvS (lv' := [(0, .ref 106), (1, iv p1), (2, iv z517), (3, iv (z414 + 1))]) (List.forall_mem_cons.mpr ⟨rfl, List.forall_mem_cons.mpr ⟨rfl, List.forall_mem_cons.mpr ⟨rfl, List.forall_mem_cons.mpr ⟨rfl, fun _ h => absurd h List.not_mem_nil⟩⟩⟩⟩) ?_
          exact ih423 z517 (z414 + 1) trivial h518 (rW (c := 0) (d := 400) (rAdd (e := 1) (f := 400) h501 (rR (x := 1)) rfl) rfl) (vc_X12_count_18 (nS h422) h442 h501)
        have h519 : 0 ≤ z510 ∧ z510 ≤ 2000001000 := (vc_X12_count_19 h515 h512)
        refine mr_iconst (pc := 35) (z := 1) dX12_count_35 ?_
        refine sv_goto (pc := 36) (tgt := 40) dX12_count_36 (by decide) ?_
        refine mr_iadd (pc := 40) (x := z507) (y := 1) dX12_count_40 ?_
        refine mr_iadd (pc := 41) (x := z415) (y := (z507 + 1)) dX12_count_41 ?_
        refine mr_wrap fun z520 h521 => ?_
        refine mr_istore_n (pc := 42) (lv' := [(2, iv z520), (0, .ref 106), (1, iv p1), (3, iv z414)]) dX12_count_42 rfl (by decide) rfl ?_
        refine mr_iinc (pc := 43) (lv' := [(3, iv (z414 + 1)), (2, iv z520), (0, .ref 106), (1, iv p1)]) dX12_count_43 rfl (by decide) rfl ?_
        refine sv_goto (pc := 46) (tgt := 4) dX12_count_46 (by decide) ?_
        refine mr_lvS (lv' := [(0, .ref 106), (1, iv p1), (2, iv z520), (3, iv (z414 + 1))]) (List.forall_mem_cons.mpr ⟨rfl, List.forall_mem_cons.mpr ⟨rfl, List.forall_mem_cons.mpr ⟨rfl, List.forall_mem_cons.mpr ⟨rfl, fun _ h => absurd h List.not_mem_nil⟩⟩⟩⟩) ?_
        exact ih423 z520 (z414 + 1) trivial h521 (rW (c := 0) (d := 400) (rAdd (e := 1) (f := 400) h501 (rR (x := 1)) rfl) rfl) (vc_X12_count_18 (nS h422) h442 h501)
      refine mr_if_lt (pc := 18) (tgt := 25) dX12_count_18 (by decide) (r32 h504 rfl) (fun h522 => ?_) (fun h522 => ?_)
      · have h523 : (-1) ≤ z502 ∧ z502 ≤ (-1) := (vc_X12_count_17 h522 h504)
        refine mr_iconst (pc := 25) (z := 0) dX12_count_25 ?_
        refine mr_lvS (lv' := [(0, .ref 106), (1, iv p1), (3, iv z414)]) (List.forall_mem_cons.mpr ⟨rfl, List.forall_mem_cons.mpr ⟨rfl, List.forall_mem_cons.mpr ⟨rfl, fun _ h => absurd h List.not_mem_nil⟩⟩⟩) ?_
        exact J509 0 (rW (c := 0) (d := 1) (rR (x := 0)) rfl)
      have h524 : 0 ≤ z502 ∧ z502 ≤ 2000001000 := (vc_X12_count_19 h522 h504)
      refine mr_iconst (pc := 21) (z := 1) dX12_count_21 ?_
      refine sv_goto (pc := 22) (tgt := 26) dX12_count_22 (by decide) ?_
      refine mr_lvS (lv' := [(0, .ref 106), (1, iv p1), (3, iv z414)]) (List.forall_mem_cons.mpr ⟨rfl, List.forall_mem_cons.mpr ⟨rfl, List.forall_mem_cons.mpr ⟨rfl, fun _ h => absurd h List.not_mem_nil⟩⟩⟩) ?_
      exact J509 1 (rW (c := 0) (d := 1) (rR (x := 1)) rfl)
  refine mr_lvS (lv' := [(0, .ref 106), (1, iv p1), (2, iv 0), (3, iv 0)]) (List.forall_mem_cons.mpr ⟨rfl, List.forall_mem_cons.mpr ⟨rfl, List.forall_mem_cons.mpr ⟨rfl, List.forall_mem_cons.mpr ⟨rfl, fun _ h => absurd h List.not_mem_nil⟩⟩⟩⟩) ?_
  exact L416 402 0 0 trivial (rW (c := (-2147483648)) (d := 2147483647) (rR (x := 0)) rfl) (rW (c := 0) (d := 400) (rR (x := 0)) rfl) vc_X12_nodeOf_7
set_option maxRecDepth 4000 in
set_option maxHeartbeats 4000000 in
theorem c_X12_fails {l : Launch} {D : va_G} {c : Nat → ClassId} {H0 : Heap} {sa : Nat × Nat × (Nat → Int32)} {w : mW} {μ : mM} (hw : mWF w) (hT : mT w μ) {p1 : Int} (hp1 : 0 ≤ p1 ∧ p1 ≤ 3) {p2 : Int} (hp2 : (-2147483648) ≤ p2 ∧ p2 ≤ 2147483647) : sC (gG l D c H0 sa) mX12_fails 1 0 0 [.ref 106, iv p1, iv p2] (mk w μ) (qV w [172999] μ (fun μ1 => True)) := by
  refine sC.of rfl (by decide) (le_t rfl) ?_
  refine mr_lvE (lv' := [(0, .ref 106), (1, iv p1), (2, iv p2)]) rfl ?_
  refine sv_aload_n (pc := 0) dX12_fails_0 rfl rfl ?_
  refine gf_X12_95 (pc := 1) dX12_fails_1 wF_X12_478 (A_106 hw) hT ?_
  refine mr_iload_n (pc := 4) (z := p1) dX12_fails_4 rfl rfl ?_
  refine la_172 (pc := 5) dX12_fails_5 (A_172 hw) hT (rIx (n := 4) hp1 rfl) fun z1 q2 h3 => ?_
  refine mr_ldc (pc := 6) (z := (-99999999)) dX12_fails_6 wG_X12_29 (by decide) ?_
  refine mr_icmp_ne (pc := 8) (tgt := 18) dX12_fails_8 (by decide) h3 (r32 (rR (x := (-99999999))) rfl) (fun h8 => ?_) (fun h8 => ?_)
  · exact mr_vret dX12_fails_18 rfl (le_t rfl) (le_t rfl) hT mF.refl trivial
  have h9 : (-99999999) ≤ z1 ∧ z1 ≤ (-99999999) := (vc_X12_judgedAnew_21 h8 h3)
  refine sv_aload_n (pc := 11) dX12_fails_11 rfl rfl ?_
  refine gf_X12_95 (pc := 12) dX12_fails_12 wF_X12_478 (A_106 hw) hT ?_
  refine mr_iload_n (pc := 15) (z := p1) dX12_fails_15 rfl rfl ?_
  refine mr_iload_n (pc := 16) (z := p2) dX12_fails_16 rfl rfl ?_
  refine ss_172 (pc := 17) dX12_fails_17 (A_172 hw) hT (rIx (n := 4) hp1 rfl) hp2 fun μ10 u11 T12 => ?_
  exact mr_vret dX12_fails_18 rfl (le_t rfl) (le_t rfl) T12 (mF.up mF.refl (A_172 hw) u11 rfl) trivial
theorem vc_X12_byteAt_in_3 {f_size p1 : Int} (h0 : f_size ≤ p1) (h1 : p1 < f_size) (h2 : 1 ≤ f_size ∧ f_size ≤ 1000) (h3 : 0 ≤ p1 ∧ p1 ≤ 999) : False := by omega
set_option maxRecDepth 4000 in
set_option maxHeartbeats 4000000 in
theorem c_X12_byteAt_in {l : Launch} {D : va_G} {c : Nat → ClassId} {H0 : Heap} {sa : Nat × Nat × (Nat → Int32)} {w : mW} {μ : mM} (hw : mWF w) (hT : mT w μ) {p1 : Int} (hp1 : 0 ≤ p1 ∧ p1 ≤ 2147483647) {f_size : Int} (q_f_size : μ 106 1 = f_size) (hq0 : p1 < f_size) : sC (gG l D c H0 sa) mX12_byteAt 1 0 0 [.ref 106, iv p1] (mk w μ) (qP w μ (fun z => (0 ≤ z ∧ z ≤ 255) ∧ True)) := by
  refine sC.of rfl (by decide) (le_t rfl) ?_
  have ht_f_size : (0 ≤ f_size ∧ f_size ≤ 1000) := by rw [← q_f_size]; exact hT 106 106 (A_106 hw) 1
  have h1 : 0 ≤ p1 ∧ p1 ≤ 999 := (vc_X12_byteAt_3 hq0 ht_f_size hp1)
  have h2 : 1 ≤ f_size ∧ f_size ≤ 1000 := (vc_X12_byteAt_4 hq0 ht_f_size h1)
  refine mr_lvE (lv' := [(0, .ref 106), (1, iv p1)]) rfl ?_
  refine mr_iload_n (pc := 0) (z := p1) dX12_byteAt_0 rfl rfl ?_
  refine sv_aload_n (pc := 1) dX12_byteAt_1 rfl rfl ?_
  refine gk_X12_1 (pc := 2) dX12_byteAt_2 wF_X12_1 (A_106 hw) q_f_size ?_
  refine mr_icmp_ge (pc := 5) (tgt := 21) dX12_byteAt_5 (by decide) (r32 h1 rfl) (r32 h2 rfl) (fun h => ((vc_X12_byteAt_in_3 h hq0 h2 h1)).elim) (fun h24 => ?_)
  refine sv_aload_n (pc := 8) dX12_byteAt_8 rfl rfl ?_
  refine gf_X12_0 (pc := 9) dX12_byteAt_9 wF_X12_7 (A_106 hw) hT ?_
  refine mr_iload_n (pc := 12) (z := p1) dX12_byteAt_12 rfl rfl ?_
  refine la_107 (pc := 13) dX12_byteAt_13 (A_107 hw) hT (rIx (n := 1000) h1 rfl) fun z25 q26 h27 => ?_
  refine mr_sipush (pc := 14) (z := 255) dX12_byteAt_14 (by decide) ?_
  refine mr_iand (pc := 17) (x := z25) (y := 255) dX12_byteAt_17 ?_
  refine mr_gen (P := fun z => 0 ≤ z ∧ z ≤ 255) (rAndR (rR (x := 255)) rfl) fun z28 q29 h30 => ?_
  refine sv_goto (pc := 18) (tgt := 22) dX12_byteAt_18 (by decide) ?_
  exact mr_iretP dX12_byteAt_22 rfl (le_t rfl) (le_t rfl) ⟨h30, trivial⟩
theorem vc_X12_number_1 {f_size p1 p2 : Int} (h0 : p2 ≤ 0) (h1 : p1 + p2 ≤ f_size) (h2 : 0 ≤ f_size ∧ f_size ≤ 1000) (h3 : 0 ≤ p1 ∧ p1 ≤ 1000) (h4 : 0 ≤ p2 ∧ p2 ≤ 4) : 0 ≤ p2 ∧ p2 ≤ 0 := by omega
theorem vc_X12_number_2 {f_size p1 p2 : Int} (h0 : p1 + p2 ≤ f_size) (h1 : p2 ≤ 0) (h2 : 0 ≤ f_size ∧ f_size ≤ 1000) (h3 : 0 ≤ p1 ∧ p1 ≤ 1000) (h4 : 0 ≤ p2 ∧ p2 ≤ 0) : p2 ≤ 2 → 0 ≤ (0 : Int) ∧ (0 : Int) ≤ 65535 := by omega
theorem vc_X12_number_3 {f_size p1 p2 : Int} (h0 : 0 < p2) (h1 : p1 + p2 ≤ f_size) (h2 : 0 ≤ f_size ∧ f_size ≤ 1000) (h3 : 0 ≤ p1 ∧ p1 ≤ 1000) (h4 : 0 ≤ p2 ∧ p2 ≤ 4) : 1 ≤ p2 ∧ p2 ≤ 4 := by omega
theorem vc_X12_number_4 {f_size p1 p2 : Int} (h0 : p1 + p2 ≤ f_size) (h1 : 0 < p2) (h2 : 0 ≤ f_size ∧ f_size ≤ 1000) (h3 : 0 ≤ p1 ∧ p1 ≤ 1000) (h4 : 1 ≤ p2 ∧ p2 ≤ 4) : (p1 + 0) < f_size := by omega
theorem vc_X12_number_5 {f_size p1 p2 : Int} (h0 : p2 ≤ 1) (h1 : p1 + p2 ≤ f_size) (h2 : 0 < p2) (h3 : 0 ≤ f_size ∧ f_size ≤ 1000) (h4 : 0 ≤ p1 ∧ p1 ≤ 1000) (h5 : 1 ≤ p2 ∧ p2 ≤ 4) : 1 ≤ p2 ∧ p2 ≤ 1 := by omega
theorem vc_X12_number_6 {f_size p1 p2 z303 : Int} (h0 : p1 + p2 ≤ f_size) (h1 : 0 < p2) (h2 : p2 ≤ 1) (h3 : 0 ≤ f_size ∧ f_size ≤ 1000) (h4 : 0 ≤ p1 ∧ p1 ≤ 1000) (h5 : 1 ≤ p2 ∧ p2 ≤ 1) (h6 : 0 ≤ z303 ∧ z303 ≤ 255) : p2 ≤ 2 → 0 ≤ z303 ∧ z303 ≤ 65535 := by omega
theorem vc_X12_number_7 {f_size p1 p2 : Int} (h0 : 1 < p2) (h1 : p1 + p2 ≤ f_size) (h2 : 0 < p2) (h3 : 0 ≤ f_size ∧ f_size ≤ 1000) (h4 : 0 ≤ p1 ∧ p1 ≤ 1000) (h5 : 1 ≤ p2 ∧ p2 ≤ 4) : 2 ≤ p2 ∧ p2 ≤ 4 := by omega
theorem vc_X12_number_8 {f_size p1 p2 : Int} (h0 : p1 + p2 ≤ f_size) (h1 : 0 < p2) (h2 : 1 < p2) (h3 : 0 ≤ f_size ∧ f_size ≤ 1000) (h4 : 0 ≤ p1 ∧ p1 ≤ 1000) (h5 : 2 ≤ p2 ∧ p2 ≤ 4) : (p1 + 1) < f_size := by omega
theorem vc_X12_number_9 {f_size p1 p2 z452 z453 : Int} (h0 : (5 - z452) < ((0 : Nat) : Int)) (h1 : z452 = 2 → 0 ≤ z453 ∧ z453 ≤ 65535) (h2 : z452 ≤ p2) (h3 : p1 + p2 ≤ f_size) (h4 : 0 < p2) (h5 : 1 < p2) (h6 : 0 ≤ f_size ∧ f_size ≤ 1000) (h7 : 0 ≤ p1 ∧ p1 ≤ 1000) (h8 : 2 ≤ p2 ∧ p2 ≤ 4) (h9 : 2 ≤ z452 ∧ z452 ≤ 4) (h10 : (-2147483648) ≤ z453 ∧ z453 ≤ 2147483647) : False := by omega
theorem vc_X12_number_10 {f_size p1 p2 z452 z453 : Int} (h0 : p1 + p2 ≤ f_size) (h1 : 0 < p2) (h2 : 1 < p2) (h3 : z452 = 2 → 0 ≤ z453 ∧ z453 ≤ 65535) (h4 : z452 ≤ p2) (h5 : p2 ≤ z452) (h6 : 0 ≤ f_size ∧ f_size ≤ 1000) (h7 : 0 ≤ p1 ∧ p1 ≤ 1000) (h8 : 2 ≤ p2 ∧ p2 ≤ 4) (h9 : 2 ≤ z452 ∧ z452 ≤ 4) (h10 : (-2147483648) ≤ z453 ∧ z453 ≤ 2147483647) : p2 ≤ 2 → 0 ≤ z453 ∧ z453 ≤ 65535 := by omega
theorem vc_X12_number_11 {f_size p1 p2 z452 z453 : Int} (h0 : z452 < p2) (h1 : p1 + p2 ≤ f_size) (h2 : 0 < p2) (h3 : 1 < p2) (h4 : z452 = 2 → 0 ≤ z453 ∧ z453 ≤ 65535) (h5 : z452 ≤ p2) (h6 : 0 ≤ f_size ∧ f_size ≤ 1000) (h7 : 0 ≤ p1 ∧ p1 ≤ 1000) (h8 : 2 ≤ p2 ∧ p2 ≤ 4) (h9 : 2 ≤ z452 ∧ z452 ≤ 4) (h10 : (-2147483648) ≤ z453 ∧ z453 ≤ 2147483647) : 2 ≤ z452 ∧ z452 ≤ 3 := by omega
theorem vc_X12_number_12 {f_size p1 p2 z452 z453 : Int} (h0 : z452 < p2) (h1 : p1 + p2 ≤ f_size) (h2 : 0 < p2) (h3 : 1 < p2) (h4 : z452 = 2 → 0 ≤ z453 ∧ z453 ≤ 65535) (h5 : z452 ≤ p2) (h6 : 0 ≤ f_size ∧ f_size ≤ 1000) (h7 : 0 ≤ p1 ∧ p1 ≤ 1000) (h8 : 2 ≤ p2 ∧ p2 ≤ 4) (h9 : 2 ≤ z452 ∧ z452 ≤ 3) (h10 : (-2147483648) ≤ z453 ∧ z453 ≤ 2147483647) : 3 ≤ p2 ∧ p2 ≤ 4 := by omega
theorem vc_X12_number_13 {f_size p1 p2 z452 z453 : Int} (h0 : p1 + p2 ≤ f_size) (h1 : z452 = 2 → 0 ≤ z453 ∧ z453 ≤ 65535) (h2 : z452 ≤ p2) (h3 : z452 < p2) (h4 : 0 < p2) (h5 : 1 < p2) (h6 : 0 ≤ f_size ∧ f_size ≤ 1000) (h7 : 0 ≤ p1 ∧ p1 ≤ 1000) (h8 : 3 ≤ p2 ∧ p2 ≤ 4) (h9 : 2 ≤ z452 ∧ z452 ≤ 3) (h10 : (-2147483648) ≤ z453 ∧ z453 ≤ 2147483647) : (p1 + z452) < f_size := by omega
theorem vc_X12_number_14 {f_size p1 p2 z452 z453 z488 : Int} (h0 : z452 = 2 → 0 ≤ z453 ∧ z453 ≤ 65535) (h1 : z452 ≤ p2) (h2 : z452 < p2) (h3 : p1 + p2 ≤ f_size) (h4 : 0 < p2) (h5 : 1 < p2) (h6 : 0 ≤ f_size ∧ f_size ≤ 1000) (h7 : 0 ≤ p1 ∧ p1 ≤ 1000) (h8 : 3 ≤ p2 ∧ p2 ≤ 4) (h9 : 2 ≤ z452 ∧ z452 ≤ 3) (h10 : (-2147483648) ≤ z453 ∧ z453 ≤ 2147483647) (h11 : (-2147483648) ≤ z488 ∧ z488 ≤ 2147483647) : (z452 + 1) = 2 → 0 ≤ z488 ∧ z488 ≤ 65535 := by omega
theorem vc_X12_number_15 {f_size p1 p2 z452 z453 : Int} (h0 : p1 + p2 ≤ f_size) (h1 : 0 < p2) (h2 : 1 < p2) (h3 : z452 = 2 → 0 ≤ z453 ∧ z453 ≤ 65535) (h4 : z452 ≤ p2) (h5 : z452 < p2) (h6 : 0 ≤ f_size ∧ f_size ≤ 1000) (h7 : 0 ≤ p1 ∧ p1 ≤ 1000) (h8 : 3 ≤ p2 ∧ p2 ≤ 4) (h9 : 2 ≤ z452 ∧ z452 ≤ 3) (h10 : (-2147483648) ≤ z453 ∧ z453 ≤ 2147483647) : (z452 + 1) ≤ p2 := by omega
theorem vc_X12_number_16 {N f_size p1 p2 z452 z453 : Int} (h0 : (5 - z452) < N + 1) (h1 : z452 = 2 → 0 ≤ z453 ∧ z453 ≤ 65535) (h2 : z452 ≤ p2) (h3 : z452 < p2) (h4 : p1 + p2 ≤ f_size) (h5 : 0 < p2) (h6 : 1 < p2) (h7 : 0 ≤ f_size ∧ f_size ≤ 1000) (h8 : 0 ≤ p1 ∧ p1 ≤ 1000) (h9 : 3 ≤ p2 ∧ p2 ≤ 4) (h10 : 2 ≤ z452 ∧ z452 ≤ 3) (h11 : (-2147483648) ≤ z453 ∧ z453 ≤ 2147483647) : (5 - (z452 + 1)) < N := by omega
theorem vc_X12_number_17 {z364 : Int} (h0 : 0 ≤ z364 ∧ z364 ≤ 65535) : (2 : Int) = 2 → 0 ≤ z364 ∧ z364 ≤ 65535 := by omega
theorem vc_X12_number_18 {f_size p1 p2 : Int} (h0 : p1 + p2 ≤ f_size) (h1 : 0 < p2) (h2 : 1 < p2) (h3 : 0 ≤ f_size ∧ f_size ≤ 1000) (h4 : 0 ≤ p1 ∧ p1 ≤ 1000) (h5 : 2 ≤ p2 ∧ p2 ≤ 4) : (2 : Int) ≤ p2 := by omega
theorem vc_X12_number_19  : (5 - 2) < ((4 : Nat) : Int) := by omega
set_option maxRecDepth 4000 in
set_option maxHeartbeats 4000000 in
theorem c_X12_number {l : Launch} {D : va_G} {c : Nat → ClassId} {H0 : Heap} {sa : Nat × Nat × (Nat → Int32)} {w : mW} {μ : mM} (hw : mWF w) (hT : mT w μ) {p1 : Int} (hp1 : 0 ≤ p1 ∧ p1 ≤ 1000) {p2 : Int} (hp2 : 0 ≤ p2 ∧ p2 ≤ 4) {f_size : Int} (q_f_size : μ 106 1 = f_size) (hq0 : p1 + p2 ≤ f_size) : sC (gG l D c H0 sa) mX12_number 2 0 0 [.ref 106, iv p1, iv p2] (mk w μ) (qP w μ (fun z => ((-2147483648) ≤ z ∧ z ≤ 2147483647) ∧ (p2 ≤ 2 → 0 ≤ z ∧ z ≤ 65535) ∧ True)) := by
  refine sC.of rfl (by decide) (le_t rfl) ?_
  have ht_f_size : (0 ≤ f_size ∧ f_size ≤ 1000) := by rw [← q_f_size]; exact hT 106 106 (A_106 hw) 1
  refine mr_lvE (lv' := [(0, .ref 106), (1, iv p1), (2, iv p2)]) rfl ?_
  refine mr_iconst (pc := 0) (z := 0) dX12_number_0 ?_
  refine mr_istore_n (pc := 1) (lv' := [(3, iv 0), (0, .ref 106), (1, iv p1), (2, iv p2)]) dX12_number_1 rfl (by decide) rfl ?_
  refine mr_iconst (pc := 2) (z := 0) dX12_number_2 ?_
  refine mr_istore (pc := 3) (lv' := [(4, iv 0), (3, iv 0), (0, .ref 106), (1, iv p1), (2, iv p2)]) dX12_number_3 (by decide) rfl ?_
  refine mr_iload (pc := 5) (z := 0) dX12_number_5 rfl ?_
  refine mr_iload_n (pc := 7) (z := p2) dX12_number_7 rfl rfl ?_
  refine mr_icmp_ge (pc := 8) (tgt := 31) dX12_number_8 (by decide) (r32 (rR (x := 0)) rfl) (r32 hp2 rfl) (fun h292 => ?_) (fun h292 => ?_)
  · have h293 : 0 ≤ p2 ∧ p2 ≤ 0 := (vc_X12_number_1 h292 hq0 ht_f_size hp1 hp2)
    refine mr_iload_n (pc := 31) (z := 0) dX12_number_31 rfl rfl ?_
    exact mr_iretP dX12_number_32 rfl (le_t rfl) (le_t rfl) ⟨(rW (c := (-2147483648)) (d := 2147483647) (rR (x := 0)) rfl), (vc_X12_number_2 hq0 h292 ht_f_size hp1 h293), trivial⟩
  have h294 : 1 ≤ p2 ∧ p2 ≤ 4 := (vc_X12_number_3 h292 hq0 ht_f_size hp1 hp2)
  refine mr_iload_n (pc := 11) (z := 0) dX12_number_11 rfl rfl ?_
  refine mr_bipush (pc := 12) (z := 8) dX12_number_12 (by decide) ?_
  refine mr_ishl (pc := 14) (x := 0) (y := 8) dX12_number_14 ?_
  refine mr_gen (P := fun z => 0 ≤ z ∧ z ≤ 0) (rShl (k := 8) (rR (x := 0)) rfl) fun z295 q296 h297 => ?_
  refine sv_aload_n (pc := 15) dX12_number_15 rfl rfl ?_
  refine mr_iload_n (pc := 16) (z := p1) dX12_number_16 rfl rfl ?_
  refine mr_iload (pc := 17) (z := 0) dX12_number_17 rfl ?_
  refine mr_iadd (pc := 19) (x := p1) (y := 0) dX12_number_19 ?_
  refine mr_cVP (pc := 20) (c_X12_byteAt_in hw hT (rW (c := 0) (d := 2147483647) (rAdd (e := 0) (f := 1000) hp1 (rR (x := 0)) rfl) rfl) q_f_size (vc_X12_number_4 hq0 h292 ht_f_size hp1 h294)) (gOk _ _ _ _ _) dX12_number_20 (tX12_byteAt _ _ _ _ _) ⟨wV_X12_byteAt, wL_X12_byteAt⟩ wM_X12_227 (gCX12 _ _ _ _ _) rfl (A_106 hw) rfl ⟨le_t rfl, le_t rfl⟩ ⟨le_t rfl, le_t rfl⟩ rfl (le_t rfl) fun z302 h301 => ?_
  refine mr_ior (pc := 23) (x := z295) (y := z302) dX12_number_23 ?_
  refine mr_gen (P := fun z => 0 ≤ z ∧ z ≤ 255) (rOr 8 h297 h301.1 rfl) fun z303 q304 h305 => ?_
  refine mr_istore_n (pc := 24) (lv' := [(3, iv z303), (4, iv 0), (0, .ref 106), (1, iv p1), (2, iv p2)]) dX12_number_24 rfl (by decide) rfl ?_
  refine mr_iinc (pc := 25) (lv' := [(4, iv 1), (3, iv z303), (0, .ref 106), (1, iv p1), (2, iv p2)]) dX12_number_25 rfl (by decide) rfl ?_
  refine sv_goto (pc := 28) (tgt := 5) dX12_number_28 (by decide) ?_
  refine mr_iload (pc := 5) (z := 1) dX12_number_5 rfl ?_
  refine mr_iload_n (pc := 7) (z := p2) dX12_number_7 rfl rfl ?_
  refine mr_icmp_ge (pc := 8) (tgt := 31) dX12_number_8 (by decide) (r32 (rR (x := 1)) rfl) (r32 h294 rfl) (fun h353 => ?_) (fun h353 => ?_)
  · have h354 : 1 ≤ p2 ∧ p2 ≤ 1 := (vc_X12_number_5 h353 hq0 h292 ht_f_size hp1 h294)
    refine mr_iload_n (pc := 31) (z := z303) dX12_number_31 rfl rfl ?_
    exact mr_iretP dX12_number_32 rfl (le_t rfl) (le_t rfl) ⟨(rW (c := (-2147483648)) (d := 2147483647) h305 rfl), (vc_X12_number_6 hq0 h292 h353 ht_f_size hp1 h354 h305), trivial⟩
  have h355 : 2 ≤ p2 ∧ p2 ≤ 4 := (vc_X12_number_7 h353 hq0 h292 ht_f_size hp1 h294)
  refine mr_iload_n (pc := 11) (z := z303) dX12_number_11 rfl rfl ?_
  refine mr_bipush (pc := 12) (z := 8) dX12_number_12 (by decide) ?_
  refine mr_ishl (pc := 14) (x := z303) (y := 8) dX12_number_14 ?_
  refine mr_gen (P := fun z => 0 ≤ z ∧ z ≤ 65280) (rShl (k := 8) h305 rfl) fun z356 q357 h358 => ?_
  refine sv_aload_n (pc := 15) dX12_number_15 rfl rfl ?_
  refine mr_iload_n (pc := 16) (z := p1) dX12_number_16 rfl rfl ?_
  refine mr_iload (pc := 17) (z := 1) dX12_number_17 rfl ?_
  refine mr_iadd (pc := 19) (x := p1) (y := 1) dX12_number_19 ?_
  refine mr_cVP (pc := 20) (c_X12_byteAt_in hw hT (rW (c := 0) (d := 2147483647) (rAdd (e := 1) (f := 1001) hp1 (rR (x := 1)) rfl) rfl) q_f_size (vc_X12_number_8 hq0 h292 h353 ht_f_size hp1 h355)) (gOk _ _ _ _ _) dX12_number_20 (tX12_byteAt _ _ _ _ _) ⟨wV_X12_byteAt, wL_X12_byteAt⟩ wM_X12_227 (gCX12 _ _ _ _ _) rfl (A_106 hw) rfl ⟨le_t rfl, le_t rfl⟩ ⟨le_t rfl, le_t rfl⟩ rfl (le_t rfl) fun z363 h362 => ?_
  refine mr_ior (pc := 23) (x := z356) (y := z363) dX12_number_23 ?_
  refine mr_gen (P := fun z => 0 ≤ z ∧ z ≤ 65535) (rOr 16 h358 h362.1 rfl) fun z364 q365 h366 => ?_
  refine mr_istore_n (pc := 24) (lv' := [(3, iv z364), (4, iv 1), (0, .ref 106), (1, iv p1), (2, iv p2)]) dX12_number_24 rfl (by decide) rfl ?_
  refine mr_iinc (pc := 25) (lv' := [(4, iv 2), (3, iv z364), (0, .ref 106), (1, iv p1), (2, iv p2)]) dX12_number_25 rfl (by decide) rfl ?_
  refine sv_goto (pc := 28) (tgt := 5) dX12_number_28 (by decide) ?_
  have L454 : ∀ (nL454 : Nat) (z453 z452 : Int), True → ((-2147483648) ≤ z453 ∧ z453 ≤ 2147483647) → (2 ≤ z452 ∧ z452 ≤ 4) → (z452 = 2 → 0 ≤ z453 ∧ z453 ≤ 65535) → (z452 ≤ p2) → (5 - z452) < (nL454 : Int) → sV (gG l D c H0 sa) mX12_number (sRm 2 0 0) (sZ (gG l D c H0 sa) 0 0 (qP w μ (fun z => ((-2147483648) ≤ z ∧ z ≤ 2147483647) ∧ (p2 ≤ 2 → 0 ≤ z ∧ z ≤ 65535) ∧ True))) 5 [(0, .ref 106), (1, iv p1), (2, iv p2), (3, iv z453), (4, iv z452)] [] (mk w μ) 0 0 := by
    intro nL454
    induction nL454 with
    | zero => intro z453 z452 _ h455 h456 h460 h461 h462; exact ((vc_X12_number_9 h462 h460 h461 hq0 h292 h353 ht_f_size hp1 h355 h456 h455)).elim
    | succ nL454 ih463 =>
      intro z453 z452 _ h455 h456 h460 h461 h462
      refine mr_iload (pc := 5) (z := z452) dX12_number_5 rfl ?_
      refine mr_iload_n (pc := 7) (z := p2) dX12_number_7 rfl rfl ?_
      refine mr_icmp_ge (pc := 8) (tgt := 31) dX12_number_8 (by decide) (r32 h456 rfl) (r32 h355 rfl) (fun h477 => ?_) (fun h477 => ?_)
      · refine mr_iload_n (pc := 31) (z := z453) dX12_number_31 rfl rfl ?_
        exact mr_iretP dX12_number_32 rfl (le_t rfl) (le_t rfl) ⟨h455, (vc_X12_number_10 hq0 h292 h353 h460 h461 h477 ht_f_size hp1 h355 h456 h455), trivial⟩
      have h478 : 2 ≤ z452 ∧ z452 ≤ 3 := (vc_X12_number_11 h477 hq0 h292 h353 h460 h461 ht_f_size hp1 h355 h456 h455)
      have h479 : 3 ≤ p2 ∧ p2 ≤ 4 := (vc_X12_number_12 h477 hq0 h292 h353 h460 h461 ht_f_size hp1 h355 h478 h455)
      refine mr_iload_n (pc := 11) (z := z453) dX12_number_11 rfl rfl ?_
      refine mr_bipush (pc := 12) (z := 8) dX12_number_12 (by decide) ?_
      refine mr_ishl (pc := 14) (x := z453) (y := 8) dX12_number_14 ?_
      refine mr_gen (P := fun z => (-2147483648) ≤ z ∧ z ≤ 2147483647) (r32i _) fun z480 q481 h482 => ?_
      refine sv_aload_n (pc := 15) dX12_number_15 rfl rfl ?_
      refine mr_iload_n (pc := 16) (z := p1) dX12_number_16 rfl rfl ?_
      refine mr_iload (pc := 17) (z := z452) dX12_number_17 rfl ?_
      refine mr_iadd (pc := 19) (x := p1) (y := z452) dX12_number_19 ?_
      refine mr_cVP (pc := 20) (c_X12_byteAt_in hw hT (rW (c := 0) (d := 2147483647) (rAdd (e := 2) (f := 1003) hp1 h478 rfl) rfl) q_f_size (vc_X12_number_13 hq0 h460 h461 h477 h292 h353 ht_f_size hp1 h479 h478 h455)) (gOk _ _ _ _ _) dX12_number_20 (tX12_byteAt _ _ _ _ _) ⟨wV_X12_byteAt, wL_X12_byteAt⟩ wM_X12_227 (gCX12 _ _ _ _ _) rfl (A_106 hw) rfl ⟨le_t rfl, le_t rfl⟩ ⟨le_t rfl, le_t rfl⟩ rfl (le_t rfl) fun z487 h486 => ?_
      refine mr_ior (pc := 23) (x := z480) (y := z487) dX12_number_23 ?_
      refine mr_gen (P := fun z => (-2147483648) ≤ z ∧ z ≤ 2147483647) (r32i _) fun z488 q489 h490 => ?_
      refine mr_istore_n (pc := 24) (lv' := [(3, iv z488), (0, .ref 106), (1, iv p1), (2, iv p2), (4, iv z452)]) dX12_number_24 rfl (by decide) rfl ?_
      refine mr_iinc (pc := 25) (lv' := [(4, iv (z452 + 1)), (3, iv z488), (0, .ref 106), (1, iv p1), (2, iv p2)]) dX12_number_25 rfl (by decide) rfl ?_
      refine sv_goto (pc := 28) (tgt := 5) dX12_number_28 (by decide) ?_
      refine mr_lvS (lv' := [(0, .ref 106), (1, iv p1), (2, iv p2), (3, iv z488), (4, iv (z452 + 1))]) (List.forall_mem_cons.mpr ⟨rfl, List.forall_mem_cons.mpr ⟨rfl, List.forall_mem_cons.mpr ⟨rfl, List.forall_mem_cons.mpr ⟨rfl, List.forall_mem_cons.mpr ⟨rfl, fun _ h => absurd h List.not_mem_nil⟩⟩⟩⟩⟩) ?_
      exact ih463 z488 (z452 + 1) trivial h490 (rW (c := 2) (d := 4) (rAdd (e := 3) (f := 4) h478 (rR (x := 1)) rfl) rfl) (vc_X12_number_14 h460 h461 h477 hq0 h292 h353 ht_f_size hp1 h479 h478 h455 h490) (vc_X12_number_15 hq0 h292 h353 h460 h461 h477 ht_f_size hp1 h479 h478 h455) (vc_X12_number_16 (nS h462) h460 h461 h477 hq0 h292 h353 ht_f_size hp1 h479 h478 h455)
  refine mr_lvS (lv' := [(0, .ref 106), (1, iv p1), (2, iv p2), (3, iv z364), (4, iv 2)]) (List.forall_mem_cons.mpr ⟨rfl, List.forall_mem_cons.mpr ⟨rfl, List.forall_mem_cons.mpr ⟨rfl, List.forall_mem_cons.mpr ⟨rfl, List.forall_mem_cons.mpr ⟨rfl, fun _ h => absurd h List.not_mem_nil⟩⟩⟩⟩⟩) ?_
  exact L454 4 z364 2 trivial (rW (c := (-2147483648)) (d := 2147483647) h366 rfl) (rW (c := 2) (d := 4) (rR (x := 2)) rfl) (vc_X12_number_17 h366) (vc_X12_number_18 hq0 h292 h353 ht_f_size hp1 h355) vc_X12_number_19
theorem vc_X12_partOf_1 {f_c f_c0 f_g f_g0 f_size p1 p2 z537 : Int} (h0 : (1001 - z537) < ((0 : Nat) : Int)) (h1 : f_g + f_c + p1 ≤ f_g0 + f_c0 + z537) (h2 : z537 ≤ p2) (h3 : p1 ≤ z537) (h4 : p1 ≤ p2) (h5 : p2 ≤ f_size) (h6 : f_g0 + f_c0 + p2 - p1 ≤ 1000) (h7 : 0 ≤ f_c0 ∧ f_c0 ≤ 1000) (h8 : 0 ≤ f_g0 ∧ f_g0 ≤ 1000) (h9 : 0 ≤ f_size ∧ f_size ≤ 1000) (h10 : 0 ≤ p1 ∧ p1 ≤ 1000) (h11 : 0 ≤ p2 ∧ p2 ≤ 1000) (h12 : 0 ≤ z537 ∧ z537 ≤ 1000) : False := by omega
theorem vc_X12_partOf_2 {f_c f_c0 f_g f_g0 f_size p1 p2 z537 : Int} (h0 : p1 ≤ p2) (h1 : p2 ≤ f_size) (h2 : f_g0 + f_c0 + p2 - p1 ≤ 1000) (h3 : f_g + f_c + p1 ≤ f_g0 + f_c0 + z537) (h4 : z537 ≤ p2) (h5 : p1 ≤ z537) (h6 : p2 ≤ z537) (h7 : 0 ≤ f_c ∧ f_c ≤ 1000) (h8 : 0 ≤ f_c0 ∧ f_c0 ≤ 1000) (h9 : 0 ≤ f_g ∧ f_g ≤ 1000) (h10 : 0 ≤ f_g0 ∧ f_g0 ≤ 1000) (h11 : 0 ≤ f_size ∧ f_size ≤ 1000) (h12 : 0 ≤ p1 ∧ p1 ≤ 1000) (h13 : 0 ≤ p2 ∧ p2 ≤ 1000) (h14 : 0 ≤ z537 ∧ z537 ≤ 1000) : f_g + f_c ≤ f_g0 + f_c0 + p2 - p1 := by omega
theorem vc_X12_partOf_3 {f_c f_c0 f_g f_g0 f_size p1 p2 z537 : Int} (h0 : z537 < p2) (h1 : p1 ≤ p2) (h2 : p2 ≤ f_size) (h3 : f_g0 + f_c0 + p2 - p1 ≤ 1000) (h4 : f_g + f_c + p1 ≤ f_g0 + f_c0 + z537) (h5 : z537 ≤ p2) (h6 : p1 ≤ z537) (h7 : 0 ≤ f_c ∧ f_c ≤ 1000) (h8 : 0 ≤ f_c0 ∧ f_c0 ≤ 1000) (h9 : 0 ≤ f_g ∧ f_g ≤ 1000) (h10 : 0 ≤ f_g0 ∧ f_g0 ≤ 1000) (h11 : 0 ≤ f_size ∧ f_size ≤ 1000) (h12 : 0 ≤ p1 ∧ p1 ≤ 1000) (h13 : 0 ≤ p2 ∧ p2 ≤ 1000) (h14 : 0 ≤ z537 ∧ z537 ≤ 1000) : 0 ≤ z537 ∧ z537 ≤ 999 := by omega
theorem vc_X12_partOf_4 {f_c f_c0 f_g f_g0 f_size p1 p2 z537 : Int} (h0 : z537 < p2) (h1 : p1 ≤ p2) (h2 : p2 ≤ f_size) (h3 : f_g0 + f_c0 + p2 - p1 ≤ 1000) (h4 : f_g + f_c + p1 ≤ f_g0 + f_c0 + z537) (h5 : z537 ≤ p2) (h6 : p1 ≤ z537) (h7 : 0 ≤ f_c ∧ f_c ≤ 1000) (h8 : 0 ≤ f_c0 ∧ f_c0 ≤ 1000) (h9 : 0 ≤ f_g ∧ f_g ≤ 1000) (h10 : 0 ≤ f_g0 ∧ f_g0 ≤ 1000) (h11 : 0 ≤ f_size ∧ f_size ≤ 1000) (h12 : 0 ≤ p1 ∧ p1 ≤ 1000) (h13 : 0 ≤ p2 ∧ p2 ≤ 1000) (h14 : 0 ≤ z537 ∧ z537 ≤ 999) : 1 ≤ p2 ∧ p2 ≤ 1000 := by omega
theorem vc_X12_partOf_5 {f_c f_c0 f_g f_g0 f_size p1 p2 z537 : Int} (h0 : p2 ≤ f_size) (h1 : f_g + f_c + p1 ≤ f_g0 + f_c0 + z537) (h2 : z537 ≤ p2) (h3 : p1 ≤ z537) (h4 : z537 < p2) (h5 : p1 ≤ p2) (h6 : f_g0 + f_c0 + p2 - p1 ≤ 1000) (h7 : 0 ≤ f_c ∧ f_c ≤ 1000) (h8 : 0 ≤ f_c0 ∧ f_c0 ≤ 1000) (h9 : 0 ≤ f_g ∧ f_g ≤ 1000) (h10 : 0 ≤ f_g0 ∧ f_g0 ≤ 1000) (h11 : 0 ≤ f_size ∧ f_size ≤ 1000) (h12 : 0 ≤ p1 ∧ p1 ≤ 1000) (h13 : 1 ≤ p2 ∧ p2 ≤ 1000) (h14 : 0 ≤ z537 ∧ z537 ≤ 999) : z537 < f_size := by omega
theorem vc_X12_partOf_7 {z560 z561 : Int} (h0 : 32 < z560) (h1 : (z560 + 7) / 8 = z561) (h2 : 0 ≤ z560 ∧ z560 ≤ 255) (h3 : 0 ≤ z561 ∧ z561 ≤ 32) : 33 ≤ z560 ∧ z560 ≤ 255 := by omega
theorem vc_X12_partOf_8 {f_c f_c0 f_g f_g0 f_size p1 p2 z537 : Int} (h0 : p1 ≤ p2) (h1 : p2 ≤ f_size) (h2 : f_g0 + f_c0 + p2 - p1 ≤ 1000) (h3 : f_g + f_c + p1 ≤ f_g0 + f_c0 + z537) (h4 : z537 ≤ p2) (h5 : p1 ≤ z537) (h6 : z537 < p2) (h7 : 0 ≤ f_c ∧ f_c ≤ 1000) (h8 : 0 ≤ f_c0 ∧ f_c0 ≤ 1000) (h9 : 0 ≤ f_g ∧ f_g ≤ 1000) (h10 : 0 ≤ f_g0 ∧ f_g0 ≤ 1000) (h11 : 0 ≤ f_size ∧ f_size ≤ 1000) (h12 : 0 ≤ p1 ∧ p1 ≤ 1000) (h13 : 1 ≤ p2 ∧ p2 ≤ 1000) (h14 : 0 ≤ z537 ∧ z537 ≤ 999) : f_g + f_c ≤ f_g0 + f_c0 + p2 - p1 := by omega
theorem vc_X12_partOf_9 {z560 z561 : Int} (h0 : z560 ≤ 32) (h1 : (z560 + 7) / 8 = z561) (h2 : 0 ≤ z560 ∧ z560 ≤ 255) (h3 : 0 ≤ z561 ∧ z561 ≤ 32) : 0 ≤ z560 ∧ z560 ≤ 32 := by omega
theorem vc_X12_partOf_11 {f_c f_c0 f_g f_g0 p1 p2 z537 z561 : Int} (h0 : f_g + f_c + p1 ≤ f_g0 + f_c0 + z537) (h1 : p1 ≤ p2) (h2 : f_g0 + f_c0 + p2 - p1 ≤ 1000) (h3 : z537 ≤ p2) (h4 : p1 ≤ z537) (h5 : z537 < p2) (h6 : ((z537 + 1) + z561) ≤ p2) (h7 : 0 ≤ f_c ∧ f_c ≤ 1000) (h8 : 0 ≤ f_c0 ∧ f_c0 ≤ 1000) (h9 : 0 ≤ f_g ∧ f_g ≤ 1000) (h10 : 0 ≤ f_g0 ∧ f_g0 ≤ 1000) (h11 : 0 ≤ p1 ∧ p1 ≤ 1000) (h12 : 1 ≤ p2 ∧ p2 ≤ 1000) (h13 : 0 ≤ z537 ∧ z537 ≤ 999) (h14 : 0 ≤ z561 ∧ z561 ≤ 32) : 0 ≤ f_c ∧ f_c < 1000 := by omega
theorem vc_X12_partOf_12 {f_c f_c0 f_g f_g0 p1 p2 z537 z561 : Int} (h0 : f_g + f_c + p1 ≤ f_g0 + f_c0 + z537) (h1 : p1 ≤ p2) (h2 : f_g0 + f_c0 + p2 - p1 ≤ 1000) (h3 : z537 ≤ p2) (h4 : p1 ≤ z537) (h5 : z537 < p2) (h6 : ((z537 + 1) + z561) ≤ p2) (h7 : 0 ≤ f_c ∧ f_c ≤ 1000) (h8 : 0 ≤ f_c0 ∧ f_c0 ≤ 1000) (h9 : 0 ≤ f_g ∧ f_g ≤ 1000) (h10 : 0 ≤ f_g0 ∧ f_g0 ≤ 1000) (h11 : 0 ≤ p1 ∧ p1 ≤ 1000) (h12 : 1 ≤ p2 ∧ p2 ≤ 1000) (h13 : 0 ≤ z537 ∧ z537 ≤ 999) (h14 : 0 ≤ z561 ∧ z561 ≤ 32) : 0 ≤ (f_c + 1) ∧ (f_c + 1) ≤ 1000 := by omega
theorem vc_X12_partOf_13 {f_c f_c0 f_g f_g0 f_size p1 p2 z537 z560 z561 : Int} (h0 : f_g + f_c + p1 ≤ f_g0 + f_c0 + z537) (h1 : z537 ≤ p2) (h2 : p1 ≤ z537) (h3 : z537 < p2) (h4 : (z560 + 7) / 8 = z561) (h5 : ((z537 + 1) + z561) ≤ p2) (h6 : p1 ≤ p2) (h7 : p2 ≤ f_size) (h8 : f_g0 + f_c0 + p2 - p1 ≤ 1000) (h9 : z560 ≤ 32) (h10 : 0 ≤ f_c ∧ f_c ≤ 1000) (h11 : 0 ≤ f_c0 ∧ f_c0 ≤ 1000) (h12 : 0 ≤ f_g ∧ f_g ≤ 1000) (h13 : 0 ≤ f_g0 ∧ f_g0 ≤ 1000) (h14 : 0 ≤ f_size ∧ f_size ≤ 1000) (h15 : 0 ≤ p1 ∧ p1 ≤ 1000) (h16 : 1 ≤ p2 ∧ p2 ≤ 1000) (h17 : 0 ≤ z537 ∧ z537 ≤ 999) (h18 : 0 ≤ z560 ∧ z560 ≤ 32) (h19 : 0 ≤ z561 ∧ z561 ≤ 32) : 0 ≤ (z537 + (1 + z561)) ∧ (z537 + (1 + z561)) ≤ 1000 := by omega
theorem vc_X12_partOf_14 {f_c f_c0 f_g f_g0 f_size p1 p2 z537 z560 z561 : Int} (h0 : p1 ≤ p2) (h1 : f_g0 + f_c0 + p2 - p1 ≤ 1000) (h2 : f_g + f_c + p1 ≤ f_g0 + f_c0 + z537) (h3 : z537 ≤ p2) (h4 : p1 ≤ z537) (h5 : z537 < p2) (h6 : (z560 + 7) / 8 = z561) (h7 : ((z537 + 1) + z561) ≤ p2) (h8 : p2 ≤ f_size) (h9 : z560 ≤ 32) (h10 : 0 ≤ f_c ∧ f_c ≤ 1000) (h11 : 0 ≤ f_c0 ∧ f_c0 ≤ 1000) (h12 : 0 ≤ f_g ∧ f_g ≤ 1000) (h13 : 0 ≤ f_g0 ∧ f_g0 ≤ 1000) (h14 : 0 ≤ f_size ∧ f_size ≤ 1000) (h15 : 0 ≤ p1 ∧ p1 ≤ 1000) (h16 : 1 ≤ p2 ∧ p2 ≤ 1000) (h17 : 0 ≤ z537 ∧ z537 ≤ 999) (h18 : 0 ≤ z560 ∧ z560 ≤ 32) (h19 : 0 ≤ z561 ∧ z561 ≤ 32) : f_g + (f_c + 1) + p1 ≤ f_g0 + f_c0 + (z537 + (1 + z561)) := by omega
theorem vc_X12_partOf_15 {f_c f_c0 f_g f_g0 f_size p1 p2 z537 z560 z561 : Int} (h0 : p1 ≤ p2) (h1 : p2 ≤ f_size) (h2 : f_g0 + f_c0 + p2 - p1 ≤ 1000) (h3 : f_g + f_c + p1 ≤ f_g0 + f_c0 + z537) (h4 : z537 ≤ p2) (h5 : p1 ≤ z537) (h6 : z537 < p2) (h7 : (z560 + 7) / 8 = z561) (h8 : ((z537 + 1) + z561) ≤ p2) (h9 : z560 ≤ 32) (h10 : 0 ≤ f_c ∧ f_c ≤ 1000) (h11 : 0 ≤ f_c0 ∧ f_c0 ≤ 1000) (h12 : 0 ≤ f_g ∧ f_g ≤ 1000) (h13 : 0 ≤ f_g0 ∧ f_g0 ≤ 1000) (h14 : 0 ≤ f_size ∧ f_size ≤ 1000) (h15 : 0 ≤ p1 ∧ p1 ≤ 1000) (h16 : 1 ≤ p2 ∧ p2 ≤ 1000) (h17 : 0 ≤ z537 ∧ z537 ≤ 999) (h18 : 0 ≤ z560 ∧ z560 ≤ 32) (h19 : 0 ≤ z561 ∧ z561 ≤ 32) : (z537 + (1 + z561)) ≤ p2 := by omega
theorem vc_X12_partOf_16 {f_c f_c0 f_g f_g0 f_size p1 p2 z537 z560 z561 : Int} (h0 : p1 ≤ p2) (h1 : f_g0 + f_c0 + p2 - p1 ≤ 1000) (h2 : f_g + f_c + p1 ≤ f_g0 + f_c0 + z537) (h3 : z537 ≤ p2) (h4 : p1 ≤ z537) (h5 : z537 < p2) (h6 : (z560 + 7) / 8 = z561) (h7 : ((z537 + 1) + z561) ≤ p2) (h8 : p2 ≤ f_size) (h9 : z560 ≤ 32) (h10 : 0 ≤ f_c ∧ f_c ≤ 1000) (h11 : 0 ≤ f_c0 ∧ f_c0 ≤ 1000) (h12 : 0 ≤ f_g ∧ f_g ≤ 1000) (h13 : 0 ≤ f_g0 ∧ f_g0 ≤ 1000) (h14 : 0 ≤ f_size ∧ f_size ≤ 1000) (h15 : 0 ≤ p1 ∧ p1 ≤ 1000) (h16 : 1 ≤ p2 ∧ p2 ≤ 1000) (h17 : 0 ≤ z537 ∧ z537 ≤ 999) (h18 : 0 ≤ z560 ∧ z560 ≤ 32) (h19 : 0 ≤ z561 ∧ z561 ≤ 32) : p1 ≤ (z537 + (1 + z561)) := by omega
theorem vc_X12_partOf_17 {N f_c f_c0 f_g f_g0 f_size p1 p2 z537 z560 z561 : Int} (h0 : (1001 - z537) < N + 1) (h1 : f_g + f_c + p1 ≤ f_g0 + f_c0 + z537) (h2 : z537 ≤ p2) (h3 : p1 ≤ z537) (h4 : z537 < p2) (h5 : (z560 + 7) / 8 = z561) (h6 : ((z537 + 1) + z561) ≤ p2) (h7 : p1 ≤ p2) (h8 : p2 ≤ f_size) (h9 : f_g0 + f_c0 + p2 - p1 ≤ 1000) (h10 : z560 ≤ 32) (h11 : 0 ≤ f_c ∧ f_c ≤ 1000) (h12 : 0 ≤ f_c0 ∧ f_c0 ≤ 1000) (h13 : 0 ≤ f_g ∧ f_g ≤ 1000) (h14 : 0 ≤ f_g0 ∧ f_g0 ≤ 1000) (h15 : 0 ≤ f_size ∧ f_size ≤ 1000) (h16 : 0 ≤ p1 ∧ p1 ≤ 1000) (h17 : 1 ≤ p2 ∧ p2 ≤ 1000) (h18 : 0 ≤ z537 ∧ z537 ≤ 999) (h19 : 0 ≤ z560 ∧ z560 ≤ 32) (h20 : 0 ≤ z561 ∧ z561 ≤ 32) : (1001 - (z537 + (1 + z561))) < N := by omega
theorem vc_X12_partOf_19 {f_c f_c0 f_g f_g0 p1 p2 z537 z561 : Int} (h0 : f_g + f_c + p1 ≤ f_g0 + f_c0 + z537) (h1 : p1 ≤ p2) (h2 : f_g0 + f_c0 + p2 - p1 ≤ 1000) (h3 : z537 ≤ p2) (h4 : p1 ≤ z537) (h5 : z537 < p2) (h6 : ((z537 + 1) + z561) ≤ p2) (h7 : 0 ≤ f_c ∧ f_c ≤ 1000) (h8 : 0 ≤ f_c0 ∧ f_c0 ≤ 1000) (h9 : 0 ≤ f_g ∧ f_g ≤ 1000) (h10 : 0 ≤ f_g0 ∧ f_g0 ≤ 1000) (h11 : 0 ≤ p1 ∧ p1 ≤ 1000) (h12 : 1 ≤ p2 ∧ p2 ≤ 1000) (h13 : 0 ≤ z537 ∧ z537 ≤ 999) (h14 : 0 ≤ z561 ∧ z561 ≤ 32) : 0 ≤ f_g ∧ f_g < 1000 := by omega
theorem vc_X12_partOf_20 {f_c f_c0 f_g f_g0 p1 p2 z537 z561 : Int} (h0 : f_g + f_c + p1 ≤ f_g0 + f_c0 + z537) (h1 : p1 ≤ p2) (h2 : f_g0 + f_c0 + p2 - p1 ≤ 1000) (h3 : z537 ≤ p2) (h4 : p1 ≤ z537) (h5 : z537 < p2) (h6 : ((z537 + 1) + z561) ≤ p2) (h7 : 0 ≤ f_c ∧ f_c ≤ 1000) (h8 : 0 ≤ f_c0 ∧ f_c0 ≤ 1000) (h9 : 0 ≤ f_g ∧ f_g ≤ 1000) (h10 : 0 ≤ f_g0 ∧ f_g0 ≤ 1000) (h11 : 0 ≤ p1 ∧ p1 ≤ 1000) (h12 : 1 ≤ p2 ∧ p2 ≤ 1000) (h13 : 0 ≤ z537 ∧ z537 ≤ 999) (h14 : 0 ≤ z561 ∧ z561 ≤ 32) : 0 ≤ (f_g + 1) ∧ (f_g + 1) ≤ 1000 := by omega
theorem vc_X12_partOf_21 {f_c f_c0 f_g f_g0 f_size p1 p2 z537 z560 z561 : Int} (h0 : p1 ≤ p2) (h1 : f_g0 + f_c0 + p2 - p1 ≤ 1000) (h2 : f_g + f_c + p1 ≤ f_g0 + f_c0 + z537) (h3 : z537 ≤ p2) (h4 : p1 ≤ z537) (h5 : z537 < p2) (h6 : (z560 + 7) / 8 = z561) (h7 : ((z537 + 1) + z561) ≤ p2) (h8 : p2 ≤ f_size) (h9 : z560 ≤ 32) (h10 : 0 ≤ f_c ∧ f_c ≤ 1000) (h11 : 0 ≤ f_c0 ∧ f_c0 ≤ 1000) (h12 : 0 ≤ f_g ∧ f_g ≤ 1000) (h13 : 0 ≤ f_g0 ∧ f_g0 ≤ 1000) (h14 : 0 ≤ f_size ∧ f_size ≤ 1000) (h15 : 0 ≤ p1 ∧ p1 ≤ 1000) (h16 : 1 ≤ p2 ∧ p2 ≤ 1000) (h17 : 0 ≤ z537 ∧ z537 ≤ 999) (h18 : 0 ≤ z560 ∧ z560 ≤ 32) (h19 : 0 ≤ z561 ∧ z561 ≤ 32) : (f_g + 1) + f_c + p1 ≤ f_g0 + f_c0 + (z537 + (1 + z561)) := by omega
theorem vc_X12_partOf_22 {p2 z537 z560 z561 : Int} (h0 : ¬ z561 = 0) (h1 : (z560 + 7) / 8 = z561) (h2 : ((z537 + 1) + z561) ≤ p2) (h3 : 1 ≤ p2 ∧ p2 ≤ 1000) (h4 : 0 ≤ z537 ∧ z537 ≤ 999) (h5 : 0 ≤ z560 ∧ z560 ≤ 32) (h6 : 0 ≤ z561 ∧ z561 ≤ 32) : 1 ≤ z561 ∧ z561 ≤ 32 := by omega
theorem vc_X12_partOf_23 {f_c f_c0 f_g f_g0 f_size p1 p2 z537 z560 z561 : Int} (h0 : (z560 + 7) / 8 = z561) (h1 : ((z537 + 1) + z561) ≤ p2) (h2 : ¬ z561 = 0) (h3 : p1 ≤ p2) (h4 : p2 ≤ f_size) (h5 : f_g0 + f_c0 + p2 - p1 ≤ 1000) (h6 : f_g + f_c + p1 ≤ f_g0 + f_c0 + z537) (h7 : z537 ≤ p2) (h8 : p1 ≤ z537) (h9 : z537 < p2) (h10 : z560 ≤ 32) (h11 : 0 ≤ f_c ∧ f_c ≤ 1000) (h12 : 0 ≤ f_c0 ∧ f_c0 ≤ 1000) (h13 : 0 ≤ f_g ∧ f_g ≤ 1000) (h14 : 0 ≤ f_g0 ∧ f_g0 ≤ 1000) (h15 : 0 ≤ f_size ∧ f_size ≤ 1000) (h16 : 0 ≤ p1 ∧ p1 ≤ 1000) (h17 : 1 ≤ p2 ∧ p2 ≤ 1000) (h18 : 0 ≤ z537 ∧ z537 ≤ 999) (h19 : 0 ≤ z560 ∧ z560 ≤ 32) (h20 : 1 ≤ z561 ∧ z561 ≤ 32) : 0 ≤ z561 ∧ z561 ≤ 4 := by omega
theorem vc_X12_partOf_24 {f_c f_c0 f_g f_g0 f_size p1 p2 z537 z560 z561 : Int} (h0 : p2 ≤ f_size) (h1 : f_g + f_c + p1 ≤ f_g0 + f_c0 + z537) (h2 : z537 ≤ p2) (h3 : p1 ≤ z537) (h4 : z537 < p2) (h5 : (z560 + 7) / 8 = z561) (h6 : ((z537 + 1) + z561) ≤ p2) (h7 : ¬ z561 = 0) (h8 : p1 ≤ p2) (h9 : f_g0 + f_c0 + p2 - p1 ≤ 1000) (h10 : z560 ≤ 32) (h11 : 0 ≤ f_c ∧ f_c ≤ 1000) (h12 : 0 ≤ f_c0 ∧ f_c0 ≤ 1000) (h13 : 0 ≤ f_g ∧ f_g ≤ 1000) (h14 : 0 ≤ f_g0 ∧ f_g0 ≤ 1000) (h15 : 0 ≤ f_size ∧ f_size ≤ 1000) (h16 : 0 ≤ p1 ∧ p1 ≤ 1000) (h17 : 1 ≤ p2 ∧ p2 ≤ 1000) (h18 : 0 ≤ z537 ∧ z537 ≤ 999) (h19 : 0 ≤ z560 ∧ z560 ≤ 32) (h20 : 1 ≤ z561 ∧ z561 ≤ 32) : (z537 + 1) + z561 ≤ f_size := by omega
theorem vc_X12_partOf_25 {p2 z537 z560 z561 : Int} (h0 : z561 = 0) (h1 : (z560 + 7) / 8 = z561) (h2 : ((z537 + 1) + z561) ≤ p2) (h3 : 1 ≤ p2 ∧ p2 ≤ 1000) (h4 : 0 ≤ z537 ∧ z537 ≤ 999) (h5 : 0 ≤ z560 ∧ z560 ≤ 32) (h6 : 0 ≤ z561 ∧ z561 ≤ 32) : 0 ≤ z561 ∧ z561 ≤ 0 := by omega
theorem vc_X12_partOf_26 {f_c f_c0 f_g f_g0 f_size p1 p2 z537 z560 z561 : Int} (h0 : p1 ≤ p2) (h1 : p2 ≤ f_size) (h2 : f_g0 + f_c0 + p2 - p1 ≤ 1000) (h3 : f_g + f_c + p1 ≤ f_g0 + f_c0 + z537) (h4 : z537 ≤ p2) (h5 : p1 ≤ z537) (h6 : z537 < p2) (h7 : p2 < ((z537 + 1) + z561)) (h8 : (z560 + 7) / 8 = z561) (h9 : 0 ≤ f_c ∧ f_c ≤ 1000) (h10 : 0 ≤ f_c0 ∧ f_c0 ≤ 1000) (h11 : 0 ≤ f_g ∧ f_g ≤ 1000) (h12 : 0 ≤ f_g0 ∧ f_g0 ≤ 1000) (h13 : 0 ≤ f_size ∧ f_size ≤ 1000) (h14 : 0 ≤ p1 ∧ p1 ≤ 1000) (h15 : 1 ≤ p2 ∧ p2 ≤ 1000) (h16 : 0 ≤ z537 ∧ z537 ≤ 999) (h17 : 0 ≤ z560 ∧ z560 ≤ 32) (h18 : 0 ≤ z561 ∧ z561 ≤ 32) : f_g + f_c ≤ f_g0 + f_c0 + p2 - p1 := by omega
theorem vc_X12_partOf_27 {f_c0 f_g0 f_size p1 p2 : Int} (h0 : p1 ≤ p2) (h1 : f_g0 + f_c0 + p2 - p1 ≤ 1000) (h2 : p2 ≤ f_size) (h3 : 0 ≤ f_c0 ∧ f_c0 ≤ 1000) (h4 : 0 ≤ f_g0 ∧ f_g0 ≤ 1000) (h5 : 0 ≤ f_size ∧ f_size ≤ 1000) (h6 : 0 ≤ p1 ∧ p1 ≤ 1000) (h7 : 0 ≤ p2 ∧ p2 ≤ 1000) : f_g0 + f_c0 + p1 ≤ f_g0 + f_c0 + p1 := by omega
theorem vc_X12_partOf_28 {f_c0 f_g0 f_size p1 p2 : Int} (h0 : p1 ≤ p2) (h1 : p2 ≤ f_size) (h2 : f_g0 + f_c0 + p2 - p1 ≤ 1000) (h3 : 0 ≤ f_c0 ∧ f_c0 ≤ 1000) (h4 : 0 ≤ f_g0 ∧ f_g0 ≤ 1000) (h5 : 0 ≤ f_size ∧ f_size ≤ 1000) (h6 : 0 ≤ p1 ∧ p1 ≤ 1000) (h7 : 0 ≤ p2 ∧ p2 ≤ 1000) : p1 ≤ p2 := by omega
theorem vc_X12_partOf_29 {f_c0 f_g0 f_size p1 p2 : Int} (h0 : p1 ≤ p2) (h1 : f_g0 + f_c0 + p2 - p1 ≤ 1000) (h2 : p2 ≤ f_size) (h3 : 0 ≤ f_c0 ∧ f_c0 ≤ 1000) (h4 : 0 ≤ f_g0 ∧ f_g0 ≤ 1000) (h5 : 0 ≤ f_size ∧ f_size ≤ 1000) (h6 : 0 ≤ p1 ∧ p1 ≤ 1000) (h7 : 0 ≤ p2 ∧ p2 ≤ 1000) : p1 ≤ p1 := by omega
theorem vc_X12_partOf_30 {f_c0 f_g0 f_size p1 p2 : Int} (h0 : p1 ≤ p2) (h1 : f_g0 + f_c0 + p2 - p1 ≤ 1000) (h2 : p2 ≤ f_size) (h3 : 0 ≤ f_c0 ∧ f_c0 ≤ 1000) (h4 : 0 ≤ f_g0 ∧ f_g0 ≤ 1000) (h5 : 0 ≤ f_size ∧ f_size ≤ 1000) (h6 : 0 ≤ p1 ∧ p1 ≤ 1000) (h7 : 0 ≤ p2 ∧ p2 ≤ 1000) : (1001 - p1) < ((1002 : Nat) : Int) := by omega
set_option maxRecDepth 4000 in
set_option maxHeartbeats 4000000 in
theorem c_X12_partOf {l : Launch} {D : va_G} {c : Nat → ClassId} {H0 : Heap} {sa : Nat × Nat × (Nat → Int32)} {w : mW} {μ : mM} (hw : mWF w) (hT : mT w μ) {p1 : Int} (hp1 : 0 ≤ p1 ∧ p1 ≤ 1000) {p2 : Int} (hp2 : 0 ≤ p2 ∧ p2 ≤ 1000) {p3 : Int} (hp3 : 0 ≤ p3 ∧ p3 ≤ 1) {f_size : Int} (q_f_size : μ 106 1 = f_size) {f_g0 : Int} (q_f_g0 : μ 106 88 = f_g0) {f_c0 : Int} (q_f_c0 : μ 106 91 = f_c0) (hq0 : p1 ≤ p2) (hq1 : p2 ≤ f_size) (hq2 : f_g0 + f_c0 + p2 - p1 ≤ 1000) : sC (gG l D c H0 sa) mX12_partOf 3 0 0 [.ref 106, iv p1, iv p2, iv p3] (mk w μ) (qI w [106088, 106091, 166999, 167999, 168999, 169999, 172999] μ (fun z μ1 => ∃ o_g o_c : Int, μ1 106 88 = o_g ∧ μ1 106 91 = o_c ∧ (0 ≤ z ∧ z ≤ 1) ∧ (o_g + o_c ≤ f_g0 + f_c0 + p2 - p1) ∧ True)) := by
  refine sC.of rfl (by decide) (le_t rfl) ?_
  have ht_f_size : (0 ≤ f_size ∧ f_size ≤ 1000) := by rw [← q_f_size]; exact hT 106 106 (A_106 hw) 1
  have ht_f_g0 : (0 ≤ f_g0 ∧ f_g0 ≤ 1000) := by rw [← q_f_g0]; exact hT 106 106 (A_106 hw) 88
  have ht_f_c0 : (0 ≤ f_c0 ∧ f_c0 ≤ 1000) := by rw [← q_f_c0]; exact hT 106 106 (A_106 hw) 91
  refine mr_lvE (lv' := [(0, .ref 106), (1, iv p1), (2, iv p2), (3, iv p3)]) rfl ?_
  refine mr_iload_n (pc := 0) (z := p1) dX12_partOf_0 rfl rfl ?_
  refine mr_istore (pc := 1) (lv' := [(4, iv p1), (0, .ref 106), (1, iv p1), (2, iv p2), (3, iv p3)]) dX12_partOf_1 (by decide) rfl ?_
  have L539 : ∀ (nL539 : Nat) (z537 : Int) (μ538 : mM) (f_g : Int) (f_c : Int), mT w μ538 → mF [106088, 106091, 166999, 167999, 168999, 169999] w μ μ538 → μ538 106 (88) = f_g → μ538 106 (91) = f_c → (0 ≤ z537 ∧ z537 ≤ 1000) → (f_g + f_c + p1 ≤ f_g0 + f_c0 + z537) → (z537 ≤ p2) → (p1 ≤ z537) → (1001 - z537) < (nL539 : Int) → sV (gG l D c H0 sa) mX12_partOf (sRm 3 0 0) (sZ (gG l D c H0 sa) 0 0 (qI w [106088, 106091, 166999, 167999, 168999, 169999, 172999] μ (fun z μ1 => ∃ o_g o_c : Int, μ1 106 88 = o_g ∧ μ1 106 91 = o_c ∧ (0 ≤ z ∧ z ≤ 1) ∧ (o_g + o_c ≤ f_g0 + f_c0 + p2 - p1) ∧ True))) 3 [(0, .ref 106), (2, iv p2), (3, iv p3), (4, iv z537)] [] (mk w μ538) 0 0 := by
    intro nL539
    induction nL539 with
    | zero => intro z537 μ538 f_g f_c T541 F542 q548 q549 h540 h544 h545 h546 h547; exact ((vc_X12_partOf_1 h547 h544 h545 h546 hq0 hq1 hq2 ht_f_c0 ht_f_g0 ht_f_size hp1 hp2 h540)).elim
    | succ nL539 ih550 =>
      intro z537 μ538 f_g f_c T541 F542 q548 q549 h540 h544 h545 h546 h547
      have h551 : (0 ≤ f_g ∧ f_g ≤ 1000) := by rw [← q548]; exact T541 106 106 (A_106 hw) (88)
      have h552 : (0 ≤ f_c ∧ f_c ≤ 1000) := by rw [← q549]; exact T541 106 106 (A_106 hw) (91)
      refine mr_iload (pc := 3) (z := z537) dX12_partOf_3 rfl ?_
      refine mr_iload_n (pc := 5) (z := p2) dX12_partOf_5 rfl rfl ?_
      refine mr_icmp_ge (pc := 6) (tgt := 177) dX12_partOf_6 (by decide) (r32 h540 rfl) (r32 hp2 rfl) (fun h553 => ?_) (fun h553 => ?_)
      · refine mr_iconst (pc := 177) (z := 1) dX12_partOf_177 ?_
        exact mr_zret dX12_partOf_178 rfl (rW (c := 0) (d := 1) (rR (x := 1)) rfl) (le_t rfl) (le_t rfl) T541 (mF.call mF.refl F542 rfl) ⟨f_g, f_c, q548, q549, (rW (c := 0) (d := 1) (rR (x := 1)) rfl), (vc_X12_partOf_2 hq0 hq1 hq2 h544 h545 h546 h553 h552 ht_f_c0 h551 ht_f_g0 ht_f_size hp1 hp2 h540), trivial⟩
      have h554 : 0 ≤ z537 ∧ z537 ≤ 999 := (vc_X12_partOf_3 h553 hq0 hq1 hq2 h544 h545 h546 h552 ht_f_c0 h551 ht_f_g0 ht_f_size hp1 hp2 h540)
      have h555 : 1 ≤ p2 ∧ p2 ≤ 1000 := (vc_X12_partOf_4 h553 hq0 hq1 hq2 h544 h545 h546 h552 ht_f_c0 h551 ht_f_g0 ht_f_size hp1 hp2 h554)
      refine sv_aload_n (pc := 9) dX12_partOf_9 rfl rfl ?_
      refine mr_iload (pc := 10) (z := z537) dX12_partOf_10 rfl ?_
      refine mr_cVP (pc := 12) (c_X12_byteAt_in hw T541 (rW (c := 0) (d := 2147483647) h554 rfl) (F542.f (A_106 hw) rfl q_f_size) (vc_X12_partOf_5 hq1 h544 h545 h546 h553 hq0 hq2 h552 ht_f_c0 h551 ht_f_g0 ht_f_size hp1 h555 h554)) (gOk _ _ _ _ _) dX12_partOf_12 (tX12_byteAt _ _ _ _ _) ⟨wV_X12_byteAt, wL_X12_byteAt⟩ wM_X12_227 (gCX12 _ _ _ _ _) rfl (A_106 hw) rfl ⟨le_t rfl, le_t rfl⟩ ⟨le_t rfl, le_t rfl⟩ rfl (le_t rfl) fun z560 h559 => ?_
      refine mr_istore (pc := 15) (lv' := [(5, iv z560), (0, .ref 106), (2, iv p2), (3, iv p3), (4, iv z537)]) dX12_partOf_15 (by decide) rfl ?_
      refine mr_iload (pc := 17) (z := z560) dX12_partOf_17 rfl ?_
      refine mr_bipush (pc := 19) (z := 7) dX12_partOf_19 (by decide) ?_
      refine mr_iadd (pc := 21) (x := z560) (y := 7) dX12_partOf_21 ?_
      refine mr_bipush (pc := 22) (z := 8) dX12_partOf_22 (by decide) ?_
      refine mr_idiv (pc := 24) (x := (z560 + 7)) (y := 8) dX12_partOf_24 (rW (c := 0) (d := 2147483647) (rAdd (e := 7) (f := 262) h559.1 (rR (x := 7)) rfl) rfl) vc_X12_prefixOut_4 ?_
      refine mr_gen (P := fun z => 0 ≤ z ∧ z ≤ 32) (rDiv (rAdd (e := 7) (f := 262) h559.1 (rR (x := 7)) rfl) rfl) fun z561 q562 h563 => ?_
      refine mr_istore (pc := 25) (lv' := [(6, iv z561), (5, iv z560), (0, .ref 106), (2, iv p2), (3, iv p3), (4, iv z537)]) dX12_partOf_25 (by decide) rfl ?_
      refine mr_iload (pc := 27) (z := z560) dX12_partOf_27 rfl ?_
      refine mr_bipush (pc := 29) (z := 32) dX12_partOf_29 (by decide) ?_
      refine mr_icmp_gt (pc := 31) (tgt := 45) dX12_partOf_31 (by decide) (r32 h559.1 rfl) (r32 (rR (x := 32)) rfl) (fun h564 => ?_) (fun h564 => ?_)
      · have h565 : 33 ≤ z560 ∧ z560 ≤ 255 := (vc_X12_partOf_7 h564 q562 h559.1 h563)
        refine sv_aload_n (pc := 45) dX12_partOf_45 rfl rfl ?_
        refine mr_iconst (pc := 46) (z := 1) dX12_partOf_46 ?_
        refine mr_iload (pc := 47) (z := z537) dX12_partOf_47 rfl ?_
        refine mr_cVV (pc := 49) (c_X12_fails hw T541 (rW (c := 0) (d := 3) (rR (x := 1)) rfl) (rW (c := (-2147483648)) (d := 2147483647) h554 rfl)) (gOk _ _ _ _ _) dX12_partOf_49 (tX12_fails _ _ _ _ _) ⟨wV_X12_fails, wL_X12_fails⟩ wM_X12_620 (gCX12 _ _ _ _ _) rfl (A_106 hw) rfl ⟨le_t rfl, le_t rfl⟩ ⟨le_t rfl, le_t rfl⟩ rfl (le_t rfl) fun μ566 T567 F568 h569 => ?_
        refine mr_iconst (pc := 52) (z := 0) dX12_partOf_52 ?_
        exact mr_zret dX12_partOf_53 rfl (rW (c := 0) (d := 1) (rR (x := 0)) rfl) (le_t rfl) (le_t rfl) T567 (mF.call (mF.call mF.refl F542 rfl) F568 rfl) ⟨f_g, f_c, (F568.f (A_106 hw) rfl q548), (F568.f (A_106 hw) rfl q549), (rW (c := 0) (d := 1) (rR (x := 0)) rfl), (vc_X12_partOf_8 hq0 hq1 hq2 h544 h545 h546 h553 h552 ht_f_c0 h551 ht_f_g0 ht_f_size hp1 h555 h554), trivial⟩
      have h570 : 0 ≤ z560 ∧ z560 ≤ 32 := (vc_X12_partOf_9 h564 q562 h559.1 h563)
      refine mr_iload (pc := 34) (z := z537) dX12_partOf_34 rfl ?_
      refine mr_iconst (pc := 36) (z := 1) dX12_partOf_36 ?_
      refine mr_iadd (pc := 37) (x := z537) (y := 1) dX12_partOf_37 ?_
      refine mr_iload (pc := 38) (z := z561) dX12_partOf_38 rfl ?_
      refine mr_iadd (pc := 40) (x := (z537 + 1)) (y := z561) dX12_partOf_40 ?_
      refine mr_iload_n (pc := 41) (z := p2) dX12_partOf_41 rfl rfl ?_
      refine mr_icmp_le (pc := 42) (tgt := 54) dX12_partOf_42 (by decide) (r32 (rAdd (e := 1) (f := 1032) (rAdd (e := 1) (f := 1000) h554 (rR (x := 1)) rfl) h563 rfl) rfl) (r32 h555 rfl) (fun h571 => ?_) (fun h571 => ?_)
      · refine mr_iload (pc := 54) (z := z561) dX12_partOf_54 rfl ?_
        have J584 : ∀ (z582 : Int), (((-2147483648) ≤ z582 ∧ z582 ≤ 2147483647)) → sV (gG l D c H0 sa) mX12_partOf (sRm 3 0 0) (sZ (gG l D c H0 sa) 0 0 (qI w [106088, 106091, 166999, 167999, 168999, 169999, 172999] μ (fun z μ1 => ∃ o_g o_c : Int, μ1 106 88 = o_g ∧ μ1 106 91 = o_c ∧ (0 ≤ z ∧ z ≤ 1) ∧ (o_g + o_c ≤ f_g0 + f_c0 + p2 - p1) ∧ True))) 82 [(0, .ref 106), (2, iv p2), (3, iv p3), (4, iv z537), (5, iv z560), (6, iv z561)] [iv z582] (mk w μ538) 0 0 := by
          intro z582 h583
          refine mr_istore (pc := 82) (lv' := [(7, iv z582), (0, .ref 106), (2, iv p2), (3, iv p3), (4, iv z537), (5, iv z560), (6, iv z561)]) dX12_partOf_82 (by decide) rfl ?_
          refine mr_iload (pc := 84) (z := z582) dX12_partOf_84 rfl ?_
          refine mr_iload (pc := 86) (z := z560) dX12_partOf_86 rfl ?_
          refine mr_cSP (pc := 88) (c_X12_mask hw T541 (rW (c := (-2147483648)) (d := 2147483647) h570 rfl)) (gOk _ _ _ _ _) dX12_partOf_88 (tX12_mask _ _ _ _ _) wS_X12_mask wM_X12_11 ⟨le_t rfl, le_t rfl⟩ ⟨le_t rfl, le_t rfl⟩ rfl (le_t rfl) fun z589 h588 => ?_
          refine mr_iand (pc := 91) (x := z582) (y := z589) dX12_partOf_91 ?_
          refine mr_gen (P := fun z => (-2147483648) ≤ z ∧ z ≤ 2147483647) (r32i _) fun z590 q591 h592 => ?_
          refine mr_istore (pc := 92) (lv' := [(7, iv z590), (0, .ref 106), (2, iv p2), (3, iv p3), (4, iv z537), (5, iv z560), (6, iv z561)]) dX12_partOf_92 (by decide) rfl ?_
          refine mr_iload_n (pc := 94) (z := p3) dX12_partOf_94 rfl rfl ?_
          refine mr_if_eq (pc := 95) (tgt := 133) dX12_partOf_95 (by decide) (r32 hp3 rfl) (fun h613 => ?_) (fun h613 => ?_)
          · have h614 : 0 ≤ p3 ∧ p3 ≤ 0 := (vc_X12_ring_22 h613 hp3)
            refine sv_aload_n (pc := 133) dX12_partOf_133 rfl rfl ?_
            refine gf_X12_89 (pc := 134) dX12_partOf_134 wF_X12_466 (A_106 hw) T541 ?_
            refine sv_aload_n (pc := 137) dX12_partOf_137 rfl rfl ?_
            refine gk_X12_91 (pc := 138) dX12_partOf_138 wF_X12_628 (A_106 hw) q549 ?_
            refine mr_iload (pc := 141) (z := z590) dX12_partOf_141 rfl ?_
            refine ss_168 (pc := 143) dX12_partOf_143 (A_168 hw) T541 (vc_X12_partOf_11 h544 hq0 hq2 h545 h546 h553 h571 h552 ht_f_c0 h551 ht_f_g0 hp1 h555 h554 h563) h592 fun μ615 u616 T617 => ?_
            refine sv_aload_n (pc := 144) dX12_partOf_144 rfl rfl ?_
            refine gf_X12_90 (pc := 145) dX12_partOf_145 wF_X12_469 (A_106 hw) T617 ?_
            refine sv_aload_n (pc := 148) dX12_partOf_148 rfl rfl ?_
            refine gk_X12_91 (pc := 149) dX12_partOf_149 wF_X12_628 (A_106 hw) (u616.f (Or.inl (mAt.ne (A_168 hw) (A_106 hw) rfl)) q549) ?_
            refine mr_iload (pc := 152) (z := z560) dX12_partOf_152 rfl ?_
            refine ss_169 (pc := 154) dX12_partOf_154 (A_169 hw) T617 (vc_X12_partOf_11 h544 hq0 hq2 h545 h546 h553 h571 h552 ht_f_c0 h551 ht_f_g0 hp1 h555 h554 h563) (rW (c := (-2147483648)) (d := 2147483647) h570 rfl) fun μ618 u619 T620 => ?_
            refine sv_aload_n (pc := 155) dX12_partOf_155 rfl rfl ?_
            refine sv_dup (pc := 156) dX12_partOf_156 rfl ?_
            refine gk_X12_91 (pc := 157) dX12_partOf_157 wF_X12_628 (A_106 hw) (u619.f (Or.inl (mAt.ne (A_169 hw) (A_106 hw) rfl)) (u616.f (Or.inl (mAt.ne (A_168 hw) (A_106 hw) rfl)) q549)) ?_
            refine mr_iconst (pc := 160) (z := 1) dX12_partOf_160 ?_
            refine mr_iadd (pc := 161) (x := f_c) (y := 1) dX12_partOf_161 ?_
            refine pf_X12_91 (pc := 162) dX12_partOf_162 wF_X12_628 (A_106 hw) T620 (vc_X12_partOf_12 h544 hq0 hq2 h545 h546 h553 h571 h552 ht_f_c0 h551 ht_f_g0 hp1 h555 h554 h563) fun μ621 u622 T623 => ?_
            refine mr_iload (pc := 165) (z := z537) dX12_partOf_165 rfl ?_
            refine mr_iconst (pc := 167) (z := 1) dX12_partOf_167 ?_
            refine mr_iload (pc := 168) (z := z561) dX12_partOf_168 rfl ?_
            refine mr_iadd (pc := 170) (x := 1) (y := z561) dX12_partOf_170 ?_
            refine mr_iadd (pc := 171) (x := z537) (y := (1 + z561)) dX12_partOf_171 ?_
            refine mr_istore (pc := 172) (lv' := [(4, iv (z537 + (1 + z561))), (7, iv z590), (0, .ref 106), (2, iv p2), (3, iv p3), (5, iv z560), (6, iv z561)]) dX12_partOf_172 (by decide) rfl ?_
            refine sv_goto (pc := 174) (tgt := 3) dX12_partOf_174 (by decide) ?_
            refine mr_lvS (lv' := [(0, .ref 106), (2, iv p2), (3, iv p3), (4, iv (z537 + (1 + z561)))]) (List.forall_mem_cons.mpr ⟨rfl, List.forall_mem_cons.mpr ⟨rfl, List.forall_mem_cons.mpr ⟨rfl, List.forall_mem_cons.mpr ⟨rfl, fun _ h => absurd h List.not_mem_nil⟩⟩⟩⟩) ?_
            exact ih550 (z537 + (1 + z561)) μ621 f_g (f_c + 1) T623 (mF.up (mF.up (mF.up (mF.call mF.refl F542 rfl) (A_168 hw) u616 rfl) (A_169 hw) u619 rfl) (A_106 hw) u622 rfl) (u622.f (Or.inr (by decide)) (u619.f (Or.inl (mAt.ne (A_169 hw) (A_106 hw) rfl)) (u616.f (Or.inl (mAt.ne (A_168 hw) (A_106 hw) rfl)) q548))) u622.1 (vc_X12_partOf_13 h544 h545 h546 h553 q562 h571 hq0 hq1 hq2 h564 h552 ht_f_c0 h551 ht_f_g0 ht_f_size hp1 h555 h554 h570 h563) (vc_X12_partOf_14 hq0 hq2 h544 h545 h546 h553 q562 h571 hq1 h564 h552 ht_f_c0 h551 ht_f_g0 ht_f_size hp1 h555 h554 h570 h563) (vc_X12_partOf_15 hq0 hq1 hq2 h544 h545 h546 h553 q562 h571 h564 h552 ht_f_c0 h551 ht_f_g0 ht_f_size hp1 h555 h554 h570 h563) (vc_X12_partOf_16 hq0 hq2 h544 h545 h546 h553 q562 h571 hq1 h564 h552 ht_f_c0 h551 ht_f_g0 ht_f_size hp1 h555 h554 h570 h563) (vc_X12_partOf_17 (nS h547) h544 h545 h546 h553 q562 h571 hq0 hq1 hq2 h564 h552 ht_f_c0 h551 ht_f_g0 ht_f_size hp1 h555 h554 h570 h563)
          have h624 : 1 ≤ p3 ∧ p3 ≤ 1 := (vc_X12_ring_24 h613 hp3)
          refine sv_aload_n (pc := 98) dX12_partOf_98 rfl rfl ?_
          refine gf_X12_86 (pc := 99) dX12_partOf_99 wF_X12_460 (A_106 hw) T541 ?_
          refine sv_aload_n (pc := 102) dX12_partOf_102 rfl rfl ?_
          refine gk_X12_88 (pc := 103) dX12_partOf_103 wF_X12_625 (A_106 hw) q548 ?_
          refine mr_iload (pc := 106) (z := z590) dX12_partOf_106 rfl ?_
          refine ss_166 (pc := 108) dX12_partOf_108 (A_166 hw) T541 (vc_X12_partOf_19 h544 hq0 hq2 h545 h546 h553 h571 h552 ht_f_c0 h551 ht_f_g0 hp1 h555 h554 h563) h592 fun μ625 u626 T627 => ?_
          refine sv_aload_n (pc := 109) dX12_partOf_109 rfl rfl ?_
          refine gf_X12_87 (pc := 110) dX12_partOf_110 wF_X12_463 (A_106 hw) T627 ?_
          refine sv_aload_n (pc := 113) dX12_partOf_113 rfl rfl ?_
          refine gk_X12_88 (pc := 114) dX12_partOf_114 wF_X12_625 (A_106 hw) (u626.f (Or.inl (mAt.ne (A_166 hw) (A_106 hw) rfl)) q548) ?_
          refine mr_iload (pc := 117) (z := z560) dX12_partOf_117 rfl ?_
          refine ss_167 (pc := 119) dX12_partOf_119 (A_167 hw) T627 (vc_X12_partOf_19 h544 hq0 hq2 h545 h546 h553 h571 h552 ht_f_c0 h551 ht_f_g0 hp1 h555 h554 h563) (rW (c := (-2147483648)) (d := 2147483647) h570 rfl) fun μ628 u629 T630 => ?_
          refine sv_aload_n (pc := 120) dX12_partOf_120 rfl rfl ?_
          refine sv_dup (pc := 121) dX12_partOf_121 rfl ?_
          refine gk_X12_88 (pc := 122) dX12_partOf_122 wF_X12_625 (A_106 hw) (u629.f (Or.inl (mAt.ne (A_167 hw) (A_106 hw) rfl)) (u626.f (Or.inl (mAt.ne (A_166 hw) (A_106 hw) rfl)) q548)) ?_
          refine mr_iconst (pc := 125) (z := 1) dX12_partOf_125 ?_
          refine mr_iadd (pc := 126) (x := f_g) (y := 1) dX12_partOf_126 ?_
          refine pf_X12_88 (pc := 127) dX12_partOf_127 wF_X12_625 (A_106 hw) T630 (vc_X12_partOf_20 h544 hq0 hq2 h545 h546 h553 h571 h552 ht_f_c0 h551 ht_f_g0 hp1 h555 h554 h563) fun μ631 u632 T633 => ?_
          refine sv_goto (pc := 130) (tgt := 165) dX12_partOf_130 (by decide) ?_
          refine mr_iload (pc := 165) (z := z537) dX12_partOf_165 rfl ?_
          refine mr_iconst (pc := 167) (z := 1) dX12_partOf_167 ?_
          refine mr_iload (pc := 168) (z := z561) dX12_partOf_168 rfl ?_
          refine mr_iadd (pc := 170) (x := 1) (y := z561) dX12_partOf_170 ?_
          refine mr_iadd (pc := 171) (x := z537) (y := (1 + z561)) dX12_partOf_171 ?_
          refine mr_istore (pc := 172) (lv' := [(4, iv (z537 + (1 + z561))), (7, iv z590), (0, .ref 106), (2, iv p2), (3, iv p3), (5, iv z560), (6, iv z561)]) dX12_partOf_172 (by decide) rfl ?_
          refine sv_goto (pc := 174) (tgt := 3) dX12_partOf_174 (by decide) ?_
          refine mr_lvS (lv' := [(0, .ref 106), (2, iv p2), (3, iv p3), (4, iv (z537 + (1 + z561)))]) (List.forall_mem_cons.mpr ⟨rfl, List.forall_mem_cons.mpr ⟨rfl, List.forall_mem_cons.mpr ⟨rfl, List.forall_mem_cons.mpr ⟨rfl, fun _ h => absurd h List.not_mem_nil⟩⟩⟩⟩) ?_
          exact ih550 (z537 + (1 + z561)) μ631 (f_g + 1) f_c T633 (mF.up (mF.up (mF.up (mF.call mF.refl F542 rfl) (A_166 hw) u626 rfl) (A_167 hw) u629 rfl) (A_106 hw) u632 rfl) u632.1 (u632.f (Or.inr (by decide)) (u629.f (Or.inl (mAt.ne (A_167 hw) (A_106 hw) rfl)) (u626.f (Or.inl (mAt.ne (A_166 hw) (A_106 hw) rfl)) q549))) (vc_X12_partOf_13 h544 h545 h546 h553 q562 h571 hq0 hq1 hq2 h564 h552 ht_f_c0 h551 ht_f_g0 ht_f_size hp1 h555 h554 h570 h563) (vc_X12_partOf_21 hq0 hq2 h544 h545 h546 h553 q562 h571 hq1 h564 h552 ht_f_c0 h551 ht_f_g0 ht_f_size hp1 h555 h554 h570 h563) (vc_X12_partOf_15 hq0 hq1 hq2 h544 h545 h546 h553 q562 h571 h564 h552 ht_f_c0 h551 ht_f_g0 ht_f_size hp1 h555 h554 h570 h563) (vc_X12_partOf_16 hq0 hq2 h544 h545 h546 h553 q562 h571 hq1 h564 h552 ht_f_c0 h551 ht_f_g0 ht_f_size hp1 h555 h554 h570 h563) (vc_X12_partOf_17 (nS h547) h544 h545 h546 h553 q562 h571 hq0 hq1 hq2 h564 h552 ht_f_c0 h551 ht_f_g0 ht_f_size hp1 h555 h554 h570 h563)
        refine mr_if_ne (pc := 56) (tgt := 63) dX12_partOf_56 (by decide) (r32 h563 rfl) (fun h634 => ?_) (fun h634 => ?_)
        · have h635 : 1 ≤ z561 ∧ z561 ≤ 32 := (vc_X12_partOf_22 h634 q562 h571 h555 h554 h570 h563)
          refine sv_aload_n (pc := 63) dX12_partOf_63 rfl rfl ?_
          refine mr_iload (pc := 64) (z := z537) dX12_partOf_64 rfl ?_
          refine mr_iconst (pc := 66) (z := 1) dX12_partOf_66 ?_
          refine mr_iadd (pc := 67) (x := z537) (y := 1) dX12_partOf_67 ?_
          refine mr_iload (pc := 68) (z := z561) dX12_partOf_68 rfl ?_
          refine mr_cVP (pc := 70) (c_X12_number hw T541 (rW (c := 0) (d := 1000) (rAdd (e := 1) (f := 1000) h554 (rR (x := 1)) rfl) rfl) (vc_X12_partOf_23 q562 h571 h634 hq0 hq1 hq2 h544 h545 h546 h553 h564 h552 ht_f_c0 h551 ht_f_g0 ht_f_size hp1 h555 h554 h570 h635) (F542.f (A_106 hw) rfl q_f_size) (vc_X12_partOf_24 hq1 h544 h545 h546 h553 q562 h571 h634 hq0 hq2 h564 h552 ht_f_c0 h551 ht_f_g0 ht_f_size hp1 h555 h554 h570 h635)) (gOk _ _ _ _ _) dX12_partOf_70 (tX12_number _ _ _ _ _) ⟨wV_X12_number, wL_X12_number⟩ wM_X12_623 (gCX12 _ _ _ _ _) rfl (A_106 hw) rfl ⟨le_t rfl, le_t rfl⟩ ⟨le_t rfl, le_t rfl⟩ rfl (le_t rfl) fun z640 h639 => ?_
          refine mr_bipush (pc := 73) (z := 32) dX12_partOf_73 (by decide) ?_
          refine mr_bipush (pc := 75) (z := 8) dX12_partOf_75 (by decide) ?_
          refine mr_iload (pc := 77) (z := z561) dX12_partOf_77 rfl ?_
          refine mr_imul (pc := 79) (x := 8) (y := z561) dX12_partOf_79 ?_
          refine mr_isub (pc := 80) (x := 32) (y := (8 * z561)) dX12_partOf_80 ?_
          refine mr_ishl (pc := 81) (x := z640) (y := (32 - (8 * z561))) dX12_partOf_81 ?_
          refine mr_gen (P := fun z => (-2147483648) ≤ z ∧ z ≤ 2147483647) (r32i _) fun z641 q642 h643 => ?_
          refine mr_lvS (lv' := [(0, .ref 106), (2, iv p2), (3, iv p3), (4, iv z537), (5, iv z560), (6, iv z561)]) (List.forall_mem_cons.mpr ⟨rfl, List.forall_mem_cons.mpr ⟨rfl, List.forall_mem_cons.mpr ⟨rfl, List.forall_mem_cons.mpr ⟨rfl, List.forall_mem_cons.mpr ⟨rfl, List.forall_mem_cons.mpr ⟨rfl, fun _ h => absurd h List.not_mem_nil⟩⟩⟩⟩⟩⟩) ?_
          exact J584 z641 h643
        have h644 : 0 ≤ z561 ∧ z561 ≤ 0 := (vc_X12_partOf_25 h634 q562 h571 h555 h554 h570 h563)
        refine mr_iconst (pc := 59) (z := 0) dX12_partOf_59 ?_
        refine sv_goto (pc := 60) (tgt := 82) dX12_partOf_60 (by decide) ?_
        refine mr_lvS (lv' := [(0, .ref 106), (2, iv p2), (3, iv p3), (4, iv z537), (5, iv z560), (6, iv z561)]) (List.forall_mem_cons.mpr ⟨rfl, List.forall_mem_cons.mpr ⟨rfl, List.forall_mem_cons.mpr ⟨rfl, List.forall_mem_cons.mpr ⟨rfl, List.forall_mem_cons.mpr ⟨rfl, List.forall_mem_cons.mpr ⟨rfl, fun _ h => absurd h List.not_mem_nil⟩⟩⟩⟩⟩⟩) ?_
        exact J584 0 (rW (c := (-2147483648)) (d := 2147483647) (rR (x := 0)) rfl)
      refine sv_aload_n (pc := 45) dX12_partOf_45 rfl rfl ?_
      refine mr_iconst (pc := 46) (z := 1) dX12_partOf_46 ?_
      refine mr_iload (pc := 47) (z := z537) dX12_partOf_47 rfl ?_
      refine mr_cVV (pc := 49) (c_X12_fails hw T541 (rW (c := 0) (d := 3) (rR (x := 1)) rfl) (rW (c := (-2147483648)) (d := 2147483647) h554 rfl)) (gOk _ _ _ _ _) dX12_partOf_49 (tX12_fails _ _ _ _ _) ⟨wV_X12_fails, wL_X12_fails⟩ wM_X12_620 (gCX12 _ _ _ _ _) rfl (A_106 hw) rfl ⟨le_t rfl, le_t rfl⟩ ⟨le_t rfl, le_t rfl⟩ rfl (le_t rfl) fun μ645 T646 F647 h648 => ?_
      refine mr_iconst (pc := 52) (z := 0) dX12_partOf_52 ?_
      exact mr_zret dX12_partOf_53 rfl (rW (c := 0) (d := 1) (rR (x := 0)) rfl) (le_t rfl) (le_t rfl) T646 (mF.call (mF.call mF.refl F542 rfl) F647 rfl) ⟨f_g, f_c, (F647.f (A_106 hw) rfl q548), (F647.f (A_106 hw) rfl q549), (rW (c := 0) (d := 1) (rR (x := 0)) rfl), (vc_X12_partOf_26 hq0 hq1 hq2 h544 h545 h546 h553 h571 q562 h552 ht_f_c0 h551 ht_f_g0 ht_f_size hp1 h555 h554 h570 h563), trivial⟩
  refine mr_lvS (lv' := [(0, .ref 106), (2, iv p2), (3, iv p3), (4, iv p1)]) (List.forall_mem_cons.mpr ⟨rfl, List.forall_mem_cons.mpr ⟨rfl, List.forall_mem_cons.mpr ⟨rfl, List.forall_mem_cons.mpr ⟨rfl, fun _ h => absurd h List.not_mem_nil⟩⟩⟩⟩) ?_
  exact L539 1002 p1 μ f_g0 f_c0 hT mF.refl q_f_g0 q_f_c0 hp1 (vc_X12_partOf_27 hq0 hq2 hq1 ht_f_c0 ht_f_g0 ht_f_size hp1 hp2) (vc_X12_partOf_28 hq0 hq1 hq2 ht_f_c0 ht_f_g0 ht_f_size hp1 hp2) (vc_X12_partOf_29 hq0 hq2 hq1 ht_f_c0 ht_f_g0 ht_f_size hp1 hp2) (vc_X12_partOf_30 hq0 hq2 hq1 ht_f_c0 ht_f_g0 ht_f_size hp1 hp2)
theorem vc_X12_part_5  : (0 : Int) < (100 : Int) ∧ (100 : Int) ≤ (2147483647 : Int) := by omega
theorem vc_X12_part_6 {p1 z25 : Int} (h0 : z25 = 1) (h1 : p1 / 100 = z25) (h2 : 0 ≤ p1 ∧ p1 ≤ 2147483647) (h3 : 0 ≤ z25 ∧ z25 ≤ 21474836) : 1 ≤ z25 ∧ z25 ≤ 1 := by omega
theorem vc_X12_part_7 {p1 z22 z30 : Int} (h0 : z30 ≤ z22) (h1 : p1 % 100 = z22) (h2 : 0 ≤ p1 ∧ p1 ≤ 2147483647) (h3 : 0 ≤ z22 ∧ z22 ≤ 99) (h4 : 0 ≤ z30 ∧ z30 ≤ 1000) : 0 ≤ z30 ∧ z30 ≤ 99 := by omega
theorem vc_X12_part_8 {p1 z22 z30 : Int} (h0 : z22 < z30) (h1 : p1 % 100 = z22) (h2 : 0 ≤ p1 ∧ p1 ≤ 2147483647) (h3 : 0 ≤ z22 ∧ z22 ≤ 99) (h4 : 0 ≤ z30 ∧ z30 ≤ 1000) : 1 ≤ z30 ∧ z30 ≤ 1000 := by omega
theorem vc_X12_part_9 {z25 : Int} (h0 : ¬ z25 = 1) (h1 : 1 ≤ z25 ∧ z25 ≤ 1) : False := by omega
theorem vc_X12_part_10 {p1 z25 : Int} (h0 : z25 = 3) (h1 : p1 / 100 = z25) (h2 : ¬ z25 = 1) (h3 : ¬ z25 = 2) (h4 : 0 ≤ p1 ∧ p1 ≤ 2147483647) (h5 : 0 ≤ z25 ∧ z25 ≤ 21474836) : 3 ≤ z25 ∧ z25 ≤ 3 := by omega
theorem vc_X12_part_13 {z25 : Int} (h0 : ¬ z25 = 3) (h1 : 3 ≤ z25 ∧ z25 ≤ 3) : False := by omega
theorem vc_X12_part_14 {p1 z25 : Int} (h0 : z25 = 7) (h1 : p1 / 100 = z25) (h2 : ¬ z25 = 1) (h3 : ¬ z25 = 2) (h4 : ¬ z25 = 3) (h5 : ¬ z25 = 4) (h6 : ¬ z25 = 5) (h7 : ¬ z25 = 6) (h8 : 0 ≤ p1 ∧ p1 ≤ 2147483647) (h9 : 0 ≤ z25 ∧ z25 ≤ 21474836) : 7 ≤ z25 ∧ z25 ≤ 7 := by omega
theorem vc_X12_part_15 {p1 z22 z75 : Int} (h0 : z75 ≤ z22) (h1 : p1 % 100 = z22) (h2 : 0 ≤ p1 ∧ p1 ≤ 2147483647) (h3 : 0 ≤ z22 ∧ z22 ≤ 99) (h4 : 0 ≤ z75 ∧ z75 ≤ 400) : 0 ≤ z75 ∧ z75 ≤ 99 := by omega
theorem vc_X12_part_16 {p1 z22 z75 : Int} (h0 : z22 < z75) (h1 : p1 % 100 = z22) (h2 : 0 ≤ p1 ∧ p1 ≤ 2147483647) (h3 : 0 ≤ z22 ∧ z22 ≤ 99) (h4 : 0 ≤ z75 ∧ z75 ≤ 400) : 1 ≤ z75 ∧ z75 ≤ 400 := by omega
theorem vc_X12_part_17 {p1 z25 : Int} (h0 : z25 = 6) (h1 : p1 / 100 = z25) (h2 : ¬ z25 = 1) (h3 : ¬ z25 = 2) (h4 : ¬ z25 = 3) (h5 : ¬ z25 = 4) (h6 : ¬ z25 = 5) (h7 : 0 ≤ p1 ∧ p1 ≤ 2147483647) (h8 : 0 ≤ z25 ∧ z25 ≤ 21474836) : 6 ≤ z25 ∧ z25 ≤ 6 := by omega
theorem vc_X12_part_18 {p1 z22 z90 : Int} (h0 : z22 < z90) (h1 : p1 % 100 = z22) (h2 : 0 ≤ p1 ∧ p1 ≤ 2147483647) (h3 : 0 ≤ z22 ∧ z22 ≤ 99) (h4 : 0 ≤ z90 ∧ z90 ≤ 8) : 0 ≤ z22 ∧ z22 ≤ 7 := by omega
theorem vc_X12_part_19 {p1 z22 z90 : Int} (h0 : z22 < z90) (h1 : p1 % 100 = z22) (h2 : 0 ≤ p1 ∧ p1 ≤ 2147483647) (h3 : 0 ≤ z22 ∧ z22 ≤ 7) (h4 : 0 ≤ z90 ∧ z90 ≤ 8) : 1 ≤ z90 ∧ z90 ≤ 8 := by omega
theorem vc_X12_part_20 {p1 z25 : Int} (h0 : z25 = 5) (h1 : p1 / 100 = z25) (h2 : ¬ z25 = 1) (h3 : ¬ z25 = 2) (h4 : ¬ z25 = 3) (h5 : ¬ z25 = 4) (h6 : 0 ≤ p1 ∧ p1 ≤ 2147483647) (h7 : 0 ≤ z25 ∧ z25 ≤ 21474836) : 5 ≤ z25 ∧ z25 ≤ 5 := by omega
theorem vc_X12_part_21  : (((960 : Int) + (4 : Int)) : Int) % (40 : Int) = (4 : Int) := by omega
theorem vc_X12_part_22 {p1 z105 z22 : Int} (h0 : z22 < z105) (h1 : p1 % 100 = z22) (h2 : 0 ≤ p1 ∧ p1 ≤ 2147483647) (h3 : 0 ≤ z105 ∧ z105 ≤ 20) (h4 : 0 ≤ z22 ∧ z22 ≤ 99) : 0 ≤ z22 ∧ z22 ≤ 19 := by omega
theorem vc_X12_part_23 {p1 z105 z22 : Int} (h0 : z22 < z105) (h1 : p1 % 100 = z22) (h2 : 0 ≤ p1 ∧ p1 ≤ 2147483647) (h3 : 0 ≤ z105 ∧ z105 ≤ 20) (h4 : 0 ≤ z22 ∧ z22 ≤ 19) : 1 ≤ z105 ∧ z105 ≤ 20 := by omega
theorem vc_X12_part_24 {p1 z25 : Int} (h0 : z25 = 4) (h1 : p1 / 100 = z25) (h2 : ¬ z25 = 1) (h3 : ¬ z25 = 2) (h4 : ¬ z25 = 3) (h5 : 0 ≤ p1 ∧ p1 ≤ 2147483647) (h6 : 0 ≤ z25 ∧ z25 ≤ 21474836) : 4 ≤ z25 ∧ z25 ≤ 4 := by omega
theorem vc_X12_part_25 {p1 z121 z22 : Int} (h0 : z121 ≤ z22) (h1 : p1 % 100 = z22) (h2 : 0 ≤ p1 ∧ p1 ≤ 2147483647) (h3 : 0 ≤ z121 ∧ z121 ≤ 1000) (h4 : 0 ≤ z22 ∧ z22 ≤ 99) : 0 ≤ z121 ∧ z121 ≤ 99 := by omega
theorem vc_X12_part_26 {p1 z121 z22 : Int} (h0 : z22 < z121) (h1 : p1 % 100 = z22) (h2 : 0 ≤ p1 ∧ p1 ≤ 2147483647) (h3 : 0 ≤ z121 ∧ z121 ≤ 1000) (h4 : 0 ≤ z22 ∧ z22 ≤ 99) : 1 ≤ z121 ∧ z121 ≤ 1000 := by omega
theorem vc_X12_part_27 {z25 : Int} (h0 : z25 = 3) (h1 : 4 ≤ z25 ∧ z25 ≤ 4) : False := by omega
theorem vc_X12_part_28 {p1 z25 : Int} (h0 : z25 = 2) (h1 : p1 / 100 = z25) (h2 : ¬ z25 = 1) (h3 : 0 ≤ p1 ∧ p1 ≤ 2147483647) (h4 : 0 ≤ z25 ∧ z25 ≤ 21474836) : 2 ≤ z25 ∧ z25 ≤ 2 := by omega
theorem vc_X12_part_31 {z25 : Int} (h0 : z25 = 1) (h1 : 2 ≤ z25 ∧ z25 ≤ 2) : False := by omega
theorem vc_X12_part_32 {p1 : Int} (h0 : p1 = 7) (h1 : 0 ≤ p1) (h2 : ¬ p1 = 1) (h3 : ¬ p1 = 2) (h4 : ¬ p1 = 3) (h5 : ¬ p1 = 4) (h6 : ¬ p1 = 5) (h7 : ¬ p1 = 6) (h8 : 0 ≤ p1 ∧ p1 ≤ 2147483647) : 7 ≤ p1 ∧ p1 ≤ 7 := by omega
theorem vc_X12_part_33 {p1 : Int} (h0 : p1 = 6) (h1 : ¬ p1 = 0) (h2 : 0 ≤ p1) (h3 : ¬ p1 = 1) (h4 : ¬ p1 = 2) (h5 : ¬ p1 = 3) (h6 : ¬ p1 = 4) (h7 : ¬ p1 = 5) (h8 : 0 ≤ p1 ∧ p1 ≤ 2147483647) : 6 ≤ p1 ∧ p1 ≤ 6 := by omega
theorem vc_X12_part_34 {p1 : Int} (h0 : p1 = 5) (h1 : ¬ p1 = 0) (h2 : 0 ≤ p1) (h3 : ¬ p1 = 1) (h4 : ¬ p1 = 2) (h5 : ¬ p1 = 3) (h6 : ¬ p1 = 4) (h7 : 0 ≤ p1 ∧ p1 ≤ 2147483647) : 5 ≤ p1 ∧ p1 ≤ 5 := by omega
theorem vc_X12_part_35 {p1 : Int} (h0 : p1 = 4) (h1 : ¬ p1 = 0) (h2 : 0 ≤ p1) (h3 : ¬ p1 = 1) (h4 : ¬ p1 = 2) (h5 : ¬ p1 = 3) (h6 : 0 ≤ p1 ∧ p1 ≤ 2147483647) : 4 ≤ p1 ∧ p1 ≤ 4 := by omega
theorem vc_X12_part_36 {p1 : Int} (h0 : p1 = 3) (h1 : ¬ p1 = 0) (h2 : 0 ≤ p1) (h3 : ¬ p1 = 1) (h4 : ¬ p1 = 2) (h5 : 0 ≤ p1 ∧ p1 ≤ 2147483647) : 3 ≤ p1 ∧ p1 ≤ 3 := by omega
theorem vc_X12_part_37 {p1 : Int} (h0 : p1 = 2) (h1 : ¬ p1 = 0) (h2 : 0 ≤ p1) (h3 : ¬ p1 = 1) (h4 : 0 ≤ p1 ∧ p1 ≤ 2147483647) : 2 ≤ p1 ∧ p1 ≤ 2 := by omega
theorem vc_X12_part_38 {p1 : Int} (h0 : p1 = 1) (h1 : ¬ p1 = 0) (h2 : 0 ≤ p1) (h3 : 0 ≤ p1 ∧ p1 ≤ 2147483647) : 1 ≤ p1 ∧ p1 ≤ 1 := by omega
theorem vc_X12_part_41 {z181 : Int} (h0 : ¬ z181 = 0) (h1 : 0 ≤ z181 ∧ z181 ≤ 3) : 1 ≤ z181 ∧ z181 ≤ 3 := by omega
theorem vc_X12_part_42 {z181 : Int} (h0 : z181 = 0) (h1 : 0 ≤ z181 ∧ z181 ≤ 3) : 0 ≤ z181 ∧ z181 ≤ 0 := by omega
set_option maxRecDepth 4000 in
set_option maxHeartbeats 4000000 in
theorem c_X12_part {l : Launch} {D : va_G} {c : Nat → ClassId} {H0 : Heap} {sa : Nat × Nat × (Nat → Int32)} {w : mW} {μ : mM} (hw : mWF w) (hT : mT w μ) {p1 : Int} (hp1 : (-2147483648) ≤ p1 ∧ p1 ≤ 2147483647) : sC (gG l D c H0 sa) mX12_part 1 0 0 [.ref 106, iv p1] (mk w μ) (qP w μ (fun z => ((-2147483648) ≤ z ∧ z ≤ 2147483647) ∧ True)) := by
  refine sC.of rfl (by decide) (le_t rfl) ?_
  refine mr_lvE (lv' := [(0, .ref 106), (1, iv p1)]) rfl ?_
  refine sv_aload_n (pc := 0) dX12_part_0 rfl rfl ?_
  refine gf_X12_96 (pc := 1) dX12_part_1 wF_X12_655 (A_106 hw) hT fun z1 q2 h3 => ?_
  refine mr_if_ne (pc := 4) (tgt := 10) dX12_part_4 (by decide) (r32 h3 rfl) (fun h4 => ?_) (fun h4 => ?_)
  · have h5 : 1 ≤ z1 ∧ z1 ≤ 1 := (vc_X12_ring_24 h4 h3)
    refine mr_iload_n (pc := 10) (z := p1) dX12_part_10 rfl rfl ?_
    refine mr_if_ne (pc := 11) (tgt := 36) dX12_part_11 (by decide) hp1 (fun h6 => ?_) (fun h6 => ?_)
    · refine sv_aload_n (pc := 36) dX12_part_36 rfl rfl ?_
      refine gf_X12_97 (pc := 37) dX12_part_37 wF_X12_665 (A_106 hw) hT fun z7 q8 h9 => ?_
      refine mr_if_ne (pc := 40) (tgt := 47) dX12_part_40 (by decide) (r32 h9 rfl) (fun h10 => ?_) (fun h10 => ?_)
      · have h11 : 1 ≤ z7 ∧ z7 ≤ 1 := (vc_X12_ring_24 h10 h9)
        refine mr_ldc (pc := 47) (z := (-99999999)) dX12_part_47 wG_X12_29 (by decide) ?_
        exact mr_iretP dX12_part_49 rfl (le_t rfl) (le_t rfl) ⟨(rW (c := (-2147483648)) (d := 2147483647) (rR (x := (-99999999))) rfl), trivial⟩
      have h12 : 0 ≤ z7 ∧ z7 ≤ 0 := (vc_X12_ring_22 h10 h9)
      refine mr_iload_n (pc := 43) (z := p1) dX12_part_43 rfl rfl ?_
      refine mr_if_ge (pc := 44) (tgt := 50) dX12_part_44 (by decide) hp1 (fun h13 => ?_) (fun h13 => ?_)
      · have h14 : 0 ≤ p1 ∧ p1 ≤ 2147483647 := (vc_X12_unlike_7 h13 h6 hp1)
        refine mr_sipush (pc := 50) (z := 960) dX12_part_50 (by decide) ?_
        refine mr_istore_n (pc := 53) (lv' := [(2, iv 960), (0, .ref 106), (1, iv p1)]) dX12_part_53 rfl (by decide) rfl ?_
        refine mr_iload_n (pc := 54) (z := p1) dX12_part_54 rfl rfl ?_
        refine mr_iconst (pc := 55) (z := 1) dX12_part_55 ?_
        refine mr_icmp_ne (pc := 56) (tgt := 64) dX12_part_56 (by decide) (r32 h14 rfl) (r32 (rR (x := 1)) rfl) (fun h15 => ?_) (fun h15 => ?_)
        · refine mr_iload_n (pc := 64) (z := p1) dX12_part_64 rfl rfl ?_
          refine mr_iconst (pc := 65) (z := 2) dX12_part_65 ?_
          refine mr_icmp_ne (pc := 66) (tgt := 74) dX12_part_66 (by decide) (r32 h14 rfl) (r32 (rR (x := 2)) rfl) (fun h16 => ?_) (fun h16 => ?_)
          · refine mr_iload_n (pc := 74) (z := p1) dX12_part_74 rfl rfl ?_
            refine mr_iconst (pc := 75) (z := 3) dX12_part_75 ?_
            refine mr_icmp_ne (pc := 76) (tgt := 84) dX12_part_76 (by decide) (r32 h14 rfl) (r32 (rR (x := 3)) rfl) (fun h17 => ?_) (fun h17 => ?_)
            · refine mr_iload_n (pc := 84) (z := p1) dX12_part_84 rfl rfl ?_
              refine mr_iconst (pc := 85) (z := 4) dX12_part_85 ?_
              refine mr_icmp_ne (pc := 86) (tgt := 98) dX12_part_86 (by decide) (r32 h14 rfl) (r32 (rR (x := 4)) rfl) (fun h18 => ?_) (fun h18 => ?_)
              · refine mr_iload_n (pc := 98) (z := p1) dX12_part_98 rfl rfl ?_
                refine mr_iconst (pc := 99) (z := 5) dX12_part_99 ?_
                refine mr_icmp_ne (pc := 100) (tgt := 112) dX12_part_100 (by decide) (r32 h14 rfl) (r32 (rR (x := 5)) rfl) (fun h19 => ?_) (fun h19 => ?_)
                · refine mr_iload_n (pc := 112) (z := p1) dX12_part_112 rfl rfl ?_
                  refine mr_bipush (pc := 113) (z := 6) dX12_part_113 (by decide) ?_
                  refine mr_icmp_ne (pc := 115) (tgt := 127) dX12_part_115 (by decide) (r32 h14 rfl) (r32 (rR (x := 6)) rfl) (fun h20 => ?_) (fun h20 => ?_)
                  · refine mr_iload_n (pc := 127) (z := p1) dX12_part_127 rfl rfl ?_
                    refine mr_bipush (pc := 128) (z := 7) dX12_part_128 (by decide) ?_
                    refine mr_icmp_ne (pc := 130) (tgt := 138) dX12_part_130 (by decide) (r32 h14 rfl) (r32 (rR (x := 7)) rfl) (fun h21 => ?_) (fun h21 => ?_)
                    · refine mr_iload_n (pc := 138) (z := p1) dX12_part_138 rfl rfl ?_
                      refine mr_bipush (pc := 139) (z := 100) dX12_part_139 (by decide) ?_
                      refine mr_irem (pc := 141) (x := p1) (y := 100) dX12_part_141 h14 vc_X12_part_5 ?_
                      refine mr_gen (P := fun z => 0 ≤ z ∧ z ≤ 99) (rMod h14 rfl) fun z22 q23 h24 => ?_
                      refine mr_istore_n (pc := 142) (lv' := [(3, iv z22), (2, iv 960), (0, .ref 106), (1, iv p1)]) dX12_part_142 rfl (by decide) rfl ?_
                      refine mr_iload_n (pc := 143) (z := p1) dX12_part_143 rfl rfl ?_
                      refine mr_bipush (pc := 144) (z := 100) dX12_part_144 (by decide) ?_
                      refine mr_idiv (pc := 146) (x := p1) (y := 100) dX12_part_146 h14 vc_X12_part_5 ?_
                      refine mr_gen (P := fun z => 0 ≤ z ∧ z ≤ 21474836) (rDiv h14 rfl) fun z25 q26 h27 => ?_
                      refine mr_istore (pc := 147) (lv' := [(4, iv z25), (3, iv z22), (2, iv 960), (0, .ref 106), (1, iv p1)]) dX12_part_147 (by decide) rfl ?_
                      refine mr_iload (pc := 149) (z := z25) dX12_part_149 rfl ?_
                      refine mr_iconst (pc := 151) (z := 1) dX12_part_151 ?_
                      refine mr_icmp_eq (pc := 152) (tgt := 161) dX12_part_152 (by decide) (r32 h27 rfl) (r32 (rR (x := 1)) rfl) (fun h28 => ?_) (fun h28 => ?_)
                      · have h29 : 1 ≤ z25 ∧ z25 ≤ 1 := (vc_X12_part_6 h28 q26 h14 h27)
                        refine mr_iload_n (pc := 161) (z := z22) dX12_part_161 rfl rfl ?_
                        refine sv_aload_n (pc := 162) dX12_part_162 rfl rfl ?_
                        refine gf_X12_88 (pc := 163) dX12_part_163 wF_X12_625 (A_106 hw) hT fun z30 q31 h32 => ?_
                        refine mr_icmp_ge (pc := 166) (tgt := 193) dX12_part_166 (by decide) (r32 h24 rfl) (r32 h32 rfl) (fun h38 => ?_) (fun h38 => ?_)
                        · have h39 : 0 ≤ z30 ∧ z30 ≤ 99 := (vc_X12_part_7 h38 q23 h14 h24 h32)
                          refine mr_ldc (pc := 193) (z := (-99999999)) dX12_part_193 wG_X12_29 (by decide) ?_
                          exact mr_iretP dX12_part_195 rfl (le_t rfl) (le_t rfl) ⟨(rW (c := (-2147483648)) (d := 2147483647) (rR (x := (-99999999))) rfl), trivial⟩
                        have h40 : 1 ≤ z30 ∧ z30 ≤ 1000 := (vc_X12_part_8 h38 q23 h14 h24 h32)
                        refine mr_iload (pc := 169) (z := z25) dX12_part_169 rfl ?_
                        refine mr_iconst (pc := 171) (z := 1) dX12_part_171 ?_
                        refine mr_icmp_ne (pc := 172) (tgt := 184) dX12_part_172 (by decide) (r32 h29 rfl) (r32 (rR (x := 1)) rfl) (fun h => ((vc_X12_part_9 h h29)).elim) (fun _ => ?_)
                        refine sv_aload_n (pc := 175) dX12_part_175 rfl rfl ?_
                        refine gf_X12_86 (pc := 176) dX12_part_176 wF_X12_460 (A_106 hw) hT ?_
                        refine mr_iload_n (pc := 179) (z := z22) dX12_part_179 rfl rfl ?_
                        refine la_166 (pc := 180) dX12_part_180 (A_166 hw) hT (rIx (n := 1000) h24 rfl) fun z41 q42 h43 => ?_
                        refine sv_goto (pc := 181) (tgt := 195) dX12_part_181 (by decide) ?_
                        exact mr_iretP dX12_part_195 rfl (le_t rfl) (le_t rfl) ⟨h43, trivial⟩
                      refine mr_iload (pc := 155) (z := z25) dX12_part_155 rfl ?_
                      refine mr_iconst (pc := 157) (z := 2) dX12_part_157 ?_
                      refine mr_icmp_ne (pc := 158) (tgt := 196) dX12_part_158 (by decide) (r32 h27 rfl) (r32 (rR (x := 2)) rfl) (fun h44 => ?_) (fun h44 => ?_)
                      · refine mr_iload (pc := 196) (z := z25) dX12_part_196 rfl ?_
                        refine mr_iconst (pc := 198) (z := 3) dX12_part_198 ?_
                        refine mr_icmp_eq (pc := 199) (tgt := 208) dX12_part_199 (by decide) (r32 h27 rfl) (r32 (rR (x := 3)) rfl) (fun h45 => ?_) (fun h45 => ?_)
                        · have h46 : 3 ≤ z25 ∧ z25 ≤ 3 := (vc_X12_part_10 h45 q26 h28 h44 h14 h27)
                          refine mr_iload_n (pc := 208) (z := z22) dX12_part_208 rfl rfl ?_
                          refine sv_aload_n (pc := 209) dX12_part_209 rfl rfl ?_
                          refine gf_X12_91 (pc := 210) dX12_part_210 wF_X12_628 (A_106 hw) hT fun z47 q48 h49 => ?_
                          refine mr_icmp_ge (pc := 213) (tgt := 240) dX12_part_213 (by decide) (r32 h24 rfl) (r32 h49 rfl) (fun h55 => ?_) (fun h55 => ?_)
                          · have h56 : 0 ≤ z47 ∧ z47 ≤ 99 := (vc_X12_part_7 h55 q23 h14 h24 h49)
                            refine mr_ldc (pc := 240) (z := (-99999999)) dX12_part_240 wG_X12_29 (by decide) ?_
                            exact mr_iretP dX12_part_242 rfl (le_t rfl) (le_t rfl) ⟨(rW (c := (-2147483648)) (d := 2147483647) (rR (x := (-99999999))) rfl), trivial⟩
                          have h57 : 1 ≤ z47 ∧ z47 ≤ 1000 := (vc_X12_part_8 h55 q23 h14 h24 h49)
                          refine mr_iload (pc := 216) (z := z25) dX12_part_216 rfl ?_
                          refine mr_iconst (pc := 218) (z := 3) dX12_part_218 ?_
                          refine mr_icmp_ne (pc := 219) (tgt := 231) dX12_part_219 (by decide) (r32 h46 rfl) (r32 (rR (x := 3)) rfl) (fun h => ((vc_X12_part_13 h h46)).elim) (fun _ => ?_)
                          refine sv_aload_n (pc := 222) dX12_part_222 rfl rfl ?_
                          refine gf_X12_89 (pc := 223) dX12_part_223 wF_X12_466 (A_106 hw) hT ?_
                          refine mr_iload_n (pc := 226) (z := z22) dX12_part_226 rfl rfl ?_
                          refine la_168 (pc := 227) dX12_part_227 (A_168 hw) hT (rIx (n := 1000) h24 rfl) fun z58 q59 h60 => ?_
                          refine sv_goto (pc := 228) (tgt := 242) dX12_part_228 (by decide) ?_
                          exact mr_iretP dX12_part_242 rfl (le_t rfl) (le_t rfl) ⟨h60, trivial⟩
                        refine mr_iload (pc := 202) (z := z25) dX12_part_202 rfl ?_
                        refine mr_iconst (pc := 204) (z := 4) dX12_part_204 ?_
                        refine mr_icmp_ne (pc := 205) (tgt := 243) dX12_part_205 (by decide) (r32 h27 rfl) (r32 (rR (x := 4)) rfl) (fun h61 => ?_) (fun h61 => ?_)
                        · refine mr_iload (pc := 243) (z := z25) dX12_part_243 rfl ?_
                          refine mr_iconst (pc := 245) (z := 5) dX12_part_245 ?_
                          refine mr_icmp_ne (pc := 246) (tgt := 278) dX12_part_246 (by decide) (r32 h27 rfl) (r32 (rR (x := 5)) rfl) (fun h62 => ?_) (fun h62 => ?_)
                          · refine mr_iload (pc := 278) (z := z25) dX12_part_278 rfl ?_
                            refine mr_bipush (pc := 280) (z := 6) dX12_part_280 (by decide) ?_
                            refine mr_icmp_ne (pc := 282) (tgt := 305) dX12_part_282 (by decide) (r32 h27 rfl) (r32 (rR (x := 6)) rfl) (fun h63 => ?_) (fun h63 => ?_)
                            · refine mr_iload (pc := 305) (z := z25) dX12_part_305 rfl ?_
                              refine mr_bipush (pc := 307) (z := 7) dX12_part_307 (by decide) ?_
                              refine mr_icmp_ne (pc := 309) (tgt := 329) dX12_part_309 (by decide) (r32 h27 rfl) (r32 (rR (x := 7)) rfl) (fun h73 => ?_) (fun h73 => ?_)
                              · refine mr_ldc (pc := 329) (z := (-99999999)) dX12_part_329 wG_X12_29 (by decide) ?_
                                exact mr_iretP dX12_part_331 rfl (le_t rfl) (le_t rfl) ⟨(rW (c := (-2147483648)) (d := 2147483647) (rR (x := (-99999999))) rfl), trivial⟩
                              have h74 : 7 ≤ z25 ∧ z25 ≤ 7 := (vc_X12_part_14 h73 q26 h28 h44 h45 h61 h62 h63 h14 h27)
                              refine mr_iload_n (pc := 312) (z := z22) dX12_part_312 rfl rfl ?_
                              refine sv_aload_n (pc := 313) dX12_part_313 rfl rfl ?_
                              refine gf_X12_93 (pc := 314) dX12_part_314 wF_X12_652 (A_106 hw) hT fun z75 q76 h77 => ?_
                              refine mr_icmp_ge (pc := 317) (tgt := 329) dX12_part_317 (by decide) (r32 h24 rfl) (r32 h77 rfl) (fun h83 => ?_) (fun h83 => ?_)
                              · have h84 : 0 ≤ z75 ∧ z75 ≤ 99 := (vc_X12_part_15 h83 q23 h14 h24 h77)
                                refine mr_ldc (pc := 329) (z := (-99999999)) dX12_part_329 wG_X12_29 (by decide) ?_
                                exact mr_iretP dX12_part_331 rfl (le_t rfl) (le_t rfl) ⟨(rW (c := (-2147483648)) (d := 2147483647) (rR (x := (-99999999))) rfl), trivial⟩
                              have h85 : 1 ≤ z75 ∧ z75 ≤ 400 := (vc_X12_part_16 h83 q23 h14 h24 h77)
                              refine sv_aload_n (pc := 320) dX12_part_320 rfl rfl ?_
                              refine gf_X12_92 (pc := 321) dX12_part_321 wF_X12_472 (A_106 hw) hT ?_
                              refine mr_iload_n (pc := 324) (z := z22) dX12_part_324 rfl rfl ?_
                              refine la_170 (pc := 325) dX12_part_325 (A_170 hw) hT (rIx (n := 400) h24 rfl) fun z86 q87 h88 => ?_
                              refine sv_goto (pc := 326) (tgt := 331) dX12_part_326 (by decide) ?_
                              exact mr_iretP dX12_part_331 rfl (le_t rfl) (le_t rfl) ⟨h88, trivial⟩
                            have h89 : 6 ≤ z25 ∧ z25 ≤ 6 := (vc_X12_part_17 h63 q26 h28 h44 h45 h61 h62 h14 h27)
                            refine mr_iload_n (pc := 285) (z := z22) dX12_part_285 rfl rfl ?_
                            refine sv_aload_n (pc := 286) dX12_part_286 rfl rfl ?_
                            refine gf_X12_101 (pc := 287) dX12_part_287 wF_X12_637 (A_106 hw) hT fun z90 q91 h92 => ?_
                            refine mr_icmp_ge (pc := 290) (tgt := 302) dX12_part_290 (by decide) (r32 h24 rfl) (r32 h92 rfl) (fun h98 => ?_) (fun h98 => ?_)
                            · refine mr_ldc (pc := 302) (z := (-99999999)) dX12_part_302 wG_X12_29 (by decide) ?_
                              exact mr_iretP dX12_part_304 rfl (le_t rfl) (le_t rfl) ⟨(rW (c := (-2147483648)) (d := 2147483647) (rR (x := (-99999999))) rfl), trivial⟩
                            have h99 : 0 ≤ z22 ∧ z22 ≤ 7 := (vc_X12_part_18 h98 q23 h14 h24 h92)
                            have h100 : 1 ≤ z90 ∧ z90 ≤ 8 := (vc_X12_part_19 h98 q23 h14 h99 h92)
                            refine sv_aload_n (pc := 293) dX12_part_293 rfl rfl ?_
                            refine gf_X12_100 (pc := 294) dX12_part_294 wF_X12_481 (A_106 hw) hT ?_
                            refine mr_iload_n (pc := 297) (z := z22) dX12_part_297 rfl rfl ?_
                            refine la_173 (pc := 298) dX12_part_298 (A_173 hw) hT (rIx (n := 8) h99 rfl) fun z101 q102 h103 => ?_
                            refine sv_goto (pc := 299) (tgt := 304) dX12_part_299 (by decide) ?_
                            exact mr_iretP dX12_part_304 rfl (le_t rfl) (le_t rfl) ⟨h103, trivial⟩
                          have h104 : 5 ≤ z25 ∧ z25 ≤ 5 := (vc_X12_part_20 h62 q26 h28 h44 h45 h61 h14 h27)
                          refine mr_iload_n (pc := 249) (z := z22) dX12_part_249 rfl rfl ?_
                          refine sv_aload_n (pc := 250) dX12_part_250 rfl rfl ?_
                          refine gf_X12_32 (pc := 251) dX12_part_251 wF_X12_148 (A_106 hw) hT ?_
                          refine mr_iload_n (pc := 254) (z := 960) dX12_part_254 rfl rfl ?_
                          refine mr_iconst (pc := 255) (z := 4) dX12_part_255 ?_
                          refine mr_iadd (pc := 256) (x := 960) (y := 4) dX12_part_256 ?_
                          refine la_126 (pc := 257) dX12_part_257 (A_126 hw) hT (rIx (n := 84000) (rAdd (e := 964) (f := 964) (rR (x := 960)) (rR (x := 4)) rfl) rfl) fun z105 q106 h107 => ?_
                          have h108 : 0 ≤ z105 ∧ z105 ≤ 20 := h107.2.2.1 vc_X12_part_21
                          refine mr_icmp_ge (pc := 258) (tgt := 275) dX12_part_258 (by decide) (r32 h24 rfl) (r32 h108 rfl) (fun h114 => ?_) (fun h114 => ?_)
                          · refine mr_ldc (pc := 275) (z := (-99999999)) dX12_part_275 wG_X12_29 (by decide) ?_
                            exact mr_iretP dX12_part_277 rfl (le_t rfl) (le_t rfl) ⟨(rW (c := (-2147483648)) (d := 2147483647) (rR (x := (-99999999))) rfl), trivial⟩
                          have h115 : 0 ≤ z22 ∧ z22 ≤ 19 := (vc_X12_part_22 h114 q23 h14 h108 h24)
                          have h116 : 1 ≤ z105 ∧ z105 ≤ 20 := (vc_X12_part_23 h114 q23 h14 h108 h115)
                          refine sv_aload_n (pc := 261) dX12_part_261 rfl rfl ?_
                          refine gf_X12_32 (pc := 262) dX12_part_262 wF_X12_148 (A_106 hw) hT ?_
                          refine mr_iload_n (pc := 265) (z := 960) dX12_part_265 rfl rfl ?_
                          refine mr_bipush (pc := 266) (z := 6) dX12_part_266 (by decide) ?_
                          refine mr_iadd (pc := 268) (x := 960) (y := 6) dX12_part_268 ?_
                          refine mr_iload_n (pc := 269) (z := z22) dX12_part_269 rfl rfl ?_
                          refine mr_iadd (pc := 270) (x := (960 + 6)) (y := z22) dX12_part_270 ?_
                          refine la_126 (pc := 271) dX12_part_271 (A_126 hw) hT (rIx (n := 84000) (rAdd (e := 966) (f := 985) (rAdd (e := 966) (f := 966) (rR (x := 960)) (rR (x := 6)) rfl) h115 rfl) rfl) fun z117 q118 h119 => ?_
                          refine sv_goto (pc := 272) (tgt := 277) dX12_part_272 (by decide) ?_
                          exact mr_iretP dX12_part_277 rfl (le_t rfl) (le_t rfl) ⟨h119.1, trivial⟩
                        have h120 : 4 ≤ z25 ∧ z25 ≤ 4 := (vc_X12_part_24 h61 q26 h28 h44 h45 h14 h27)
                        refine mr_iload_n (pc := 208) (z := z22) dX12_part_208 rfl rfl ?_
                        refine sv_aload_n (pc := 209) dX12_part_209 rfl rfl ?_
                        refine gf_X12_91 (pc := 210) dX12_part_210 wF_X12_628 (A_106 hw) hT fun z121 q122 h123 => ?_
                        refine mr_icmp_ge (pc := 213) (tgt := 240) dX12_part_213 (by decide) (r32 h24 rfl) (r32 h123 rfl) (fun h129 => ?_) (fun h129 => ?_)
                        · have h130 : 0 ≤ z121 ∧ z121 ≤ 99 := (vc_X12_part_25 h129 q23 h14 h123 h24)
                          refine mr_ldc (pc := 240) (z := (-99999999)) dX12_part_240 wG_X12_29 (by decide) ?_
                          exact mr_iretP dX12_part_242 rfl (le_t rfl) (le_t rfl) ⟨(rW (c := (-2147483648)) (d := 2147483647) (rR (x := (-99999999))) rfl), trivial⟩
                        have h131 : 1 ≤ z121 ∧ z121 ≤ 1000 := (vc_X12_part_26 h129 q23 h14 h123 h24)
                        refine mr_iload (pc := 216) (z := z25) dX12_part_216 rfl ?_
                        refine mr_iconst (pc := 218) (z := 3) dX12_part_218 ?_
                        refine mr_icmp_ne (pc := 219) (tgt := 231) dX12_part_219 (by decide) (r32 h120 rfl) (r32 (rR (x := 3)) rfl) (fun _ => ?_) (fun h => ((vc_X12_part_27 h h120)).elim)
                        refine sv_aload_n (pc := 231) dX12_part_231 rfl rfl ?_
                        refine gf_X12_90 (pc := 232) dX12_part_232 wF_X12_469 (A_106 hw) hT ?_
                        refine mr_iload_n (pc := 235) (z := z22) dX12_part_235 rfl rfl ?_
                        refine la_169 (pc := 236) dX12_part_236 (A_169 hw) hT (rIx (n := 1000) h24 rfl) fun z132 q133 h134 => ?_
                        refine sv_goto (pc := 237) (tgt := 242) dX12_part_237 (by decide) ?_
                        exact mr_iretP dX12_part_242 rfl (le_t rfl) (le_t rfl) ⟨h134, trivial⟩
                      have h135 : 2 ≤ z25 ∧ z25 ≤ 2 := (vc_X12_part_28 h44 q26 h28 h14 h27)
                      refine mr_iload_n (pc := 161) (z := z22) dX12_part_161 rfl rfl ?_
                      refine sv_aload_n (pc := 162) dX12_part_162 rfl rfl ?_
                      refine gf_X12_88 (pc := 163) dX12_part_163 wF_X12_625 (A_106 hw) hT fun z136 q137 h138 => ?_
                      refine mr_icmp_ge (pc := 166) (tgt := 193) dX12_part_166 (by decide) (r32 h24 rfl) (r32 h138 rfl) (fun h144 => ?_) (fun h144 => ?_)
                      · have h145 : 0 ≤ z136 ∧ z136 ≤ 99 := (vc_X12_part_25 h144 q23 h14 h138 h24)
                        refine mr_ldc (pc := 193) (z := (-99999999)) dX12_part_193 wG_X12_29 (by decide) ?_
                        exact mr_iretP dX12_part_195 rfl (le_t rfl) (le_t rfl) ⟨(rW (c := (-2147483648)) (d := 2147483647) (rR (x := (-99999999))) rfl), trivial⟩
                      have h146 : 1 ≤ z136 ∧ z136 ≤ 1000 := (vc_X12_part_26 h144 q23 h14 h138 h24)
                      refine mr_iload (pc := 169) (z := z25) dX12_part_169 rfl ?_
                      refine mr_iconst (pc := 171) (z := 1) dX12_part_171 ?_
                      refine mr_icmp_ne (pc := 172) (tgt := 184) dX12_part_172 (by decide) (r32 h135 rfl) (r32 (rR (x := 1)) rfl) (fun _ => ?_) (fun h => ((vc_X12_part_31 h h135)).elim)
                      refine sv_aload_n (pc := 184) dX12_part_184 rfl rfl ?_
                      refine gf_X12_87 (pc := 185) dX12_part_185 wF_X12_463 (A_106 hw) hT ?_
                      refine mr_iload_n (pc := 188) (z := z22) dX12_part_188 rfl rfl ?_
                      refine la_167 (pc := 189) dX12_part_189 (A_167 hw) hT (rIx (n := 1000) h24 rfl) fun z147 q148 h149 => ?_
                      refine sv_goto (pc := 190) (tgt := 195) dX12_part_190 (by decide) ?_
                      exact mr_iretP dX12_part_195 rfl (le_t rfl) (le_t rfl) ⟨h149, trivial⟩
                    have h150 : 7 ≤ p1 ∧ p1 ≤ 7 := (vc_X12_part_32 h21 h13 h15 h16 h17 h18 h19 h20 h14)
                    refine sv_aload_n (pc := 133) dX12_part_133 rfl rfl ?_
                    refine gf_X12_101 (pc := 134) dX12_part_134 wF_X12_637 (A_106 hw) hT fun z151 q152 h153 => ?_
                    exact mr_iretP dX12_part_137 rfl (le_t rfl) (le_t rfl) ⟨(rW (c := (-2147483648)) (d := 2147483647) h153 rfl), trivial⟩
                  have h154 : 6 ≤ p1 ∧ p1 ≤ 6 := (vc_X12_part_33 h20 h6 h13 h15 h16 h17 h18 h19 h14)
                  refine sv_aload_n (pc := 118) dX12_part_118 rfl rfl ?_
                  refine gf_X12_32 (pc := 119) dX12_part_119 wF_X12_148 (A_106 hw) hT ?_
                  refine mr_iload_n (pc := 122) (z := 960) dX12_part_122 rfl rfl ?_
                  refine mr_iconst (pc := 123) (z := 4) dX12_part_123 ?_
                  refine mr_iadd (pc := 124) (x := 960) (y := 4) dX12_part_124 ?_
                  refine la_126 (pc := 125) dX12_part_125 (A_126 hw) hT (rIx (n := 84000) (rAdd (e := 964) (f := 964) (rR (x := 960)) (rR (x := 4)) rfl) rfl) fun z155 q156 h157 => ?_
                  have h158 : 0 ≤ z155 ∧ z155 ≤ 20 := h157.2.2.1 vc_X12_part_21
                  exact mr_iretP dX12_part_126 rfl (le_t rfl) (le_t rfl) ⟨(rW (c := (-2147483648)) (d := 2147483647) h158 rfl), trivial⟩
                have h159 : 5 ≤ p1 ∧ p1 ≤ 5 := (vc_X12_part_34 h19 h6 h13 h15 h16 h17 h18 h14)
                refine sv_aload_n (pc := 103) dX12_part_103 rfl rfl ?_
                refine gf_X12_32 (pc := 104) dX12_part_104 wF_X12_148 (A_106 hw) hT ?_
                refine mr_iload_n (pc := 107) (z := 960) dX12_part_107 rfl rfl ?_
                refine mr_iconst (pc := 108) (z := 3) dX12_part_108 ?_
                refine mr_iadd (pc := 109) (x := 960) (y := 3) dX12_part_109 ?_
                refine la_126 (pc := 110) dX12_part_110 (A_126 hw) hT (rIx (n := 84000) (rAdd (e := 963) (f := 963) (rR (x := 960)) (rR (x := 3)) rfl) rfl) fun z160 q161 h162 => ?_
                exact mr_iretP dX12_part_111 rfl (le_t rfl) (le_t rfl) ⟨h162.1, trivial⟩
              have h163 : 4 ≤ p1 ∧ p1 ≤ 4 := (vc_X12_part_35 h18 h6 h13 h15 h16 h17 h14)
              refine sv_aload_n (pc := 89) dX12_part_89 rfl rfl ?_
              refine gf_X12_32 (pc := 90) dX12_part_90 wF_X12_148 (A_106 hw) hT ?_
              refine mr_iload_n (pc := 93) (z := 960) dX12_part_93 rfl rfl ?_
              refine mr_iconst (pc := 94) (z := 2) dX12_part_94 ?_
              refine mr_iadd (pc := 95) (x := 960) (y := 2) dX12_part_95 ?_
              refine la_126 (pc := 96) dX12_part_96 (A_126 hw) hT (rIx (n := 84000) (rAdd (e := 962) (f := 962) (rR (x := 960)) (rR (x := 2)) rfl) rfl) fun z164 q165 h166 => ?_
              exact mr_iretP dX12_part_97 rfl (le_t rfl) (le_t rfl) ⟨h166.1, trivial⟩
            have h167 : 3 ≤ p1 ∧ p1 ≤ 3 := (vc_X12_part_36 h17 h6 h13 h15 h16 h14)
            refine sv_aload_n (pc := 79) dX12_part_79 rfl rfl ?_
            refine gf_X12_93 (pc := 80) dX12_part_80 wF_X12_652 (A_106 hw) hT fun z168 q169 h170 => ?_
            exact mr_iretP dX12_part_83 rfl (le_t rfl) (le_t rfl) ⟨(rW (c := (-2147483648)) (d := 2147483647) h170 rfl), trivial⟩
          have h171 : 2 ≤ p1 ∧ p1 ≤ 2 := (vc_X12_part_37 h16 h6 h13 h15 h14)
          refine sv_aload_n (pc := 69) dX12_part_69 rfl rfl ?_
          refine gf_X12_91 (pc := 70) dX12_part_70 wF_X12_628 (A_106 hw) hT fun z172 q173 h174 => ?_
          exact mr_iretP dX12_part_73 rfl (le_t rfl) (le_t rfl) ⟨(rW (c := (-2147483648)) (d := 2147483647) h174 rfl), trivial⟩
        have h175 : 1 ≤ p1 ∧ p1 ≤ 1 := (vc_X12_part_38 h15 h6 h13 h14)
        refine sv_aload_n (pc := 59) dX12_part_59 rfl rfl ?_
        refine gf_X12_88 (pc := 60) dX12_part_60 wF_X12_625 (A_106 hw) hT fun z176 q177 h178 => ?_
        exact mr_iretP dX12_part_63 rfl (le_t rfl) (le_t rfl) ⟨(rW (c := (-2147483648)) (d := 2147483647) h178 rfl), trivial⟩
      have h179 : (-2147483648) ≤ p1 ∧ p1 ≤ (-1) := (vc_X12_unlike_8 h13 h6 hp1)
      refine mr_ldc (pc := 47) (z := (-99999999)) dX12_part_47 wG_X12_29 (by decide) ?_
      exact mr_iretP dX12_part_49 rfl (le_t rfl) (le_t rfl) ⟨(rW (c := (-2147483648)) (d := 2147483647) (rR (x := (-99999999))) rfl), trivial⟩
    have h180 : 0 ≤ p1 ∧ p1 ≤ 0 := (vc_X12_mask_1 h6 hp1)
    refine sv_aload_n (pc := 14) dX12_part_14 rfl rfl ?_
    refine gf_X12_102 (pc := 15) dX12_part_15 wF_X12_668 (A_106 hw) hT fun z181 q182 h183 => ?_
    refine mr_if_ne (pc := 18) (tgt := 26) dX12_part_18 (by decide) (r32 h183 rfl) (fun h189 => ?_) (fun h189 => ?_)
    · have h190 : 1 ≤ z181 ∧ z181 ≤ 3 := (vc_X12_part_41 h189 h183)
      refine sv_aload_n (pc := 26) dX12_part_26 rfl rfl ?_
      refine gf_X12_95 (pc := 27) dX12_part_27 wF_X12_478 (A_106 hw) hT ?_
      refine sv_aload_n (pc := 30) dX12_part_30 rfl rfl ?_
      refine gk_X12_102 (pc := 31) dX12_part_31 wF_X12_668 (A_106 hw) q182 ?_
      refine la_172 (pc := 34) dX12_part_34 (A_172 hw) hT (rIx (n := 4) h190 rfl) fun z191 q192 h193 => ?_
      exact mr_iretP dX12_part_35 rfl (le_t rfl) (le_t rfl) ⟨h193, trivial⟩
    have h194 : 0 ≤ z181 ∧ z181 ≤ 0 := (vc_X12_part_42 h189 h183)
    refine mr_ldc (pc := 21) (z := (-99999999)) dX12_part_21 wG_X12_29 (by decide) ?_
    refine sv_goto (pc := 23) (tgt := 35) dX12_part_23 (by decide) ?_
    exact mr_iretP dX12_part_35 rfl (le_t rfl) (le_t rfl) ⟨(rW (c := (-2147483648)) (d := 2147483647) (rR (x := (-99999999))) rfl), trivial⟩
  have h195 : 0 ≤ z1 ∧ z1 ≤ 0 := (vc_X12_ring_22 h4 h3)
  refine mr_ldc (pc := 7) (z := (-99999999)) dX12_part_7 wG_X12_29 (by decide) ?_
  exact mr_iretP dX12_part_9 rfl (le_t rfl) (le_t rfl) ⟨(rW (c := (-2147483648)) (d := 2147483647) (rR (x := (-99999999))) rfl), trivial⟩
end
section
/-! The JDK's methods over memory. -/
theorem mF.cell {w : mW} {μ μ1 : mM} {a s : Nat} (h : ∀ b j, b ≠ a → μ1 b j = μ b j) (hA : mAt w a s) (hs : mArr s = true) : mF [1000 * s + 999] w μ μ1 := by
  intro b j hb
  refine h b j (fun e => ?_)
  subst e
  simp only [mRg, hA.1, hs, if_true] at hb
  simp at hb
def qJ1 (x y z : Int) : Prop := (-1 ≤ z ∧ z ≤ 1) ∧ (x < y → z = -1) ∧ (x = y → z = 0) ∧ (y < x → z = 1)
theorem c_J_cmp {l : Launch} {D : va_G} {c : Nat → ClassId} {H0 : Heap} {sa : Nat × Nat × (Nat → Int32)} {w : mW} {μ : mM} {x y : Int} (hx : -2147483648 ≤ x ∧ x ≤ 2147483647) (hy : -2147483648 ≤ y ∧ y ≤ 2147483647) : sC (gG l D c H0 sa) mJ_cmp 0 0 0 [iv x, iv y] (mk w μ) (qP w μ (qJ1 x y)) := by
  refine sC.weak (c_cmp l D c H0 sa (d := 0) (x := Int32.ofInt x) (y := Int32.ofInt y)) ?_
  rintro r hp' ⟨rfl, rfl⟩
  have h1 := iv_lt hx hy
  have h2 := iv_eq hx hy
  by_cases q : x < y
  · rw [if_pos (h1.mpr q)]
    exact ⟨-1, rfl, rfl, by decide, fun _ => rfl, fun _ => by omega, fun _ => by omega⟩
  · rw [if_neg (fun z => q (h1.mp z))]
    by_cases q2 : x = y
    · rw [if_pos (h2.mpr q2)]
      exact ⟨0, rfl, rfl, by decide, fun _ => by omega, fun _ => rfl, fun _ => by omega⟩
    · rw [if_neg (fun z => q2 (h2.mp z))]
      exact ⟨1, rfl, rfl, by decide, fun _ => by omega, fun _ => by omega, fun _ => rfl⟩
theorem iv_natE {e : Int} (h : 0 ≤ e ∧ e ≤ 2147483647) : (Int32.ofInt e).toNatClampNeg = e.toNat := by
  show (Int32.ofInt e).toInt.toNat = e.toNat
  rw [ivI (by omega)]
theorem iv_nn {e : Int} (h : 0 ≤ e ∧ e ≤ 2147483647) : ¬ Int32.ofInt e < 0 := by
  intro q
  have q : Int32.ofInt e < Int32.ofInt 0 := q
  rw [iv_lt (by omega) (by omega)] at q; omega
section MJ
variable {g : sG} {M : sM} {R : Room} {Z : sZT} {pc : Nat} {lv : List (Nat × Value)} {st : List Value} {hp : sHp} {w : mW} {μ : mM} {ce sl : Nat}
theorem mr_min {index : Nat} {x y : Int} (hd : decode M.2.1 pc = .ok (.invokestatic index, 3)) (hlk : Cond.methodLink M.1.cls index yJ_min ∈ sg_ws g) (hs : Cond.static yJ_min ∈ sg_ws g) (hi : Cond.initialized "java/lang/Math" ∈ sg_ws g) (hk : Cond.code yJ_min cJ_min 2 (some .int) ∈ sg_ws g) (hR : 1 ≤ R.frames ∧ 21 ≤ R.locals) (hc : ce ≤ R.cells ∧ sl ≤ R.slots) (hr8 : (st.map fun v => v.category).sum ≤ 8) (hx : -2147483648 ≤ x ∧ x ≤ 2147483647) (hy : -2147483648 ≤ y ∧ y ≤ 2147483647)
    (kk : ∀ z, ((z = x ∨ z = y) ∧ z ≤ x ∧ z ≤ y) → sV g M R Z (pc + 3) lv (iv z :: st) hp ce sl) : sV g M R Z pc lv (iv y :: iv x :: st) hp ce sl := by
  refine sv_min hd hlk hs hi hk hR hc hr8 rfl ?_
  have h1 := iv_lt hy hx
  by_cases q : y < x
  · rw [if_pos (h1.mpr q)]; exact kk y ⟨Or.inr rfl, by omega, by omega⟩
  · rw [if_neg (fun z => q (h1.mp z))]; exact kk x ⟨Or.inl rfl, by omega, by omega⟩
theorem mr_max {index : Nat} {x y : Int} (hd : decode M.2.1 pc = .ok (.invokestatic index, 3)) (hlk : Cond.methodLink M.1.cls index yJ_max ∈ sg_ws g) (hs : Cond.static yJ_max ∈ sg_ws g) (hi : Cond.initialized "java/lang/Math" ∈ sg_ws g) (hk : Cond.code yJ_max cJ_max 2 (some .int) ∈ sg_ws g) (hR : 1 ≤ R.frames ∧ 21 ≤ R.locals) (hc : ce ≤ R.cells ∧ sl ≤ R.slots) (hr8 : (st.map fun v => v.category).sum ≤ 8) (hx : -2147483648 ≤ x ∧ x ≤ 2147483647) (hy : -2147483648 ≤ y ∧ y ≤ 2147483647)
    (kk : ∀ z, ((z = x ∨ z = y) ∧ x ≤ z ∧ y ≤ z) → sV g M R Z (pc + 3) lv (iv z :: st) hp ce sl) : sV g M R Z pc lv (iv y :: iv x :: st) hp ce sl := by
  refine sv_max hd hlk hs hi hk hR hc hr8 rfl ?_
  have h1 := iv_lt hx hy
  by_cases q : x < y
  · rw [if_pos (h1.mpr q)]; exact kk y ⟨Or.inr rfl, by omega, by omega⟩
  · rw [if_neg (fun z => q (h1.mp z))]; exact kk x ⟨Or.inl rfl, by omega, by omega⟩
/-- memory behind a copy of n elements -/
def mCp (μ : mM) (a0 a sp dp n : Nat) : mM := fun b j => if b = a then (if dp ≤ j ∧ j < dp + n then μ a0 (sp + (j - dp)) else μ a j) else μ b j
def mQ (μ : mM) (a0 a : Nat) (sp dp n : Int) (μ1 : mM) : Prop := (∀ b j, b ≠ a → μ1 b j = μ b j) ∧ ∀ j : Nat, μ1 a j = if dp ≤ (j : Int) ∧ (j : Int) < dp + n then μ a0 (sp.toNat + (j - dp.toNat)) else μ a j
theorem mr_ac {index a0 a s0 s1 : Nat} {cA : ClassId} {sp dp n : Int} (hd : decode M.2.1 pc = .ok (.invokestatic index, 3)) (hlk : Cond.methodLink M.1.cls index arraycopyName ∈ sg_ws g) (hw1 : Cond.native arraycopyName ∈ sg_ws g) (hw2 : Cond.static arraycopyName ∈ sg_ws g) (hw3 : Cond.initialized "java/lang/System" ∈ sg_ws g) (ht : g.2.2.1[0]? = some (cA, .int)) (hA0 : mAt w a0 s0) (hs0 : mTab s0 = .inr (0, 0)) (hA : mAt w a s1) (hs1 : mTab s1 = .inr (0, 0)) (h1 : 0 ≤ sp) (h2 : 0 ≤ dp) (h3 : 0 ≤ n) (h4 : sp + n ≤ (w.2.2.1 a0 : Int)) (h5 : dp + n ≤ (w.2.2.1 a : Int)) (hb0 : w.2.2.1 a0 ≤ 2147483647) (hb : w.2.2.1 a ≤ 2147483647) (hfr : 1 ≤ R.frames) (hlo : nativeFrameWords "java/lang/System" "arraycopy" 5 + 19 ≤ R.locals) (hr8 : (st.map fun v => v.category).sum ≤ 8) (hT : mT w μ) (hty : ∀ i j : Nat, dp ≤ (j : Int) → (j : Int) < dp + n → tyP w a j (mTy s1 j) (μ a0 i))
    (kk : ∀ μ1, mQ μ a0 a sp dp n μ1 → mT w μ1 → sV g M R Z (pc + 3) lv st (mk w μ1) ce sl) : sV g M R Z pc lv (iv n :: iv dp :: .ref a :: iv sp :: .ref a0 :: st) (mk w μ) ce sl := by
  have e1 := iv_natE (e := sp) ⟨h1, by omega⟩
  have e2 := iv_natE (e := dp) ⟨h2, by omega⟩
  have e3 := iv_natE (e := n) ⟨h3, by omega⟩
  refine sv_copyI (hf := (mk w μ).2) (hn := (mk w μ).1) (q := fun i => Int32.ofInt (μ a0 i)) (q' := fun i => Int32.ofInt (μ a i)) hd hlk hw1 hw2 hw3 ht hA0.2.1 hA.2.1 (mk_arr hA0 hs0) (mk_arr hA hs1) (iv_nn ⟨h1, by omega⟩) (iv_nn ⟨h2, by omega⟩) (iv_nn ⟨h3, by omega⟩) (by rw [e1, e3]; omega) (by rw [e2, e3]; omega) hfr hlo hr8 ?_
  rw [e1, e2, e3]
  refine sv_heap (hp' := mk w (mCp μ a0 a sp.toNat dp.toNat n.toNat)) rfl (fun j _ => ?_) (kk _ ⟨fun b j hb => if_neg hb, fun j => ?_⟩ ?_)
  · show sUp (mk w μ).2 a _ j = (mk w (mCp μ a0 a sp.toNat dp.toNat n.toNat)).2 j
    by_cases h : j = a
    · subst h
      rw [sUp_at, mk_arr hA hs1]
      congr 3
      funext i
      simp only [sI, va_cpy, mv, iv, mCp, if_true]
      split <;> rfl
    · rw [sUp_ne _ _ h]
      have : mCp μ a0 a sp.toNat dp.toNat n.toNat j = μ j := by funext i; simp only [mCp, if_neg h]
      simp only [mk, this]
  · simp only [mCp, if_true]
    by_cases q : dp ≤ (j : Int) ∧ (j : Int) < dp + n
    · rw [if_pos q, if_pos (by omega)]
    · rw [if_neg q, if_neg (by omega)]
  · intro b t hB i
    by_cases h : b = a
    · subst h
      have hst : t = s1 := hB.1.symm.trans hA.1
      subst hst
      simp only [mCp, if_true]
      split
      next q => exact hty _ i (by omega) (by omega)
      next q => exact hT b t hB i
    · have : mCp μ a0 a sp.toNat dp.toNat n.toNat b i = μ b i := by simp only [mCp, if_neg h]
      rw [this]; exact hT b t hB i
/-- memory behind a fill -/
def mFl (μ : mM) (a n : Nat) (z : Int) : mM := fun b j => if b = a ∧ j < n then z else μ b j
theorem mT.fill {a s n : Nat} {z : Int} (hT : mT w μ) (hA : mAt w a s) (hz : ∀ j, tyP w a j (mTy s j) z) : mT w (mFl μ a n z) := by
  intro b t hB i
  by_cases h : b = a ∧ i < n
  · simp only [mFl, if_pos h]
    obtain ⟨rfl, -⟩ := h
    have hst : t = s := hB.1.symm.trans hA.1
    subst hst
    exact hz i
  · simp only [mFl, if_neg h]; exact hT b t hB i
def mQF (μ : mM) (a n : Nat) (z : Int) (μ1 : mM) : Prop := (∀ b j, b ≠ a → μ1 b j = μ b j) ∧ ∀ j : Nat, j < n → μ1 a j = z
theorem mr_heapF {a s kd n : Nat} {z : Int} {v : Value} (hA : mAt w a s) (hs : mTab s = .inr (kd, 0)) (hn : w.2.2.1 a = n) (hv : v = iv z) (k : sV g M R Z pc lv st (mk w (mFl μ a n z)) ce sl) : sV g M R Z pc lv st ((mk w μ).1, sUp (mk w μ).2 a (.inl (kd, n, sFill n v (fun i => mv 0 (μ a i))))) ce sl := by
  subst hv
  refine sv_heap (hp' := mk w (mFl μ a n z)) rfl (fun j _ => ?_) k
  show sUp (mk w μ).2 a _ j = (mk w (mFl μ a n z)).2 j
  by_cases h : j = a
  · subst h
    rw [sUp_at, mk_arr hA hs, hn]
    congr 3
    funext i
    simp only [sFill, mv, mFl, true_and]
    split <;> rfl
  · rw [sUp_ne _ _ h]
    have : mFl μ a n z j = μ j := by funext i; simp only [mFl, h, false_and, if_false]
    simp only [mk, this]
end MJ
section MJ2
variable {l : Launch} {D : va_G} {c : Nat → ClassId} {H0 : Heap} {sa : Nat × Nat × (Nat → Int32)} {M : sM} {R : Room} {Z : sZT} {pc : Nat} {lv : List (Nat × Value)} {st : List Value} {w : mW} {μ : mM} {ce sl : Nat}
theorem mr_fillI {index a s n : Nat} {z : Int} (hd : decode M.2.1 pc = .ok (.invokestatic index, 3)) (hlk : Cond.methodLink M.1.cls index yJ_fillI ∈ lw_ok) (hA : mAt w a s) (hs : mTab s = .inr (0, 0)) (hn : w.2.2.1 a = n) (hn2 : n < 2 ^ 31) (hT : mT w μ) (hz : ∀ j, tyP w a j (mTy s j) z) (hR : 1 ≤ R.frames ∧ 60 * 0 + 4 + 19 ≤ R.locals) (hce : ce ≤ R.cells ∧ sl ≤ R.slots) (hr8 : (st.map fun v => v.category).sum ≤ 8)
    (kk : ∀ μ1, mQF μ a n z μ1 → mT w μ1 → sV (gG l D c H0 sa) M R Z (pc + 3) lv st (mk w μ1) ce sl) : sV (gG l D c H0 sa) M R Z pc lv (iv z :: .ref a :: st) (mk w μ) ce sl := by
  refine sv_callS (c_fillI l D c H0 sa (d := 0) (f := fun i => mv 0 (μ a i)) hA.2.1 (by rw [mk_arr hA hs, hn]) hn2) (gOk _ _ _ _ _) hd (tJ_fillI _ _ _ _ _) wS_J_fillI hlk hR hce rfl hr8 ?_
  rintro r hp' ⟨rfl, rfl⟩
  exact mr_heapF hA hs hn rfl (kk _ ⟨fun b j hb => if_neg (fun q => hb q.1), fun j hj => if_pos ⟨rfl, hj⟩⟩ (hT.fill hA hz))
theorem mr_fillB {index a s n : Nat} {z : Int} (hd : decode M.2.1 pc = .ok (.invokestatic index, 3)) (hlk : Cond.methodLink M.1.cls index yJ_fillB ∈ lw_ok) (hA : mAt w a s) (hs : mTab s = .inr (2, 0)) (hn : w.2.2.1 a = n) (hn2 : n < 2 ^ 31) (hT : mT w μ) (hb : -128 ≤ z ∧ z ≤ 127) (hz : ∀ j, tyP w a j (mTy s j) z) (hR : 1 ≤ R.frames ∧ 60 * 0 + 4 + 19 ≤ R.locals) (hce : ce ≤ R.cells ∧ sl ≤ R.slots) (hr8 : (st.map fun v => v.category).sum ≤ 8)
    (kk : ∀ μ1, mQF μ a n z μ1 → mT w μ1 → sV (gG l D c H0 sa) M R Z (pc + 3) lv st (mk w μ1) ce sl) : sV (gG l D c H0 sa) M R Z pc lv (iv z :: .ref a :: st) (mk w μ) ce sl := by
  refine sv_callS (c_fillB l D c H0 sa (d := 0) (f := fun i => mv 0 (μ a i)) hA.2.1 (by rw [mk_arr hA hs, hn]) hn2) (gOk _ _ _ _ _) hd (tJ_fillB _ _ _ _ _) wS_J_fillB hlk hR hce rfl hr8 ?_
  rintro r hp' ⟨rfl, rfl⟩
  exact mr_heapF hA hs hn (by rw [narB hb]; rfl) (kk _ ⟨fun b j hb => if_neg (fun q => hb q.1), fun j hj => if_pos ⟨rfl, hj⟩⟩ (hT.fill hA hz))
end MJ2
end
section
/-! A rule's figures: no figure twice, so six at most. -/
def pc7 (s : Int) : Int := s / 2 % 2 + s / 4 % 2 + s / 8 % 2 + s / 16 % 2 + s / 32 % 2 + s / 64 % 2
def sOK (s n : Int) : Prop := 0 ≤ s ∧ s ≤ 126 ∧ s % 2 = 0 ∧ pc7 s = n
theorem sOK.le {s n : Int} (h : sOK s n) : 0 ≤ n ∧ n ≤ 6 := by
  obtain ⟨h1, h2, h3, h4⟩ := h
  simp only [pc7] at h4
  omega
theorem sOK_fin : ∀ (s : Fin 127) (f : Fin 7), f.val ≠ 0 → s.val % 2 = 0 → bAnd (bShr ((s.val : Nat) : Int) ((f.val : Nat) : Int)) 1 ≠ 1 → (0 ≤ bOr ((s.val : Nat) : Int) (bShl 1 ((f.val : Nat) : Int)) ∧ bOr ((s.val : Nat) : Int) (bShl 1 ((f.val : Nat) : Int)) ≤ 126 ∧ bOr ((s.val : Nat) : Int) (bShl 1 ((f.val : Nat) : Int)) % 2 = 0 ∧ pc7 (bOr ((s.val : Nat) : Int) (bShl 1 ((f.val : Nat) : Int))) = pc7 ((s.val : Nat) : Int) + 1) := by decide +kernel
theorem sOK.add {s n f a b c d : Int} (h : sOK s n) (hf : 1 ≤ f ∧ f ≤ 6) (q1 : bShr s f = a) (q2 : bAnd a 1 = b) (hb : ¬ b = 1) (q3 : bShl 1 f = c) (q4 : bOr s c = d) : sOK d (n + 1) := by
  subst q1; subst q2; subst q3; subst q4
  obtain ⟨h1, h2, h3, h4⟩ := h
  have hs : ((s.toNat : Nat) : Int) = s := Int.toNat_of_nonneg h1
  have hf' : ((f.toNat : Nat) : Int) = f := Int.toNat_of_nonneg (by omega)
  have := sOK_fin ⟨s.toNat, by omega⟩ ⟨f.toNat, by omega⟩ (by show f.toNat ≠ 0; omega) (by show s.toNat % 2 = 0; omega)
  simp only [hs, hf'] at this
  obtain ⟨k1, k2, k3, k4⟩ := this hb
  exact ⟨k1, k2, k3, by rw [k4, h4]⟩
theorem sOK.zero : sOK 0 0 := ⟨by decide, by decide, by decide, by decide⟩
theorem bAnd1 {a b : Int} (q : bAnd a 1 = b) (h : b = 0) : ¬ b = 1 := by omega
def rOK (p l s : Int) : Prop := ∃ k : Nat, sOK s (k : Int) ∧ l * 10 ^ k ≤ p ∧ p < (l + 1) * 10 ^ k
theorem rOK.init {p : Int} : rOK p p 0 := ⟨0, sOK.zero, by simp, by simp; omega⟩
theorem rOK.step {p l s d m : Int} (h : rOK p l s) (ha : ∀ n, sOK s n → sOK d (n + 1)) (q : l / 10 = m) : rOK p m d := by
  obtain ⟨k, h1, h2, h3⟩ := h
  have ht : (0 : Int) < 10 ^ k := Int.pow_pos (by decide)
  refine ⟨k + 1, by have := ha _ h1; simpa using this, ?_, ?_⟩
  · rw [Int.pow_succ]
    have e : m * 10 ≤ l := by omega
    have := Int.mul_le_mul_of_nonneg_right e (Int.le_of_lt ht)
    have e2 : m * (10 ^ k * 10) = m * 10 * 10 ^ k := by rw [Int.mul_comm (10 ^ k) 10, Int.mul_assoc]
    omega
  · rw [Int.pow_succ]
    have e : l + 1 ≤ (m + 1) * 10 := by omega
    have := Int.mul_le_mul_of_nonneg_right e (Int.le_of_lt ht)
    have e2 : (m + 1) * (10 ^ k * 10) = (m + 1) * 10 * 10 ^ k := by rw [Int.mul_comm (10 ^ k) 10, Int.mul_assoc]
    omega
theorem rOK.done {p l s : Int} (h : rOK p l s) (hl : l ≤ 0) : p ≤ 999999 := by
  obtain ⟨k, h1, h2, h3⟩ := h
  have hk : k ≤ 6 := by have := h1.le; omega
  have ht : (0 : Int) < 10 ^ k := Int.pow_pos (by decide)
  have e : l + 1 ≤ 1 := by omega
  have := Int.mul_le_mul_of_nonneg_right e (Int.le_of_lt ht)
  have h6 : ∀ k : Nat, k < 7 → (10 : Int) ^ k ≤ 1000000 := by decide
  have := h6 k (by omega)
  omega
end
section
/-! Policies of the class as they must be kept: rows one behind another in their code. -/
def wfR (m : Nat → Int) (len : Nat) : Nat → Nat → Prop
  | at_, 0 => at_ ≤ len
  | at_, n + 1 => at_ + 1 < len ∧ 0 ≤ m at_ ∧ 0 ≤ m (at_ + 1) ∧ at_ + 2 + 5 * (m at_).toNat + 2 * (m (at_ + 1)).toNat ≤ len ∧ (∀ i, i < (m (at_ + 1)).toNat → 0 ≤ m (at_ + 2 + 5 * (m at_).toNat + 2 * i + 1) ∧ m (at_ + 2 + 5 * (m at_).toNat + 2 * i + 1) ≤ 1000000) ∧ wfR m len (at_ + 2 + 5 * (m at_).toNat + 2 * (m (at_ + 1)).toNat) n
/-- the policy at address b -/
def wfP (w : mW) (μ : mM) (b : Nat) : Prop := mAt w b 230 ∧ mAt w (μ b 1).toNat 231 ∧ wfR (μ (μ b 1).toNat) (w.2.2.1 (μ b 1).toNat) 0 (μ b 0).toNat ∧ w.2.2.1 (μ b 2).toNat = w.2.2.1 (μ b 3).toNat ∧ w.2.2.1 (μ b 4).toNat = w.2.2.1 (μ b 5).toNat
def PC (w : mW) (μ : mM) : Prop := ∀ p : Nat, (p : Int) < w.2.2.2 2 → wfP w μ (μ 22 p).toNat
def pcFree (l : List Nat) : Bool := !(l.elem 22999) && (!(l.elem 230000) && (!(l.elem 230001) && (!(l.elem 230002) && (!(l.elem 230003) && (!(l.elem 230004) && (!(l.elem 230005) && !(l.elem 231999)))))))
theorem PC.keep {l : List Nat} {w : mW} {μ μ1 : mM} (h : PC w μ) (hw : mWF w) (hF : mF l w μ μ1) (hl : pcFree l = true) : PC w μ1 := by
  simp only [pcFree, Bool.and_eq_true, Bool.not_eq_true'] at hl
  obtain ⟨l1, l2, l3, l4, l5, l6, l7, l8⟩ := hl
  intro p hp
  have e22 : μ1 22 p = μ 22 p := hF.f (A_22 hw) l1 rfl
  rw [e22]
  obtain ⟨hA, hA1, h1, h2, h3⟩ := h p hp
  have f0 : μ1 (μ 22 p).toNat 0 = μ (μ 22 p).toNat 0 := hF.f hA l2 rfl
  have f1 : μ1 (μ 22 p).toNat 1 = μ (μ 22 p).toNat 1 := hF.f hA l3 rfl
  have f2 : μ1 (μ 22 p).toNat 2 = μ (μ 22 p).toNat 2 := hF.f hA l4 rfl
  have f3 : μ1 (μ 22 p).toNat 3 = μ (μ 22 p).toNat 3 := hF.f hA l5 rfl
  have f4 : μ1 (μ 22 p).toNat 4 = μ (μ 22 p).toNat 4 := hF.f hA l6 rfl
  have f5 : μ1 (μ 22 p).toNat 5 = μ (μ 22 p).toNat 5 := hF.f hA l7 rfl
  have fc : μ1 (μ (μ 22 p).toNat 1).toNat = μ (μ (μ 22 p).toNat 1).toNat := funext fun i => hF.f hA1 l8 rfl
  refine ⟨hA, by rw [f1]; exact hA1, by rw [f0, f1, fc]; exact h1, by rw [f2, f3]; exact h2, by rw [f4, f5]; exact h3⟩
def OC (μ : mM) : Prop := 0 ≤ μ 76 4
theorem OC.keep {l : List Nat} {w : mW} {μ μ1 : mM} (h : OC μ) (hw : mWF w) (hF : mF l w μ μ1) (hl : l.elem 76004 = false) : OC μ1 := by
  have e : μ1 76 4 = μ 76 4 := hF.f (A_76 hw) hl rfl
  simp only [OC, e]; exact h
def RT (μ : mM) : Prop := 0 ≤ μ 21 2
theorem RT.keep {l : List Nat} {w : mW} {μ μ1 : mM} (h : RT μ) (hw : mWF w) (hF : mF l w μ μ1) (hl : l.elem 21002 = false) : RT μ1 := by
  have e : μ1 21 2 = μ 21 2 := hF.f (A_21 hw) hl rfl
  simp only [RT, e]; exact h
end
section
/-! Rows of changing length; a policy's rows read. -/
theorem lnR {w : mW} {b s m : Nat} {n : Int} (h : (w.2.2.1 b : Int) = n) (hA : mAt w b s) (hm : Nat.ble (mLen s) m = true) : 0 ≤ n ∧ n ≤ (m : Int) := by
  have h1 := hA.2.2.1
  have h2 := le_t hm
  omega
theorem lnC {e n : Int} {m : Nat} (h : (m : Int) = n) (p : 0 ≤ e ∧ e < n) : 0 ≤ e ∧ e < (m : Int) := by rw [h]; exact p
theorem lnE {w : mW} {μ : mM} {a k b : Nat} {e : Int} (q : μ a k = (b : Int)) (h : e < (w.2.2.1 (μ a k).toNat : Int)) : e < (w.2.2.1 b : Int) := by
  rw [q] at h; exact h
section MV8
variable {g : sG} {M : sM} {R : Room} {Z : sZT} {pc : Nat} {lv : List (Nat × Value)} {st : List Value} {w : mW} {μ : mM} {ce sl : Nat}
theorem mr_alen {a s kd k : Nat} {cA : ClassId} {ty : FieldType} {z : Int} (hd : decode M.2.1 pc = .ok (.arraylength, 1)) (ht : g.2.2.1[kd]? = some (cA, ty)) (hA : mAt w a s) (hs : mTab s = .inr (kd, k)) (q : (w.2.2.1 a : Int) = z) (kt : sV g M R Z (pc + 1) lv (iv z :: st) (mk w μ) ce sl) : sV g M R Z pc lv (.ref a :: st) (mk w μ) ce sl :=
  sv_arraylength hd ht hA.2.1 (mk_arr hA hs) (v := Int32.ofInt z) (by rw [← q]; rfl) kt
end MV8
theorem PC.read {w : mW} {μ : mM} {b : Nat} {p : Int} (h : PC w μ) (hT : mT w μ) (hB : mAt w b 230) (h0 : 0 ≤ p) (hp : p < w.2.2.2 2) (q : μ 22 p.toNat = (b : Int)) : ∃ (c : Nat) (r : Int), μ b 1 = (c : Int) ∧ mAt w c 231 ∧ μ b 0 = r ∧ wfR (μ c) (w.2.2.1 c) (0 : Int).toNat (r - 0).toNat ∧ w.2.2.1 (μ b 2).toNat = w.2.2.1 (μ b 3).toNat ∧ w.2.2.1 (μ b 4).toNat = w.2.2.1 (μ b 5).toNat := by
  have hh := h p.toNat (by rw [Int.toNat_of_nonneg h0]; exact hp)
  rw [q] at hh
  have e : ((b : Int)).toNat = b := rfl
  have hb : μ b 1 = ((μ b 1).toNat : Int) := (Int.toNat_of_nonneg (hT b 230 hB 1).1).symm
  rw [e] at hh
  obtain ⟨hA, hA1, h1, h2, h3⟩ := hh
  exact ⟨(μ b 1).toNat, μ b 0, hb, hA1, rfl, by rw [Int.sub_zero]; exact h1, h2, h3⟩
theorem wfR.hd {m : Nat → Int} {len : Nat} {a r row : Int} (h : wfR m len a.toNat (r - row).toNat) (h0 : 0 ≤ a) (hr : row < r) : a + 1 < (len : Int) := by
  obtain ⟨k, hk⟩ : ∃ k, (r - row).toNat = k + 1 := ⟨(r - row).toNat - 1, by omega⟩
  rw [hk] at h
  have h1 : a.toNat + 1 < len := h.1
  omega
theorem wfR.bd {m : Nat → Int} {len : Nat} {a r row t k : Int} (h : wfR m len a.toNat (r - row).toNat) (h0 : 0 ≤ a) (hr : row < r) (q : m a.toNat = t) (q' : m (a + 1).toNat = k) : (0 ≤ t ∧ 0 ≤ k ∧ a + 2 + 5 * t + 2 * k ≤ (len : Int)) ∧ (∀ i : Int, 0 ≤ i → i < k → 0 ≤ m (a + 2 + 5 * t + 2 * i + 1).toNat ∧ m (a + 2 + 5 * t + 2 * i + 1).toNat ≤ 1000000) ∧ wfR m len (a + 2 + 5 * t + 2 * k).toNat (r - (row + 1)).toNat := by
  obtain ⟨n, hn⟩ : ∃ n, (r - row).toNat = n + 1 := ⟨(r - row).toNat - 1, by omega⟩
  rw [hn] at h
  have e1 : (a + 1).toNat = a.toNat + 1 := by omega
  rw [e1] at q'
  obtain ⟨h1, h2, h3, h4, h5, h6⟩ := h
  rw [q, q'] at h4 h5 h6
  rw [q] at h2
  rw [q'] at h3
  refine ⟨⟨h2, h3, by omega⟩, fun i hi hk => ?_, ?_⟩
  · have := h5 i.toNat (by omega)
    have e : (a + 2 + 5 * t + 2 * i + 1).toNat = a.toNat + 2 + 5 * t.toNat + 2 * i.toNat + 1 := by omega
    rw [e]; exact this
  · have e : (a + 2 + 5 * t + 2 * k).toNat = a.toNat + 2 + 5 * t.toNat + 2 * k.toNat := by omega
    have e2 : (r - (row + 1)).toNat = n := by omega
    rw [e, e2]; exact h6
end
section
/-! Rows of changing length: more. -/
theorem lnQ {w : mW} {μ : mM} {a k1 k2 b1 b2 : Nat} {n1 n2 : Int} (q1 : μ a k1 = (b1 : Int)) (q2 : μ a k2 = (b2 : Int)) (h : w.2.2.1 (μ a k1).toNat = w.2.2.1 (μ a k2).toNat) (h1 : (w.2.2.1 b1 : Int) = n1) (h2 : (w.2.2.1 b2 : Int) = n2) : n2 = n1 := by
  rw [q1, q2] at h
  have h : w.2.2.1 b1 = w.2.2.1 b2 := h
  omega
theorem lnF {w : mW} {μ : mM} {a k c : Nat} {e n : Int} (q : μ a k = (c : Int)) (h : (w.2.2.1 c : Int) = n) (p : e < n) : e < (w.2.2.1 (μ a k).toNat : Int) := by
  rw [q]
  show e < (w.2.2.1 c : Int)
  omega
theorem lnL {w : mW} {c : Nat} {e n : Int} (h : (w.2.2.1 c : Int) = n) (p : e ≤ n) : e ≤ (w.2.2.1 c : Int) := by omega
theorem lnLt {w : mW} {c : Nat} {e n : Int} (h : (w.2.2.1 c : Int) = n) (p : e < (w.2.2.1 c : Int)) : e < n := by omega
theorem lnLe {w : mW} {c : Nat} {e n : Int} (h : (w.2.2.1 c : Int) = n) (p : e ≤ (w.2.2.1 c : Int)) : e ≤ n := by omega
theorem argB {μ0 μ : mM} {c : Nat} {f k i e z : Int} (h : ∀ i : Int, 0 ≤ i → i < k → 0 ≤ μ0 c (f + 2 * i + 1).toNat ∧ μ0 c (f + 2 * i + 1).toNat ≤ 1000000) (h0 : 0 ≤ i) (h1 : i < k) (he : e = f + 2 * i + 1) (hm : μ c e.toNat = μ0 c e.toNat) (q : μ c e.toNat = z) : 0 ≤ z ∧ z ≤ 1000000 := by
  subst he
  have := h i h0 h1
  rw [← hm, q] at this; exact this
theorem argC {μ0 μ : mM} {c : Nat} {f k g : Int} (h : ∀ i : Int, 0 ≤ i → i < k → 0 ≤ μ0 c (g + 2 * i + 1).toNat ∧ μ0 c (g + 2 * i + 1).toNat ≤ 1000000) (he : f = g) (hm : μ c = μ0 c) : ∀ i : Int, 0 ≤ i → i < k → 0 ≤ μ c (f + 2 * i + 1).toNat ∧ μ c (f + 2 * i + 1).toNat ≤ 1000000 := by
  subst he
  rw [hm]; exact h
theorem wfR.cg {m : Nat → Int} {len n : Nat} {a b : Int} (h : wfR m len a.toNat n) (e : b = a) : wfR m len b.toNat n := by rw [e]; exact h
end
