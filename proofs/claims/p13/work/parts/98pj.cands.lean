set_option maxRecDepth 4000 in
set_option maxHeartbeats 4000000 in
theorem c_X12_candidates_u {l : Launch} {D : va_G} {c : Nat → ClassId} {H0 : Heap} {sa : Nat × Nat × (Nat → Int32)} {w : mW} {μ : mM} (hw : mWF w) (hT : mT w μ) {p1 : Int} (hp1 : 0 ≤ p1 ∧ p1 ≤ 9) {p2 : Int} (hp2 : 0 ≤ p2 ∧ p2 ≤ 9) (hIJC : JC l D c H0 sa μ) (hIRP : RP μ) (hIPK : PK μ) : sC (gG l D c H0 sa) mX12_candidates 8 0 0 [.ref 106, iv p1, iv p2] (mk w μ) (qV w [106026, 106027, 106028, 106029, 106030, 106031, 126999, 151999, 152999, 153999] μ (fun μ1 => mG [(160, 960)] μ μ1 ∧ JC l D c H0 sa μ1 ∧ RP μ1 ∧ CN l D c H0 sa μ1 p1 p2 (μ1 106 6) ∧ True)) := by
  refine sC.of rfl (by decide) (le_t rfl) ?_
  refine mr_lvE (lv' := [(0, .ref 106), (1, iv p1), (2, iv p2)]) rfl ?_
  refine mr_iconst (pc := 0) (z := 0) dX12_candidates_0 ?_
  refine mr_istore_n (pc := 1) (lv' := [(3, iv 0), (0, .ref 106), (1, iv p1), (2, iv p2)]) dX12_candidates_1 rfl (by decide) rfl ?_
  have L421 : ∀ (nL421 : Nat) (z419 : Int) (μ420 : mM), mT w μ420 → mF [106026, 106027, 106028, 106029, 106030, 106031, 126999, 151999, 152999, 153999] w μ μ420 → mG [(160, 960)] μ μ420 → (0 ≤ z419 ∧ z419 ≤ 20) → PK μ420 → JC l D c H0 sa μ420 → RP μ420 → CN l D c H0 sa μ420 p1 p2 z419 → (21 - z419) < (nL421 : Int) → sV (gG l D c H0 sa) mX12_candidates (sRm 8 0 0) (sZ (gG l D c H0 sa) 0 0 (qV w [106026, 106027, 106028, 106029, 106030, 106031, 126999, 151999, 152999, 153999] μ (fun μ1 => mG [(160, 960)] μ μ1 ∧ JC l D c H0 sa μ1 ∧ RP μ1 ∧ CN l D c H0 sa μ1 p1 p2 (μ1 106 6) ∧ True))) 2 [(0, .ref 106), (1, iv p1), (2, iv p2), (3, iv z419)] [] (mk w μ420) 0 0 := by
    intro nL421
    induction nL421 with
    | zero => intro z419 μ420 T423 F424 G425 h422 I426 IJ IR IC h427; exact ((vc_X12_candidates_1 h427 h422)).elim
    | succ nL421 ih428 =>
      intro z419 μ420 T423 F424 G425 h422 I426 IJ IR IC h427
      refine mr_iload_n (pc := 2) (z := z419) dX12_candidates_2 rfl rfl ?_
      refine sv_aload_n (pc := 3) dX12_candidates_3 rfl rfl ?_
      refine gf_X12_6 (pc := 4) dX12_candidates_4 wF_X12_37 (A_106 hw) T423 fun z429 q430 h431 => ?_
      refine mr_icmp_ge (pc := 7) (tgt := 43) dX12_candidates_7 (by decide) (r32 h422 rfl) (r32 h431 rfl) (fun h465 => ?_) (fun h465 => ?_)
      · exact mr_vret dX12_candidates_43 rfl (le_t rfl) (le_t rfl) T423 (mF.call mF.refl F424 rfl) ⟨(mG.call mG.refl G425 (List.forall_mem_cons.mpr ⟨⟨_, List.mem_cons_self, vc_X12_candidates_2⟩, (fun _ h => absurd h List.not_mem_nil)⟩)), IJ, IR, (by rw [q430]; exact fun t a b => IC t a (by omega)), trivial⟩
      have h466 : 0 ≤ z419 ∧ z419 ≤ 19 := (vc_X12_candidates_3 h465 h422 h431)
      have h467 : 1 ≤ z429 ∧ z429 ≤ 20 := (vc_X12_candidates_4 h465 h466 h431)
      refine sv_aload_n (pc := 10) dX12_candidates_10 rfl rfl ?_
      refine mr_iload_n (pc := 11) (z := z419) dX12_candidates_11 rfl rfl ?_
      refine mr_iload_n (pc := 12) (z := p1) dX12_candidates_12 rfl rfl ?_
      obtain ⟨z468, q469⟩ : ∃ z, μ420 110 ((2 * z419).toNat) = z := ⟨_, rfl⟩
      have h470 : (0 ≤ z468 ∧ z468 ≤ 9) := by rw [← q469]; exact T423 110 110 (A_110 hw) ((2 * z419).toNat)
      obtain ⟨z471, q472⟩ : ∃ z, μ420 110 (((2 * z419) + 1).toNat) = z := ⟨_, rfl⟩
      have h473 : (0 ≤ z471 ∧ z471 ≤ 9) := by rw [← q472]; exact T423 110 110 (A_110 hw) (((2 * z419) + 1).toNat)
      refine mr_cVP (pc := 13) (c_X12_isAt hw T423 h466 (rW (c := (-2147483648)) (d := 2147483647) hp1 rfl) q469 q472) (gOk _ _ _ _ _) dX12_candidates_13 (tX12_isAt _ _ _ _ _) ⟨wV_X12_isAt, wL_X12_isAt⟩ wM_X12_562 (gCX12 _ _ _ _ _) rfl (A_106 hw) rfl ⟨le_t rfl, le_t rfl⟩ ⟨le_t rfl, le_t rfl⟩ rfl (le_t rfl) fun z478 h477 => ?_
      refine mr_if_eq (pc := 16) (tgt := 30) dX12_candidates_16 (by decide) (r32 h477.1 rfl) (fun h499 => ?_) (fun h499 => ?_)
      · have h500 : 0 ≤ z478 ∧ z478 ≤ 0 := (vc_X12_candidates_5 h499 h477.2.1 h477.2.2.1 hp1 h470 h473 h477.1)
        have h501 : ¬ z468 = p1 ∧ ¬ z471 = p1 := (h477.2.2.1 (vc_X12_candidates_6 h477.2.1 h477.2.2.1 h499 hp1 h470 h473 h500))
        refine sv_aload_n (pc := 30) dX12_candidates_30 rfl rfl ?_
        refine mr_iconst (pc := 31) (z := 4) dX12_candidates_31 ?_
        refine mr_iload_n (pc := 32) (z := z419) dX12_candidates_32 rfl rfl ?_
        refine mr_iadd (pc := 33) (x := 4) (y := z419) dX12_candidates_33 ?_
        refine mr_cVV (pc := 34) (c_X12_nothing hw T423 (rW (c := 0) (d := 2099) (rAdd (e := 4) (f := 23) (rR (x := 4)) h466 rfl) rfl)) (gOk _ _ _ _ _) dX12_candidates_34 (tX12_nothing _ _ _ _ _) ⟨wV_X12_nothing, wL_X12_nothing⟩ wM_X12_539 (gCX12 _ _ _ _ _) rfl (A_106 hw) rfl ⟨le_t rfl, le_t rfl⟩ ⟨le_t rfl, le_t rfl⟩ rfl (le_t rfl) fun μ502 T503 F504 h505 => ?_
        obtain ⟨z506, q507, h508⟩ := h505
        have h509 := rt7 T503 (A_126 hw) (vc_X12_candidates_7 h465 h466 h467) q507
        have h510 : (-1) ≤ z506 ∧ z506 ≤ 9 := h509.2.1 (vc_X12_candidates_8 h465 h466 h467)
        have q511 : μ502 126 ((40 * (4 + z419)).toNat) = (-1) := q507.trans h508.2.1
        have h512 : (-1) ≤ z506 ∧ z506 ≤ (-1) := (vc_X12_candidates_9 h508.2.1 h510)
        refine mr_iinc (pc := 37) (lv' := [(3, iv (z419 + 1)), (0, .ref 106), (1, iv p1), (2, iv p2)]) dX12_candidates_37 rfl (by decide) rfl ?_
        refine sv_goto (pc := 40) (tgt := 2) dX12_candidates_40 (by decide) ?_
        refine mr_lvS (lv' := [(0, .ref 106), (1, iv p1), (2, iv p2), (3, iv (z419 + 1))]) (List.forall_mem_cons.mpr ⟨rfl, List.forall_mem_cons.mpr ⟨rfl, List.forall_mem_cons.mpr ⟨rfl, List.forall_mem_cons.mpr ⟨rfl, fun _ h => absurd h List.not_mem_nil⟩⟩⟩⟩) ?_
        exact ih428 (z419 + 1) μ502 T503 (mF.call (mF.call mF.refl F424 rfl) F504 rfl) (mG.call (mG.call mG.refl G425 (List.forall_mem_cons.mpr ⟨⟨_, List.mem_cons_self, vc_X12_candidates_2⟩, (fun _ h => absurd h List.not_mem_nil)⟩)) h508.1 (List.forall_mem_cons.mpr ⟨⟨_, List.mem_cons_self, (vc_X12_candidates_11 h465 h466 h467)⟩, (fun _ h => absurd h List.not_mem_nil)⟩)) (rW (c := 0) (d := 20) (rAdd (e := 1) (f := 20) h466 (rR (x := 1)) rfl) rfl) (PK.keep I426 hw ((mF.call mF.refl F504 rfl) : mF [126999] w μ420 μ502) rfl) (JC.keep IJ hw F504 rfl rfl) (RP.row IR hw F504 rfl (by omega) h508.1 (by omega) q511 (by have h2 : 0 ≤ μ420 106 2 := (T423 106 106 (A_106 hw) 2).1; exact ⟨fun _ => by decide, fun _ => by omega⟩)) (CN.step IC h466 hp2 hw ((mF.call mF.refl F504 rfl) : mF [106026, 106027, 106028, 106029, 106030, 106031, 126999, 151999, 152999, 153999] w μ420 μ502) h508.1 (List.forall_mem_cons.mpr ⟨⟨Int.le_refl _, show 40 * (4 + z419) + 1 ≤ 40 * (4 + z419) + 40 by omega⟩, fun _ h => absurd h List.not_mem_nil⟩) (fun q _ => by rw [F504.arr (a := 110) hw rfl (by omega), F504.arr (a := 110) hw rfl (by omega), q469, q472] at q; exact absurd q (by omega))) (vc_X12_candidates_10 (nS h427) h465 h466 h467)
      have h513 : 1 ≤ z478 ∧ z478 ≤ 1 := (vc_X12_candidates_12 h499 h477.2.1 h477.2.2.1 hp1 h470 h473 h477.1)
      have h514 : z468 = p1 ∨ z471 = p1 := (h477.2.1 (vc_X12_candidates_13 h477.2.1 h477.2.2.1 h499 hp1 h470 h473 h513))
      refine sv_aload_n (pc := 19) dX12_candidates_19 rfl rfl ?_
      refine mr_iload_n (pc := 20) (z := p1) dX12_candidates_20 rfl rfl ?_
      refine mr_iload_n (pc := 21) (z := z419) dX12_candidates_21 rfl rfl ?_
      refine mr_iload_n (pc := 22) (z := p2) dX12_candidates_22 rfl rfl ?_
      refine mr_cVI (pc := 23) (c_X12_candidate_u hw T423 hp1 h466 hp2 q469 q472 q430 (vc_X12_candidates_14 h465 h466 h467) (vc_X12_candidates_15 h477.2.1 h477.2.2.1 h514 h499 hp1 h470 h473 h513) IJ IR I426) (gOk _ _ _ _ _) dX12_candidates_23 (tX12_candidate _ _ _ _ _) ⟨wV_X12_candidate, wL_X12_candidate⟩ wM_X12_565 (gCX12 _ _ _ _ _) rfl (A_106 hw) rfl ⟨le_t rfl, le_t rfl⟩ ⟨le_t rfl, le_t rfl⟩ rfl (le_t rfl) fun z519 μ515 T516 F517 h518 => ?_
      refine sv_pop (pc := 26) dX12_candidates_26 rfl ?_
      refine sv_goto (pc := 27) (tgt := 37) dX12_candidates_27 (by decide) ?_
      refine mr_iinc (pc := 37) (lv' := [(3, iv (z419 + 1)), (0, .ref 106), (1, iv p1), (2, iv p2)]) dX12_candidates_37 rfl (by decide) rfl ?_
      refine sv_goto (pc := 40) (tgt := 2) dX12_candidates_40 (by decide) ?_
      refine mr_lvS (lv' := [(0, .ref 106), (1, iv p1), (2, iv p2), (3, iv (z419 + 1))]) (List.forall_mem_cons.mpr ⟨rfl, List.forall_mem_cons.mpr ⟨rfl, List.forall_mem_cons.mpr ⟨rfl, List.forall_mem_cons.mpr ⟨rfl, fun _ h => absurd h List.not_mem_nil⟩⟩⟩⟩) ?_
      exact ih428 (z419 + 1) μ515 T516 (mF.call (mF.call mF.refl F424 rfl) F517 rfl) (mG.call (mG.call mG.refl G425 (List.forall_mem_cons.mpr ⟨⟨_, List.mem_cons_self, vc_X12_candidates_2⟩, (fun _ h => absurd h List.not_mem_nil)⟩)) h518.2.1 (List.forall_mem_cons.mpr ⟨⟨_, List.mem_cons_self, (vc_X12_candidates_16 h465 h466 h467)⟩, (fun _ h => absurd h List.not_mem_nil)⟩)) (rW (c := 0) (d := 20) (rAdd (e := 1) (f := 20) h466 (rR (x := 1)) rfl) rfl) (PK.keep I426 hw ((mF.call mF.refl F517 rfl) : mF [106026, 106027, 106028, 106029, 106030, 106031, 126999, 151999, 152999, 153999] w μ420 μ515) rfl) h518.2.2.1 h518.2.2.2.1 (CN.step IC h466 hp2 hw F517 h518.2.1 (List.forall_mem_cons.mpr ⟨⟨show 40 * (4 + z419) ≤ (40 * z419) + 160 by omega, show (40 * z419) + 200 ≤ 40 * (4 + z419) + 40 by omega⟩, fun _ h => absurd h List.not_mem_nil⟩) (fun _ q => h518.2.2.2.2.1 q)) (vc_X12_candidates_10 (nS h427) h465 h466 h467)
  refine mr_lvS (lv' := [(0, .ref 106), (1, iv p1), (2, iv p2), (3, iv 0)]) (List.forall_mem_cons.mpr ⟨rfl, List.forall_mem_cons.mpr ⟨rfl, List.forall_mem_cons.mpr ⟨rfl, List.forall_mem_cons.mpr ⟨rfl, fun _ h => absurd h List.not_mem_nil⟩⟩⟩⟩) ?_
  exact L421 22 0 μ hT mF.refl mG.refl (rW (c := 0) (d := 20) (rR (x := 0)) rfl) hIPK hIJC hIRP CN.zero vc_X12_candidates_17
