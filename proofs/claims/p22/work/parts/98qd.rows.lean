section
theorem vc_X12_until_u_1 {p1 z1 : Int} (h0 : p1 < z1) (h1 : (-2147483648) ≤ p1 ∧ p1 ≤ 2147483647) (h2 : 0 ≤ z1 ∧ z1 ≤ 2000000000) : (-2147483648) ≤ p1 ∧ p1 ≤ 1999999999 := by omega
theorem vc_X12_until_u_2 {p1 z1 : Int} (h0 : z1 ≤ p1) (h1 : (-2147483648) ≤ p1 ∧ p1 ≤ 2147483647) (h2 : 0 ≤ z1 ∧ z1 ≤ 2000000000) : 0 ≤ p1 ∧ p1 ≤ 2147483647 := by omega
theorem vc_X12_until_u_3 {p1 z1 : Int} (h0 : p1 ≤ 1000000000) (h1 : z1 ≤ p1) (h2 : 0 ≤ p1 ∧ p1 ≤ 2147483647) (h3 : 0 ≤ z1 ∧ z1 ≤ 2000000000) : 0 ≤ p1 ∧ p1 ≤ 1000000000 := by omega
theorem vc_X12_until_u_7 {p1 z1 z553 : Int} (h0 : z553 ≤ p1) (h1 : z1 ≤ p1) (h2 : p1 ≤ 1000000000) (h3 : 0 ≤ p1 ∧ p1 ≤ 1000000000) (h4 : 0 ≤ z1 ∧ z1 ≤ 2000000000) (h5 : (-1) ≤ z553 ∧ z553 ≤ 2000001000) : (-1) ≤ z553 ∧ z553 ≤ 1000000000 := by omega
theorem vc_X12_until_u_8 {p1 z1 z553 : Int} (h0 : p1 < z553) (h1 : z1 ≤ p1) (h2 : p1 ≤ 1000000000) (h3 : 0 ≤ p1 ∧ p1 ≤ 1000000000) (h4 : 0 ≤ z1 ∧ z1 ≤ 2000000000) (h5 : (-1) ≤ z553 ∧ z553 ≤ 2000001000) : 1 ≤ z553 ∧ z553 ≤ 2000001000 := by omega
theorem vc_X12_until_u_13 {z480 : Int} (h0 : ¬ z480 = (-99999999)) (h1 : 0 ≤ z480 ∧ z480 ≤ 799) (h2 : z480 = (-99999999) ∨ (0 ≤ z480 ∧ z480 ≤ 799)) : ¬ z480 = -99999999 := by omega
theorem vc_X12_until_u_15 {z593 : Int} (h0 : z593 = -99999999 ∨ (0 ≤ z593 ∧ z593 ≤ 799)) (h1 : (-99999999) ≤ z593 ∧ z593 ≤ 799) : z593 = (-99999999) ∨ (0 ≤ z593 ∧ z593 ≤ 799) := by omega
theorem vc_X12_until_u_18 {p1 z1 : Int} (h0 : 1000000000 < p1) (h1 : z1 ≤ p1) (h2 : 0 ≤ p1 ∧ p1 ≤ 2147483647) (h3 : 0 ≤ z1 ∧ z1 ≤ 2000000000) : 1000000001 ≤ p1 ∧ p1 ≤ 2147483647 := by omega
set_option maxRecDepth 4000 in
set_option maxHeartbeats 4000000 in
theorem c_X12_until_u {l : Launch} {D : va_G} {c : Nat → ClassId} {H0 : Heap} {sa : Nat × Nat × (Nat → Int32)} {w : mW} {μ : mM} (hw : mWF w) (hT : mT w μ) {p1 : Int} (hp1 : (-2147483648) ≤ p1 ∧ p1 ≤ 2147483647) (hIJC : JC l D c H0 sa μ) (hIRP : RP μ) (hIEP : EP μ) (hIHP : HP μ) (hIUP : UP l D c H0 sa μ) (hIG1 : G1 μ) (hIEV : EV μ) (hIPK : PK μ) : sC (gG l D c H0 sa) mX12_until 12 0 0 [.ref 106, iv p1] (mk w μ) (qI w [106026, 106027, 106028, 106029, 106030, 106031, 106071, 106072, 106073, 126999, 151999, 152999, 153999, 154999, 155999, 156999, 157999, 158999, 159999, 160999, 161999, 165999] μ (fun z μ1 => ((-2147483648) ≤ z ∧ z ≤ 2147483647) ∧ JC l D c H0 sa μ1 ∧ RP μ1 ∧ EP μ1 ∧ HP μ1 ∧ UP l D c H0 sa μ1 ∧ G1 μ1 ∧ EV μ1 ∧ True)) := by
  refine sC.of rfl (by decide) (le_t rfl) ?_
  refine mr_lvE (lv' := [(0, .ref 106), (1, iv p1)]) rfl ?_
  refine mr_iload_n (pc := 0) (z := p1) dX12_until_0 rfl rfl ?_
  refine sv_aload_n (pc := 1) dX12_until_1 rfl rfl ?_
  refine gf_X12_71 (pc := 2) dX12_until_2 wF_X12_591 (A_106 hw) hT fun z1 q2 h3 => ?_
  refine mr_icmp_lt (pc := 5) (tgt := 15) dX12_until_5 (by decide) hp1 (r32 h3 rfl) (fun h4 => ?_) (fun h4 => ?_)
  · have h5 : (-2147483648) ≤ p1 ∧ p1 ≤ 1999999999 := (vc_X12_until_u_1 h4 hp1 h3)
    refine mr_iconst (pc := 15) (z := (-1)) dX12_until_15 ?_
    exact mr_iret dX12_until_16 rfl (le_t rfl) (le_t rfl) hT mF.refl ⟨(rW (c := (-2147483648)) (d := 2147483647) (rR (x := (-1))) rfl), hIJC, hIRP, hIEP, hIHP, hIUP, hIG1, hIEV, trivial⟩
  have h6 : 0 ≤ p1 ∧ p1 ≤ 2147483647 := (vc_X12_until_u_2 h4 hp1 h3)
  refine mr_iload_n (pc := 8) (z := p1) dX12_until_8 rfl rfl ?_
  refine mr_ldcw (pc := 9) (z := 1000000000) dX12_until_9 wG_X12_619 (by decide) ?_
  refine mr_icmp_le (pc := 12) (tgt := 17) dX12_until_12 (by decide) (r32 h6 rfl) (r32 (rR (x := 1000000000)) rfl) (fun h7 => ?_) (fun h7 => ?_)
  · have h8 : 0 ≤ p1 ∧ p1 ≤ 1000000000 := (vc_X12_until_u_3 h7 h4 h6 h3)
    refine mr_iconst (pc := 17) (z := 0) dX12_until_17 ?_
    refine mr_istore_n (pc := 18) (lv' := [(2, iv 0), (0, .ref 106), (1, iv p1)]) dX12_until_18 rfl (by decide) rfl ?_
    refine sv_aload_n (pc := 19) dX12_until_19 rfl rfl ?_
    refine mr_cVP (pc := 20) (c_X12_nextEvent_ev hw hT) (gOk _ _ _ _ _) dX12_until_20 (tX12_nextEvent _ _ _ _ _) ⟨wV_X12_nextEvent, wL_X12_nextEvent⟩ wM_X12_613 (gCX12 _ _ _ _ _) rfl (A_106 hw) rfl ⟨le_t rfl, le_t rfl⟩ ⟨le_t rfl, le_t rfl⟩ rfl (le_t rfl) fun z13 h12 => ?_
    refine mr_istore_n (pc := 23) (lv' := [(3, iv z13), (2, iv 0), (0, .ref 106), (1, iv p1)]) dX12_until_23 rfl (by decide) rfl ?_
    have L483 : ∀ (nL483 : Nat) (z481 z480 : Int) (μ482 : mM), mT w μ482 → mF [106026, 106027, 106028, 106029, 106030, 106031, 106071, 106072, 106073, 126999, 151999, 152999, 153999, 154999, 155999, 156999, 157999, 158999, 159999, 160999, 161999, 165999] w μ μ482 → (0 ≤ z481 ∧ z481 ≤ 500) → ((-99999999) ≤ z480 ∧ z480 ≤ 799) → JC l D c H0 sa μ482 → RP μ482 → EP μ482 → HP μ482 → UP l D c H0 sa μ482 → G1 μ482 → EV μ482 → PK μ482 → nevF μ482 = z480 → (z480 = (-99999999) ∨ (0 ≤ z480 ∧ z480 ≤ 799)) → (501 - z481) < (nL483 : Int) → sV (gG l D c H0 sa) mX12_until (sRm 12 0 0) (sZ (gG l D c H0 sa) 0 0 (qI w [106026, 106027, 106028, 106029, 106030, 106031, 106071, 106072, 106073, 126999, 151999, 152999, 153999, 154999, 155999, 156999, 157999, 158999, 159999, 160999, 161999, 165999] μ (fun z μ1 => ((-2147483648) ≤ z ∧ z ≤ 2147483647) ∧ JC l D c H0 sa μ1 ∧ RP μ1 ∧ EP μ1 ∧ HP μ1 ∧ UP l D c H0 sa μ1 ∧ G1 μ1 ∧ EV μ1 ∧ True))) 24 [(0, .ref 106), (1, iv p1), (2, iv z481), (3, iv z480)] [] (mk w μ482) 0 0 := by
      intro nL483
      induction nL483 with
      | zero => intro z481 z480 μ482 T486 F487 h484 h485 I489 I490 I491 I492 I493 I494 I495 I496 R497 h498 h499; exact ((vc_X11_go_4 h499 h484)).elim
      | succ nL483 ih500 =>
        intro z481 z480 μ482 T486 F487 h484 h485 I489 I490 I491 I492 I493 I494 I495 I496 R497 h498 h499
        refine mr_iload_n (pc := 24) (z := z481) dX12_until_24 rfl rfl ?_
        refine mr_sipush (pc := 25) (z := 500) dX12_until_25 (by decide) ?_
        have J527 : sV (gG l D c H0 sa) mX12_until (sRm 12 0 0) (sZ (gG l D c H0 sa) 0 0 (qI w [106026, 106027, 106028, 106029, 106030, 106031, 106071, 106072, 106073, 126999, 151999, 152999, 153999, 154999, 155999, 156999, 157999, 158999, 159999, 160999, 161999, 165999] μ (fun z μ1 => ((-2147483648) ≤ z ∧ z ≤ 2147483647) ∧ JC l D c H0 sa μ1 ∧ RP μ1 ∧ EP μ1 ∧ HP μ1 ∧ UP l D c H0 sa μ1 ∧ G1 μ1 ∧ EV μ1 ∧ True))) 62 [(0, .ref 106), (1, iv p1), (2, iv z481), (3, iv z480)] [] (mk w μ482) 0 0 := by
          refine mr_iload_n (pc := 62) (z := z480) dX12_until_62 rfl rfl ?_
          refine mr_ldc (pc := 63) (z := (-99999999)) dX12_until_63 wG_X12_29 (by decide) ?_
          refine mr_icmp_eq (pc := 65) (tgt := 77) dX12_until_65 (by decide) (r32 h485 rfl) (r32 (rR (x := (-99999999))) rfl) (fun h543 => ?_) (fun h543 => ?_)
          · have h544 : (-99999999) ≤ z480 ∧ z480 ≤ (-99999999) := (vc_X12_nextEvent_ev_18 h543 h485 h498)
            refine sv_aload_n (pc := 77) dX12_until_77 rfl rfl ?_
            refine mr_iload_n (pc := 78) (z := p1) dX12_until_78 rfl rfl ?_
            refine pf_X12_71 (pc := 79) dX12_until_79 wF_X12_591 (A_106 hw) T486 (rW (c := 0) (d := 2000000000) h8 rfl) fun μ545 u546 T547 => ?_
            refine mr_iload_n (pc := 82) (z := z481) dX12_until_82 rfl rfl ?_
            exact mr_iret dX12_until_83 rfl (le_t rfl) (le_t rfl) T547 (mF.up (mF.call mF.refl F487 rfl) (A_106 hw) u546 rfl) ⟨(rW (c := (-2147483648)) (d := 2147483647) h484 rfl), (JC.keepJ I489 hw ((mF.up mF.refl (A_106 hw) u546 rfl) : mF [106071] w μ482 μ545) rfl), (RP.keep I490 hw ((mF.up mF.refl (A_106 hw) u546 rfl) : mF [106071] w μ482 μ545) rfl ((mG.upO mG.refl u546 rfl) : mG [] μ482 μ545) (fun _ h => absurd h List.not_mem_nil)), (EP.keep I491 hw ((mF.up mF.refl (A_106 hw) u546 rfl) : mF [106071] w μ482 μ545) rfl), (HP.keep I492 hw ((mF.up mF.refl (A_106 hw) u546 rfl) : mF [106071] w μ482 μ545) rfl ((mG.upO mG.refl u546 rfl) : mG [] μ482 μ545) (fun _ h => absurd h List.not_mem_nil)), (UPg.fr I493 hw T547 rfl ((mF.up mF.refl (A_106 hw) u546 rfl) : mF [106071] w μ482 μ545) rfl rfl rfl ((mG.upO mG.refl u546 rfl) : mG [] μ482 μ545) (fun _ h => absurd h List.not_mem_nil)), (G1.keep I494 hw ((mF.up mF.refl (A_106 hw) u546 rfl) : mF [106071] w μ482 μ545) rfl rfl ((mG.upO mG.refl u546 rfl) : mG [] μ482 μ545) (fun _ h => absurd h List.not_mem_nil)), (EV.keep I495 hw ((mF.up mF.refl (A_106 hw) u546 rfl) : mF [106071] w μ482 μ545) rfl), trivial⟩
          have h548 : 0 ≤ z480 ∧ z480 ≤ 799 := (vc_X12_nextEvent_ev_21 h543 h485 h498)
          refine sv_aload_n (pc := 68) dX12_until_68 rfl rfl ?_
          refine mr_iload_n (pc := 69) (z := z480) dX12_until_69 rfl rfl ?_
          refine mr_cVP (pc := 70) (c_X12_eventAt hw T486 h548) (gOk _ _ _ _ _) dX12_until_70 (tX12_eventAt _ _ _ _ _) ⟨wV_X12_eventAt, wL_X12_eventAt⟩ wM_X12_607 (gCX12 _ _ _ _ _) rfl (A_106 hw) rfl ⟨le_t rfl, le_t rfl⟩ ⟨le_t rfl, le_t rfl⟩ rfl (le_t rfl) fun z553 h552 => ?_
          refine mr_iload_n (pc := 73) (z := p1) dX12_until_73 rfl rfl ?_
          refine mr_icmp_le (pc := 74) (tgt := 82) dX12_until_74 (by decide) (r32 h552.1 rfl) (r32 h8 rfl) (fun h559 => ?_) (fun h559 => ?_)
          · have h560 : (-1) ≤ z553 ∧ z553 ≤ 1000000000 := (vc_X12_until_u_7 h559 h4 h7 h8 h3 h552.1)
            refine mr_iload_n (pc := 82) (z := z481) dX12_until_82 rfl rfl ?_
            exact mr_iret dX12_until_83 rfl (le_t rfl) (le_t rfl) T486 (mF.call mF.refl F487 rfl) ⟨(rW (c := (-2147483648)) (d := 2147483647) h484 rfl), I489, I490, I491, I492, I493, I494, I495, trivial⟩
          have h561 : 1 ≤ z553 ∧ z553 ≤ 2000001000 := (vc_X12_until_u_8 h559 h4 h7 h8 h3 h552.1)
          refine sv_aload_n (pc := 77) dX12_until_77 rfl rfl ?_
          refine mr_iload_n (pc := 78) (z := p1) dX12_until_78 rfl rfl ?_
          refine pf_X12_71 (pc := 79) dX12_until_79 wF_X12_591 (A_106 hw) T486 (rW (c := 0) (d := 2000000000) h8 rfl) fun μ562 u563 T564 => ?_
          refine mr_iload_n (pc := 82) (z := z481) dX12_until_82 rfl rfl ?_
          exact mr_iret dX12_until_83 rfl (le_t rfl) (le_t rfl) T564 (mF.up (mF.call mF.refl F487 rfl) (A_106 hw) u563 rfl) ⟨(rW (c := (-2147483648)) (d := 2147483647) h484 rfl), (JC.keepJ I489 hw ((mF.up mF.refl (A_106 hw) u563 rfl) : mF [106071] w μ482 μ562) rfl), (RP.keep I490 hw ((mF.up mF.refl (A_106 hw) u563 rfl) : mF [106071] w μ482 μ562) rfl ((mG.upO mG.refl u563 rfl) : mG [] μ482 μ562) (fun _ h => absurd h List.not_mem_nil)), (EP.keep I491 hw ((mF.up mF.refl (A_106 hw) u563 rfl) : mF [106071] w μ482 μ562) rfl), (HP.keep I492 hw ((mF.up mF.refl (A_106 hw) u563 rfl) : mF [106071] w μ482 μ562) rfl ((mG.upO mG.refl u563 rfl) : mG [] μ482 μ562) (fun _ h => absurd h List.not_mem_nil)), (UPg.fr I493 hw T564 rfl ((mF.up mF.refl (A_106 hw) u563 rfl) : mF [106071] w μ482 μ562) rfl rfl rfl ((mG.upO mG.refl u563 rfl) : mG [] μ482 μ562) (fun _ h => absurd h List.not_mem_nil)), (G1.keep I494 hw ((mF.up mF.refl (A_106 hw) u563 rfl) : mF [106071] w μ482 μ562) rfl rfl ((mG.upO mG.refl u563 rfl) : mG [] μ482 μ562) (fun _ h => absurd h List.not_mem_nil)), (EV.keep I495 hw ((mF.up mF.refl (A_106 hw) u563 rfl) : mF [106071] w μ482 μ562) rfl), trivial⟩
        refine mr_icmp_ge (pc := 28) (tgt := 62) dX12_until_28 (by decide) (r32 h484 rfl) (r32 (rR (x := 500)) rfl) (fun h565 => ?_) (fun h565 => ?_)
        · have h566 : 500 ≤ z481 ∧ z481 ≤ 500 := (vc_X1_doActs_12_35 h565 h484)
          exact J527 
        have h567 : 0 ≤ z481 ∧ z481 ≤ 499 := (vc_X1_doActs_12_10 h565 h484)
        refine mr_iload_n (pc := 31) (z := z480) dX12_until_31 rfl rfl ?_
        refine mr_ldc (pc := 32) (z := (-99999999)) dX12_until_32 wG_X12_29 (by decide) ?_
        refine mr_icmp_eq (pc := 34) (tgt := 62) dX12_until_34 (by decide) (r32 h485 rfl) (r32 (rR (x := (-99999999))) rfl) (fun h568 => ?_) (fun h568 => ?_)
        · have h569 : (-99999999) ≤ z480 ∧ z480 ≤ (-99999999) := (vc_X12_nextEvent_ev_18 h568 h485 h498)
          exact J527 
        have h570 : 0 ≤ z480 ∧ z480 ≤ 799 := (vc_X12_nextEvent_ev_21 h568 h485 h498)
        refine sv_aload_n (pc := 37) dX12_until_37 rfl rfl ?_
        refine mr_iload_n (pc := 38) (z := z480) dX12_until_38 rfl rfl ?_
        refine mr_cVP (pc := 39) (c_X12_eventAt hw T486 h570) (gOk _ _ _ _ _) dX12_until_39 (tX12_eventAt _ _ _ _ _) ⟨wV_X12_eventAt, wL_X12_eventAt⟩ wM_X12_607 (gCX12 _ _ _ _ _) rfl (A_106 hw) rfl ⟨le_t rfl, le_t rfl⟩ ⟨le_t rfl, le_t rfl⟩ rfl (le_t rfl) fun z575 h574 => ?_
        refine mr_iload_n (pc := 42) (z := p1) dX12_until_42 rfl rfl ?_
        refine mr_icmp_gt (pc := 43) (tgt := 62) dX12_until_43 (by decide) (r32 h574.1 rfl) (r32 h8 rfl) (fun h576 => ?_) (fun h576 => ?_)
        · have h577 : 1 ≤ z575 ∧ z575 ≤ 2000001000 := (vc_X12_until_u_8 h576 h4 h7 h8 h3 h574.1)
          exact J527 
        have h578 : (-1) ≤ z575 ∧ z575 ≤ 1000000000 := (vc_X12_until_u_7 h576 h4 h7 h8 h3 h574.1)
        refine sv_aload_n (pc := 46) dX12_until_46 rfl rfl ?_
        refine mr_iload_n (pc := 47) (z := z480) dX12_until_47 rfl rfl ?_
        obtain ⟨z579, q580⟩ : ∃ z, μ482 106 6 = z := ⟨_, rfl⟩
        have h581 : (0 ≤ z579 ∧ z579 ≤ 20) := by rw [← q580]; exact T486 106 106 (A_106 hw) 6
        obtain ⟨z582, q583⟩ : ∃ z, μ482 106 2 = z := ⟨_, rfl⟩
        have h584 : (0 ≤ z582 ∧ z582 ≤ 10) := by rw [← q583]; exact T486 106 106 (A_106 hw) 2
        refine mr_cVV (pc := 48) (c_X12_doEvent_u hw T486 h570 q580 q583 I489 I490 I491 I492 I493 I494 I495 I496 (nev.ok R497 rfl (vc_X12_until_u_13 h568 h570 h498))) (gOk _ _ _ _ _) dX12_until_48 (tX12_doEvent _ _ _ _ _) ⟨wV_X12_doEvent, wL_X12_doEvent⟩ wM_X12_616 (gCX12 _ _ _ _ _) rfl (A_106 hw) rfl ⟨le_t rfl, le_t rfl⟩ ⟨le_t rfl, le_t rfl⟩ rfl (le_t rfl) fun μ585 T586 F587 h588 => ?_
        refine mr_iinc (pc := 51) (lv' := [(2, iv (z481 + 1)), (0, .ref 106), (1, iv p1), (3, iv z480)]) dX12_until_51 rfl (by decide) rfl ?_
        refine sv_aload_n (pc := 54) dX12_until_54 rfl rfl ?_
        refine mr_cVP (pc := 55) (c_X12_nextEvent_ev hw T586) (gOk _ _ _ _ _) dX12_until_55 (tX12_nextEvent _ _ _ _ _) ⟨wV_X12_nextEvent, wL_X12_nextEvent⟩ wM_X12_613 (gCX12 _ _ _ _ _) rfl (A_106 hw) rfl ⟨le_t rfl, le_t rfl⟩ ⟨le_t rfl, le_t rfl⟩ rfl (le_t rfl) fun z593 h592 => ?_
        refine mr_istore_n (pc := 58) (lv' := [(3, iv z593), (2, iv (z481 + 1)), (0, .ref 106), (1, iv p1)]) dX12_until_58 rfl (by decide) rfl ?_
        refine sv_goto (pc := 59) (tgt := 24) dX12_until_59 (by decide) ?_
        refine mr_lvS (lv' := [(0, .ref 106), (1, iv p1), (2, iv (z481 + 1)), (3, iv z593)]) (List.forall_mem_cons.mpr ⟨rfl, List.forall_mem_cons.mpr ⟨rfl, List.forall_mem_cons.mpr ⟨rfl, List.forall_mem_cons.mpr ⟨rfl, fun _ h => absurd h List.not_mem_nil⟩⟩⟩⟩) ?_
        exact ih500 (z481 + 1) z593 μ585 T586 (mF.call (mF.call mF.refl F487 rfl) F587 rfl) (rW (c := 0) (d := 500) (rAdd (e := 1) (f := 500) h567 (rR (x := 1)) rfl) rfl) h592.1 h588.1 h588.2.1 h588.2.2.1 h588.2.2.2.1 h588.2.2.2.2.1 h588.2.2.2.2.2.1 h588.2.2.2.2.2.2.1 (PK.keep I496 hw ((mF.call mF.refl F587 rfl) : mF [106026, 106027, 106028, 106029, 106030, 106031, 106071, 106072, 106073, 126999, 151999, 152999, 153999, 154999, 155999, 156999, 157999, 158999, 159999, 160999, 161999, 165999] w μ482 μ585) rfl) h592.2.1.symm (vc_X12_until_u_15 h592.2.2.1 h592.1) (vc_X11_until_9 (nS h499) h565 h567)
    refine mr_lvS (lv' := [(0, .ref 106), (1, iv p1), (2, iv 0), (3, iv z13)]) (List.forall_mem_cons.mpr ⟨rfl, List.forall_mem_cons.mpr ⟨rfl, List.forall_mem_cons.mpr ⟨rfl, List.forall_mem_cons.mpr ⟨rfl, fun _ h => absurd h List.not_mem_nil⟩⟩⟩⟩) ?_
    exact L483 502 0 z13 μ hT mF.refl (rW (c := 0) (d := 500) (rR (x := 0)) rfl) h12.1 hIJC hIRP hIEP hIHP hIUP hIG1 hIEV hIPK h12.2.1.symm (vc_X12_until_u_15 h12.2.2.1 h12.1) vc_X11_go_10
  have h594 : 1000000001 ≤ p1 ∧ p1 ≤ 2147483647 := (vc_X12_until_u_18 h7 h4 h6 h3)
  refine mr_iconst (pc := 15) (z := (-1)) dX12_until_15 ?_
  exact mr_iret dX12_until_16 rfl (le_t rfl) (le_t rfl) hT mF.refl ⟨(rW (c := (-2147483648)) (d := 2147483647) (rR (x := (-1))) rfl), hIJC, hIRP, hIEP, hIHP, hIUP, hIG1, hIEV, trivial⟩
theorem vc_X12_prefixOf_u_2  : (-(99999999 : Int) : Int) = -(99999999 : Int) ∨ ((0 : Int) ≤ (-(99999999 : Int) : Int) ∧ (-(99999999 : Int) : Int) ≤ (9 : Int)) := by omega
theorem vc_X12_prefixOf_u_3 {f_pre z161 : Int} (h0 : f_pre ≤ z161) (h1 : 0 ≤ f_pre ∧ f_pre ≤ 10) (h2 : 0 ≤ z161 ∧ z161 ≤ 10) : (-99999999 : Int) < f_pre := by omega
theorem vc_X12_prefixOf_u_8 {f_pre z161 : Int} (h0 : z161 < f_pre) (h1 : 1 ≤ f_pre ∧ f_pre ≤ 10) (h2 : 0 ≤ z161 ∧ z161 ≤ 9) : z161 = -99999999 ∨ (0 ≤ z161 ∧ z161 ≤ 9) := by omega
set_option maxRecDepth 4000 in
set_option maxHeartbeats 4000000 in
theorem c_X12_prefixOf_u {l : Launch} {D : va_G} {c : Nat → ClassId} {H0 : Heap} {sa : Nat × Nat × (Nat → Int32)} {w : mW} {μ : mM} (hw : mWF w) (hT : mT w μ) {p1 : Int} (hp1 : (-2147483648) ≤ p1 ∧ p1 ≤ 2147483647) {p2 : Int} (hp2 : (-2147483648) ≤ p2 ∧ p2 ≤ 2147483647) {f_pre : Int} (q_f_pre : μ 106 2 = f_pre) : sC (gG l D c H0 sa) mX12_prefixOf 1 0 0 [.ref 106, iv p1, iv p2] (mk w μ) (qP w μ (fun z => ((-99999999) ≤ z ∧ z ≤ 9) ∧ (z = -99999999 ∨ (0 ≤ z ∧ z ≤ 9)) ∧ (z < f_pre) ∧ True)) := by
  refine sC.of rfl (by decide) (le_t rfl) ?_
  have ht_f_pre : (0 ≤ f_pre ∧ f_pre ≤ 10) := by rw [← q_f_pre]; exact hT 106 106 (A_106 hw) 2
  refine mr_lvE (lv' := [(0, .ref 106), (1, iv p1), (2, iv p2)]) rfl ?_
  refine mr_iconst (pc := 0) (z := 0) dX12_prefixOf_0 ?_
  refine mr_istore_n (pc := 1) (lv' := [(3, iv 0), (0, .ref 106), (1, iv p1), (2, iv p2)]) dX12_prefixOf_1 rfl (by decide) rfl ?_
  have L162 : ∀ (nL162 : Nat) (z161 : Int), True → (0 ≤ z161 ∧ z161 ≤ 10) → (11 - z161) < (nL162 : Int) → sV (gG l D c H0 sa) mX12_prefixOf (sRm 1 0 0) (sZ (gG l D c H0 sa) 0 0 (qP w μ (fun z => ((-99999999) ≤ z ∧ z ≤ 9) ∧ (z = -99999999 ∨ (0 ≤ z ∧ z ≤ 9)) ∧ (z < f_pre) ∧ True))) 2 [(0, .ref 106), (1, iv p1), (2, iv p2), (3, iv z161)] [] (mk w μ) 0 0 := by
    intro nL162
    induction nL162 with
    | zero => intro z161 _ h163 h167; exact ((vc_X12_ring_2 h167 h163)).elim
    | succ nL162 ih168 =>
      intro z161 _ h163 h167
      refine mr_iload_n (pc := 2) (z := z161) dX12_prefixOf_2 rfl rfl ?_
      refine sv_aload_n (pc := 3) dX12_prefixOf_3 rfl rfl ?_
      refine gk_X12_2 (pc := 4) dX12_prefixOf_4 wF_X12_15 (A_106 hw) q_f_pre ?_
      refine mr_icmp_ge (pc := 7) (tgt := 38) dX12_prefixOf_7 (by decide) (r32 h163 rfl) (r32 ht_f_pre rfl) (fun h169 => ?_) (fun h169 => ?_)
      · refine mr_ldc (pc := 38) (z := (-99999999)) dX12_prefixOf_38 wG_X12_29 (by decide) ?_
        exact mr_iretP dX12_prefixOf_40 rfl (le_t rfl) (le_t rfl) ⟨(rW (c := (-99999999)) (d := 9) (rR (x := (-99999999))) rfl), vc_X12_prefixOf_u_2, (vc_X12_prefixOf_u_3 h169 ht_f_pre h163), trivial⟩
      have h170 : 0 ≤ z161 ∧ z161 ≤ 9 := (vc_X12_lookAll_u_6 h169 ht_f_pre h163)
      have h171 : 1 ≤ f_pre ∧ f_pre ≤ 10 := (vc_X12_say_u_2 h169 ht_f_pre h170)
      refine sv_aload_n (pc := 10) dX12_prefixOf_10 rfl rfl ?_
      refine gf_X12_3 (pc := 11) dX12_prefixOf_11 wF_X12_22 (A_106 hw) hT ?_
      refine mr_iload_n (pc := 14) (z := z161) dX12_prefixOf_14 rfl rfl ?_
      refine la_108 (pc := 15) dX12_prefixOf_15 (A_108 hw) hT (rIx (n := 10) h170 rfl) fun z172 q173 h174 => ?_
      refine mr_iload_n (pc := 16) (z := p1) dX12_prefixOf_16 rfl rfl ?_
      refine mr_icmp_ne (pc := 17) (tgt := 32) dX12_prefixOf_17 (by decide) h174 hp1 (fun h175 => ?_) (fun h175 => ?_)
      · refine mr_iinc (pc := 32) (lv' := [(3, iv (z161 + 1)), (0, .ref 106), (1, iv p1), (2, iv p2)]) dX12_prefixOf_32 rfl (by decide) rfl ?_
        refine sv_goto (pc := 35) (tgt := 2) dX12_prefixOf_35 (by decide) ?_
        refine mr_lvS (lv' := [(0, .ref 106), (1, iv p1), (2, iv p2), (3, iv (z161 + 1))]) (List.forall_mem_cons.mpr ⟨rfl, List.forall_mem_cons.mpr ⟨rfl, List.forall_mem_cons.mpr ⟨rfl, List.forall_mem_cons.mpr ⟨rfl, fun _ h => absurd h List.not_mem_nil⟩⟩⟩⟩) ?_
        exact ih168 (z161 + 1) trivial (rW (c := 0) (d := 10) (rAdd (e := 1) (f := 10) h170 (rR (x := 1)) rfl) rfl) (vc_X12_lookAll_u_9 (nS h167) h169 h171 h170)
      refine sv_aload_n (pc := 20) dX12_prefixOf_20 rfl rfl ?_
      refine gf_X12_4 (pc := 21) dX12_prefixOf_21 wF_X12_26 (A_106 hw) hT ?_
      refine mr_iload_n (pc := 24) (z := z161) dX12_prefixOf_24 rfl rfl ?_
      refine la_109 (pc := 25) dX12_prefixOf_25 (A_109 hw) hT (rIx (n := 10) h170 rfl) fun z176 q177 h178 => ?_
      refine mr_iload_n (pc := 26) (z := p2) dX12_prefixOf_26 rfl rfl ?_
      refine mr_icmp_ne (pc := 27) (tgt := 32) dX12_prefixOf_27 (by decide) (r32 h178 rfl) hp2 (fun h179 => ?_) (fun h179 => ?_)
      · refine mr_iinc (pc := 32) (lv' := [(3, iv (z161 + 1)), (0, .ref 106), (1, iv p1), (2, iv p2)]) dX12_prefixOf_32 rfl (by decide) rfl ?_
        refine sv_goto (pc := 35) (tgt := 2) dX12_prefixOf_35 (by decide) ?_
        refine mr_lvS (lv' := [(0, .ref 106), (1, iv p1), (2, iv p2), (3, iv (z161 + 1))]) (List.forall_mem_cons.mpr ⟨rfl, List.forall_mem_cons.mpr ⟨rfl, List.forall_mem_cons.mpr ⟨rfl, List.forall_mem_cons.mpr ⟨rfl, fun _ h => absurd h List.not_mem_nil⟩⟩⟩⟩) ?_
        exact ih168 (z161 + 1) trivial (rW (c := 0) (d := 10) (rAdd (e := 1) (f := 10) h170 (rR (x := 1)) rfl) rfl) (vc_X12_lookAll_u_9 (nS h167) h169 h171 h170)
      have h180 : 0 ≤ p2 ∧ p2 ≤ 32 := (vc_X10_findPrefix_5 h179 hp2 h178)
      refine mr_iload_n (pc := 30) (z := z161) dX12_prefixOf_30 rfl rfl ?_
      exact mr_iretP dX12_prefixOf_31 rfl (le_t rfl) (le_t rfl) ⟨(rW (c := (-99999999)) (d := 9) h170 rfl), (vc_X12_prefixOf_u_8 h169 h171 h170), (vc_X12_look_u_51 h169 h171 h170), trivial⟩
  refine mr_lvS (lv' := [(0, .ref 106), (1, iv p1), (2, iv p2), (3, iv 0)]) (List.forall_mem_cons.mpr ⟨rfl, List.forall_mem_cons.mpr ⟨rfl, List.forall_mem_cons.mpr ⟨rfl, List.forall_mem_cons.mpr ⟨rfl, fun _ h => absurd h List.not_mem_nil⟩⟩⟩⟩) ?_
  exact L162 12 0 trivial (rW (c := 0) (d := 10) (rR (x := 0)) rfl) vc_X12_ring_27
theorem vc_X12_hear_u_16 {z8596 z8615 z8618 : Int} (h0 : z8596 < (z8615 + z8618)) (h1 : 0 ≤ z8596 ∧ z8596 ≤ 2000) (h2 : 0 ≤ z8615 ∧ z8615 ≤ 1000) (h3 : 0 ≤ z8618 ∧ z8618 ≤ 1000) : 0 ≤ z8596 ∧ z8596 ≤ 1999 := by omega
theorem vc_X12_hear_u_17 {z8596 z8615 z8618 : Int} (h0 : z8596 < (z8615 + z8618)) (h1 : z8615 ≤ z8596) (h2 : 0 ≤ z8596 ∧ z8596 ≤ 1999) (h3 : 0 ≤ z8615 ∧ z8615 ≤ 1000) (h4 : 0 ≤ z8618 ∧ z8618 ≤ 1000) : 0 ≤ (z8596 - z8615) ∧ (z8596 - z8615) < 1000 := by omega
theorem vc_X12_hear_u_18 {f_pre z8795 : Int} (h0 : ¬ z8795 = (-99999999)) (h1 : z8795 = -99999999 ∨ (0 ≤ z8795 ∧ z8795 ≤ 9)) (h2 : z8795 < f_pre) (h3 : 0 ≤ f_pre ∧ f_pre ≤ 10) (h4 : (-99999999) ≤ z8795 ∧ z8795 ≤ 9) : 0 ≤ z8795 ∧ z8795 ≤ 9 := by omega
theorem vc_X12_hear_u_19 {f_pre p1 p2 z4676 z4695 z8795 z8870 : Int} (h0 : z8870 = (((20 * p1) + (10 * p2)) + z8795)) (h1 : 0 ≤ p1 ∧ p1 < z4676) (h2 : (z4695 = 1 → (0 : Int) ≤ p2 ∧ p2 ≤ (1 : Int))) (h3 : (z4695 = 0 → p2 < (0 : Int) ∨ (1 : Int) < p2)) (h4 : (0 : Int) ≤ p2 ∧ p2 ≤ (1 : Int)) (h5 : z8795 = -99999999 ∨ (0 ≤ z8795 ∧ z8795 ≤ 9)) (h6 : z8795 < f_pre) (h7 : ¬ z8795 = (-99999999)) (h8 : 0 ≤ f_pre ∧ f_pre ≤ 10) (h9 : 0 ≤ p1 ∧ p1 ≤ 19) (h10 : 0 ≤ p2 ∧ p2 ≤ 1) (h11 : 1 ≤ z4676 ∧ z4676 ≤ 20) (h12 : 1 ≤ z4695 ∧ z4695 ≤ 1) (h13 : 0 ≤ z8795 ∧ z8795 ≤ 9) (h14 : 0 ≤ z8870 ∧ z8870 ≤ 449) : 0 ≤ z8870 ∧ z8870 ≤ 399 := by omega
theorem vc_X12_hear_u_20  : (0 : Int) ≤ ((40 : Int) * (24 : Int)) := by omega
theorem vc_X12_hear_u_21  : (((40 : Int) * (24 : Int)) : Int) % (40 : Int) = (0 : Int) := by omega
theorem vc_X12_hear_u_22 {f_pre p1 p2 z4676 z4683 z4695 z8795 z8870 : Int} (h0 : z8870 = (((20 * p1) + (10 * p2)) + z8795)) (h1 : (z4683 = 1 → 0 ≤ p1 ∧ p1 < z4676)) (h2 : (z4683 = 0 → p1 < 0 ∨ z4676 ≤ p1)) (h3 : 0 ≤ p1 ∧ p1 < z4676) (h4 : (z4695 = 1 → (0 : Int) ≤ p2 ∧ p2 ≤ (1 : Int))) (h5 : (z4695 = 0 → p2 < (0 : Int) ∨ (1 : Int) < p2)) (h6 : (0 : Int) ≤ p2 ∧ p2 ≤ (1 : Int)) (h7 : z8795 = -99999999 ∨ (0 ≤ z8795 ∧ z8795 ≤ 9)) (h8 : z8795 < f_pre) (h9 : ¬ z8795 = (-99999999)) (h10 : 0 ≤ f_pre ∧ f_pre ≤ 10) (h11 : 0 ≤ p1 ∧ p1 ≤ 19) (h12 : 0 ≤ p2 ∧ p2 ≤ 1) (h13 : 1 ≤ z4676 ∧ z4676 ≤ 20) (h14 : 1 ≤ z4683 ∧ z4683 ≤ 1) (h15 : 1 ≤ z4695 ∧ z4695 ≤ 1) (h16 : 0 ≤ z8795 ∧ z8795 ≤ 9) (h17 : 0 ≤ z8870 ∧ z8870 ≤ 399) : (24 : Int) < (130 + z8870) ∨ (130 + z8870) < (24 : Int) := by omega
theorem vc_X12_hear_u_23  : ((24 : Int) : Int) ≤ (1399 : Int) := by omega
theorem vc_X12_hear_u_24 {f_pre p1 p2 z4676 z4683 z4695 z8795 z8870 : Int} (h0 : z8870 = (((20 * p1) + (10 * p2)) + z8795)) (h1 : (z4683 = 1 → 0 ≤ p1 ∧ p1 < z4676)) (h2 : (z4683 = 0 → p1 < 0 ∨ z4676 ≤ p1)) (h3 : 0 ≤ p1 ∧ p1 < z4676) (h4 : (z4695 = 1 → (0 : Int) ≤ p2 ∧ p2 ≤ (1 : Int))) (h5 : (z4695 = 0 → p2 < (0 : Int) ∨ (1 : Int) < p2)) (h6 : (0 : Int) ≤ p2 ∧ p2 ≤ (1 : Int)) (h7 : z8795 = -99999999 ∨ (0 ≤ z8795 ∧ z8795 ≤ 9)) (h8 : z8795 < f_pre) (h9 : ¬ z8795 = (-99999999)) (h10 : 0 ≤ f_pre ∧ f_pre ≤ 10) (h11 : 0 ≤ p1 ∧ p1 ≤ 19) (h12 : 0 ≤ p2 ∧ p2 ≤ 1) (h13 : 1 ≤ z4676 ∧ z4676 ≤ 20) (h14 : 1 ≤ z4683 ∧ z4683 ≤ 1) (h15 : 1 ≤ z4695 ∧ z4695 ≤ 1) (h16 : 0 ≤ z8795 ∧ z8795 ≤ 9) (h17 : 0 ≤ z8870 ∧ z8870 ≤ 399) : ¬ (130 + z8870) = 24 := by omega
theorem vc_X12_hear_u_25 {f_pre p1 p2 z8795 z8870 : Int} (h0 : z8795 < f_pre) (h1 : z8795 = -99999999 ∨ (0 ≤ z8795 ∧ z8795 ≤ 9)) (h2 : ¬ z8795 = (-99999999)) (h3 : z8870 = (((20 * p1) + (10 * p2)) + z8795)) (h4 : 0 ≤ f_pre ∧ f_pre ≤ 10) (h5 : 0 ≤ p1 ∧ p1 ≤ 19) (h6 : 0 ≤ p2 ∧ p2 ≤ 1) (h7 : 0 ≤ z8795 ∧ z8795 ≤ 9) (h8 : 0 ≤ z8870 ∧ z8870 ≤ 399) : ¬ (24 : Int) = 24 ∨ 0 < f_pre := by omega
theorem vc_X12_hear_u_26 {f_pre p1 p2 z4676 z4683 z4695 z8795 z8870 : Int} (h0 : z8870 = (((20 * p1) + (10 * p2)) + z8795)) (h1 : (z4683 = 1 → 0 ≤ p1 ∧ p1 < z4676)) (h2 : (z4683 = 0 → p1 < 0 ∨ z4676 ≤ p1)) (h3 : 0 ≤ p1 ∧ p1 < z4676) (h4 : (z4695 = 1 → (0 : Int) ≤ p2 ∧ p2 ≤ (1 : Int))) (h5 : (z4695 = 0 → p2 < (0 : Int) ∨ (1 : Int) < p2)) (h6 : (0 : Int) ≤ p2 ∧ p2 ≤ (1 : Int)) (h7 : z8795 = -99999999 ∨ (0 ≤ z8795 ∧ z8795 ≤ 9)) (h8 : z8795 < f_pre) (h9 : ¬ z8795 = (-99999999)) (h10 : 0 ≤ f_pre ∧ f_pre ≤ 10) (h11 : 0 ≤ p1 ∧ p1 ≤ 19) (h12 : 0 ≤ p2 ∧ p2 ≤ 1) (h13 : 1 ≤ z4676 ∧ z4676 ≤ 20) (h14 : 1 ≤ z4683 ∧ z4683 ≤ 1) (h15 : 1 ≤ z4695 ∧ z4695 ≤ 1) (h16 : 0 ≤ z8795 ∧ z8795 ≤ 9) (h17 : 0 ≤ z8870 ∧ z8870 ≤ 399) : 0 ≤ (40 * (130 + z8870)) := by omega
theorem vc_X12_hear_u_27 {f_pre p1 p2 z4676 z4683 z4695 z8795 z8870 : Int} (h0 : z8870 = (((20 * p1) + (10 * p2)) + z8795)) (h1 : (z4683 = 1 → 0 ≤ p1 ∧ p1 < z4676)) (h2 : (z4683 = 0 → p1 < 0 ∨ z4676 ≤ p1)) (h3 : 0 ≤ p1 ∧ p1 < z4676) (h4 : (z4695 = 1 → (0 : Int) ≤ p2 ∧ p2 ≤ (1 : Int))) (h5 : (z4695 = 0 → p2 < (0 : Int) ∨ (1 : Int) < p2)) (h6 : (0 : Int) ≤ p2 ∧ p2 ≤ (1 : Int)) (h7 : z8795 = -99999999 ∨ (0 ≤ z8795 ∧ z8795 ≤ 9)) (h8 : z8795 < f_pre) (h9 : ¬ z8795 = (-99999999)) (h10 : 0 ≤ f_pre ∧ f_pre ≤ 10) (h11 : 0 ≤ p1 ∧ p1 ≤ 19) (h12 : 0 ≤ p2 ∧ p2 ≤ 1) (h13 : 1 ≤ z4676 ∧ z4676 ≤ 20) (h14 : 1 ≤ z4683 ∧ z4683 ≤ 1) (h15 : 1 ≤ z4695 ∧ z4695 ≤ 1) (h16 : 0 ≤ z8795 ∧ z8795 ≤ 9) (h17 : 0 ≤ z8870 ∧ z8870 ≤ 399) : (40 * (130 + z8870)) % 40 = 0 := by omega
theorem vc_X12_hear_u_28 {f_pre p1 p2 z4676 z4683 z4695 z8795 z8870 : Int} (h0 : z8795 = -99999999 ∨ (0 ≤ z8795 ∧ z8795 ≤ 9)) (h1 : z8795 < f_pre) (h2 : ¬ z8795 = (-99999999)) (h3 : z8870 = (((20 * p1) + (10 * p2)) + z8795)) (h4 : (z4683 = 1 → 0 ≤ p1 ∧ p1 < z4676)) (h5 : (z4683 = 0 → p1 < 0 ∨ z4676 ≤ p1)) (h6 : 0 ≤ p1 ∧ p1 < z4676) (h7 : (z4695 = 1 → (0 : Int) ≤ p2 ∧ p2 ≤ (1 : Int))) (h8 : (z4695 = 0 → p2 < (0 : Int) ∨ (1 : Int) < p2)) (h9 : (0 : Int) ≤ p2 ∧ p2 ≤ (1 : Int)) (h10 : 0 ≤ f_pre ∧ f_pre ≤ 10) (h11 : 0 ≤ p1 ∧ p1 ≤ 19) (h12 : 0 ≤ p2 ∧ p2 ≤ 1) (h13 : 1 ≤ z4676 ∧ z4676 ≤ 20) (h14 : 1 ≤ z4683 ∧ z4683 ≤ 1) (h15 : 1 ≤ z4695 ∧ z4695 ≤ 1) (h16 : 0 ≤ z8795 ∧ z8795 ≤ 9) (h17 : 0 ≤ z8870 ∧ z8870 ≤ 399) : (-2147483648 ≤ z8795 ∧ z8795 ≤ 2147483647) ∧ ((40 * (130 + z8870)) % 40 = 0 → -1 ≤ z8795 ∧ z8795 ≤ 9) ∧ ((40 * (130 + z8870)) % 40 = 4 → 0 ≤ z8795 ∧ z8795 ≤ 20) ∧ ((40 * (130 + z8870)) % 40 = 5 → 0 ≤ z8795 ∧ z8795 ≤ 8) := by omega
theorem vc_X12_hear_u_29 {f_pre p1 p2 z4676 z4683 z4695 z8795 z8870 : Int} (h0 : z8795 = -99999999 ∨ (0 ≤ z8795 ∧ z8795 ≤ 9)) (h1 : z8795 < f_pre) (h2 : ¬ z8795 = (-99999999)) (h3 : z8870 = (((20 * p1) + (10 * p2)) + z8795)) (h4 : (z4683 = 1 → 0 ≤ p1 ∧ p1 < z4676)) (h5 : (z4683 = 0 → p1 < 0 ∨ z4676 ≤ p1)) (h6 : 0 ≤ p1 ∧ p1 < z4676) (h7 : (z4695 = 1 → (0 : Int) ≤ p2 ∧ p2 ≤ (1 : Int))) (h8 : (z4695 = 0 → p2 < (0 : Int) ∨ (1 : Int) < p2)) (h9 : (0 : Int) ≤ p2 ∧ p2 ≤ (1 : Int)) (h10 : 0 ≤ f_pre ∧ f_pre ≤ 10) (h11 : 0 ≤ p1 ∧ p1 ≤ 19) (h12 : 0 ≤ p2 ∧ p2 ≤ 1) (h13 : 1 ≤ z4676 ∧ z4676 ≤ 20) (h14 : 1 ≤ z4683 ∧ z4683 ≤ 1) (h15 : 1 ≤ z4695 ∧ z4695 ≤ 1) (h16 : 0 ≤ z8795 ∧ z8795 ≤ 9) (h17 : 0 ≤ z8870 ∧ z8870 ≤ 399) : ¬ (40 * (130 + z8870)) % 40 = 0 ∨ 56000 ≤ (40 * (130 + z8870)) ∨ ((40 * (130 + z8870)) = 960 ∧ z8795 ≤ 0) ∨ (¬ (40 * (130 + z8870)) = 960 ∧ z8795 < f_pre) := by omega
theorem vc_X12_hear_u_30 {f_pre p1 p2 z4676 z4683 z4695 z8795 z8870 : Int} (h0 : z8870 = (((20 * p1) + (10 * p2)) + z8795)) (h1 : (z4683 = 1 → 0 ≤ p1 ∧ p1 < z4676)) (h2 : (z4683 = 0 → p1 < 0 ∨ z4676 ≤ p1)) (h3 : 0 ≤ p1 ∧ p1 < z4676) (h4 : (z4695 = 1 → (0 : Int) ≤ p2 ∧ p2 ≤ (1 : Int))) (h5 : (z4695 = 0 → p2 < (0 : Int) ∨ (1 : Int) < p2)) (h6 : (0 : Int) ≤ p2 ∧ p2 ≤ (1 : Int)) (h7 : z8795 = -99999999 ∨ (0 ≤ z8795 ∧ z8795 ≤ 9)) (h8 : z8795 < f_pre) (h9 : ¬ z8795 = (-99999999)) (h10 : 0 ≤ f_pre ∧ f_pre ≤ 10) (h11 : 0 ≤ p1 ∧ p1 ≤ 19) (h12 : 0 ≤ p2 ∧ p2 ≤ 1) (h13 : 1 ≤ z4676 ∧ z4676 ≤ 20) (h14 : 1 ≤ z4683 ∧ z4683 ≤ 1) (h15 : 1 ≤ z4695 ∧ z4695 ≤ 1) (h16 : 0 ≤ z8795 ∧ z8795 ≤ 9) (h17 : 0 ≤ z8870 ∧ z8870 ≤ 399) : (40 * (130 + z8870)) ≤ (40 * (130 + z8870)) ∧ ((40 * (130 + z8870)) + 40) ≤ ((40 * (130 + z8870)) + 40) := by omega
theorem vc_X12_hear_u_31 {f_pre p1 p2 z4676 z4683 z4695 z8795 z8870 : Int} (h0 : z8870 = (((20 * p1) + (10 * p2)) + z8795)) (h1 : (z4683 = 1 → 0 ≤ p1 ∧ p1 < z4676)) (h2 : (z4683 = 0 → p1 < 0 ∨ z4676 ≤ p1)) (h3 : 0 ≤ p1 ∧ p1 < z4676) (h4 : (z4695 = 1 → (0 : Int) ≤ p2 ∧ p2 ≤ (1 : Int))) (h5 : (z4695 = 0 → p2 < (0 : Int) ∨ (1 : Int) < p2)) (h6 : (0 : Int) ≤ p2 ∧ p2 ≤ (1 : Int)) (h7 : z8795 = -99999999 ∨ (0 ≤ z8795 ∧ z8795 ≤ 9)) (h8 : z8795 < f_pre) (h9 : ¬ z8795 = (-99999999)) (h10 : 0 ≤ f_pre ∧ f_pre ≤ 10) (h11 : 0 ≤ p1 ∧ p1 ≤ 19) (h12 : 0 ≤ p2 ∧ p2 ≤ 1) (h13 : 1 ≤ z4676 ∧ z4676 ≤ 20) (h14 : 1 ≤ z4683 ∧ z4683 ≤ 1) (h15 : 1 ≤ z4695 ∧ z4695 ≤ 1) (h16 : 0 ≤ z8795 ∧ z8795 ≤ 9) (h17 : 0 ≤ z8870 ∧ z8870 ≤ 399) : 0 ≤ (40 * (130 + z8870)) ∧ (40 * (130 + z8870)) ≤ (40 * (130 + z8870)) ∧ (40 * (130 + z8870)) < ((40 * (130 + z8870)) + 40) := by omega
theorem vc_X12_hear_u_32 {f_pre p1 p2 z4676 z4683 z4695 z8795 z8870 : Int} (h0 : z8870 = (((20 * p1) + (10 * p2)) + z8795)) (h1 : (z4683 = 1 → 0 ≤ p1 ∧ p1 < z4676)) (h2 : (z4683 = 0 → p1 < 0 ∨ z4676 ≤ p1)) (h3 : 0 ≤ p1 ∧ p1 < z4676) (h4 : (z4695 = 1 → (0 : Int) ≤ p2 ∧ p2 ≤ (1 : Int))) (h5 : (z4695 = 0 → p2 < (0 : Int) ∨ (1 : Int) < p2)) (h6 : (0 : Int) ≤ p2 ∧ p2 ≤ (1 : Int)) (h7 : z8795 = -99999999 ∨ (0 ≤ z8795 ∧ z8795 ≤ 9)) (h8 : z8795 < f_pre) (h9 : ¬ z8795 = (-99999999)) (h10 : 0 ≤ f_pre ∧ f_pre ≤ 10) (h11 : 0 ≤ p1 ∧ p1 ≤ 19) (h12 : 0 ≤ p2 ∧ p2 ≤ 1) (h13 : 1 ≤ z4676 ∧ z4676 ≤ 20) (h14 : 1 ≤ z4683 ∧ z4683 ≤ 1) (h15 : 1 ≤ z4695 ∧ z4695 ≤ 1) (h16 : 0 ≤ z8795 ∧ z8795 ≤ 9) (h17 : 0 ≤ z8870 ∧ z8870 ≤ 399) : 40 * (130 + z8870) ≤ (40 * (130 + z8870)) ∧ ((40 * (130 + z8870)) + 1) ≤ 40 * (130 + z8870) + 40 := by omega
theorem vc_X12_hear_u_33 {f_pre p1 p2 z4676 z4683 z4695 z8795 z8870 : Int} (h0 : z8870 = (((20 * p1) + (10 * p2)) + z8795)) (h1 : (z4683 = 1 → 0 ≤ p1 ∧ p1 < z4676)) (h2 : (z4683 = 0 → p1 < 0 ∨ z4676 ≤ p1)) (h3 : 0 ≤ p1 ∧ p1 < z4676) (h4 : (z4695 = 1 → (0 : Int) ≤ p2 ∧ p2 ≤ (1 : Int))) (h5 : (z4695 = 0 → p2 < (0 : Int) ∨ (1 : Int) < p2)) (h6 : (0 : Int) ≤ p2 ∧ p2 ≤ (1 : Int)) (h7 : z8795 = -99999999 ∨ (0 ≤ z8795 ∧ z8795 ≤ 9)) (h8 : z8795 < f_pre) (h9 : ¬ z8795 = (-99999999)) (h10 : 0 ≤ f_pre ∧ f_pre ≤ 10) (h11 : 0 ≤ p1 ∧ p1 ≤ 19) (h12 : 0 ≤ p2 ∧ p2 ≤ 1) (h13 : 1 ≤ z4676 ∧ z4676 ≤ 20) (h14 : 1 ≤ z4683 ∧ z4683 ≤ 1) (h15 : 1 ≤ z4695 ∧ z4695 ≤ 1) (h16 : 0 ≤ z8795 ∧ z8795 ≤ 9) (h17 : 0 ≤ z8870 ∧ z8870 ≤ 399) : 40 * (130 + z8870) ≤ (40 * (130 + z8870)) ∧ ((40 * (130 + z8870)) + 40) ≤ 40 * (130 + z8870) + 40 := by omega
theorem vc_X12_hear_u_34 {f_pre p1 p2 z4676 z4683 z4695 z8795 z8870 : Int} (h0 : (z4683 = 1 → 0 ≤ p1 ∧ p1 < z4676)) (h1 : (z4683 = 0 → p1 < 0 ∨ z4676 ≤ p1)) (h2 : 0 ≤ p1 ∧ p1 < z4676) (h3 : z8870 = (((20 * p1) + (10 * p2)) + z8795)) (h4 : ¬ z4683 = 0) (h5 : (z4695 = 1 → (0 : Int) ≤ p2 ∧ p2 ≤ (1 : Int))) (h6 : (z4695 = 0 → p2 < (0 : Int) ∨ (1 : Int) < p2)) (h7 : (0 : Int) ≤ p2 ∧ p2 ≤ (1 : Int)) (h8 : z8795 = -99999999 ∨ (0 ≤ z8795 ∧ z8795 ≤ 9)) (h9 : z8795 < f_pre) (h10 : ¬ z8795 = (-99999999)) (h11 : 0 ≤ f_pre ∧ f_pre ≤ 10) (h12 : 0 ≤ p1 ∧ p1 ≤ 19) (h13 : 0 ≤ p2 ∧ p2 ≤ 1) (h14 : 1 ≤ z4676 ∧ z4676 ≤ 20) (h15 : 1 ≤ z4683 ∧ z4683 ≤ 1) (h16 : 1 ≤ z4695 ∧ z4695 ≤ 1) (h17 : 0 ≤ z8795 ∧ z8795 ≤ 9) (h18 : 0 ≤ z8870 ∧ z8870 ≤ 399) : z8870 < 20 * z4676 := by omega
theorem vc_X12_hear_u_35 {f_pre p1 p2 z4676 z4683 z4695 z8795 z8870 : Int} (h0 : z8795 < f_pre) (h1 : z8870 = (((20 * p1) + (10 * p2)) + z8795)) (h2 : (z4683 = 1 → 0 ≤ p1 ∧ p1 < z4676)) (h3 : (z4683 = 0 → p1 < 0 ∨ z4676 ≤ p1)) (h4 : 0 ≤ p1 ∧ p1 < z4676) (h5 : (z4695 = 1 → (0 : Int) ≤ p2 ∧ p2 ≤ (1 : Int))) (h6 : (z4695 = 0 → p2 < (0 : Int) ∨ (1 : Int) < p2)) (h7 : (0 : Int) ≤ p2 ∧ p2 ≤ (1 : Int)) (h8 : z8795 = -99999999 ∨ (0 ≤ z8795 ∧ z8795 ≤ 9)) (h9 : ¬ z8795 = (-99999999)) (h10 : 0 ≤ f_pre ∧ f_pre ≤ 10) (h11 : 0 ≤ p1 ∧ p1 ≤ 19) (h12 : 0 ≤ p2 ∧ p2 ≤ 1) (h13 : 1 ≤ z4676 ∧ z4676 ≤ 20) (h14 : 1 ≤ z4683 ∧ z4683 ≤ 1) (h15 : 1 ≤ z4695 ∧ z4695 ≤ 1) (h16 : 0 ≤ z8795 ∧ z8795 ≤ 9) (h17 : 0 ≤ z8870 ∧ z8870 ≤ 399) : z8870 % 10 < f_pre := by omega
theorem vc_X12_hear_u_36 {f_pre p1 p2 z4676 z4683 z4695 z8795 z8870 : Int} (h0 : (z4683 = 1 → 0 ≤ p1 ∧ p1 < z4676)) (h1 : (z4683 = 0 → p1 < 0 ∨ z4676 ≤ p1)) (h2 : 0 ≤ p1 ∧ p1 < z4676) (h3 : z8870 = (((20 * p1) + (10 * p2)) + z8795)) (h4 : ¬ z4683 = 0) (h5 : (z4695 = 1 → (0 : Int) ≤ p2 ∧ p2 ≤ (1 : Int))) (h6 : (z4695 = 0 → p2 < (0 : Int) ∨ (1 : Int) < p2)) (h7 : (0 : Int) ≤ p2 ∧ p2 ≤ (1 : Int)) (h8 : z8795 = -99999999 ∨ (0 ≤ z8795 ∧ z8795 ≤ 9)) (h9 : z8795 < f_pre) (h10 : ¬ z8795 = (-99999999)) (h11 : 0 ≤ f_pre ∧ f_pre ≤ 10) (h12 : 0 ≤ p1 ∧ p1 ≤ 19) (h13 : 0 ≤ p2 ∧ p2 ≤ 1) (h14 : 1 ≤ z4676 ∧ z4676 ≤ 20) (h15 : 1 ≤ z4683 ∧ z4683 ≤ 1) (h16 : 1 ≤ z4695 ∧ z4695 ≤ 1) (h17 : 0 ≤ z8795 ∧ z8795 ≤ 9) (h18 : 0 ≤ z8870 ∧ z8870 ≤ 399) : z8870 / 20 = p1 := by omega
theorem vc_X12_hear_u_38 {f_pre p1 p2 z4676 z4683 z4695 z8795 z8870 : Int} (h0 : (z4683 = 1 → 0 ≤ p1 ∧ p1 < z4676)) (h1 : (z4683 = 0 → p1 < 0 ∨ z4676 ≤ p1)) (h2 : 0 ≤ p1 ∧ p1 < z4676) (h3 : (z4695 = 1 → (0 : Int) ≤ p2 ∧ p2 ≤ (1 : Int))) (h4 : (z4695 = 0 → p2 < (0 : Int) ∨ (1 : Int) < p2)) (h5 : (0 : Int) ≤ p2 ∧ p2 ≤ (1 : Int)) (h6 : z8795 = -99999999 ∨ (0 ≤ z8795 ∧ z8795 ≤ 9)) (h7 : z8795 < f_pre) (h8 : ¬ z8795 = (-99999999)) (h9 : z8870 = (((20 * p1) + (10 * p2)) + z8795)) (h10 : ¬ z4683 = 0) (h11 : ¬ z4695 = 0) (h12 : 0 ≤ f_pre ∧ f_pre ≤ 10) (h13 : 0 ≤ p1 ∧ p1 ≤ 19) (h14 : 0 ≤ p2 ∧ p2 ≤ 1) (h15 : 1 ≤ z4676 ∧ z4676 ≤ 20) (h16 : 1 ≤ z4683 ∧ z4683 ≤ 1) (h17 : 1 ≤ z4695 ∧ z4695 ≤ 1) (h18 : 0 ≤ z8795 ∧ z8795 ≤ 9) (h19 : 0 ≤ z8870 ∧ z8870 ≤ 399) : z8870 = (2 * p1 + p2) * 10 + z8795 := by omega
theorem vc_X12_hear_u_39 {f_pre p1 p2 z4676 z4683 z4695 z8795 z8870 : Int} (h0 : (z4683 = 1 → 0 ≤ p1 ∧ p1 < z4676)) (h1 : (z4683 = 0 → p1 < 0 ∨ z4676 ≤ p1)) (h2 : 0 ≤ p1 ∧ p1 < z4676) (h3 : z8870 = (((20 * p1) + (10 * p2)) + z8795)) (h4 : ¬ z4683 = 0) (h5 : (z4695 = 1 → (0 : Int) ≤ p2 ∧ p2 ≤ (1 : Int))) (h6 : (z4695 = 0 → p2 < (0 : Int) ∨ (1 : Int) < p2)) (h7 : (0 : Int) ≤ p2 ∧ p2 ≤ (1 : Int)) (h8 : z8795 = -99999999 ∨ (0 ≤ z8795 ∧ z8795 ≤ 9)) (h9 : z8795 < f_pre) (h10 : ¬ z8795 = (-99999999)) (h11 : 0 ≤ f_pre ∧ f_pre ≤ 10) (h12 : 0 ≤ p1 ∧ p1 ≤ 19) (h13 : 0 ≤ p2 ∧ p2 ≤ 1) (h14 : 1 ≤ z4676 ∧ z4676 ≤ 20) (h15 : 1 ≤ z4683 ∧ z4683 ≤ 1) (h16 : 1 ≤ z4695 ∧ z4695 ≤ 1) (h17 : 0 ≤ z8795 ∧ z8795 ≤ 9) (h18 : 0 ≤ z8870 ∧ z8870 ≤ 399) : 0 ≤ p1 := by omega
theorem vc_X12_hear_u_40 {f_pre p1 p2 z4676 z4683 z4695 z8795 z8870 : Int} (h0 : (z4695 = 1 → (0 : Int) ≤ p2 ∧ p2 ≤ (1 : Int))) (h1 : (z4695 = 0 → p2 < (0 : Int) ∨ (1 : Int) < p2)) (h2 : (0 : Int) ≤ p2 ∧ p2 ≤ (1 : Int)) (h3 : z8870 = (((20 * p1) + (10 * p2)) + z8795)) (h4 : (z4683 = 1 → 0 ≤ p1 ∧ p1 < z4676)) (h5 : (z4683 = 0 → p1 < 0 ∨ z4676 ≤ p1)) (h6 : 0 ≤ p1 ∧ p1 < z4676) (h7 : ¬ z4695 = 0) (h8 : z8795 = -99999999 ∨ (0 ≤ z8795 ∧ z8795 ≤ 9)) (h9 : z8795 < f_pre) (h10 : ¬ z8795 = (-99999999)) (h11 : 0 ≤ f_pre ∧ f_pre ≤ 10) (h12 : 0 ≤ p1 ∧ p1 ≤ 19) (h13 : 0 ≤ p2 ∧ p2 ≤ 1) (h14 : 1 ≤ z4676 ∧ z4676 ≤ 20) (h15 : 1 ≤ z4683 ∧ z4683 ≤ 1) (h16 : 1 ≤ z4695 ∧ z4695 ≤ 1) (h17 : 0 ≤ z8795 ∧ z8795 ≤ 9) (h18 : 0 ≤ z8870 ∧ z8870 ≤ 399) : p2 = 0 ∨ p2 = 1 := by omega
theorem vc_X12_hear_u_42 {f_pre p1 p2 z4676 z4683 z4695 z8795 z8870 : Int} (h0 : z8795 = -99999999 ∨ (0 ≤ z8795 ∧ z8795 ≤ 9)) (h1 : z8795 < f_pre) (h2 : ¬ z8795 = (-99999999)) (h3 : z8870 = (((20 * p1) + (10 * p2)) + z8795)) (h4 : (z4683 = 1 → 0 ≤ p1 ∧ p1 < z4676)) (h5 : (z4683 = 0 → p1 < 0 ∨ z4676 ≤ p1)) (h6 : 0 ≤ p1 ∧ p1 < z4676) (h7 : (z4695 = 1 → (0 : Int) ≤ p2 ∧ p2 ≤ (1 : Int))) (h8 : (z4695 = 0 → p2 < (0 : Int) ∨ (1 : Int) < p2)) (h9 : (0 : Int) ≤ p2 ∧ p2 ≤ (1 : Int)) (h10 : 0 ≤ f_pre ∧ f_pre ≤ 10) (h11 : 0 ≤ p1 ∧ p1 ≤ 19) (h12 : 0 ≤ p2 ∧ p2 ≤ 1) (h13 : 1 ≤ z4676 ∧ z4676 ≤ 20) (h14 : 1 ≤ z4683 ∧ z4683 ≤ 1) (h15 : 1 ≤ z4695 ∧ z4695 ≤ 1) (h16 : 0 ≤ z8795 ∧ z8795 ≤ 9) (h17 : 0 ≤ z8870 ∧ z8870 ≤ 399) : z8795 < f_pre := by omega
theorem vc_X12_hear_u_43 {f_pre p1 p2 z4676 z4683 z4695 z8795 z8870 : Int} (h0 : z8870 = (((20 * p1) + (10 * p2)) + z8795)) (h1 : (z4683 = 1 → 0 ≤ p1 ∧ p1 < z4676)) (h2 : (z4683 = 0 → p1 < 0 ∨ z4676 ≤ p1)) (h3 : 0 ≤ p1 ∧ p1 < z4676) (h4 : (z4695 = 1 → (0 : Int) ≤ p2 ∧ p2 ≤ (1 : Int))) (h5 : (z4695 = 0 → p2 < (0 : Int) ∨ (1 : Int) < p2)) (h6 : (0 : Int) ≤ p2 ∧ p2 ≤ (1 : Int)) (h7 : z8795 = -99999999 ∨ (0 ≤ z8795 ∧ z8795 ≤ 9)) (h8 : z8795 < f_pre) (h9 : ¬ z8795 = (-99999999)) (h10 : 0 ≤ f_pre ∧ f_pre ≤ 10) (h11 : 0 ≤ p1 ∧ p1 ≤ 19) (h12 : 0 ≤ p2 ∧ p2 ≤ 1) (h13 : 1 ≤ z4676 ∧ z4676 ≤ 20) (h14 : 1 ≤ z4683 ∧ z4683 ≤ 1) (h15 : 1 ≤ z4695 ∧ z4695 ≤ 1) (h16 : 0 ≤ z8795 ∧ z8795 ≤ 9) (h17 : 0 ≤ z8870 ∧ z8870 ≤ 399) : (1 ≤ (40 * (130 + z8870)) ∧ ((40 * (130 + z8870)) + 1) ≤ 1200) ∨ 5200 ≤ (40 * (130 + z8870)) := by omega
theorem vc_X12_hear_u_44 {f_pre p1 p2 z4676 z4683 z4695 z8795 z8870 : Int} (h0 : z8870 = (((20 * p1) + (10 * p2)) + z8795)) (h1 : (z4683 = 1 → 0 ≤ p1 ∧ p1 < z4676)) (h2 : (z4683 = 0 → p1 < 0 ∨ z4676 ≤ p1)) (h3 : 0 ≤ p1 ∧ p1 < z4676) (h4 : (z4695 = 1 → (0 : Int) ≤ p2 ∧ p2 ≤ (1 : Int))) (h5 : (z4695 = 0 → p2 < (0 : Int) ∨ (1 : Int) < p2)) (h6 : (0 : Int) ≤ p2 ∧ p2 ≤ (1 : Int)) (h7 : z8795 = -99999999 ∨ (0 ≤ z8795 ∧ z8795 ≤ 9)) (h8 : z8795 < f_pre) (h9 : ¬ z8795 = (-99999999)) (h10 : 0 ≤ f_pre ∧ f_pre ≤ 10) (h11 : 0 ≤ p1 ∧ p1 ≤ 19) (h12 : 0 ≤ p2 ∧ p2 ≤ 1) (h13 : 1 ≤ z4676 ∧ z4676 ≤ 20) (h14 : 1 ≤ z4683 ∧ z4683 ≤ 1) (h15 : 1 ≤ z4695 ∧ z4695 ≤ 1) (h16 : 0 ≤ z8795 ∧ z8795 ≤ 9) (h17 : 0 ≤ z8870 ∧ z8870 ≤ 399) : (1 ≤ (40 * (130 + z8870)) ∧ ((40 * (130 + z8870)) + 40) ≤ 1200) ∨ 5200 ≤ (40 * (130 + z8870)) := by omega
theorem vc_X12_hear_u_46 {f_pre p1 p2 z4676 z4683 z4695 z8795 z8870 z8901 : Int} (h0 : z8795 = -99999999 ∨ (0 ≤ z8795 ∧ z8795 ≤ 9)) (h1 : z8795 < f_pre) (h2 : ¬ z8795 = (-99999999)) (h3 : z8870 = (((20 * p1) + (10 * p2)) + z8795)) (h4 : (z4683 = 1 → 0 ≤ p1 ∧ p1 < z4676)) (h5 : (z4683 = 0 → p1 < 0 ∨ z4676 ≤ p1)) (h6 : 0 ≤ p1 ∧ p1 < z4676) (h7 : (z4695 = 1 → (0 : Int) ≤ p2 ∧ p2 ≤ (1 : Int))) (h8 : (z4695 = 0 → p2 < (0 : Int) ∨ (1 : Int) < p2)) (h9 : (0 : Int) ≤ p2 ∧ p2 ≤ (1 : Int)) (h10 : 0 ≤ f_pre ∧ f_pre ≤ 10) (h11 : 0 ≤ p1 ∧ p1 ≤ 19) (h12 : 0 ≤ p2 ∧ p2 ≤ 1) (h13 : 1 ≤ z4676 ∧ z4676 ≤ 20) (h14 : 1 ≤ z4683 ∧ z4683 ≤ 1) (h15 : 1 ≤ z4695 ∧ z4695 ≤ 1) (h16 : 0 ≤ z8795 ∧ z8795 ≤ 9) (h17 : 0 ≤ z8870 ∧ z8870 ≤ 399) (h18 : 0 ≤ z8901 ∧ z8901 ≤ 9) : (40 * (30 + ((10 * z8901) + z8795))) ≤ (40 * (30 + ((10 * z8901) + z8795))) ∧ ((40 * (30 + ((10 * z8901) + z8795))) + 40) ≤ ((40 * (30 + ((10 * z8901) + z8795))) + 40) := by omega
theorem vc_X12_hear_u_49 {f_pre p1 p2 z4676 z4683 z4695 z8795 z8870 z8901 : Int} (h0 : z8795 = -99999999 ∨ (0 ≤ z8795 ∧ z8795 ≤ 9)) (h1 : z8795 < f_pre) (h2 : ¬ z8795 = (-99999999)) (h3 : z8870 = (((20 * p1) + (10 * p2)) + z8795)) (h4 : (z4683 = 1 → 0 ≤ p1 ∧ p1 < z4676)) (h5 : (z4683 = 0 → p1 < 0 ∨ z4676 ≤ p1)) (h6 : 0 ≤ p1 ∧ p1 < z4676) (h7 : (z4695 = 1 → (0 : Int) ≤ p2 ∧ p2 ≤ (1 : Int))) (h8 : (z4695 = 0 → p2 < (0 : Int) ∨ (1 : Int) < p2)) (h9 : (0 : Int) ≤ p2 ∧ p2 ≤ (1 : Int)) (h10 : 0 ≤ f_pre ∧ f_pre ≤ 10) (h11 : 0 ≤ p1 ∧ p1 ≤ 19) (h12 : 0 ≤ p2 ∧ p2 ≤ 1) (h13 : 1 ≤ z4676 ∧ z4676 ≤ 20) (h14 : 1 ≤ z4683 ∧ z4683 ≤ 1) (h15 : 1 ≤ z4695 ∧ z4695 ≤ 1) (h16 : 0 ≤ z8795 ∧ z8795 ≤ 9) (h17 : 0 ≤ z8870 ∧ z8870 ≤ 399) (h18 : 0 ≤ z8901 ∧ z8901 ≤ 9) : ((40 * (30 + ((10 * z8901) + z8795))) + 40) ≤ 5200 ∨ 21200 ≤ (40 * (30 + ((10 * z8901) + z8795))) := by omega
theorem vc_X12_hear_u_51 {N z8596 z8615 z8618 : Int} (h0 : (2001 - z8596) < N + 1) (h1 : z8596 < (z8615 + z8618)) (h2 : z8615 ≤ z8596) (h3 : 0 ≤ z8596 ∧ z8596 ≤ 1999) (h4 : 0 ≤ z8615 ∧ z8615 ≤ 1000) (h5 : 0 ≤ z8618 ∧ z8618 ≤ 1000) : (2001 - (z8596 + 1)) < N := by omega
theorem vc_X12_hear_u_52 {z8596 z8615 z8618 : Int} (h0 : z8596 < z8615) (h1 : z8596 < (z8615 + z8618)) (h2 : z8615 ≤ z8596) (h3 : 0 ≤ z8596 ∧ z8596 ≤ 1999) (h4 : 0 ≤ z8615 ∧ z8615 ≤ 1000) (h5 : 0 ≤ z8618 ∧ z8618 ≤ 1000) : 0 ≤ z8596 ∧ z8596 ≤ 999 := by omega
theorem vc_X12_hear_u_53 {z8596 z8615 z8618 : Int} (h0 : z8596 < z8615) (h1 : z8596 < (z8615 + z8618)) (h2 : z8615 ≤ z8596) (h3 : 0 ≤ z8596 ∧ z8596 ≤ 999) (h4 : 0 ≤ z8615 ∧ z8615 ≤ 1000) (h5 : 0 ≤ z8618 ∧ z8618 ≤ 1000) : 1 ≤ z8615 ∧ z8615 ≤ 1000 := by omega
theorem vc_X12_hear_u_55 {f_pre p1 p2 z4676 z4683 z4695 z8795 z8870 : Int} (h0 : z8870 = (((20 * p1) + (10 * p2)) + z8795)) (h1 : (z4683 = 1 → 0 ≤ p1 ∧ p1 < z4676)) (h2 : (z4683 = 0 → p1 < 0 ∨ z4676 ≤ p1)) (h3 : 0 ≤ p1 ∧ p1 < z4676) (h4 : (z4695 = 1 → (0 : Int) ≤ p2 ∧ p2 ≤ (1 : Int))) (h5 : (z4695 = 0 → p2 < (0 : Int) ∨ (1 : Int) < p2)) (h6 : (0 : Int) ≤ p2 ∧ p2 ≤ (1 : Int)) (h7 : z8795 = -99999999 ∨ (0 ≤ z8795 ∧ z8795 ≤ 9)) (h8 : z8795 < f_pre) (h9 : ¬ z8795 = (-99999999)) (h10 : 0 ≤ f_pre ∧ f_pre ≤ 10) (h11 : 0 ≤ p1 ∧ p1 ≤ 19) (h12 : 0 ≤ p2 ∧ p2 ≤ 1) (h13 : 1 ≤ z4676 ∧ z4676 ≤ 20) (h14 : 1 ≤ z4683 ∧ z4683 ≤ 1) (h15 : 1 ≤ z4695 ∧ z4695 ≤ 1) (h16 : 0 ≤ z8795 ∧ z8795 ≤ 9) (h17 : 0 ≤ z8870 ∧ z8870 ≤ 399) : (40 * (130 + z8870)) ≤ (40 * (130 + z8870)) ∧ ((40 * (130 + z8870)) + 1) ≤ ((40 * (130 + z8870)) + 1) := by omega
theorem vc_X12_hear_u_59 {N z8596 z8615 z8618 : Int} (h0 : (2001 - z8596) < N + 1) (h1 : z8596 < (z8615 + z8618)) (h2 : z8615 ≤ z8596) (h3 : z8596 < z8615) (h4 : 0 ≤ z8596 ∧ z8596 ≤ 999) (h5 : 1 ≤ z8615 ∧ z8615 ≤ 1000) (h6 : 0 ≤ z8618 ∧ z8618 ≤ 1000) : (2001 - (z8596 + 1)) < N := by omega
theorem vc_X12_hear_u_60 {f_pre z8795 : Int} (h0 : z8795 = (-99999999)) (h1 : z8795 = -99999999 ∨ (0 ≤ z8795 ∧ z8795 ≤ 9)) (h2 : z8795 < f_pre) (h3 : 0 ≤ f_pre ∧ f_pre ≤ 10) (h4 : (-99999999) ≤ z8795 ∧ z8795 ≤ 9) : (-99999999) ≤ z8795 ∧ z8795 ≤ (-99999999) := by omega
theorem vc_X12_hear_u_61 {z8596 z8615 z8618 : Int} (h0 : z8596 < z8615) (h1 : z8596 < (z8615 + z8618)) (h2 : 0 ≤ z8596 ∧ z8596 ≤ 1999) (h3 : 0 ≤ z8615 ∧ z8615 ≤ 1000) (h4 : 0 ≤ z8618 ∧ z8618 ≤ 1000) : 0 ≤ z8596 ∧ z8596 ≤ 999 := by omega
theorem vc_X12_hear_u_62 {z8596 z8615 z8618 : Int} (h0 : z8596 < z8615) (h1 : z8596 < (z8615 + z8618)) (h2 : 0 ≤ z8596 ∧ z8596 ≤ 999) (h3 : 0 ≤ z8615 ∧ z8615 ≤ 1000) (h4 : 0 ≤ z8618 ∧ z8618 ≤ 1000) : 1 ≤ z8615 ∧ z8615 ≤ 1000 := by omega
theorem vc_X12_hear_u_65 {z8596 z8615 z8618 : Int} (h0 : z8615 ≤ z8596) (h1 : z8596 < (z8615 + z8618)) (h2 : z8596 < z8615) (h3 : 0 ≤ z8596 ∧ z8596 ≤ 999) (h4 : 1 ≤ z8615 ∧ z8615 ≤ 1000) (h5 : 0 ≤ z8618 ∧ z8618 ≤ 1000) : 1 ≤ z8596 ∧ z8596 ≤ 999 := by omega
theorem vc_X12_hear_u_66 {z8596 z8615 z8618 : Int} (h0 : z8615 ≤ z8596) (h1 : z8596 < (z8615 + z8618)) (h2 : z8596 < z8615) (h3 : 1 ≤ z8596 ∧ z8596 ≤ 999) (h4 : 1 ≤ z8615 ∧ z8615 ≤ 1000) (h5 : 0 ≤ z8618 ∧ z8618 ≤ 1000) : 1 ≤ z8615 ∧ z8615 ≤ 999 := by omega
theorem vc_X12_hear_u_90 {N z8596 z8615 z8618 : Int} (h0 : (2001 - z8596) < N + 1) (h1 : z8596 < (z8615 + z8618)) (h2 : z8596 < z8615) (h3 : z8615 ≤ z8596) (h4 : 1 ≤ z8596 ∧ z8596 ≤ 999) (h5 : 1 ≤ z8615 ∧ z8615 ≤ 999) (h6 : 0 ≤ z8618 ∧ z8618 ≤ 1000) : (2001 - (z8596 + 1)) < N := by omega
theorem vc_X12_hear_u_96 {N z8596 z8615 z8618 : Int} (h0 : (2001 - z8596) < N + 1) (h1 : z8596 < (z8615 + z8618)) (h2 : z8596 < z8615) (h3 : 0 ≤ z8596 ∧ z8596 ≤ 999) (h4 : 1 ≤ z8615 ∧ z8615 ≤ 1000) (h5 : 0 ≤ z8618 ∧ z8618 ≤ 1000) : (2001 - (z8596 + 1)) < N := by omega
set_option maxRecDepth 4000 in
set_option maxHeartbeats 4000000 in
theorem c_X12_hear_u {l : Launch} {D : va_G} {c : Nat → ClassId} {H0 : Heap} {sa : Nat × Nat × (Nat → Int32)} {w : mW} {μ : mM} (hw : mWF w) (hT : mT w μ) {p1 : Int} (hp1 : (-2147483648) ≤ p1 ∧ p1 ≤ 2147483647) {p2 : Int} (hp2 : (-2147483648) ≤ p2 ∧ p2 ≤ 2147483647) {f_pre : Int} (q_f_pre : μ 106 2 = f_pre) (hIJC : JC l D c H0 sa μ) (hIRP : RP μ) (hIEP : EP μ) (hIHP : HP μ) (hIUP : UP l D c H0 sa μ) (hIG1 : G1 μ) (hIEV : EV μ) (hIPK : PK μ) : sC (gG l D c H0 sa) mX12_hear 11 0 0 [.ref 106, iv p1, iv p2] (mk w μ) (qI w [106026, 106027, 106028, 106029, 106030, 106031, 106072, 126999, 151999, 152999, 153999, 154999, 155999, 156999, 157999, 158999, 159999, 160999, 161999, 165999] μ (fun z μ1 => ((-2147483648) ≤ z ∧ z ≤ 2147483647) ∧ JC l D c H0 sa μ1 ∧ RP μ1 ∧ EP μ1 ∧ HP μ1 ∧ UP l D c H0 sa μ1 ∧ G1 μ1 ∧ EV μ1 ∧ True)) := by
  refine sC.of rfl (by decide) (le_t rfl) ?_
  have ht_f_pre : (0 ≤ f_pre ∧ f_pre ≤ 10) := by rw [← q_f_pre]; exact hT 106 106 (A_106 hw) 2
  refine mr_lvE (lv' := [(0, .ref 106), (1, iv p1), (2, iv p2)]) rfl ?_
  refine sv_aload_n (pc := 0) dX12_hear_0 rfl rfl ?_
  refine mr_iload_n (pc := 1) (z := p1) dX12_hear_1 rfl rfl ?_
  obtain ⟨z4676, q4677⟩ : ∃ z, μ 106 6 = z := ⟨_, rfl⟩
  have h4678 : (0 ≤ z4676 ∧ z4676 ≤ 20) := by rw [← q4677]; exact hT 106 106 (A_106 hw) 6
  refine mr_cVP (pc := 2) (c_X12_isTie hw hT hp1 q4677) (gOk _ _ _ _ _) dX12_hear_2 (tX12_isTie _ _ _ _ _) ⟨wV_X12_isTie, wL_X12_isTie⟩ wM_X12_66 (gCX12 _ _ _ _ _) rfl (A_106 hw) rfl ⟨le_t rfl, le_t rfl⟩ ⟨le_t rfl, le_t rfl⟩ rfl (le_t rfl) fun z4683 h4682 => ?_
  refine mr_if_eq (pc := 5) (tgt := 17) dX12_hear_5 (by decide) (r32 h4682.1 rfl) (fun h4684 => ?_) (fun h4684 => ?_)
  · have h4685 : 0 ≤ z4683 ∧ z4683 ≤ 0 := (vc_X12_pace_1 h4684 h4682.2.1 h4682.2.2.1 hp1 h4678 h4682.1)
    have h4686 : p1 < 0 ∨ z4676 ≤ p1 := (h4682.2.2.1 (vc_X12_pace_2 h4682.2.1 h4682.2.2.1 h4684 hp1 h4678 h4685))
    refine mr_iconst (pc := 17) (z := (-1)) dX12_hear_17 ?_
    exact mr_iret dX12_hear_18 rfl (le_t rfl) (le_t rfl) hT mF.refl ⟨(rW (c := (-2147483648)) (d := 2147483647) (rR (x := (-1))) rfl), hIJC, hIRP, hIEP, hIHP, hIUP, hIG1, hIEV, trivial⟩
  have h4687 : 1 ≤ z4683 ∧ z4683 ≤ 1 := (vc_X12_pace_3 h4684 h4682.2.1 h4682.2.2.1 hp1 h4678 h4682.1)
  have h4688 : 0 ≤ p1 ∧ p1 < z4676 := (h4682.2.1 (vc_X12_pace_4 h4682.2.1 h4682.2.2.1 h4684 hp1 h4678 h4687))
  have h4689 : 0 ≤ p1 ∧ p1 ≤ 19 := (vc_X12_pace_5 h4688 h4682.2.1 h4682.2.2.1 hp1 h4678 h4687)
  have h4690 : 1 ≤ z4676 ∧ z4676 ≤ 20 := (vc_X12_pace_6 h4688 h4682.2.1 h4682.2.2.1 h4689 h4678 h4687)
  refine mr_iload_n (pc := 8) (z := p2) dX12_hear_8 rfl rfl ?_
  refine mr_iconst (pc := 9) (z := 0) dX12_hear_9 ?_
  refine mr_iconst (pc := 10) (z := 1) dX12_hear_10 ?_
  refine mr_cSP (pc := 11) (c_X12_in hw hT hp2 (rW (c := (-2147483648)) (d := 2147483647) (rR (x := 0)) rfl) (rW (c := (-2147483648)) (d := 2147483647) (rR (x := 1)) rfl)) (gOk _ _ _ _ _) dX12_hear_11 (tX12_in _ _ _ _ _) wS_X12_in wM_X12_18 ⟨le_t rfl, le_t rfl⟩ ⟨le_t rfl, le_t rfl⟩ rfl (le_t rfl) fun z4695 h4694 => ?_
  refine mr_if_ne (pc := 14) (tgt := 19) dX12_hear_14 (by decide) (r32 h4694.1 rfl) (fun h4696 => ?_) (fun h4696 => ?_)
  · have h4697 : 1 ≤ z4695 ∧ z4695 ≤ 1 := (vc_X12_write_9 h4696 h4694.2.1 h4694.2.2.1 hp2 h4694.1)
    have h4698 : (0 : Int) ≤ p2 ∧ p2 ≤ (1 : Int) := (h4694.2.1 (vc_X12_write_10 h4694.2.1 h4694.2.2.1 h4696 hp2 h4697))
    have h4699 : 0 ≤ p2 ∧ p2 ≤ 1 := (vc_X12_write_11 h4698 h4694.2.1 h4694.2.2.1 hp2 h4697)
    refine sv_aload_n (pc := 19) dX12_hear_19 rfl rfl ?_
    refine gf_X12_96 (pc := 20) dX12_hear_20 wF_X12_655 (A_106 hw) hT fun z4700 q4701 h4702 => ?_
    refine mr_if_eq (pc := 23) (tgt := 42) dX12_hear_23 (by decide) (r32 h4702 rfl) (fun h4703 => ?_) (fun h4703 => ?_)
    · have h4704 : 0 ≤ z4700 ∧ z4700 ≤ 0 := (vc_X12_ring_22 h4703 h4702)
      refine mr_bipush (pc := 42) (z := (-2)) dX12_hear_42 (by decide) ?_
      exact mr_iret dX12_hear_44 rfl (le_t rfl) (le_t rfl) hT mF.refl ⟨(rW (c := (-2147483648)) (d := 2147483647) (rR (x := (-2))) rfl), hIJC, hIRP, hIEP, hIHP, hIUP, hIG1, hIEV, trivial⟩
    have h4705 : 1 ≤ z4700 ∧ z4700 ≤ 1 := (vc_X12_ring_24 h4703 h4702)
    refine sv_aload_n (pc := 26) dX12_hear_26 rfl rfl ?_
    refine gf_X12_97 (pc := 27) dX12_hear_27 wF_X12_665 (A_106 hw) hT fun z4706 q4707 h4708 => ?_
    refine mr_if_ne (pc := 30) (tgt := 42) dX12_hear_30 (by decide) (r32 h4708 rfl) (fun h4709 => ?_) (fun h4709 => ?_)
    · have h4710 : 1 ≤ z4706 ∧ z4706 ≤ 1 := (vc_X12_ring_24 h4709 h4708)
      refine mr_bipush (pc := 42) (z := (-2)) dX12_hear_42 (by decide) ?_
      exact mr_iret dX12_hear_44 rfl (le_t rfl) (le_t rfl) hT mF.refl ⟨(rW (c := (-2147483648)) (d := 2147483647) (rR (x := (-2))) rfl), hIJC, hIRP, hIEP, hIHP, hIUP, hIG1, hIEV, trivial⟩
    have h4711 : 0 ≤ z4706 ∧ z4706 ≤ 0 := (vc_X12_ring_22 h4709 h4708)
    refine sv_aload_n (pc := 33) dX12_hear_33 rfl rfl ?_
    refine gf_X12_9 (pc := 34) dX12_hear_34 wF_X12_53 (A_106 hw) hT ?_
    refine mr_iload_n (pc := 37) (z := p1) dX12_hear_37 rfl rfl ?_
    refine la_112 (pc := 38) dX12_hear_38 (A_112 hw) hT (rIx (n := 20) h4689 rfl) fun z4712 q4713 h4714 => ?_
    refine mr_if_ne (pc := 39) (tgt := 45) dX12_hear_39 (by decide) (r32 h4714 rfl) (fun h4715 => ?_) (fun h4715 => ?_)
    · have h4716 : 1 ≤ z4712 ∧ z4712 ≤ 1 := (vc_X12_ring_24 h4715 h4714)
      refine mr_iconst (pc := 45) (z := 0) dX12_hear_45 ?_
      refine mr_istore_n (pc := 46) (lv' := [(3, iv 0), (0, .ref 106), (1, iv p1), (2, iv p2)]) dX12_hear_46 rfl (by decide) rfl ?_
      refine mr_iconst (pc := 47) (z := 0) dX12_hear_47 ?_
      refine mr_istore (pc := 48) (lv' := [(4, iv 0), (3, iv 0), (0, .ref 106), (1, iv p1), (2, iv p2)]) dX12_hear_48 (by decide) rfl ?_
      have L8599 : ∀ (nL8599 : Nat) (z8597 z8596 : Int) (μ8598 : mM), mT w μ8598 → mF [106026, 106027, 106028, 106029, 106030, 106031, 106072, 126999, 151999, 152999, 153999, 154999, 155999, 156999, 157999, 158999, 159999, 160999, 161999, 165999] w μ μ8598 → ((-2147483648) ≤ z8597 ∧ z8597 ≤ 2147483647) → (0 ≤ z8596 ∧ z8596 ≤ 2000) → JC l D c H0 sa μ8598 → RP μ8598 → EP μ8598 → HP μ8598 → UP l D c H0 sa μ8598 → G1 μ8598 → EV μ8598 → PK μ8598 → (2001 - z8596) < (nL8599 : Int) → sV (gG l D c H0 sa) mX12_hear (sRm 11 0 0) (sZ (gG l D c H0 sa) 0 0 (qI w [106026, 106027, 106028, 106029, 106030, 106031, 106072, 126999, 151999, 152999, 153999, 154999, 155999, 156999, 157999, 158999, 159999, 160999, 161999, 165999] μ (fun z μ1 => ((-2147483648) ≤ z ∧ z ≤ 2147483647) ∧ JC l D c H0 sa μ1 ∧ RP μ1 ∧ EP μ1 ∧ HP μ1 ∧ UP l D c H0 sa μ1 ∧ G1 μ1 ∧ EV μ1 ∧ True))) 50 [(0, .ref 106), (1, iv p1), (2, iv p2), (3, iv z8597), (4, iv z8596)] [] (mk w μ8598) 0 0 := by
        intro nL8599
        induction nL8599 with
        | zero => intro z8597 z8596 μ8598 T8602 F8603 h8600 h8601 I8605 I8606 I8607 I8608 I8609 I8610 I8611 I8612 h8613; exact ((vc_X1_goThrough_12_8 h8613 h8601)).elim
        | succ nL8599 ih8614 =>
          intro z8597 z8596 μ8598 T8602 F8603 h8600 h8601 I8605 I8606 I8607 I8608 I8609 I8610 I8611 I8612 h8613
          refine mr_iload (pc := 50) (z := z8596) dX12_hear_50 rfl ?_
          refine sv_aload_n (pc := 52) dX12_hear_52 rfl rfl ?_
          refine gf_X12_88 (pc := 53) dX12_hear_53 wF_X12_625 (A_106 hw) T8602 fun z8615 q8616 h8617 => ?_
          refine sv_aload_n (pc := 56) dX12_hear_56 rfl rfl ?_
          refine gf_X12_91 (pc := 57) dX12_hear_57 wF_X12_628 (A_106 hw) T8602 fun z8618 q8619 h8620 => ?_
          refine mr_iadd (pc := 60) (x := z8615) (y := z8618) dX12_hear_60 ?_
          refine mr_icmp_ge (pc := 61) (tgt := 229) dX12_hear_61 (by decide) (r32 h8601 rfl) (r32 (rAdd (e := 0) (f := 2000) h8617 h8620 rfl) rfl) (fun h8782 => ?_) (fun h8782 => ?_)
          · refine mr_iload_n (pc := 229) (z := z8597) dX12_hear_229 rfl rfl ?_
            exact mr_iret dX12_hear_230 rfl (le_t rfl) (le_t rfl) T8602 (mF.call mF.refl F8603 rfl) ⟨h8600, I8605, I8606, I8607, I8608, I8609, I8610, I8611, trivial⟩
          have h8783 : 0 ≤ z8596 ∧ z8596 ≤ 1999 := (vc_X12_hear_u_16 h8782 h8601 h8617 h8620)
          refine mr_iload (pc := 64) (z := z8596) dX12_hear_64 rfl ?_
          refine sv_aload_n (pc := 66) dX12_hear_66 rfl rfl ?_
          refine gk_X12_88 (pc := 67) dX12_hear_67 wF_X12_625 (A_106 hw) q8616 ?_
          refine mr_icmp_ge (pc := 70) (tgt := 94) dX12_hear_70 (by decide) (r32 h8783 rfl) (r32 h8617 rfl) (fun h8784 => ?_) (fun h8784 => ?_)
          · refine sv_aload_n (pc := 94) dX12_hear_94 rfl rfl ?_
            refine sv_aload_n (pc := 95) dX12_hear_95 rfl rfl ?_
            refine gf_X12_89 (pc := 96) dX12_hear_96 wF_X12_466 (A_106 hw) T8602 ?_
            refine mr_iload (pc := 99) (z := z8596) dX12_hear_99 rfl ?_
            refine sv_aload_n (pc := 101) dX12_hear_101 rfl rfl ?_
            refine gk_X12_88 (pc := 102) dX12_hear_102 wF_X12_625 (A_106 hw) q8616 ?_
            refine mr_isub (pc := 105) (x := z8596) (y := z8615) dX12_hear_105 ?_
            refine la_168 (pc := 106) dX12_hear_106 (A_168 hw) T8602 (vc_X12_hear_u_17 h8782 h8784 h8783 h8617 h8620) fun z8785 q8786 h8787 => ?_
            refine sv_aload_n (pc := 107) dX12_hear_107 rfl rfl ?_
            refine gf_X12_90 (pc := 108) dX12_hear_108 wF_X12_469 (A_106 hw) T8602 ?_
            refine mr_iload (pc := 111) (z := z8596) dX12_hear_111 rfl ?_
            refine sv_aload_n (pc := 113) dX12_hear_113 rfl rfl ?_
            refine gk_X12_88 (pc := 114) dX12_hear_114 wF_X12_625 (A_106 hw) q8616 ?_
            refine mr_isub (pc := 117) (x := z8596) (y := z8615) dX12_hear_117 ?_
            refine la_169 (pc := 118) dX12_hear_118 (A_169 hw) T8602 (vc_X12_hear_u_17 h8782 h8784 h8783 h8617 h8620) fun z8788 q8789 h8790 => ?_
            refine mr_cVP (pc := 119) (c_X12_prefixOf_u hw T8602 h8787 h8790 (F8603.f (A_106 hw) rfl q_f_pre)) (gOk _ _ _ _ _) dX12_hear_119 (tX12_prefixOf _ _ _ _ _) ⟨wV_X12_prefixOf, wL_X12_prefixOf⟩ wM_X12_30 (gCX12 _ _ _ _ _) rfl (A_106 hw) rfl ⟨le_t rfl, le_t rfl⟩ ⟨le_t rfl, le_t rfl⟩ rfl (le_t rfl) fun z8795 h8794 => ?_
            refine mr_istore (pc := 122) (lv' := [(5, iv z8795), (0, .ref 106), (1, iv p1), (2, iv p2), (3, iv z8597), (4, iv z8596)]) dX12_hear_122 (by decide) rfl ?_
            refine mr_iload (pc := 124) (z := z8795) dX12_hear_124 rfl ?_
            refine mr_ldc (pc := 126) (z := (-99999999)) dX12_hear_126 wG_X12_29 (by decide) ?_
            refine mr_icmp_ne (pc := 128) (tgt := 134) dX12_hear_128 (by decide) (r32 h8794.1 rfl) (r32 (rR (x := (-99999999))) rfl) (fun h8864 => ?_) (fun h8864 => ?_)
            · have h8865 : 0 ≤ z8795 ∧ z8795 ≤ 9 := (vc_X12_hear_u_18 h8864 h8794.2.1 h8794.2.2.1 ht_f_pre h8794.1)
              refine mr_iload_n (pc := 134) (z := p1) dX12_hear_134 rfl rfl ?_
              refine mr_iload_n (pc := 135) (z := p2) dX12_hear_135 rfl rfl ?_
              refine mr_iload (pc := 136) (z := z8795) dX12_hear_136 rfl ?_
              refine mr_cSP (pc := 138) (c_X12_slot hw T8602 (rW (c := 0) (d := 20) h4689 rfl) (rW (c := 0) (d := 2) h4699 rfl) h8865) (gOk _ _ _ _ _) dX12_hear_138 (tX12_slot _ _ _ _ _) wS_X12_slot wM_X12_545 ⟨le_t rfl, le_t rfl⟩ ⟨le_t rfl, le_t rfl⟩ rfl (le_t rfl) fun z8870 h8869 => ?_
              have h8871 : 0 ≤ z8870 ∧ z8870 ≤ 399 := (vc_X12_hear_u_19 h8869.2.1 h4688 h4694.2.1 h4694.2.2.1 h4698 h8794.2.1 h8794.2.2.1 h8864 ht_f_pre h4689 h4699 h4690 h4697 h8865 h8869.1)
              refine mr_istore (pc := 141) (lv' := [(6, iv z8870), (5, iv z8795), (0, .ref 106), (1, iv p1), (2, iv p2), (3, iv z8597), (4, iv z8596)]) dX12_hear_141 (by decide) rfl ?_
              refine mr_iload (pc := 143) (z := z8596) dX12_hear_143 rfl ?_
              refine sv_aload_n (pc := 145) dX12_hear_145 rfl rfl ?_
              refine gk_X12_88 (pc := 146) dX12_hear_146 wF_X12_625 (A_106 hw) q8616 ?_
              refine mr_icmp_ge (pc := 149) (tgt := 165) dX12_hear_149 (by decide) (r32 h8783 rfl) (r32 h8617 rfl) (fun h8872 => ?_) (fun h8872 => ?_)
              · refine sv_aload_n (pc := 165) dX12_hear_165 rfl rfl ?_
                refine mr_bipush (pc := 166) (z := 24) dX12_hear_166 (by decide) ?_
                refine mr_sipush (pc := 168) (z := 130) dX12_hear_168 (by decide) ?_
                refine mr_iload (pc := 171) (z := z8870) dX12_hear_171 rfl ?_
                refine mr_iadd (pc := 173) (x := 130) (y := z8870) dX12_hear_173 ?_
                obtain ⟨z8873, q8874⟩ : ∃ z, μ8598 126 (((40 * 24) : Int).toNat) = z := ⟨_, rfl⟩
                have h8875 := rt7 T8602 (A_126 hw) vc_X12_hear_u_20 q8874
                have h8876 : (-1) ≤ z8873 ∧ z8873 ≤ 9 := h8875.2.1 vc_X12_hear_u_21
                refine mr_cVV (pc := 174) (c_X12_copy_u hw T8602 (rW (c := 0) (d := 2099) (rR (x := 24)) rfl) (rW (c := 0) (d := 2099) (rAdd (e := 130) (f := 529) (rR (x := 130)) h8871 rfl) rfl) q8874 (F8603.f (A_106 hw) rfl q_f_pre) (vc_X12_hear_u_22 h8869.2.1 h4682.2.1 h4682.2.2.1 h4688 h4694.2.1 h4694.2.2.1 h4698 h8794.2.1 h8794.2.2.1 h8864 ht_f_pre h4689 h4699 h4690 h4687 h4697 h8865 h8871) vc_X12_hear_u_23 (vc_X12_hear_u_24 h8869.2.1 h4682.2.1 h4682.2.2.1 h4688 h4694.2.1 h4694.2.2.1 h4698 h8794.2.1 h8794.2.2.1 h8864 ht_f_pre h4689 h4699 h4690 h4687 h4697 h8865 h8871) (vc_X12_hear_u_25 h8794.2.2.1 h8794.2.1 h8864 h8869.2.1 ht_f_pre h4689 h4699 h8865 h8871) I8606) (gOk _ _ _ _ _) dX12_hear_174 (tX12_copy _ _ _ _ _) ⟨wV_X12_copy, wL_X12_copy⟩ wM_X12_559 (gCX12 _ _ _ _ _) rfl (A_106 hw) rfl ⟨le_t rfl, le_t rfl⟩ ⟨le_t rfl, le_t rfl⟩ rfl (le_t rfl) fun μ8877 T8878 F8879 h8880 => ?_
                obtain ⟨z8881, q8882, h8883⟩ := h8880
                have h8884 := rt7 T8878 (A_126 hw) (vc_X12_hear_u_26 h8869.2.1 h4682.2.1 h4682.2.2.1 h4688 h4694.2.1 h4694.2.2.1 h4698 h8794.2.1 h8794.2.2.1 h8864 ht_f_pre h4689 h4699 h4690 h4687 h4697 h8865 h8871) q8882
                have h8885 : (-1) ≤ z8881 ∧ z8881 ≤ 9 := h8884.2.1 (vc_X12_hear_u_27 h8869.2.1 h4682.2.1 h4682.2.2.1 h4688 h4694.2.1 h4694.2.2.1 h4698 h8794.2.1 h8794.2.2.1 h8864 ht_f_pre h4689 h4699 h4690 h4687 h4697 h8865 h8871)
                have q8886 : μ8877 126 ((40 * (130 + z8870)).toNat) = z8873 := q8882.trans h8883.2.2.1
                refine sv_aload_n (pc := 177) dX12_hear_177 rfl rfl ?_
                refine gf_X12_32 (pc := 178) dX12_hear_178 wF_X12_148 (A_106 hw) T8878 ?_
                refine mr_bipush (pc := 181) (z := 40) dX12_hear_181 (by decide) ?_
                refine mr_sipush (pc := 183) (z := 130) dX12_hear_183 (by decide) ?_
                refine mr_iload (pc := 186) (z := z8870) dX12_hear_186 rfl ?_
                refine mr_iadd (pc := 188) (x := 130) (y := z8870) dX12_hear_188 ?_
                refine mr_imul (pc := 189) (x := 40) (y := (130 + z8870)) dX12_hear_189 ?_
                refine mr_iload (pc := 190) (z := z8795) dX12_hear_190 rfl ?_
                refine ss_126 (pc := 192) dX12_hear_192 (A_126 hw) T8878 (rIx (n := 84000) (rMulL (n := 40) (e := 5200) (f := 21160) (rAdd (e := 130) (f := 529) (rR (x := 130)) h8871 rfl) rfl) rfl) (vc_X12_hear_u_28 h8794.2.1 h8794.2.2.1 h8864 h8869.2.1 h4682.2.1 h4682.2.2.1 h4688 h4694.2.1 h4694.2.2.1 h4698 ht_f_pre h4689 h4699 h4690 h4687 h4697 h8865 h8871) fun μ8887 u8888 T8889 => ?_
                have I8890 : RP μ8887 := RP.up h8883.2.1 u8888 (u8888.f (Or.inl (mAt.ne (A_126 hw) (A_106 hw) rfl)) (F8879.f (A_106 hw) rfl (F8603.f (A_106 hw) rfl q_f_pre))) (vc_X12_hear_u_26 h8869.2.1 h4682.2.1 h4682.2.2.1 h4688 h4694.2.1 h4694.2.2.1 h4698 h8794.2.1 h8794.2.2.1 h8864 ht_f_pre h4689 h4699 h4690 h4687 h4697 h8865 h8871) (vc_X12_hear_u_29 h8794.2.1 h8794.2.2.1 h8864 h8869.2.1 h4682.2.1 h4682.2.2.1 h4688 h4694.2.1 h4694.2.2.1 h4698 ht_f_pre h4689 h4699 h4690 h4687 h4697 h8865 h8871)
                have I8891 : HP μ8887 := HP.row I8608 hw ((mF.up (mF.call mF.refl F8879 rfl) (A_126 hw) u8888 rfl) : mF [126999] w μ8598 μ8887) rfl ((mG.up (mG.call mG.refl h8883.1 (List.forall_mem_cons.mpr ⟨⟨_, List.mem_cons_self, (vc_X12_hear_u_30 h8869.2.1 h4682.2.1 h4682.2.2.1 h4688 h4694.2.1 h4694.2.2.1 h4698 h8794.2.1 h8794.2.2.1 h8864 ht_f_pre h4689 h4699 h4690 h4687 h4697 h8865 h8871)⟩, (fun _ h => absurd h List.not_mem_nil)⟩)) u8888 List.mem_cons_self (vc_X12_hear_u_31 h8869.2.1 h4682.2.1 h4682.2.2.1 h4688 h4694.2.1 h4694.2.2.1 h4698 h8794.2.1 h8794.2.2.1 h8864 ht_f_pre h4689 h4699 h4690 h4687 h4697 h8865 h8871)) : mG [((40 * (130 + z8870)), ((40 * (130 + z8870)) + 40)), ((40 * (130 + z8870)), ((40 * (130 + z8870)) + 1))] μ8598 μ8887) (List.forall_mem_cons.mpr ⟨(vc_X12_hear_u_33 h8869.2.1 h4682.2.1 h4682.2.2.1 h4688 h4694.2.1 h4694.2.2.1 h4698 h8794.2.1 h8794.2.2.1 h8864 ht_f_pre h4689 h4699 h4690 h4687 h4697 h8865 h8871), (List.forall_mem_cons.mpr ⟨(vc_X12_hear_u_32 h8869.2.1 h4682.2.1 h4682.2.2.1 h4688 h4694.2.1 h4694.2.2.1 h4698 h8794.2.1 h8794.2.2.1 h8864 ht_f_pre h4689 h4699 h4690 h4687 h4697 h8865 h8871), (fun _ h => absurd h List.not_mem_nil)⟩)⟩) (((((mF.up (mF.call mF.refl F8879 rfl) (A_126 hw) u8888 rfl) : mF [126999] w μ8598 μ8887).f (A_106 hw) rfl rfl)).symm.trans (u8888.f (Or.inl (mAt.ne (A_126 hw) (A_106 hw) rfl)) (F8879.f (A_106 hw) rfl (F8603.f (A_106 hw) rfl q4677)))) (vc_X12_hear_u_34 h4682.2.1 h4682.2.2.1 h4688 h8869.2.1 h4684 h4694.2.1 h4694.2.2.1 h4698 h8794.2.1 h8794.2.2.1 h8864 ht_f_pre h4689 h4699 h4690 h4687 h4697 h8865 h8871) (((((mF.up (mF.call mF.refl F8879 rfl) (A_126 hw) u8888 rfl) : mF [126999] w μ8598 μ8887).f (A_106 hw) rfl rfl)).symm.trans (u8888.f (Or.inl (mAt.ne (A_126 hw) (A_106 hw) rfl)) (F8879.f (A_106 hw) rfl (F8603.f (A_106 hw) rfl q_f_pre)))) (vc_X12_hear_u_35 h8794.2.2.1 h8869.2.1 h4682.2.1 h4682.2.2.1 h4688 h4694.2.1 h4694.2.2.1 h4698 h8794.2.1 h8864 ht_f_pre h4689 h4699 h4690 h4687 h4697 h8865 h8871) (vc_X12_hear_u_36 h4682.2.1 h4682.2.2.1 h4688 h8869.2.1 h4684 h4694.2.1 h4694.2.2.1 h4698 h8794.2.1 h8794.2.2.1 h8864 ht_f_pre h4689 h4699 h4690 h4687 h4697 h8865 h8871) (((((mF.up (mF.call mF.refl F8879 rfl) (A_126 hw) u8888 rfl) : mF [126999] w μ8598 μ8887).f (A_112 hw) rfl rfl)).symm.trans (u8888.f (Or.inl (mAt.ne (A_126 hw) (A_112 hw) rfl)) (F8879.f (A_112 hw) rfl (F8603.f (A_112 hw) rfl q4713)))) (vc_X12_raise_u_7 h4715 h4716)
                have I8892 : UPg l D c H0 sa μ8887 (fun d' p' => d' = μ8598 110 (2 * p1 + p2).toNat ∧ p' = z8795) := (UP.hear I8609 hw T8602 rfl ((mF.up (mF.call mF.refl F8879 rfl) (A_126 hw) u8888 rfl) : mF [126999] w μ8598 μ8887) rfl rfl rfl ((mG.up (mG.call mG.refl h8883.1 (List.forall_mem_cons.mpr ⟨⟨_, List.mem_cons_self, (vc_X12_hear_u_30 h8869.2.1 h4682.2.1 h4682.2.2.1 h4688 h4694.2.1 h4694.2.2.1 h4698 h8794.2.1 h8794.2.2.1 h8864 ht_f_pre h4689 h4699 h4690 h4687 h4697 h8865 h8871)⟩, (fun _ h => absurd h List.not_mem_nil)⟩)) u8888 List.mem_cons_self (vc_X12_hear_u_31 h8869.2.1 h4682.2.1 h4682.2.2.1 h4688 h4694.2.1 h4694.2.2.1 h4698 h8794.2.1 h8794.2.2.1 h8864 ht_f_pre h4689 h4699 h4690 h4687 h4697 h8865 h8871)) : mG [((40 * (130 + z8870)), ((40 * (130 + z8870)) + 40)), ((40 * (130 + z8870)), ((40 * (130 + z8870)) + 1))] μ8598 μ8887) (List.forall_mem_cons.mpr ⟨(vc_X12_hear_u_33 h8869.2.1 h4682.2.1 h4682.2.2.1 h4688 h4694.2.1 h4694.2.2.1 h4698 h8794.2.1 h8794.2.2.1 h8864 ht_f_pre h4689 h4699 h4690 h4687 h4697 h8865 h8871), (List.forall_mem_cons.mpr ⟨(vc_X12_hear_u_32 h8869.2.1 h4682.2.1 h4682.2.2.1 h4688 h4694.2.1 h4694.2.2.1 h4698 h8794.2.1 h8794.2.2.1 h8864 ht_f_pre h4689 h4699 h4690 h4687 h4697 h8865 h8871), (fun _ h => absurd h List.not_mem_nil)⟩)⟩) (vc_X12_hear_u_38 h4682.2.1 h4682.2.2.1 h4688 h4694.2.1 h4694.2.2.1 h4698 h8794.2.1 h8794.2.2.1 h8864 h8869.2.1 h4684 h4696 ht_f_pre h4689 h4699 h4690 h4687 h4697 h8865 h8871) (vc_X12_hear_u_39 h4682.2.1 h4682.2.2.1 h4688 h8869.2.1 h4684 h4694.2.1 h4694.2.2.1 h4698 h8794.2.1 h8794.2.2.1 h8864 ht_f_pre h4689 h4699 h4690 h4687 h4697 h8865 h8871) h8865 (vc_X12_hear_u_40 h4694.2.1 h4694.2.2.1 h4698 h8869.2.1 h4682.2.1 h4682.2.2.1 h4688 h4696 h8794.2.1 h8794.2.2.1 h8864 ht_f_pre h4689 h4699 h4690 h4687 h4697 h8865 h8871))
                refine sv_aload_n (pc := 193) dX12_hear_193 rfl rfl ?_
                refine gf_X12_74 (pc := 194) dX12_hear_194 wF_X12_424 (A_106 hw) T8889 ?_
                refine mr_iload (pc := 197) (z := z8870) dX12_hear_197 rfl ?_
                refine sv_aload_n (pc := 199) dX12_hear_199 rfl rfl ?_
                refine gf_X12_71 (pc := 200) dX12_hear_200 wF_X12_591 (A_106 hw) T8889 fun z8893 q8894 h8895 => ?_
                refine ss_154 (pc := 203) dX12_hear_203 (A_154 hw) T8889 (rIx (n := 400) h8871 rfl) h8895 fun μ8896 u8897 T8898 => ?_
                refine mr_iincW (pc := 204) dX12_hear_204 rfl (by decide) fun z8899 h8900 => mr_lvE (lv' := [(3, iv z8899), (6, iv z8870), (5, iv z8795), (0, .ref 106), (1, iv p1), (2, iv p2), (4, iv z8596)]) rfl ?_
                refine sv_aload_n (pc := 207) dX12_hear_207 rfl rfl ?_
                refine sv_aload_n (pc := 208) dX12_hear_208 rfl rfl ?_
                refine gf_X12_7 (pc := 209) dX12_hear_209 wF_X12_40 (A_106 hw) T8898 ?_
                refine mr_iconst (pc := 212) (z := 2) dX12_hear_212 ?_
                refine mr_iload_n (pc := 213) (z := p1) dX12_hear_213 rfl rfl ?_
                refine mr_imul (pc := 214) (x := 2) (y := p1) dX12_hear_214 ?_
                refine mr_iload_n (pc := 215) (z := p2) dX12_hear_215 rfl rfl ?_
                refine mr_iadd (pc := 216) (x := (2 * p1)) (y := p2) dX12_hear_216 ?_
                refine la_110 (pc := 217) dX12_hear_217 (A_110 hw) T8898 (rIx (n := 40) (rAdd (e := 0) (f := 39) (rMulL (n := 2) (e := 0) (f := 38) h4689 rfl) h4699 rfl) rfl) fun z8901 q8902 h8903 => ?_
                refine mr_iload (pc := 218) (z := z8795) dX12_hear_218 rfl ?_
                refine mr_cVV (pc := 220) (c_X12_look_u hw T8898 h8903 h8865 (u8897.f (Or.inl (mAt.ne (A_154 hw) (A_106 hw) rfl)) (u8888.f (Or.inl (mAt.ne (A_126 hw) (A_106 hw) rfl)) (F8879.f (A_106 hw) rfl (F8603.f (A_106 hw) rfl q_f_pre)))) (vc_X12_hear_u_42 h8794.2.1 h8794.2.2.1 h8864 h8869.2.1 h4682.2.1 h4682.2.2.1 h4688 h4694.2.1 h4694.2.2.1 h4698 ht_f_pre h4689 h4699 h4690 h4687 h4697 h8865 h8871) (JC.keepJ I8605 hw ((mF.up (mF.up (mF.call mF.refl F8879 rfl) (A_126 hw) u8888 rfl) (A_154 hw) u8897 rfl) : mF [126999, 154999] w μ8598 μ8896) rfl) (RP.keep I8890 hw ((mF.up mF.refl (A_154 hw) u8897 rfl) : mF [154999] w μ8887 μ8896) rfl ((mG.upO mG.refl u8897 rfl) : mG [] μ8887 μ8896) (fun _ h => absurd h List.not_mem_nil)) (EP.keep I8607 hw ((mF.up (mF.up (mF.call mF.refl F8879 rfl) (A_126 hw) u8888 rfl) (A_154 hw) u8897 rfl) : mF [126999, 154999] w μ8598 μ8896) rfl) (G1.keep I8610 hw ((mF.up (mF.up (mF.call mF.refl F8879 rfl) (A_126 hw) u8888 rfl) (A_154 hw) u8897 rfl) : mF [126999, 154999] w μ8598 μ8896) rfl rfl ((mG.upO (mG.up (mG.call mG.refl h8883.1 (List.forall_mem_cons.mpr ⟨⟨_, List.mem_cons_self, (vc_X12_hear_u_30 h8869.2.1 h4682.2.1 h4682.2.2.1 h4688 h4694.2.1 h4694.2.2.1 h4698 h8794.2.1 h8794.2.2.1 h8864 ht_f_pre h4689 h4699 h4690 h4687 h4697 h8865 h8871)⟩, (fun _ h => absurd h List.not_mem_nil)⟩)) u8888 List.mem_cons_self (vc_X12_hear_u_31 h8869.2.1 h4682.2.1 h4682.2.2.1 h4688 h4694.2.1 h4694.2.2.1 h4698 h8794.2.1 h8794.2.2.1 h8864 ht_f_pre h4689 h4699 h4690 h4687 h4697 h8865 h8871)) u8897 rfl) : mG [((40 * (130 + z8870)), ((40 * (130 + z8870)) + 40)), ((40 * (130 + z8870)), ((40 * (130 + z8870)) + 1))] μ8598 μ8896) (List.forall_mem_cons.mpr ⟨(vc_X12_hear_u_44 h8869.2.1 h4682.2.1 h4682.2.2.1 h4688 h4694.2.1 h4694.2.2.1 h4698 h8794.2.1 h8794.2.2.1 h8864 ht_f_pre h4689 h4699 h4690 h4687 h4697 h8865 h8871), (List.forall_mem_cons.mpr ⟨(vc_X12_hear_u_43 h8869.2.1 h4682.2.1 h4682.2.2.1 h4688 h4694.2.1 h4694.2.2.1 h4698 h8794.2.1 h8794.2.2.1 h8864 ht_f_pre h4689 h4699 h4690 h4687 h4697 h8865 h8871), (fun _ h => absurd h List.not_mem_nil)⟩)⟩)) (EV.keep I8611 hw ((mF.up (mF.up (mF.call mF.refl F8879 rfl) (A_126 hw) u8888 rfl) (A_154 hw) u8897 rfl) : mF [126999, 154999] w μ8598 μ8896) rfl) (PK.keep I8612 hw ((mF.up (mF.up (mF.call mF.refl F8879 rfl) (A_126 hw) u8888 rfl) (A_154 hw) u8897 rfl) : mF [126999, 154999] w μ8598 μ8896) rfl)) (gOk _ _ _ _ _) dX12_hear_220 (tX12_look _ _ _ _ _) ⟨wV_X12_look, wL_X12_look⟩ wM_X12_597 (gCX12 _ _ _ _ _) rfl (A_106 hw) rfl ⟨le_t rfl, le_t rfl⟩ ⟨le_t rfl, le_t rfl⟩ rfl (le_t rfl) fun μ8904 T8905 F8906 h8907 => ?_
                have I8908 : UP l D c H0 sa μ8904 := UPg.look (UPg.fr I8892 hw T8898 rfl ((mF.up mF.refl (A_154 hw) u8897 rfl) : mF [154999] w μ8887 μ8896) rfl rfl rfl ((mG.upO mG.refl u8897 rfl) : mG [] μ8887 μ8896) (fun _ h => absurd h List.not_mem_nil)) (fun _ _ h => ⟨h.1.trans ((((((mF.up (mF.up (mF.call mF.refl F8879 rfl) (A_126 hw) u8888 rfl) (A_154 hw) u8897 rfl) : mF [126999, 154999] w μ8598 μ8896).f (A_110 hw) rfl rfl)).symm.trans q8902).trans (vc_X12_doEvent_u_33 h8903)), h.2⟩) h8903 h8865 hw T8898 rfl rfl ((mF.call mF.refl F8906 rfl) : mF [106026, 106027, 106028, 106029, 106030, 106031, 106072, 126999, 151999, 152999, 153999, 155999, 156999, 157999, 158999, 159999, 160999, 161999, 165999] w μ8896 μ8904) rfl rfl rfl ((mG.call mG.refl h8907.1 (List.forall_mem_cons.mpr ⟨⟨_, List.mem_cons_self, vc_X12_look_u_35⟩, (List.forall_mem_cons.mpr ⟨⟨_, (List.mem_cons_of_mem _ List.mem_cons_self), (vc_X12_hear_u_46 h8794.2.1 h8794.2.2.1 h8864 h8869.2.1 h4682.2.1 h4682.2.2.1 h4688 h4694.2.1 h4694.2.2.1 h4698 ht_f_pre h4689 h4699 h4690 h4687 h4697 h8865 h8871 h8903)⟩, (List.forall_mem_cons.mpr ⟨⟨_, (List.mem_cons_of_mem _ (List.mem_cons_of_mem _ List.mem_cons_self)), vc_X12_say_u_34⟩, (fun _ h => absurd h List.not_mem_nil)⟩)⟩)⟩)) : mG [(80, 960), ((40 * (30 + ((10 * z8901) + z8795))), ((40 * (30 + ((10 * z8901) + z8795))) + 40)), (21200, 53200)] μ8896 μ8904) (List.forall_mem_cons.mpr ⟨vc_X12_lookAll_u_14, (List.forall_mem_cons.mpr ⟨(vc_X12_hear_u_49 h8794.2.1 h8794.2.2.1 h8864 h8869.2.1 h4682.2.1 h4682.2.2.1 h4688 h4694.2.1 h4694.2.2.1 h4698 ht_f_pre h4689 h4699 h4690 h4687 h4697 h8865 h8871 h8903), (List.forall_mem_cons.mpr ⟨vc_X12_look_u_55, (fun _ h => absurd h List.not_mem_nil)⟩)⟩)⟩) h8907.2.2.2.2.2.2.2.1 h8907.2.2.2.2.2.2.1
                refine mr_iinc (pc := 223) (lv' := [(4, iv (z8596 + 1)), (3, iv z8899), (6, iv z8870), (5, iv z8795), (0, .ref 106), (1, iv p1), (2, iv p2)]) dX12_hear_223 rfl (by decide) rfl ?_
                refine sv_goto (pc := 226) (tgt := 50) dX12_hear_226 (by decide) ?_
                refine mr_lvS (lv' := [(0, .ref 106), (1, iv p1), (2, iv p2), (3, iv z8899), (4, iv (z8596 + 1))]) (List.forall_mem_cons.mpr ⟨rfl, List.forall_mem_cons.mpr ⟨rfl, List.forall_mem_cons.mpr ⟨rfl, List.forall_mem_cons.mpr ⟨rfl, List.forall_mem_cons.mpr ⟨rfl, fun _ h => absurd h List.not_mem_nil⟩⟩⟩⟩⟩) ?_
                exact ih8614 z8899 (z8596 + 1) μ8904 T8905 (mF.call (mF.up (mF.up (mF.call (mF.call mF.refl F8603 rfl) F8879 rfl) (A_126 hw) u8888 rfl) (A_154 hw) u8897 rfl) F8906 rfl) h8900 (rW (c := 0) (d := 2000) (rAdd (e := 1) (f := 2000) h8783 (rR (x := 1)) rfl) rfl) h8907.2.1 h8907.2.2.1 h8907.2.2.2.1 (HP.keep I8891 hw ((mF.call (mF.up mF.refl (A_154 hw) u8897 rfl) F8906 rfl) : mF [106026, 106027, 106028, 106029, 106030, 106031, 106072, 126999, 151999, 152999, 153999, 154999, 155999, 156999, 157999, 158999, 159999, 160999, 161999, 165999] w μ8887 μ8904) rfl ((mG.call (mG.upO mG.refl u8897 rfl) h8907.1 (List.forall_mem_cons.mpr ⟨⟨_, List.mem_cons_self, vc_X12_look_u_35⟩, (List.forall_mem_cons.mpr ⟨⟨_, (List.mem_cons_of_mem _ List.mem_cons_self), (vc_X12_hear_u_46 h8794.2.1 h8794.2.2.1 h8864 h8869.2.1 h4682.2.1 h4682.2.2.1 h4688 h4694.2.1 h4694.2.2.1 h4698 ht_f_pre h4689 h4699 h4690 h4687 h4697 h8865 h8871 h8903)⟩, (List.forall_mem_cons.mpr ⟨⟨_, (List.mem_cons_of_mem _ (List.mem_cons_of_mem _ List.mem_cons_self)), vc_X12_say_u_34⟩, (fun _ h => absurd h List.not_mem_nil)⟩)⟩)⟩)) : mG [(80, 960), ((40 * (30 + ((10 * z8901) + z8795))), ((40 * (30 + ((10 * z8901) + z8795))) + 40)), (21200, 53200)] μ8887 μ8904) (List.forall_mem_cons.mpr ⟨vc_X12_lookAll_u_14, (List.forall_mem_cons.mpr ⟨(vc_X12_hear_u_49 h8794.2.1 h8794.2.2.1 h8864 h8869.2.1 h4682.2.1 h4682.2.2.1 h4688 h4694.2.1 h4694.2.2.1 h4698 ht_f_pre h4689 h4699 h4690 h4687 h4697 h8865 h8871 h8903), (List.forall_mem_cons.mpr ⟨vc_X12_look_u_55, (fun _ h => absurd h List.not_mem_nil)⟩)⟩)⟩)) I8908 h8907.2.2.2.2.1 h8907.2.2.2.2.2.1 (PK.keep I8612 hw ((mF.call (mF.up (mF.up (mF.call mF.refl F8879 rfl) (A_126 hw) u8888 rfl) (A_154 hw) u8897 rfl) F8906 rfl) : mF [106026, 106027, 106028, 106029, 106030, 106031, 106072, 126999, 151999, 152999, 153999, 154999, 155999, 156999, 157999, 158999, 159999, 160999, 161999, 165999] w μ8598 μ8904) rfl) (vc_X12_hear_u_51 (nS h8613) h8782 h8784 h8783 h8617 h8620)
              have h8909 : 0 ≤ z8596 ∧ z8596 ≤ 999 := (vc_X12_hear_u_52 h8872 h8782 h8784 h8783 h8617 h8620)
              have h8910 : 1 ≤ z8615 ∧ z8615 ≤ 1000 := (vc_X12_hear_u_53 h8872 h8782 h8784 h8909 h8617 h8620)
              refine sv_aload_n (pc := 152) dX12_hear_152 rfl rfl ?_
              refine mr_sipush (pc := 153) (z := 130) dX12_hear_153 (by decide) ?_
              refine mr_iload (pc := 156) (z := z8870) dX12_hear_156 rfl ?_
              refine mr_iadd (pc := 158) (x := 130) (y := z8870) dX12_hear_158 ?_
              refine mr_cVV (pc := 159) (c_X12_nothing_u hw T8602 (rW (c := 0) (d := 2099) (rAdd (e := 130) (f := 529) (rR (x := 130)) h8871 rfl) rfl) I8606) (gOk _ _ _ _ _) dX12_hear_159 (tX12_nothing _ _ _ _ _) ⟨wV_X12_nothing, wL_X12_nothing⟩ wM_X12_539 (gCX12 _ _ _ _ _) rfl (A_106 hw) rfl ⟨le_t rfl, le_t rfl⟩ ⟨le_t rfl, le_t rfl⟩ rfl (le_t rfl) fun μ8911 T8912 F8913 h8914 => ?_
              obtain ⟨z8915, q8916, h8917⟩ := h8914
              have h8918 := rt7 T8912 (A_126 hw) (vc_X12_hear_u_26 h8869.2.1 h4682.2.1 h4682.2.2.1 h4688 h4694.2.1 h4694.2.2.1 h4698 h8794.2.1 h8794.2.2.1 h8864 ht_f_pre h4689 h4699 h4690 h4687 h4697 h8865 h8871) q8916
              have h8919 : (-1) ≤ z8915 ∧ z8915 ≤ 9 := h8918.2.1 (vc_X12_hear_u_27 h8869.2.1 h4682.2.1 h4682.2.2.1 h4688 h4694.2.1 h4694.2.2.1 h4698 h8794.2.1 h8794.2.2.1 h8864 ht_f_pre h4689 h4699 h4690 h4687 h4697 h8865 h8871)
              have q8920 : μ8911 126 ((40 * (130 + z8870)).toNat) = (-1) := q8916.trans h8917.2.2.1
              have h8921 : (-1) ≤ z8915 ∧ z8915 ≤ (-1) := (vc_X12_candidate_4 h8917.2.2.1 h8919)
              have I8922 : HP μ8911 := HP.row I8608 hw ((mF.call mF.refl F8913 rfl) : mF [126999] w μ8598 μ8911) rfl ((mG.call mG.refl h8917.1 (List.forall_mem_cons.mpr ⟨⟨_, List.mem_cons_self, (vc_X12_hear_u_55 h8869.2.1 h4682.2.1 h4682.2.2.1 h4688 h4694.2.1 h4694.2.2.1 h4698 h8794.2.1 h8794.2.2.1 h8864 ht_f_pre h4689 h4699 h4690 h4687 h4697 h8865 h8871)⟩, (fun _ h => absurd h List.not_mem_nil)⟩)) : mG [((40 * (130 + z8870)), ((40 * (130 + z8870)) + 1))] μ8598 μ8911) (List.forall_mem_cons.mpr ⟨(vc_X12_hear_u_32 h8869.2.1 h4682.2.1 h4682.2.2.1 h4688 h4694.2.1 h4694.2.2.1 h4698 h8794.2.1 h8794.2.2.1 h8864 ht_f_pre h4689 h4699 h4690 h4687 h4697 h8865 h8871), (fun _ h => absurd h List.not_mem_nil)⟩) (((((mF.call mF.refl F8913 rfl) : mF [126999] w μ8598 μ8911).f (A_106 hw) rfl rfl)).symm.trans (F8913.f (A_106 hw) rfl (F8603.f (A_106 hw) rfl q4677))) (vc_X12_hear_u_34 h4682.2.1 h4682.2.2.1 h4688 h8869.2.1 h4684 h4694.2.1 h4694.2.2.1 h4698 h8794.2.1 h8794.2.2.1 h8864 ht_f_pre h4689 h4699 h4690 h4687 h4697 h8865 h8871) (((((mF.call mF.refl F8913 rfl) : mF [126999] w μ8598 μ8911).f (A_106 hw) rfl rfl)).symm.trans (F8913.f (A_106 hw) rfl (F8603.f (A_106 hw) rfl q_f_pre))) (vc_X12_hear_u_35 h8794.2.2.1 h8869.2.1 h4682.2.1 h4682.2.2.1 h4688 h4694.2.1 h4694.2.2.1 h4698 h8794.2.1 h8864 ht_f_pre h4689 h4699 h4690 h4687 h4697 h8865 h8871) (vc_X12_hear_u_36 h4682.2.1 h4682.2.2.1 h4688 h8869.2.1 h4684 h4694.2.1 h4694.2.2.1 h4698 h8794.2.1 h8794.2.2.1 h8864 ht_f_pre h4689 h4699 h4690 h4687 h4697 h8865 h8871) (((((mF.call mF.refl F8913 rfl) : mF [126999] w μ8598 μ8911).f (A_112 hw) rfl rfl)).symm.trans (F8913.f (A_112 hw) rfl (F8603.f (A_112 hw) rfl q4713))) (vc_X12_raise_u_7 h4715 h4716)
              have I8923 : UPg l D c H0 sa μ8911 (fun d' p' => d' = μ8598 110 (2 * p1 + p2).toNat ∧ p' = z8795) := (UP.hear I8609 hw T8602 rfl ((mF.call mF.refl F8913 rfl) : mF [126999] w μ8598 μ8911) rfl rfl rfl ((mG.call mG.refl h8917.1 (List.forall_mem_cons.mpr ⟨⟨_, List.mem_cons_self, (vc_X12_hear_u_55 h8869.2.1 h4682.2.1 h4682.2.2.1 h4688 h4694.2.1 h4694.2.2.1 h4698 h8794.2.1 h8794.2.2.1 h8864 ht_f_pre h4689 h4699 h4690 h4687 h4697 h8865 h8871)⟩, (fun _ h => absurd h List.not_mem_nil)⟩)) : mG [((40 * (130 + z8870)), ((40 * (130 + z8870)) + 1))] μ8598 μ8911) (List.forall_mem_cons.mpr ⟨(vc_X12_hear_u_32 h8869.2.1 h4682.2.1 h4682.2.2.1 h4688 h4694.2.1 h4694.2.2.1 h4698 h8794.2.1 h8794.2.2.1 h8864 ht_f_pre h4689 h4699 h4690 h4687 h4697 h8865 h8871), (fun _ h => absurd h List.not_mem_nil)⟩) (vc_X12_hear_u_38 h4682.2.1 h4682.2.2.1 h4688 h4694.2.1 h4694.2.2.1 h4698 h8794.2.1 h8794.2.2.1 h8864 h8869.2.1 h4684 h4696 ht_f_pre h4689 h4699 h4690 h4687 h4697 h8865 h8871) (vc_X12_hear_u_39 h4682.2.1 h4682.2.2.1 h4688 h8869.2.1 h4684 h4694.2.1 h4694.2.2.1 h4698 h8794.2.1 h8794.2.2.1 h8864 ht_f_pre h4689 h4699 h4690 h4687 h4697 h8865 h8871) h8865 (vc_X12_hear_u_40 h4694.2.1 h4694.2.2.1 h4698 h8869.2.1 h4682.2.1 h4682.2.2.1 h4688 h4696 h8794.2.1 h8794.2.2.1 h8864 ht_f_pre h4689 h4699 h4690 h4687 h4697 h8865 h8871))
              refine sv_goto (pc := 162) (tgt := 193) dX12_hear_162 (by decide) ?_
              refine sv_aload_n (pc := 193) dX12_hear_193 rfl rfl ?_
              refine gf_X12_74 (pc := 194) dX12_hear_194 wF_X12_424 (A_106 hw) T8912 ?_
              refine mr_iload (pc := 197) (z := z8870) dX12_hear_197 rfl ?_
              refine sv_aload_n (pc := 199) dX12_hear_199 rfl rfl ?_
              refine gf_X12_71 (pc := 200) dX12_hear_200 wF_X12_591 (A_106 hw) T8912 fun z8924 q8925 h8926 => ?_
              refine ss_154 (pc := 203) dX12_hear_203 (A_154 hw) T8912 (rIx (n := 400) h8871 rfl) h8926 fun μ8927 u8928 T8929 => ?_
              refine mr_iincW (pc := 204) dX12_hear_204 rfl (by decide) fun z8930 h8931 => mr_lvE (lv' := [(3, iv z8930), (6, iv z8870), (5, iv z8795), (0, .ref 106), (1, iv p1), (2, iv p2), (4, iv z8596)]) rfl ?_
              refine sv_aload_n (pc := 207) dX12_hear_207 rfl rfl ?_
              refine sv_aload_n (pc := 208) dX12_hear_208 rfl rfl ?_
              refine gf_X12_7 (pc := 209) dX12_hear_209 wF_X12_40 (A_106 hw) T8929 ?_
              refine mr_iconst (pc := 212) (z := 2) dX12_hear_212 ?_
              refine mr_iload_n (pc := 213) (z := p1) dX12_hear_213 rfl rfl ?_
              refine mr_imul (pc := 214) (x := 2) (y := p1) dX12_hear_214 ?_
              refine mr_iload_n (pc := 215) (z := p2) dX12_hear_215 rfl rfl ?_
              refine mr_iadd (pc := 216) (x := (2 * p1)) (y := p2) dX12_hear_216 ?_
              refine la_110 (pc := 217) dX12_hear_217 (A_110 hw) T8929 (rIx (n := 40) (rAdd (e := 0) (f := 39) (rMulL (n := 2) (e := 0) (f := 38) h4689 rfl) h4699 rfl) rfl) fun z8932 q8933 h8934 => ?_
              refine mr_iload (pc := 218) (z := z8795) dX12_hear_218 rfl ?_
              refine mr_cVV (pc := 220) (c_X12_look_u hw T8929 h8934 h8865 (u8928.f (Or.inl (mAt.ne (A_154 hw) (A_106 hw) rfl)) (F8913.f (A_106 hw) rfl (F8603.f (A_106 hw) rfl q_f_pre))) (vc_X12_hear_u_42 h8794.2.1 h8794.2.2.1 h8864 h8869.2.1 h4682.2.1 h4682.2.2.1 h4688 h4694.2.1 h4694.2.2.1 h4698 ht_f_pre h4689 h4699 h4690 h4687 h4697 h8865 h8871) (JC.keepJ I8605 hw ((mF.up (mF.call mF.refl F8913 rfl) (A_154 hw) u8928 rfl) : mF [126999, 154999] w μ8598 μ8927) rfl) (RP.keep h8917.2.1 hw ((mF.up mF.refl (A_154 hw) u8928 rfl) : mF [154999] w μ8911 μ8927) rfl ((mG.upO mG.refl u8928 rfl) : mG [] μ8911 μ8927) (fun _ h => absurd h List.not_mem_nil)) (EP.keep I8607 hw ((mF.up (mF.call mF.refl F8913 rfl) (A_154 hw) u8928 rfl) : mF [126999, 154999] w μ8598 μ8927) rfl) (G1.keep I8610 hw ((mF.up (mF.call mF.refl F8913 rfl) (A_154 hw) u8928 rfl) : mF [126999, 154999] w μ8598 μ8927) rfl rfl ((mG.upO (mG.call mG.refl h8917.1 (List.forall_mem_cons.mpr ⟨⟨_, List.mem_cons_self, (vc_X12_hear_u_55 h8869.2.1 h4682.2.1 h4682.2.2.1 h4688 h4694.2.1 h4694.2.2.1 h4698 h8794.2.1 h8794.2.2.1 h8864 ht_f_pre h4689 h4699 h4690 h4687 h4697 h8865 h8871)⟩, (fun _ h => absurd h List.not_mem_nil)⟩)) u8928 rfl) : mG [((40 * (130 + z8870)), ((40 * (130 + z8870)) + 1))] μ8598 μ8927) (List.forall_mem_cons.mpr ⟨(vc_X12_hear_u_43 h8869.2.1 h4682.2.1 h4682.2.2.1 h4688 h4694.2.1 h4694.2.2.1 h4698 h8794.2.1 h8794.2.2.1 h8864 ht_f_pre h4689 h4699 h4690 h4687 h4697 h8865 h8871), (fun _ h => absurd h List.not_mem_nil)⟩)) (EV.keep I8611 hw ((mF.up (mF.call mF.refl F8913 rfl) (A_154 hw) u8928 rfl) : mF [126999, 154999] w μ8598 μ8927) rfl) (PK.keep I8612 hw ((mF.up (mF.call mF.refl F8913 rfl) (A_154 hw) u8928 rfl) : mF [126999, 154999] w μ8598 μ8927) rfl)) (gOk _ _ _ _ _) dX12_hear_220 (tX12_look _ _ _ _ _) ⟨wV_X12_look, wL_X12_look⟩ wM_X12_597 (gCX12 _ _ _ _ _) rfl (A_106 hw) rfl ⟨le_t rfl, le_t rfl⟩ ⟨le_t rfl, le_t rfl⟩ rfl (le_t rfl) fun μ8935 T8936 F8937 h8938 => ?_
              have I8939 : UP l D c H0 sa μ8935 := UPg.look (UPg.fr I8923 hw T8929 rfl ((mF.up mF.refl (A_154 hw) u8928 rfl) : mF [154999] w μ8911 μ8927) rfl rfl rfl ((mG.upO mG.refl u8928 rfl) : mG [] μ8911 μ8927) (fun _ h => absurd h List.not_mem_nil)) (fun _ _ h => ⟨h.1.trans ((((((mF.up (mF.call mF.refl F8913 rfl) (A_154 hw) u8928 rfl) : mF [126999, 154999] w μ8598 μ8927).f (A_110 hw) rfl rfl)).symm.trans q8933).trans (vc_X12_doEvent_u_33 h8934)), h.2⟩) h8934 h8865 hw T8929 rfl rfl ((mF.call mF.refl F8937 rfl) : mF [106026, 106027, 106028, 106029, 106030, 106031, 106072, 126999, 151999, 152999, 153999, 155999, 156999, 157999, 158999, 159999, 160999, 161999, 165999] w μ8927 μ8935) rfl rfl rfl ((mG.call mG.refl h8938.1 (List.forall_mem_cons.mpr ⟨⟨_, List.mem_cons_self, vc_X12_look_u_35⟩, (List.forall_mem_cons.mpr ⟨⟨_, (List.mem_cons_of_mem _ List.mem_cons_self), (vc_X12_hear_u_46 h8794.2.1 h8794.2.2.1 h8864 h8869.2.1 h4682.2.1 h4682.2.2.1 h4688 h4694.2.1 h4694.2.2.1 h4698 ht_f_pre h4689 h4699 h4690 h4687 h4697 h8865 h8871 h8934)⟩, (List.forall_mem_cons.mpr ⟨⟨_, (List.mem_cons_of_mem _ (List.mem_cons_of_mem _ List.mem_cons_self)), vc_X12_say_u_34⟩, (fun _ h => absurd h List.not_mem_nil)⟩)⟩)⟩)) : mG [(80, 960), ((40 * (30 + ((10 * z8932) + z8795))), ((40 * (30 + ((10 * z8932) + z8795))) + 40)), (21200, 53200)] μ8927 μ8935) (List.forall_mem_cons.mpr ⟨vc_X12_lookAll_u_14, (List.forall_mem_cons.mpr ⟨(vc_X12_hear_u_49 h8794.2.1 h8794.2.2.1 h8864 h8869.2.1 h4682.2.1 h4682.2.2.1 h4688 h4694.2.1 h4694.2.2.1 h4698 ht_f_pre h4689 h4699 h4690 h4687 h4697 h8865 h8871 h8934), (List.forall_mem_cons.mpr ⟨vc_X12_look_u_55, (fun _ h => absurd h List.not_mem_nil)⟩)⟩)⟩) h8938.2.2.2.2.2.2.2.1 h8938.2.2.2.2.2.2.1
              refine mr_iinc (pc := 223) (lv' := [(4, iv (z8596 + 1)), (3, iv z8930), (6, iv z8870), (5, iv z8795), (0, .ref 106), (1, iv p1), (2, iv p2)]) dX12_hear_223 rfl (by decide) rfl ?_
              refine sv_goto (pc := 226) (tgt := 50) dX12_hear_226 (by decide) ?_
              refine mr_lvS (lv' := [(0, .ref 106), (1, iv p1), (2, iv p2), (3, iv z8930), (4, iv (z8596 + 1))]) (List.forall_mem_cons.mpr ⟨rfl, List.forall_mem_cons.mpr ⟨rfl, List.forall_mem_cons.mpr ⟨rfl, List.forall_mem_cons.mpr ⟨rfl, List.forall_mem_cons.mpr ⟨rfl, fun _ h => absurd h List.not_mem_nil⟩⟩⟩⟩⟩) ?_
              exact ih8614 z8930 (z8596 + 1) μ8935 T8936 (mF.call (mF.up (mF.call (mF.call mF.refl F8603 rfl) F8913 rfl) (A_154 hw) u8928 rfl) F8937 rfl) h8931 (rW (c := 0) (d := 2000) (rAdd (e := 1) (f := 1000) h8909 (rR (x := 1)) rfl) rfl) h8938.2.1 h8938.2.2.1 h8938.2.2.2.1 (HP.keep I8922 hw ((mF.call (mF.up mF.refl (A_154 hw) u8928 rfl) F8937 rfl) : mF [106026, 106027, 106028, 106029, 106030, 106031, 106072, 126999, 151999, 152999, 153999, 154999, 155999, 156999, 157999, 158999, 159999, 160999, 161999, 165999] w μ8911 μ8935) rfl ((mG.call (mG.upO mG.refl u8928 rfl) h8938.1 (List.forall_mem_cons.mpr ⟨⟨_, List.mem_cons_self, vc_X12_look_u_35⟩, (List.forall_mem_cons.mpr ⟨⟨_, (List.mem_cons_of_mem _ List.mem_cons_self), (vc_X12_hear_u_46 h8794.2.1 h8794.2.2.1 h8864 h8869.2.1 h4682.2.1 h4682.2.2.1 h4688 h4694.2.1 h4694.2.2.1 h4698 ht_f_pre h4689 h4699 h4690 h4687 h4697 h8865 h8871 h8934)⟩, (List.forall_mem_cons.mpr ⟨⟨_, (List.mem_cons_of_mem _ (List.mem_cons_of_mem _ List.mem_cons_self)), vc_X12_say_u_34⟩, (fun _ h => absurd h List.not_mem_nil)⟩)⟩)⟩)) : mG [(80, 960), ((40 * (30 + ((10 * z8932) + z8795))), ((40 * (30 + ((10 * z8932) + z8795))) + 40)), (21200, 53200)] μ8911 μ8935) (List.forall_mem_cons.mpr ⟨vc_X12_lookAll_u_14, (List.forall_mem_cons.mpr ⟨(vc_X12_hear_u_49 h8794.2.1 h8794.2.2.1 h8864 h8869.2.1 h4682.2.1 h4682.2.2.1 h4688 h4694.2.1 h4694.2.2.1 h4698 ht_f_pre h4689 h4699 h4690 h4687 h4697 h8865 h8871 h8934), (List.forall_mem_cons.mpr ⟨vc_X12_look_u_55, (fun _ h => absurd h List.not_mem_nil)⟩)⟩)⟩)) I8939 h8938.2.2.2.2.1 h8938.2.2.2.2.2.1 (PK.keep I8612 hw ((mF.call (mF.up (mF.call mF.refl F8913 rfl) (A_154 hw) u8928 rfl) F8937 rfl) : mF [106026, 106027, 106028, 106029, 106030, 106031, 106072, 126999, 151999, 152999, 153999, 154999, 155999, 156999, 157999, 158999, 159999, 160999, 161999, 165999] w μ8598 μ8935) rfl) (vc_X12_hear_u_59 (nS h8613) h8782 h8784 h8872 h8909 h8910 h8620)
            have h8940 : (-99999999) ≤ z8795 ∧ z8795 ≤ (-99999999) := (vc_X12_hear_u_60 h8864 h8794.2.1 h8794.2.2.1 ht_f_pre h8794.1)
            refine sv_goto (pc := 131) (tgt := 223) dX12_hear_131 (by decide) ?_
            refine mr_iinc (pc := 223) (lv' := [(4, iv (z8596 + 1)), (5, iv z8795), (0, .ref 106), (1, iv p1), (2, iv p2), (3, iv z8597)]) dX12_hear_223 rfl (by decide) rfl ?_
            refine sv_goto (pc := 226) (tgt := 50) dX12_hear_226 (by decide) ?_
            refine mr_lvS (lv' := [(0, .ref 106), (1, iv p1), (2, iv p2), (3, iv z8597), (4, iv (z8596 + 1))]) (List.forall_mem_cons.mpr ⟨rfl, List.forall_mem_cons.mpr ⟨rfl, List.forall_mem_cons.mpr ⟨rfl, List.forall_mem_cons.mpr ⟨rfl, List.forall_mem_cons.mpr ⟨rfl, fun _ h => absurd h List.not_mem_nil⟩⟩⟩⟩⟩) ?_
            exact ih8614 z8597 (z8596 + 1) μ8598 T8602 (mF.call mF.refl F8603 rfl) h8600 (rW (c := 0) (d := 2000) (rAdd (e := 1) (f := 2000) h8783 (rR (x := 1)) rfl) rfl) I8605 I8606 I8607 I8608 I8609 I8610 I8611 I8612 (vc_X12_hear_u_51 (nS h8613) h8782 h8784 h8783 h8617 h8620)
          have h8941 : 0 ≤ z8596 ∧ z8596 ≤ 999 := (vc_X12_hear_u_61 h8784 h8782 h8783 h8617 h8620)
          have h8942 : 1 ≤ z8615 ∧ z8615 ≤ 1000 := (vc_X12_hear_u_62 h8784 h8782 h8941 h8617 h8620)
          refine sv_aload_n (pc := 73) dX12_hear_73 rfl rfl ?_
          refine sv_aload_n (pc := 74) dX12_hear_74 rfl rfl ?_
          refine gf_X12_86 (pc := 75) dX12_hear_75 wF_X12_460 (A_106 hw) T8602 ?_
          refine mr_iload (pc := 78) (z := z8596) dX12_hear_78 rfl ?_
          refine la_166 (pc := 80) dX12_hear_80 (A_166 hw) T8602 (rIx (n := 1000) h8941 rfl) fun z8943 q8944 h8945 => ?_
          refine sv_aload_n (pc := 81) dX12_hear_81 rfl rfl ?_
          refine gf_X12_87 (pc := 82) dX12_hear_82 wF_X12_463 (A_106 hw) T8602 ?_
          refine mr_iload (pc := 85) (z := z8596) dX12_hear_85 rfl ?_
          refine la_167 (pc := 87) dX12_hear_87 (A_167 hw) T8602 (rIx (n := 1000) h8941 rfl) fun z8946 q8947 h8948 => ?_
          refine mr_cVP (pc := 88) (c_X12_prefixOf_u hw T8602 h8945 h8948 (F8603.f (A_106 hw) rfl q_f_pre)) (gOk _ _ _ _ _) dX12_hear_88 (tX12_prefixOf _ _ _ _ _) ⟨wV_X12_prefixOf, wL_X12_prefixOf⟩ wM_X12_30 (gCX12 _ _ _ _ _) rfl (A_106 hw) rfl ⟨le_t rfl, le_t rfl⟩ ⟨le_t rfl, le_t rfl⟩ rfl (le_t rfl) fun z8953 h8952 => ?_
          refine sv_goto (pc := 91) (tgt := 122) dX12_hear_91 (by decide) ?_
          refine mr_istore (pc := 122) (lv' := [(5, iv z8953), (0, .ref 106), (1, iv p1), (2, iv p2), (3, iv z8597), (4, iv z8596)]) dX12_hear_122 (by decide) rfl ?_
          refine mr_iload (pc := 124) (z := z8953) dX12_hear_124 rfl ?_
          refine mr_ldc (pc := 126) (z := (-99999999)) dX12_hear_126 wG_X12_29 (by decide) ?_
          refine mr_icmp_ne (pc := 128) (tgt := 134) dX12_hear_128 (by decide) (r32 h8952.1 rfl) (r32 (rR (x := (-99999999))) rfl) (fun h9022 => ?_) (fun h9022 => ?_)
          · have h9023 : 0 ≤ z8953 ∧ z8953 ≤ 9 := (vc_X12_hear_u_18 h9022 h8952.2.1 h8952.2.2.1 ht_f_pre h8952.1)
            refine mr_iload_n (pc := 134) (z := p1) dX12_hear_134 rfl rfl ?_
            refine mr_iload_n (pc := 135) (z := p2) dX12_hear_135 rfl rfl ?_
            refine mr_iload (pc := 136) (z := z8953) dX12_hear_136 rfl ?_
            refine mr_cSP (pc := 138) (c_X12_slot hw T8602 (rW (c := 0) (d := 20) h4689 rfl) (rW (c := 0) (d := 2) h4699 rfl) h9023) (gOk _ _ _ _ _) dX12_hear_138 (tX12_slot _ _ _ _ _) wS_X12_slot wM_X12_545 ⟨le_t rfl, le_t rfl⟩ ⟨le_t rfl, le_t rfl⟩ rfl (le_t rfl) fun z9028 h9027 => ?_
            have h9029 : 0 ≤ z9028 ∧ z9028 ≤ 399 := (vc_X12_hear_u_19 h9027.2.1 h4688 h4694.2.1 h4694.2.2.1 h4698 h8952.2.1 h8952.2.2.1 h9022 ht_f_pre h4689 h4699 h4690 h4697 h9023 h9027.1)
            refine mr_istore (pc := 141) (lv' := [(6, iv z9028), (5, iv z8953), (0, .ref 106), (1, iv p1), (2, iv p2), (3, iv z8597), (4, iv z8596)]) dX12_hear_141 (by decide) rfl ?_
            refine mr_iload (pc := 143) (z := z8596) dX12_hear_143 rfl ?_
            refine sv_aload_n (pc := 145) dX12_hear_145 rfl rfl ?_
            refine gk_X12_88 (pc := 146) dX12_hear_146 wF_X12_625 (A_106 hw) q8616 ?_
            refine mr_icmp_ge (pc := 149) (tgt := 165) dX12_hear_149 (by decide) (r32 h8941 rfl) (r32 h8942 rfl) (fun h9030 => ?_) (fun h9030 => ?_)
            · have h9031 : 1 ≤ z8596 ∧ z8596 ≤ 999 := (vc_X12_hear_u_65 h9030 h8782 h8784 h8941 h8942 h8620)
              have h9032 : 1 ≤ z8615 ∧ z8615 ≤ 999 := (vc_X12_hear_u_66 h9030 h8782 h8784 h9031 h8942 h8620)
              refine sv_aload_n (pc := 165) dX12_hear_165 rfl rfl ?_
              refine mr_bipush (pc := 166) (z := 24) dX12_hear_166 (by decide) ?_
              refine mr_sipush (pc := 168) (z := 130) dX12_hear_168 (by decide) ?_
              refine mr_iload (pc := 171) (z := z9028) dX12_hear_171 rfl ?_
              refine mr_iadd (pc := 173) (x := 130) (y := z9028) dX12_hear_173 ?_
              obtain ⟨z9033, q9034⟩ : ∃ z, μ8598 126 (((40 * 24) : Int).toNat) = z := ⟨_, rfl⟩
              have h9035 := rt7 T8602 (A_126 hw) vc_X12_hear_u_20 q9034
              have h9036 : (-1) ≤ z9033 ∧ z9033 ≤ 9 := h9035.2.1 vc_X12_hear_u_21
              refine mr_cVV (pc := 174) (c_X12_copy_u hw T8602 (rW (c := 0) (d := 2099) (rR (x := 24)) rfl) (rW (c := 0) (d := 2099) (rAdd (e := 130) (f := 529) (rR (x := 130)) h9029 rfl) rfl) q9034 (F8603.f (A_106 hw) rfl q_f_pre) (vc_X12_hear_u_22 h9027.2.1 h4682.2.1 h4682.2.2.1 h4688 h4694.2.1 h4694.2.2.1 h4698 h8952.2.1 h8952.2.2.1 h9022 ht_f_pre h4689 h4699 h4690 h4687 h4697 h9023 h9029) vc_X12_hear_u_23 (vc_X12_hear_u_24 h9027.2.1 h4682.2.1 h4682.2.2.1 h4688 h4694.2.1 h4694.2.2.1 h4698 h8952.2.1 h8952.2.2.1 h9022 ht_f_pre h4689 h4699 h4690 h4687 h4697 h9023 h9029) (vc_X12_hear_u_25 h8952.2.2.1 h8952.2.1 h9022 h9027.2.1 ht_f_pre h4689 h4699 h9023 h9029) I8606) (gOk _ _ _ _ _) dX12_hear_174 (tX12_copy _ _ _ _ _) ⟨wV_X12_copy, wL_X12_copy⟩ wM_X12_559 (gCX12 _ _ _ _ _) rfl (A_106 hw) rfl ⟨le_t rfl, le_t rfl⟩ ⟨le_t rfl, le_t rfl⟩ rfl (le_t rfl) fun μ9037 T9038 F9039 h9040 => ?_
              obtain ⟨z9041, q9042, h9043⟩ := h9040
              have h9044 := rt7 T9038 (A_126 hw) (vc_X12_hear_u_26 h9027.2.1 h4682.2.1 h4682.2.2.1 h4688 h4694.2.1 h4694.2.2.1 h4698 h8952.2.1 h8952.2.2.1 h9022 ht_f_pre h4689 h4699 h4690 h4687 h4697 h9023 h9029) q9042
              have h9045 : (-1) ≤ z9041 ∧ z9041 ≤ 9 := h9044.2.1 (vc_X12_hear_u_27 h9027.2.1 h4682.2.1 h4682.2.2.1 h4688 h4694.2.1 h4694.2.2.1 h4698 h8952.2.1 h8952.2.2.1 h9022 ht_f_pre h4689 h4699 h4690 h4687 h4697 h9023 h9029)
              have q9046 : μ9037 126 ((40 * (130 + z9028)).toNat) = z9033 := q9042.trans h9043.2.2.1
              refine sv_aload_n (pc := 177) dX12_hear_177 rfl rfl ?_
              refine gf_X12_32 (pc := 178) dX12_hear_178 wF_X12_148 (A_106 hw) T9038 ?_
              refine mr_bipush (pc := 181) (z := 40) dX12_hear_181 (by decide) ?_
              refine mr_sipush (pc := 183) (z := 130) dX12_hear_183 (by decide) ?_
              refine mr_iload (pc := 186) (z := z9028) dX12_hear_186 rfl ?_
              refine mr_iadd (pc := 188) (x := 130) (y := z9028) dX12_hear_188 ?_
              refine mr_imul (pc := 189) (x := 40) (y := (130 + z9028)) dX12_hear_189 ?_
              refine mr_iload (pc := 190) (z := z8953) dX12_hear_190 rfl ?_
              refine ss_126 (pc := 192) dX12_hear_192 (A_126 hw) T9038 (rIx (n := 84000) (rMulL (n := 40) (e := 5200) (f := 21160) (rAdd (e := 130) (f := 529) (rR (x := 130)) h9029 rfl) rfl) rfl) (vc_X12_hear_u_28 h8952.2.1 h8952.2.2.1 h9022 h9027.2.1 h4682.2.1 h4682.2.2.1 h4688 h4694.2.1 h4694.2.2.1 h4698 ht_f_pre h4689 h4699 h4690 h4687 h4697 h9023 h9029) fun μ9047 u9048 T9049 => ?_
              have I9050 : RP μ9047 := RP.up h9043.2.1 u9048 (u9048.f (Or.inl (mAt.ne (A_126 hw) (A_106 hw) rfl)) (F9039.f (A_106 hw) rfl (F8603.f (A_106 hw) rfl q_f_pre))) (vc_X12_hear_u_26 h9027.2.1 h4682.2.1 h4682.2.2.1 h4688 h4694.2.1 h4694.2.2.1 h4698 h8952.2.1 h8952.2.2.1 h9022 ht_f_pre h4689 h4699 h4690 h4687 h4697 h9023 h9029) (vc_X12_hear_u_29 h8952.2.1 h8952.2.2.1 h9022 h9027.2.1 h4682.2.1 h4682.2.2.1 h4688 h4694.2.1 h4694.2.2.1 h4698 ht_f_pre h4689 h4699 h4690 h4687 h4697 h9023 h9029)
              have I9051 : HP μ9047 := HP.row I8608 hw ((mF.up (mF.call mF.refl F9039 rfl) (A_126 hw) u9048 rfl) : mF [126999] w μ8598 μ9047) rfl ((mG.up (mG.call mG.refl h9043.1 (List.forall_mem_cons.mpr ⟨⟨_, List.mem_cons_self, (vc_X12_hear_u_30 h9027.2.1 h4682.2.1 h4682.2.2.1 h4688 h4694.2.1 h4694.2.2.1 h4698 h8952.2.1 h8952.2.2.1 h9022 ht_f_pre h4689 h4699 h4690 h4687 h4697 h9023 h9029)⟩, (fun _ h => absurd h List.not_mem_nil)⟩)) u9048 List.mem_cons_self (vc_X12_hear_u_31 h9027.2.1 h4682.2.1 h4682.2.2.1 h4688 h4694.2.1 h4694.2.2.1 h4698 h8952.2.1 h8952.2.2.1 h9022 ht_f_pre h4689 h4699 h4690 h4687 h4697 h9023 h9029)) : mG [((40 * (130 + z9028)), ((40 * (130 + z9028)) + 40)), ((40 * (130 + z9028)), ((40 * (130 + z9028)) + 1))] μ8598 μ9047) (List.forall_mem_cons.mpr ⟨(vc_X12_hear_u_33 h9027.2.1 h4682.2.1 h4682.2.2.1 h4688 h4694.2.1 h4694.2.2.1 h4698 h8952.2.1 h8952.2.2.1 h9022 ht_f_pre h4689 h4699 h4690 h4687 h4697 h9023 h9029), (List.forall_mem_cons.mpr ⟨(vc_X12_hear_u_32 h9027.2.1 h4682.2.1 h4682.2.2.1 h4688 h4694.2.1 h4694.2.2.1 h4698 h8952.2.1 h8952.2.2.1 h9022 ht_f_pre h4689 h4699 h4690 h4687 h4697 h9023 h9029), (fun _ h => absurd h List.not_mem_nil)⟩)⟩) (((((mF.up (mF.call mF.refl F9039 rfl) (A_126 hw) u9048 rfl) : mF [126999] w μ8598 μ9047).f (A_106 hw) rfl rfl)).symm.trans (u9048.f (Or.inl (mAt.ne (A_126 hw) (A_106 hw) rfl)) (F9039.f (A_106 hw) rfl (F8603.f (A_106 hw) rfl q4677)))) (vc_X12_hear_u_34 h4682.2.1 h4682.2.2.1 h4688 h9027.2.1 h4684 h4694.2.1 h4694.2.2.1 h4698 h8952.2.1 h8952.2.2.1 h9022 ht_f_pre h4689 h4699 h4690 h4687 h4697 h9023 h9029) (((((mF.up (mF.call mF.refl F9039 rfl) (A_126 hw) u9048 rfl) : mF [126999] w μ8598 μ9047).f (A_106 hw) rfl rfl)).symm.trans (u9048.f (Or.inl (mAt.ne (A_126 hw) (A_106 hw) rfl)) (F9039.f (A_106 hw) rfl (F8603.f (A_106 hw) rfl q_f_pre)))) (vc_X12_hear_u_35 h8952.2.2.1 h9027.2.1 h4682.2.1 h4682.2.2.1 h4688 h4694.2.1 h4694.2.2.1 h4698 h8952.2.1 h9022 ht_f_pre h4689 h4699 h4690 h4687 h4697 h9023 h9029) (vc_X12_hear_u_36 h4682.2.1 h4682.2.2.1 h4688 h9027.2.1 h4684 h4694.2.1 h4694.2.2.1 h4698 h8952.2.1 h8952.2.2.1 h9022 ht_f_pre h4689 h4699 h4690 h4687 h4697 h9023 h9029) (((((mF.up (mF.call mF.refl F9039 rfl) (A_126 hw) u9048 rfl) : mF [126999] w μ8598 μ9047).f (A_112 hw) rfl rfl)).symm.trans (u9048.f (Or.inl (mAt.ne (A_126 hw) (A_112 hw) rfl)) (F9039.f (A_112 hw) rfl (F8603.f (A_112 hw) rfl q4713)))) (vc_X12_raise_u_7 h4715 h4716)
              have I9052 : UPg l D c H0 sa μ9047 (fun d' p' => d' = μ8598 110 (2 * p1 + p2).toNat ∧ p' = z8953) := (UP.hear I8609 hw T8602 rfl ((mF.up (mF.call mF.refl F9039 rfl) (A_126 hw) u9048 rfl) : mF [126999] w μ8598 μ9047) rfl rfl rfl ((mG.up (mG.call mG.refl h9043.1 (List.forall_mem_cons.mpr ⟨⟨_, List.mem_cons_self, (vc_X12_hear_u_30 h9027.2.1 h4682.2.1 h4682.2.2.1 h4688 h4694.2.1 h4694.2.2.1 h4698 h8952.2.1 h8952.2.2.1 h9022 ht_f_pre h4689 h4699 h4690 h4687 h4697 h9023 h9029)⟩, (fun _ h => absurd h List.not_mem_nil)⟩)) u9048 List.mem_cons_self (vc_X12_hear_u_31 h9027.2.1 h4682.2.1 h4682.2.2.1 h4688 h4694.2.1 h4694.2.2.1 h4698 h8952.2.1 h8952.2.2.1 h9022 ht_f_pre h4689 h4699 h4690 h4687 h4697 h9023 h9029)) : mG [((40 * (130 + z9028)), ((40 * (130 + z9028)) + 40)), ((40 * (130 + z9028)), ((40 * (130 + z9028)) + 1))] μ8598 μ9047) (List.forall_mem_cons.mpr ⟨(vc_X12_hear_u_33 h9027.2.1 h4682.2.1 h4682.2.2.1 h4688 h4694.2.1 h4694.2.2.1 h4698 h8952.2.1 h8952.2.2.1 h9022 ht_f_pre h4689 h4699 h4690 h4687 h4697 h9023 h9029), (List.forall_mem_cons.mpr ⟨(vc_X12_hear_u_32 h9027.2.1 h4682.2.1 h4682.2.2.1 h4688 h4694.2.1 h4694.2.2.1 h4698 h8952.2.1 h8952.2.2.1 h9022 ht_f_pre h4689 h4699 h4690 h4687 h4697 h9023 h9029), (fun _ h => absurd h List.not_mem_nil)⟩)⟩) (vc_X12_hear_u_38 h4682.2.1 h4682.2.2.1 h4688 h4694.2.1 h4694.2.2.1 h4698 h8952.2.1 h8952.2.2.1 h9022 h9027.2.1 h4684 h4696 ht_f_pre h4689 h4699 h4690 h4687 h4697 h9023 h9029) (vc_X12_hear_u_39 h4682.2.1 h4682.2.2.1 h4688 h9027.2.1 h4684 h4694.2.1 h4694.2.2.1 h4698 h8952.2.1 h8952.2.2.1 h9022 ht_f_pre h4689 h4699 h4690 h4687 h4697 h9023 h9029) h9023 (vc_X12_hear_u_40 h4694.2.1 h4694.2.2.1 h4698 h9027.2.1 h4682.2.1 h4682.2.2.1 h4688 h4696 h8952.2.1 h8952.2.2.1 h9022 ht_f_pre h4689 h4699 h4690 h4687 h4697 h9023 h9029))
              refine sv_aload_n (pc := 193) dX12_hear_193 rfl rfl ?_
              refine gf_X12_74 (pc := 194) dX12_hear_194 wF_X12_424 (A_106 hw) T9049 ?_
              refine mr_iload (pc := 197) (z := z9028) dX12_hear_197 rfl ?_
              refine sv_aload_n (pc := 199) dX12_hear_199 rfl rfl ?_
              refine gf_X12_71 (pc := 200) dX12_hear_200 wF_X12_591 (A_106 hw) T9049 fun z9053 q9054 h9055 => ?_
              refine ss_154 (pc := 203) dX12_hear_203 (A_154 hw) T9049 (rIx (n := 400) h9029 rfl) h9055 fun μ9056 u9057 T9058 => ?_
              refine mr_iincW (pc := 204) dX12_hear_204 rfl (by decide) fun z9059 h9060 => mr_lvE (lv' := [(3, iv z9059), (6, iv z9028), (5, iv z8953), (0, .ref 106), (1, iv p1), (2, iv p2), (4, iv z8596)]) rfl ?_
              refine sv_aload_n (pc := 207) dX12_hear_207 rfl rfl ?_
              refine sv_aload_n (pc := 208) dX12_hear_208 rfl rfl ?_
              refine gf_X12_7 (pc := 209) dX12_hear_209 wF_X12_40 (A_106 hw) T9058 ?_
              refine mr_iconst (pc := 212) (z := 2) dX12_hear_212 ?_
              refine mr_iload_n (pc := 213) (z := p1) dX12_hear_213 rfl rfl ?_
              refine mr_imul (pc := 214) (x := 2) (y := p1) dX12_hear_214 ?_
              refine mr_iload_n (pc := 215) (z := p2) dX12_hear_215 rfl rfl ?_
              refine mr_iadd (pc := 216) (x := (2 * p1)) (y := p2) dX12_hear_216 ?_
              refine la_110 (pc := 217) dX12_hear_217 (A_110 hw) T9058 (rIx (n := 40) (rAdd (e := 0) (f := 39) (rMulL (n := 2) (e := 0) (f := 38) h4689 rfl) h4699 rfl) rfl) fun z9061 q9062 h9063 => ?_
              refine mr_iload (pc := 218) (z := z8953) dX12_hear_218 rfl ?_
              refine mr_cVV (pc := 220) (c_X12_look_u hw T9058 h9063 h9023 (u9057.f (Or.inl (mAt.ne (A_154 hw) (A_106 hw) rfl)) (u9048.f (Or.inl (mAt.ne (A_126 hw) (A_106 hw) rfl)) (F9039.f (A_106 hw) rfl (F8603.f (A_106 hw) rfl q_f_pre)))) (vc_X12_hear_u_42 h8952.2.1 h8952.2.2.1 h9022 h9027.2.1 h4682.2.1 h4682.2.2.1 h4688 h4694.2.1 h4694.2.2.1 h4698 ht_f_pre h4689 h4699 h4690 h4687 h4697 h9023 h9029) (JC.keepJ I8605 hw ((mF.up (mF.up (mF.call mF.refl F9039 rfl) (A_126 hw) u9048 rfl) (A_154 hw) u9057 rfl) : mF [126999, 154999] w μ8598 μ9056) rfl) (RP.keep I9050 hw ((mF.up mF.refl (A_154 hw) u9057 rfl) : mF [154999] w μ9047 μ9056) rfl ((mG.upO mG.refl u9057 rfl) : mG [] μ9047 μ9056) (fun _ h => absurd h List.not_mem_nil)) (EP.keep I8607 hw ((mF.up (mF.up (mF.call mF.refl F9039 rfl) (A_126 hw) u9048 rfl) (A_154 hw) u9057 rfl) : mF [126999, 154999] w μ8598 μ9056) rfl) (G1.keep I8610 hw ((mF.up (mF.up (mF.call mF.refl F9039 rfl) (A_126 hw) u9048 rfl) (A_154 hw) u9057 rfl) : mF [126999, 154999] w μ8598 μ9056) rfl rfl ((mG.upO (mG.up (mG.call mG.refl h9043.1 (List.forall_mem_cons.mpr ⟨⟨_, List.mem_cons_self, (vc_X12_hear_u_30 h9027.2.1 h4682.2.1 h4682.2.2.1 h4688 h4694.2.1 h4694.2.2.1 h4698 h8952.2.1 h8952.2.2.1 h9022 ht_f_pre h4689 h4699 h4690 h4687 h4697 h9023 h9029)⟩, (fun _ h => absurd h List.not_mem_nil)⟩)) u9048 List.mem_cons_self (vc_X12_hear_u_31 h9027.2.1 h4682.2.1 h4682.2.2.1 h4688 h4694.2.1 h4694.2.2.1 h4698 h8952.2.1 h8952.2.2.1 h9022 ht_f_pre h4689 h4699 h4690 h4687 h4697 h9023 h9029)) u9057 rfl) : mG [((40 * (130 + z9028)), ((40 * (130 + z9028)) + 40)), ((40 * (130 + z9028)), ((40 * (130 + z9028)) + 1))] μ8598 μ9056) (List.forall_mem_cons.mpr ⟨(vc_X12_hear_u_44 h9027.2.1 h4682.2.1 h4682.2.2.1 h4688 h4694.2.1 h4694.2.2.1 h4698 h8952.2.1 h8952.2.2.1 h9022 ht_f_pre h4689 h4699 h4690 h4687 h4697 h9023 h9029), (List.forall_mem_cons.mpr ⟨(vc_X12_hear_u_43 h9027.2.1 h4682.2.1 h4682.2.2.1 h4688 h4694.2.1 h4694.2.2.1 h4698 h8952.2.1 h8952.2.2.1 h9022 ht_f_pre h4689 h4699 h4690 h4687 h4697 h9023 h9029), (fun _ h => absurd h List.not_mem_nil)⟩)⟩)) (EV.keep I8611 hw ((mF.up (mF.up (mF.call mF.refl F9039 rfl) (A_126 hw) u9048 rfl) (A_154 hw) u9057 rfl) : mF [126999, 154999] w μ8598 μ9056) rfl) (PK.keep I8612 hw ((mF.up (mF.up (mF.call mF.refl F9039 rfl) (A_126 hw) u9048 rfl) (A_154 hw) u9057 rfl) : mF [126999, 154999] w μ8598 μ9056) rfl)) (gOk _ _ _ _ _) dX12_hear_220 (tX12_look _ _ _ _ _) ⟨wV_X12_look, wL_X12_look⟩ wM_X12_597 (gCX12 _ _ _ _ _) rfl (A_106 hw) rfl ⟨le_t rfl, le_t rfl⟩ ⟨le_t rfl, le_t rfl⟩ rfl (le_t rfl) fun μ9064 T9065 F9066 h9067 => ?_
              have I9068 : UP l D c H0 sa μ9064 := UPg.look (UPg.fr I9052 hw T9058 rfl ((mF.up mF.refl (A_154 hw) u9057 rfl) : mF [154999] w μ9047 μ9056) rfl rfl rfl ((mG.upO mG.refl u9057 rfl) : mG [] μ9047 μ9056) (fun _ h => absurd h List.not_mem_nil)) (fun _ _ h => ⟨h.1.trans ((((((mF.up (mF.up (mF.call mF.refl F9039 rfl) (A_126 hw) u9048 rfl) (A_154 hw) u9057 rfl) : mF [126999, 154999] w μ8598 μ9056).f (A_110 hw) rfl rfl)).symm.trans q9062).trans (vc_X12_doEvent_u_33 h9063)), h.2⟩) h9063 h9023 hw T9058 rfl rfl ((mF.call mF.refl F9066 rfl) : mF [106026, 106027, 106028, 106029, 106030, 106031, 106072, 126999, 151999, 152999, 153999, 155999, 156999, 157999, 158999, 159999, 160999, 161999, 165999] w μ9056 μ9064) rfl rfl rfl ((mG.call mG.refl h9067.1 (List.forall_mem_cons.mpr ⟨⟨_, List.mem_cons_self, vc_X12_look_u_35⟩, (List.forall_mem_cons.mpr ⟨⟨_, (List.mem_cons_of_mem _ List.mem_cons_self), (vc_X12_hear_u_46 h8952.2.1 h8952.2.2.1 h9022 h9027.2.1 h4682.2.1 h4682.2.2.1 h4688 h4694.2.1 h4694.2.2.1 h4698 ht_f_pre h4689 h4699 h4690 h4687 h4697 h9023 h9029 h9063)⟩, (List.forall_mem_cons.mpr ⟨⟨_, (List.mem_cons_of_mem _ (List.mem_cons_of_mem _ List.mem_cons_self)), vc_X12_say_u_34⟩, (fun _ h => absurd h List.not_mem_nil)⟩)⟩)⟩)) : mG [(80, 960), ((40 * (30 + ((10 * z9061) + z8953))), ((40 * (30 + ((10 * z9061) + z8953))) + 40)), (21200, 53200)] μ9056 μ9064) (List.forall_mem_cons.mpr ⟨vc_X12_lookAll_u_14, (List.forall_mem_cons.mpr ⟨(vc_X12_hear_u_49 h8952.2.1 h8952.2.2.1 h9022 h9027.2.1 h4682.2.1 h4682.2.2.1 h4688 h4694.2.1 h4694.2.2.1 h4698 ht_f_pre h4689 h4699 h4690 h4687 h4697 h9023 h9029 h9063), (List.forall_mem_cons.mpr ⟨vc_X12_look_u_55, (fun _ h => absurd h List.not_mem_nil)⟩)⟩)⟩) h9067.2.2.2.2.2.2.2.1 h9067.2.2.2.2.2.2.1
              refine mr_iinc (pc := 223) (lv' := [(4, iv (z8596 + 1)), (3, iv z9059), (6, iv z9028), (5, iv z8953), (0, .ref 106), (1, iv p1), (2, iv p2)]) dX12_hear_223 rfl (by decide) rfl ?_
              refine sv_goto (pc := 226) (tgt := 50) dX12_hear_226 (by decide) ?_
              refine mr_lvS (lv' := [(0, .ref 106), (1, iv p1), (2, iv p2), (3, iv z9059), (4, iv (z8596 + 1))]) (List.forall_mem_cons.mpr ⟨rfl, List.forall_mem_cons.mpr ⟨rfl, List.forall_mem_cons.mpr ⟨rfl, List.forall_mem_cons.mpr ⟨rfl, List.forall_mem_cons.mpr ⟨rfl, fun _ h => absurd h List.not_mem_nil⟩⟩⟩⟩⟩) ?_
              exact ih8614 z9059 (z8596 + 1) μ9064 T9065 (mF.call (mF.up (mF.up (mF.call (mF.call mF.refl F8603 rfl) F9039 rfl) (A_126 hw) u9048 rfl) (A_154 hw) u9057 rfl) F9066 rfl) h9060 (rW (c := 0) (d := 2000) (rAdd (e := 2) (f := 1000) h9031 (rR (x := 1)) rfl) rfl) h9067.2.1 h9067.2.2.1 h9067.2.2.2.1 (HP.keep I9051 hw ((mF.call (mF.up mF.refl (A_154 hw) u9057 rfl) F9066 rfl) : mF [106026, 106027, 106028, 106029, 106030, 106031, 106072, 126999, 151999, 152999, 153999, 154999, 155999, 156999, 157999, 158999, 159999, 160999, 161999, 165999] w μ9047 μ9064) rfl ((mG.call (mG.upO mG.refl u9057 rfl) h9067.1 (List.forall_mem_cons.mpr ⟨⟨_, List.mem_cons_self, vc_X12_look_u_35⟩, (List.forall_mem_cons.mpr ⟨⟨_, (List.mem_cons_of_mem _ List.mem_cons_self), (vc_X12_hear_u_46 h8952.2.1 h8952.2.2.1 h9022 h9027.2.1 h4682.2.1 h4682.2.2.1 h4688 h4694.2.1 h4694.2.2.1 h4698 ht_f_pre h4689 h4699 h4690 h4687 h4697 h9023 h9029 h9063)⟩, (List.forall_mem_cons.mpr ⟨⟨_, (List.mem_cons_of_mem _ (List.mem_cons_of_mem _ List.mem_cons_self)), vc_X12_say_u_34⟩, (fun _ h => absurd h List.not_mem_nil)⟩)⟩)⟩)) : mG [(80, 960), ((40 * (30 + ((10 * z9061) + z8953))), ((40 * (30 + ((10 * z9061) + z8953))) + 40)), (21200, 53200)] μ9047 μ9064) (List.forall_mem_cons.mpr ⟨vc_X12_lookAll_u_14, (List.forall_mem_cons.mpr ⟨(vc_X12_hear_u_49 h8952.2.1 h8952.2.2.1 h9022 h9027.2.1 h4682.2.1 h4682.2.2.1 h4688 h4694.2.1 h4694.2.2.1 h4698 ht_f_pre h4689 h4699 h4690 h4687 h4697 h9023 h9029 h9063), (List.forall_mem_cons.mpr ⟨vc_X12_look_u_55, (fun _ h => absurd h List.not_mem_nil)⟩)⟩)⟩)) I9068 h9067.2.2.2.2.1 h9067.2.2.2.2.2.1 (PK.keep I8612 hw ((mF.call (mF.up (mF.up (mF.call mF.refl F9039 rfl) (A_126 hw) u9048 rfl) (A_154 hw) u9057 rfl) F9066 rfl) : mF [106026, 106027, 106028, 106029, 106030, 106031, 106072, 126999, 151999, 152999, 153999, 154999, 155999, 156999, 157999, 158999, 159999, 160999, 161999, 165999] w μ8598 μ9064) rfl) (vc_X12_hear_u_90 (nS h8613) h8782 h8784 h9030 h9031 h9032 h8620)
            refine sv_aload_n (pc := 152) dX12_hear_152 rfl rfl ?_
            refine mr_sipush (pc := 153) (z := 130) dX12_hear_153 (by decide) ?_
            refine mr_iload (pc := 156) (z := z9028) dX12_hear_156 rfl ?_
            refine mr_iadd (pc := 158) (x := 130) (y := z9028) dX12_hear_158 ?_
            refine mr_cVV (pc := 159) (c_X12_nothing_u hw T8602 (rW (c := 0) (d := 2099) (rAdd (e := 130) (f := 529) (rR (x := 130)) h9029 rfl) rfl) I8606) (gOk _ _ _ _ _) dX12_hear_159 (tX12_nothing _ _ _ _ _) ⟨wV_X12_nothing, wL_X12_nothing⟩ wM_X12_539 (gCX12 _ _ _ _ _) rfl (A_106 hw) rfl ⟨le_t rfl, le_t rfl⟩ ⟨le_t rfl, le_t rfl⟩ rfl (le_t rfl) fun μ9069 T9070 F9071 h9072 => ?_
            obtain ⟨z9073, q9074, h9075⟩ := h9072
            have h9076 := rt7 T9070 (A_126 hw) (vc_X12_hear_u_26 h9027.2.1 h4682.2.1 h4682.2.2.1 h4688 h4694.2.1 h4694.2.2.1 h4698 h8952.2.1 h8952.2.2.1 h9022 ht_f_pre h4689 h4699 h4690 h4687 h4697 h9023 h9029) q9074
            have h9077 : (-1) ≤ z9073 ∧ z9073 ≤ 9 := h9076.2.1 (vc_X12_hear_u_27 h9027.2.1 h4682.2.1 h4682.2.2.1 h4688 h4694.2.1 h4694.2.2.1 h4698 h8952.2.1 h8952.2.2.1 h9022 ht_f_pre h4689 h4699 h4690 h4687 h4697 h9023 h9029)
            have q9078 : μ9069 126 ((40 * (130 + z9028)).toNat) = (-1) := q9074.trans h9075.2.2.1
            have h9079 : (-1) ≤ z9073 ∧ z9073 ≤ (-1) := (vc_X12_candidate_4 h9075.2.2.1 h9077)
            have I9080 : HP μ9069 := HP.row I8608 hw ((mF.call mF.refl F9071 rfl) : mF [126999] w μ8598 μ9069) rfl ((mG.call mG.refl h9075.1 (List.forall_mem_cons.mpr ⟨⟨_, List.mem_cons_self, (vc_X12_hear_u_55 h9027.2.1 h4682.2.1 h4682.2.2.1 h4688 h4694.2.1 h4694.2.2.1 h4698 h8952.2.1 h8952.2.2.1 h9022 ht_f_pre h4689 h4699 h4690 h4687 h4697 h9023 h9029)⟩, (fun _ h => absurd h List.not_mem_nil)⟩)) : mG [((40 * (130 + z9028)), ((40 * (130 + z9028)) + 1))] μ8598 μ9069) (List.forall_mem_cons.mpr ⟨(vc_X12_hear_u_32 h9027.2.1 h4682.2.1 h4682.2.2.1 h4688 h4694.2.1 h4694.2.2.1 h4698 h8952.2.1 h8952.2.2.1 h9022 ht_f_pre h4689 h4699 h4690 h4687 h4697 h9023 h9029), (fun _ h => absurd h List.not_mem_nil)⟩) (((((mF.call mF.refl F9071 rfl) : mF [126999] w μ8598 μ9069).f (A_106 hw) rfl rfl)).symm.trans (F9071.f (A_106 hw) rfl (F8603.f (A_106 hw) rfl q4677))) (vc_X12_hear_u_34 h4682.2.1 h4682.2.2.1 h4688 h9027.2.1 h4684 h4694.2.1 h4694.2.2.1 h4698 h8952.2.1 h8952.2.2.1 h9022 ht_f_pre h4689 h4699 h4690 h4687 h4697 h9023 h9029) (((((mF.call mF.refl F9071 rfl) : mF [126999] w μ8598 μ9069).f (A_106 hw) rfl rfl)).symm.trans (F9071.f (A_106 hw) rfl (F8603.f (A_106 hw) rfl q_f_pre))) (vc_X12_hear_u_35 h8952.2.2.1 h9027.2.1 h4682.2.1 h4682.2.2.1 h4688 h4694.2.1 h4694.2.2.1 h4698 h8952.2.1 h9022 ht_f_pre h4689 h4699 h4690 h4687 h4697 h9023 h9029) (vc_X12_hear_u_36 h4682.2.1 h4682.2.2.1 h4688 h9027.2.1 h4684 h4694.2.1 h4694.2.2.1 h4698 h8952.2.1 h8952.2.2.1 h9022 ht_f_pre h4689 h4699 h4690 h4687 h4697 h9023 h9029) (((((mF.call mF.refl F9071 rfl) : mF [126999] w μ8598 μ9069).f (A_112 hw) rfl rfl)).symm.trans (F9071.f (A_112 hw) rfl (F8603.f (A_112 hw) rfl q4713))) (vc_X12_raise_u_7 h4715 h4716)
            have I9081 : UPg l D c H0 sa μ9069 (fun d' p' => d' = μ8598 110 (2 * p1 + p2).toNat ∧ p' = z8953) := (UP.hear I8609 hw T8602 rfl ((mF.call mF.refl F9071 rfl) : mF [126999] w μ8598 μ9069) rfl rfl rfl ((mG.call mG.refl h9075.1 (List.forall_mem_cons.mpr ⟨⟨_, List.mem_cons_self, (vc_X12_hear_u_55 h9027.2.1 h4682.2.1 h4682.2.2.1 h4688 h4694.2.1 h4694.2.2.1 h4698 h8952.2.1 h8952.2.2.1 h9022 ht_f_pre h4689 h4699 h4690 h4687 h4697 h9023 h9029)⟩, (fun _ h => absurd h List.not_mem_nil)⟩)) : mG [((40 * (130 + z9028)), ((40 * (130 + z9028)) + 1))] μ8598 μ9069) (List.forall_mem_cons.mpr ⟨(vc_X12_hear_u_32 h9027.2.1 h4682.2.1 h4682.2.2.1 h4688 h4694.2.1 h4694.2.2.1 h4698 h8952.2.1 h8952.2.2.1 h9022 ht_f_pre h4689 h4699 h4690 h4687 h4697 h9023 h9029), (fun _ h => absurd h List.not_mem_nil)⟩) (vc_X12_hear_u_38 h4682.2.1 h4682.2.2.1 h4688 h4694.2.1 h4694.2.2.1 h4698 h8952.2.1 h8952.2.2.1 h9022 h9027.2.1 h4684 h4696 ht_f_pre h4689 h4699 h4690 h4687 h4697 h9023 h9029) (vc_X12_hear_u_39 h4682.2.1 h4682.2.2.1 h4688 h9027.2.1 h4684 h4694.2.1 h4694.2.2.1 h4698 h8952.2.1 h8952.2.2.1 h9022 ht_f_pre h4689 h4699 h4690 h4687 h4697 h9023 h9029) h9023 (vc_X12_hear_u_40 h4694.2.1 h4694.2.2.1 h4698 h9027.2.1 h4682.2.1 h4682.2.2.1 h4688 h4696 h8952.2.1 h8952.2.2.1 h9022 ht_f_pre h4689 h4699 h4690 h4687 h4697 h9023 h9029))
            refine sv_goto (pc := 162) (tgt := 193) dX12_hear_162 (by decide) ?_
            refine sv_aload_n (pc := 193) dX12_hear_193 rfl rfl ?_
            refine gf_X12_74 (pc := 194) dX12_hear_194 wF_X12_424 (A_106 hw) T9070 ?_
            refine mr_iload (pc := 197) (z := z9028) dX12_hear_197 rfl ?_
            refine sv_aload_n (pc := 199) dX12_hear_199 rfl rfl ?_
            refine gf_X12_71 (pc := 200) dX12_hear_200 wF_X12_591 (A_106 hw) T9070 fun z9082 q9083 h9084 => ?_
            refine ss_154 (pc := 203) dX12_hear_203 (A_154 hw) T9070 (rIx (n := 400) h9029 rfl) h9084 fun μ9085 u9086 T9087 => ?_
            refine mr_iincW (pc := 204) dX12_hear_204 rfl (by decide) fun z9088 h9089 => mr_lvE (lv' := [(3, iv z9088), (6, iv z9028), (5, iv z8953), (0, .ref 106), (1, iv p1), (2, iv p2), (4, iv z8596)]) rfl ?_
            refine sv_aload_n (pc := 207) dX12_hear_207 rfl rfl ?_
            refine sv_aload_n (pc := 208) dX12_hear_208 rfl rfl ?_
            refine gf_X12_7 (pc := 209) dX12_hear_209 wF_X12_40 (A_106 hw) T9087 ?_
            refine mr_iconst (pc := 212) (z := 2) dX12_hear_212 ?_
            refine mr_iload_n (pc := 213) (z := p1) dX12_hear_213 rfl rfl ?_
            refine mr_imul (pc := 214) (x := 2) (y := p1) dX12_hear_214 ?_
            refine mr_iload_n (pc := 215) (z := p2) dX12_hear_215 rfl rfl ?_
            refine mr_iadd (pc := 216) (x := (2 * p1)) (y := p2) dX12_hear_216 ?_
            refine la_110 (pc := 217) dX12_hear_217 (A_110 hw) T9087 (rIx (n := 40) (rAdd (e := 0) (f := 39) (rMulL (n := 2) (e := 0) (f := 38) h4689 rfl) h4699 rfl) rfl) fun z9090 q9091 h9092 => ?_
            refine mr_iload (pc := 218) (z := z8953) dX12_hear_218 rfl ?_
            refine mr_cVV (pc := 220) (c_X12_look_u hw T9087 h9092 h9023 (u9086.f (Or.inl (mAt.ne (A_154 hw) (A_106 hw) rfl)) (F9071.f (A_106 hw) rfl (F8603.f (A_106 hw) rfl q_f_pre))) (vc_X12_hear_u_42 h8952.2.1 h8952.2.2.1 h9022 h9027.2.1 h4682.2.1 h4682.2.2.1 h4688 h4694.2.1 h4694.2.2.1 h4698 ht_f_pre h4689 h4699 h4690 h4687 h4697 h9023 h9029) (JC.keepJ I8605 hw ((mF.up (mF.call mF.refl F9071 rfl) (A_154 hw) u9086 rfl) : mF [126999, 154999] w μ8598 μ9085) rfl) (RP.keep h9075.2.1 hw ((mF.up mF.refl (A_154 hw) u9086 rfl) : mF [154999] w μ9069 μ9085) rfl ((mG.upO mG.refl u9086 rfl) : mG [] μ9069 μ9085) (fun _ h => absurd h List.not_mem_nil)) (EP.keep I8607 hw ((mF.up (mF.call mF.refl F9071 rfl) (A_154 hw) u9086 rfl) : mF [126999, 154999] w μ8598 μ9085) rfl) (G1.keep I8610 hw ((mF.up (mF.call mF.refl F9071 rfl) (A_154 hw) u9086 rfl) : mF [126999, 154999] w μ8598 μ9085) rfl rfl ((mG.upO (mG.call mG.refl h9075.1 (List.forall_mem_cons.mpr ⟨⟨_, List.mem_cons_self, (vc_X12_hear_u_55 h9027.2.1 h4682.2.1 h4682.2.2.1 h4688 h4694.2.1 h4694.2.2.1 h4698 h8952.2.1 h8952.2.2.1 h9022 ht_f_pre h4689 h4699 h4690 h4687 h4697 h9023 h9029)⟩, (fun _ h => absurd h List.not_mem_nil)⟩)) u9086 rfl) : mG [((40 * (130 + z9028)), ((40 * (130 + z9028)) + 1))] μ8598 μ9085) (List.forall_mem_cons.mpr ⟨(vc_X12_hear_u_43 h9027.2.1 h4682.2.1 h4682.2.2.1 h4688 h4694.2.1 h4694.2.2.1 h4698 h8952.2.1 h8952.2.2.1 h9022 ht_f_pre h4689 h4699 h4690 h4687 h4697 h9023 h9029), (fun _ h => absurd h List.not_mem_nil)⟩)) (EV.keep I8611 hw ((mF.up (mF.call mF.refl F9071 rfl) (A_154 hw) u9086 rfl) : mF [126999, 154999] w μ8598 μ9085) rfl) (PK.keep I8612 hw ((mF.up (mF.call mF.refl F9071 rfl) (A_154 hw) u9086 rfl) : mF [126999, 154999] w μ8598 μ9085) rfl)) (gOk _ _ _ _ _) dX12_hear_220 (tX12_look _ _ _ _ _) ⟨wV_X12_look, wL_X12_look⟩ wM_X12_597 (gCX12 _ _ _ _ _) rfl (A_106 hw) rfl ⟨le_t rfl, le_t rfl⟩ ⟨le_t rfl, le_t rfl⟩ rfl (le_t rfl) fun μ9093 T9094 F9095 h9096 => ?_
            have I9097 : UP l D c H0 sa μ9093 := UPg.look (UPg.fr I9081 hw T9087 rfl ((mF.up mF.refl (A_154 hw) u9086 rfl) : mF [154999] w μ9069 μ9085) rfl rfl rfl ((mG.upO mG.refl u9086 rfl) : mG [] μ9069 μ9085) (fun _ h => absurd h List.not_mem_nil)) (fun _ _ h => ⟨h.1.trans ((((((mF.up (mF.call mF.refl F9071 rfl) (A_154 hw) u9086 rfl) : mF [126999, 154999] w μ8598 μ9085).f (A_110 hw) rfl rfl)).symm.trans q9091).trans (vc_X12_doEvent_u_33 h9092)), h.2⟩) h9092 h9023 hw T9087 rfl rfl ((mF.call mF.refl F9095 rfl) : mF [106026, 106027, 106028, 106029, 106030, 106031, 106072, 126999, 151999, 152999, 153999, 155999, 156999, 157999, 158999, 159999, 160999, 161999, 165999] w μ9085 μ9093) rfl rfl rfl ((mG.call mG.refl h9096.1 (List.forall_mem_cons.mpr ⟨⟨_, List.mem_cons_self, vc_X12_look_u_35⟩, (List.forall_mem_cons.mpr ⟨⟨_, (List.mem_cons_of_mem _ List.mem_cons_self), (vc_X12_hear_u_46 h8952.2.1 h8952.2.2.1 h9022 h9027.2.1 h4682.2.1 h4682.2.2.1 h4688 h4694.2.1 h4694.2.2.1 h4698 ht_f_pre h4689 h4699 h4690 h4687 h4697 h9023 h9029 h9092)⟩, (List.forall_mem_cons.mpr ⟨⟨_, (List.mem_cons_of_mem _ (List.mem_cons_of_mem _ List.mem_cons_self)), vc_X12_say_u_34⟩, (fun _ h => absurd h List.not_mem_nil)⟩)⟩)⟩)) : mG [(80, 960), ((40 * (30 + ((10 * z9090) + z8953))), ((40 * (30 + ((10 * z9090) + z8953))) + 40)), (21200, 53200)] μ9085 μ9093) (List.forall_mem_cons.mpr ⟨vc_X12_lookAll_u_14, (List.forall_mem_cons.mpr ⟨(vc_X12_hear_u_49 h8952.2.1 h8952.2.2.1 h9022 h9027.2.1 h4682.2.1 h4682.2.2.1 h4688 h4694.2.1 h4694.2.2.1 h4698 ht_f_pre h4689 h4699 h4690 h4687 h4697 h9023 h9029 h9092), (List.forall_mem_cons.mpr ⟨vc_X12_look_u_55, (fun _ h => absurd h List.not_mem_nil)⟩)⟩)⟩) h9096.2.2.2.2.2.2.2.1 h9096.2.2.2.2.2.2.1
            refine mr_iinc (pc := 223) (lv' := [(4, iv (z8596 + 1)), (3, iv z9088), (6, iv z9028), (5, iv z8953), (0, .ref 106), (1, iv p1), (2, iv p2)]) dX12_hear_223 rfl (by decide) rfl ?_
            refine sv_goto (pc := 226) (tgt := 50) dX12_hear_226 (by decide) ?_
            refine mr_lvS (lv' := [(0, .ref 106), (1, iv p1), (2, iv p2), (3, iv z9088), (4, iv (z8596 + 1))]) (List.forall_mem_cons.mpr ⟨rfl, List.forall_mem_cons.mpr ⟨rfl, List.forall_mem_cons.mpr ⟨rfl, List.forall_mem_cons.mpr ⟨rfl, List.forall_mem_cons.mpr ⟨rfl, fun _ h => absurd h List.not_mem_nil⟩⟩⟩⟩⟩) ?_
            exact ih8614 z9088 (z8596 + 1) μ9093 T9094 (mF.call (mF.up (mF.call (mF.call mF.refl F8603 rfl) F9071 rfl) (A_154 hw) u9086 rfl) F9095 rfl) h9089 (rW (c := 0) (d := 2000) (rAdd (e := 1) (f := 1000) h8941 (rR (x := 1)) rfl) rfl) h9096.2.1 h9096.2.2.1 h9096.2.2.2.1 (HP.keep I9080 hw ((mF.call (mF.up mF.refl (A_154 hw) u9086 rfl) F9095 rfl) : mF [106026, 106027, 106028, 106029, 106030, 106031, 106072, 126999, 151999, 152999, 153999, 154999, 155999, 156999, 157999, 158999, 159999, 160999, 161999, 165999] w μ9069 μ9093) rfl ((mG.call (mG.upO mG.refl u9086 rfl) h9096.1 (List.forall_mem_cons.mpr ⟨⟨_, List.mem_cons_self, vc_X12_look_u_35⟩, (List.forall_mem_cons.mpr ⟨⟨_, (List.mem_cons_of_mem _ List.mem_cons_self), (vc_X12_hear_u_46 h8952.2.1 h8952.2.2.1 h9022 h9027.2.1 h4682.2.1 h4682.2.2.1 h4688 h4694.2.1 h4694.2.2.1 h4698 ht_f_pre h4689 h4699 h4690 h4687 h4697 h9023 h9029 h9092)⟩, (List.forall_mem_cons.mpr ⟨⟨_, (List.mem_cons_of_mem _ (List.mem_cons_of_mem _ List.mem_cons_self)), vc_X12_say_u_34⟩, (fun _ h => absurd h List.not_mem_nil)⟩)⟩)⟩)) : mG [(80, 960), ((40 * (30 + ((10 * z9090) + z8953))), ((40 * (30 + ((10 * z9090) + z8953))) + 40)), (21200, 53200)] μ9069 μ9093) (List.forall_mem_cons.mpr ⟨vc_X12_lookAll_u_14, (List.forall_mem_cons.mpr ⟨(vc_X12_hear_u_49 h8952.2.1 h8952.2.2.1 h9022 h9027.2.1 h4682.2.1 h4682.2.2.1 h4688 h4694.2.1 h4694.2.2.1 h4698 ht_f_pre h4689 h4699 h4690 h4687 h4697 h9023 h9029 h9092), (List.forall_mem_cons.mpr ⟨vc_X12_look_u_55, (fun _ h => absurd h List.not_mem_nil)⟩)⟩)⟩)) I9097 h9096.2.2.2.2.1 h9096.2.2.2.2.2.1 (PK.keep I8612 hw ((mF.call (mF.up (mF.call mF.refl F9071 rfl) (A_154 hw) u9086 rfl) F9095 rfl) : mF [106026, 106027, 106028, 106029, 106030, 106031, 106072, 126999, 151999, 152999, 153999, 154999, 155999, 156999, 157999, 158999, 159999, 160999, 161999, 165999] w μ8598 μ9093) rfl) (vc_X12_hear_u_96 (nS h8613) h8782 h8784 h8941 h8942 h8620)
          have h9098 : (-99999999) ≤ z8953 ∧ z8953 ≤ (-99999999) := (vc_X12_hear_u_60 h9022 h8952.2.1 h8952.2.2.1 ht_f_pre h8952.1)
          refine sv_goto (pc := 131) (tgt := 223) dX12_hear_131 (by decide) ?_
          refine mr_iinc (pc := 223) (lv' := [(4, iv (z8596 + 1)), (5, iv z8953), (0, .ref 106), (1, iv p1), (2, iv p2), (3, iv z8597)]) dX12_hear_223 rfl (by decide) rfl ?_
          refine sv_goto (pc := 226) (tgt := 50) dX12_hear_226 (by decide) ?_
          refine mr_lvS (lv' := [(0, .ref 106), (1, iv p1), (2, iv p2), (3, iv z8597), (4, iv (z8596 + 1))]) (List.forall_mem_cons.mpr ⟨rfl, List.forall_mem_cons.mpr ⟨rfl, List.forall_mem_cons.mpr ⟨rfl, List.forall_mem_cons.mpr ⟨rfl, List.forall_mem_cons.mpr ⟨rfl, fun _ h => absurd h List.not_mem_nil⟩⟩⟩⟩⟩) ?_
          exact ih8614 z8597 (z8596 + 1) μ8598 T8602 (mF.call mF.refl F8603 rfl) h8600 (rW (c := 0) (d := 2000) (rAdd (e := 1) (f := 1000) h8941 (rR (x := 1)) rfl) rfl) I8605 I8606 I8607 I8608 I8609 I8610 I8611 I8612 (vc_X12_hear_u_96 (nS h8613) h8782 h8784 h8941 h8942 h8620)
      refine mr_lvS (lv' := [(0, .ref 106), (1, iv p1), (2, iv p2), (3, iv 0), (4, iv 0)]) (List.forall_mem_cons.mpr ⟨rfl, List.forall_mem_cons.mpr ⟨rfl, List.forall_mem_cons.mpr ⟨rfl, List.forall_mem_cons.mpr ⟨rfl, List.forall_mem_cons.mpr ⟨rfl, fun _ h => absurd h List.not_mem_nil⟩⟩⟩⟩⟩) ?_
      exact L8599 2002 0 0 μ hT mF.refl (rW (c := (-2147483648)) (d := 2147483647) (rR (x := 0)) rfl) (rW (c := 0) (d := 2000) (rR (x := 0)) rfl) hIJC hIRP hIEP hIHP hIUP hIG1 hIEV hIPK vc_X1_goThrough_12_41
    have h9099 : 0 ≤ z4712 ∧ z4712 ≤ 0 := (vc_X12_ring_22 h4715 h4714)
    refine mr_bipush (pc := 42) (z := (-2)) dX12_hear_42 (by decide) ?_
    exact mr_iret dX12_hear_44 rfl (le_t rfl) (le_t rfl) hT mF.refl ⟨(rW (c := (-2147483648)) (d := 2147483647) (rR (x := (-2))) rfl), hIJC, hIRP, hIEP, hIHP, hIUP, hIG1, hIEV, trivial⟩
  have h9100 : 0 ≤ z4695 ∧ z4695 ≤ 0 := (vc_X12_write_7 h4696 h4694.2.1 h4694.2.2.1 hp2 h4694.1)
  have h9101 : p2 < (0 : Int) ∨ (1 : Int) < p2 := (h4694.2.2.1 (vc_X12_write_8 h4694.2.1 h4694.2.2.1 h4696 hp2 h9100))
  refine mr_iconst (pc := 17) (z := (-1)) dX12_hear_17 ?_
  exact mr_iret dX12_hear_18 rfl (le_t rfl) (le_t rfl) hT mF.refl ⟨(rW (c := (-2147483648)) (d := 2147483647) (rR (x := (-1))) rfl), hIJC, hIRP, hIEP, hIHP, hIUP, hIG1, hIEV, trivial⟩
theorem vc_X12_judge_u_12 {p2 p3 z15 z22 z33 : Int} (h0 : (z33 = 1 → 0 ≤ p3 ∧ p3 < z15)) (h1 : (z33 = 0 → p3 < 0 ∨ z15 ≤ p3)) (h2 : z33 = 0) (h3 : (z22 = 1 → 0 ≤ p2 ∧ p2 < z15)) (h4 : (z22 = 0 → p2 < 0 ∨ z15 ≤ p2)) (h5 : 0 ≤ p2 ∧ p2 < z15) (h6 : 0 ≤ p2 ∧ p2 ≤ 9) (h7 : (-2147483648) ≤ p3 ∧ p3 ≤ 2147483647) (h8 : 0 ≤ z15 ∧ z15 ≤ 10) (h9 : 1 ≤ z22 ∧ z22 ≤ 1) (h10 : 0 ≤ z33 ∧ z33 ≤ 0) : z33 = 0 := by omega
theorem vc_X12_judge_u_14 {p2 p3 z15 z22 z33 : Int} (h0 : (z33 = 1 → 0 ≤ p3 ∧ p3 < z15)) (h1 : (z33 = 0 → p3 < 0 ∨ z15 ≤ p3)) (h2 : ¬ z33 = 0) (h3 : (z22 = 1 → 0 ≤ p2 ∧ p2 < z15)) (h4 : (z22 = 0 → p2 < 0 ∨ z15 ≤ p2)) (h5 : 0 ≤ p2 ∧ p2 < z15) (h6 : 0 ≤ p2 ∧ p2 ≤ 9) (h7 : (-2147483648) ≤ p3 ∧ p3 ≤ 2147483647) (h8 : 0 ≤ z15 ∧ z15 ≤ 10) (h9 : 1 ≤ z22 ∧ z22 ≤ 1) (h10 : 1 ≤ z33 ∧ z33 ≤ 1) : z33 = 1 := by omega
theorem vc_X12_judge_u_15 {p2 p3 z15 z22 z33 : Int} (h0 : 0 ≤ p3 ∧ p3 < z15) (h1 : (z22 = 1 → 0 ≤ p2 ∧ p2 < z15)) (h2 : (z22 = 0 → p2 < 0 ∨ z15 ≤ p2)) (h3 : 0 ≤ p2 ∧ p2 < z15) (h4 : (z33 = 1 → 0 ≤ p3 ∧ p3 < z15)) (h5 : (z33 = 0 → p3 < 0 ∨ z15 ≤ p3)) (h6 : 0 ≤ p2 ∧ p2 ≤ 9) (h7 : (-2147483648) ≤ p3 ∧ p3 ≤ 2147483647) (h8 : 0 ≤ z15 ∧ z15 ≤ 10) (h9 : 1 ≤ z22 ∧ z22 ≤ 1) (h10 : 1 ≤ z33 ∧ z33 ≤ 1) : 0 ≤ p3 ∧ p3 ≤ 9 := by omega
theorem vc_X12_judge_u_16 {p2 p3 z15 z22 z33 : Int} (h0 : 0 ≤ p3 ∧ p3 < z15) (h1 : (z22 = 1 → 0 ≤ p2 ∧ p2 < z15)) (h2 : (z22 = 0 → p2 < 0 ∨ z15 ≤ p2)) (h3 : 0 ≤ p2 ∧ p2 < z15) (h4 : (z33 = 1 → 0 ≤ p3 ∧ p3 < z15)) (h5 : (z33 = 0 → p3 < 0 ∨ z15 ≤ p3)) (h6 : 0 ≤ p2 ∧ p2 ≤ 9) (h7 : 0 ≤ p3 ∧ p3 ≤ 9) (h8 : 0 ≤ z15 ∧ z15 ≤ 10) (h9 : 1 ≤ z22 ∧ z22 ≤ 1) (h10 : 1 ≤ z33 ∧ z33 ≤ 1) : 1 ≤ z15 ∧ z15 ≤ 10 := by omega
theorem vc_X12_judge_u_20  : ((0 : Int) : Int) % (40 : Int) = (0 : Int) := by omega
theorem vc_X12_judge_u_21 {z58 z61 : Int} (h0 : ¬ z58 = 0) (h1 : z58 = 0 ∨ 0 ≤ z61) (h2 : 0 ≤ z58 ∧ z58 ≤ 1) (h3 : (-1) ≤ z61 ∧ z61 ≤ 9) : 1 ≤ z58 ∧ z58 ≤ 1 := by omega
theorem vc_X12_judge_u_22  : ((40 : Int) * (0 : Int)) = (0 : Int) := by omega
theorem vc_X12_judge_u_23  : (0 : Int) ≤ ((0 : Int) : Int) ∧ ((0 : Int) : Int) ≤ (1399 : Int) := by omega
theorem vc_X12_judge_u_24  : (((40 : Int) * (0 : Int)) : Int) = (40 : Int) * ((0 : Int) : Int) := by omega
theorem vc_X12_judge_u_25  : ¬ ((0 : Int) : Int) = (24 : Int) := by omega
theorem vc_X12_judge_u_26 {p2 p3 z15 z22 z33 z41 z48 z51 z54 : Int} (h0 : z48 = -99999999 ∨ (0 ≤ z48 ∧ z48 ≤ 19)) (h1 : ¬ z48 = (-99999999)) (h2 : z48 < z41 ∧ ((z51 = p2 ∧ z54 = p3) ∨ (z51 = p3 ∧ z54 = p2))) (h3 : (z22 = 1 → 0 ≤ p2 ∧ p2 < z15)) (h4 : (z22 = 0 → p2 < 0 ∨ z15 ≤ p2)) (h5 : 0 ≤ p2 ∧ p2 < z15) (h6 : (z33 = 1 → 0 ≤ p3 ∧ p3 < z15)) (h7 : (z33 = 0 → p3 < 0 ∨ z15 ≤ p3)) (h8 : 0 ≤ p3 ∧ p3 < z15) (h9 : 0 ≤ p2 ∧ p2 ≤ 9) (h10 : 0 ≤ p3 ∧ p3 ≤ 9) (h11 : 1 ≤ z15 ∧ z15 ≤ 10) (h12 : 1 ≤ z22 ∧ z22 ≤ 1) (h13 : 1 ≤ z33 ∧ z33 ≤ 1) (h14 : 0 ≤ z41 ∧ z41 ≤ 20) (h15 : 0 ≤ z48 ∧ z48 ≤ 19) (h16 : 0 ≤ z51 ∧ z51 ≤ 9) (h17 : 0 ≤ z54 ∧ z54 ≤ 9) : z48 < z41 := by omega
theorem vc_X12_judge_u_27 {p2 p3 z15 z22 z33 z41 z48 z51 z54 : Int} (h0 : (z22 = 1 → 0 ≤ p2 ∧ p2 < z15)) (h1 : (z22 = 0 → p2 < 0 ∨ z15 ≤ p2)) (h2 : 0 ≤ p2 ∧ p2 < z15) (h3 : (z33 = 1 → 0 ≤ p3 ∧ p3 < z15)) (h4 : (z33 = 0 → p3 < 0 ∨ z15 ≤ p3)) (h5 : 0 ≤ p3 ∧ p3 < z15) (h6 : z48 < z41 ∧ ((z51 = p2 ∧ z54 = p3) ∨ (z51 = p3 ∧ z54 = p2))) (h7 : ¬ z22 = 0) (h8 : ¬ z33 = 0) (h9 : z48 = -99999999 ∨ (0 ≤ z48 ∧ z48 ≤ 19)) (h10 : ¬ z48 = (-99999999)) (h11 : 0 ≤ p2 ∧ p2 ≤ 9) (h12 : 0 ≤ p3 ∧ p3 ≤ 9) (h13 : 1 ≤ z15 ∧ z15 ≤ 10) (h14 : 1 ≤ z22 ∧ z22 ≤ 1) (h15 : 1 ≤ z33 ∧ z33 ≤ 1) (h16 : 0 ≤ z41 ∧ z41 ≤ 20) (h17 : 0 ≤ z48 ∧ z48 ≤ 19) (h18 : 0 ≤ z51 ∧ z51 ≤ 9) (h19 : 0 ≤ z54 ∧ z54 ≤ 9) : (z51 = p2 ∧ z54 = p3) ∨ (z51 = p3 ∧ z54 = p2) := by omega
theorem vc_X12_judge_u_28 {z58 z61 z68 : Int} (h0 : z58 = 0 ∨ 0 ≤ z61) (h1 : z61 < z68) (h2 : ¬ z58 = 0) (h3 : 1 ≤ z58 ∧ z58 ≤ 1) (h4 : (-1) ≤ z61 ∧ z61 ≤ 9) (h5 : 0 ≤ z68 ∧ z68 ≤ 10) : 0 ≤ z61 := by omega
theorem vc_X12_judge_u_29 {p1 z1 z8 : Int} (h0 : (z8 = 1 → (0 : Int) ≤ p1 ∧ p1 ≤ (z1 - 1))) (h1 : (z8 = 0 → p1 < (0 : Int) ∨ (z1 - 1) < p1)) (h2 : (0 : Int) ≤ p1 ∧ p1 ≤ (z1 - 1)) (h3 : ¬ z8 = 0) (h4 : 0 ≤ p1 ∧ p1 ≤ 2147483647) (h5 : 0 ≤ z1 ∧ z1 ≤ 12) (h6 : 1 ≤ z8 ∧ z8 ≤ 1) : p1 = -99999999 ∨ (0 ≤ p1 ∧ p1 < z1) := by omega
theorem vc_X12_judge_u_30 {z58 z61 z68 : Int} (h0 : z58 = 0 ∨ 0 ≤ z61) (h1 : z61 < z68) (h2 : ¬ z58 = 0) (h3 : 1 ≤ z58 ∧ z58 ≤ 1) (h4 : (-1) ≤ z61 ∧ z61 ≤ 9) (h5 : 0 ≤ z68 ∧ z68 ≤ 10) : z61 < z68 := by omega
theorem vc_X12_judge_u_31  : (0 : Int) ≤ ((40 : Int) * (0 : Int)) := by omega
theorem vc_X12_judge_u_32  : (((40 : Int) * (0 : Int)) : Int) % (40 : Int) = (0 : Int) := by omega
theorem vc_X12_judge_u_34  : (((40 : Int) * (0 : Int)) + (1 : Int)) ≤ (((40 : Int) * (0 : Int)) + (1 : Int)) ∧ (((40 : Int) * (0 : Int)) + (40 : Int)) ≤ (((40 : Int) * (0 : Int)) + (40 : Int)) := by omega
theorem vc_X12_judge_u_35  : (40 : Int) * ((((((40 : Int) * (0 : Int)) + (40 : Int)) : Int) - (1 : Int)) / (40 : Int)) < ((((40 : Int) * (0 : Int)) + (1 : Int)) : Int) := by omega
theorem vc_X12_judge_u_36  : ((((40 : Int) * (0 : Int)) + (40 : Int)) : Int) ≤ (5200 : Int) ∨ (21200 : Int) ≤ ((((40 : Int) * (0 : Int)) + (1 : Int)) : Int) := by omega
theorem vc_X12_judge_u_37  : ((1 : Int) ≤ ((((40 : Int) * (0 : Int)) + (1 : Int)) : Int) ∧ ((((40 : Int) * (0 : Int)) + (40 : Int)) : Int) ≤ (1200 : Int)) ∨ (5200 : Int) ≤ ((((40 : Int) * (0 : Int)) + (1 : Int)) : Int) := by omega
theorem vc_X12_judge_u_39 {z58 z61 : Int} (h0 : z58 = 0) (h1 : z58 = 0 ∨ 0 ≤ z61) (h2 : 0 ≤ z58 ∧ z58 ≤ 1) (h3 : (-1) ≤ z61 ∧ z61 ≤ 9) : 0 ≤ z58 ∧ z58 ≤ 0 := by omega
set_option maxRecDepth 4000 in
set_option maxHeartbeats 4000000 in
theorem c_X12_judge_u {l : Launch} {D : va_G} {c : Nat → ClassId} {H0 : Heap} {sa : Nat × Nat × (Nat → Int32)} {w : mW} {μ : mM} (hw : mWF w) (hT : mT w μ) {p1 : Int} (hp1 : (-2147483648) ≤ p1 ∧ p1 ≤ 2147483647) {p2 : Int} (hp2 : (-2147483648) ≤ p2 ∧ p2 ≤ 2147483647) {p3 : Int} (hp3 : (-2147483648) ≤ p3 ∧ p3 ≤ 2147483647) (hIJC : JC l D c H0 sa μ) (hIRP : RP μ) (hIEP : EP μ) (hIHP : HP μ) (hIUP : UP l D c H0 sa μ) (hIG1 : G1 μ) (hIEV : EV μ) (hIPK : PK μ) : sC (gG l D c H0 sa) mX12_judge 7 0 0 [.ref 106, iv p1, iv p2, iv p3] (mk w μ) (qI w [106026, 106027, 106028, 106029, 106030, 106031, 126999, 151999, 152999, 153999] μ (fun z μ1 => ((-2147483648) ≤ z ∧ z ≤ 2147483647) ∧ JC l D c H0 sa μ1 ∧ RP μ1 ∧ EP μ1 ∧ HP μ1 ∧ UP l D c H0 sa μ1 ∧ G1 μ1 ∧ EV μ1 ∧ True)) := by
  refine sC.of rfl (by decide) (le_t rfl) ?_
  refine mr_lvE (lv' := [(0, .ref 106), (1, iv p1), (2, iv p2), (3, iv p3)]) rfl ?_
  refine mr_iload_n (pc := 0) (z := p1) dX12_judge_0 rfl rfl ?_
  refine mr_iconst (pc := 1) (z := 0) dX12_judge_1 ?_
  refine sv_aload_n (pc := 2) dX12_judge_2 rfl rfl ?_
  refine gf_X12_39 (pc := 3) dX12_judge_3 wF_X12_355 (A_106 hw) hT fun z1 q2 h3 => ?_
  refine mr_iconst (pc := 6) (z := 1) dX12_judge_6 ?_
  refine mr_isub (pc := 7) (x := z1) (y := 1) dX12_judge_7 ?_
  refine mr_cSP (pc := 8) (c_X12_in hw hT hp1 (rW (c := (-2147483648)) (d := 2147483647) (rR (x := 0)) rfl) (rW (c := (-2147483648)) (d := 2147483647) (rSub (e := (-1)) (f := 11) h3 (rR (x := 1)) rfl) rfl)) (gOk _ _ _ _ _) dX12_judge_8 (tX12_in _ _ _ _ _) wS_X12_in wM_X12_18 ⟨le_t rfl, le_t rfl⟩ ⟨le_t rfl, le_t rfl⟩ rfl (le_t rfl) fun z8 h7 => ?_
  refine mr_if_eq (pc := 11) (tgt := 41) dX12_judge_11 (by decide) (r32 h7.1 rfl) (fun h9 => ?_) (fun h9 => ?_)
  · have h10 : 0 ≤ z8 ∧ z8 ≤ 0 := (vc_X12_led_1 h9 h7.2.1 h7.2.2.1 hp1 h3 h7.1)
    have h11 : p1 < (0 : Int) ∨ (z1 - 1) < p1 := (h7.2.2.1 (vc_X12_led_2 h7.2.1 h7.2.2.1 h9 hp1 h3 h10))
    refine mr_iconst (pc := 41) (z := (-1)) dX12_judge_41 ?_
    exact mr_iret dX12_judge_42 rfl (le_t rfl) (le_t rfl) hT mF.refl ⟨(rW (c := (-2147483648)) (d := 2147483647) (rR (x := (-1))) rfl), hIJC, hIRP, hIEP, hIHP, hIUP, hIG1, hIEV, trivial⟩
  have h12 : 1 ≤ z8 ∧ z8 ≤ 1 := (vc_X12_led_3 h9 h7.2.1 h7.2.2.1 hp1 h3 h7.1)
  have h13 : (0 : Int) ≤ p1 ∧ p1 ≤ (z1 - 1) := (h7.2.1 (vc_X12_led_4 h7.2.1 h7.2.2.1 h9 hp1 h3 h12))
  have h14 : 0 ≤ p1 ∧ p1 ≤ 2147483647 := (vc_X12_led_5 h13 h7.2.1 h7.2.2.1 hp1 h3 h12)
  refine sv_aload_n (pc := 14) dX12_judge_14 rfl rfl ?_
  refine mr_iload_n (pc := 15) (z := p2) dX12_judge_15 rfl rfl ?_
  obtain ⟨z15, q16⟩ : ∃ z, μ 106 5 = z := ⟨_, rfl⟩
  have h17 : (0 ≤ z15 ∧ z15 ≤ 10) := by rw [← q16]; exact hT 106 106 (A_106 hw) 5
  refine mr_cVP (pc := 16) (c_X12_isDomain hw hT hp2 q16) (gOk _ _ _ _ _) dX12_judge_16 (tX12_isDomain _ _ _ _ _) ⟨wV_X12_isDomain, wL_X12_isDomain⟩ wM_X12_49 (gCX12 _ _ _ _ _) rfl (A_106 hw) rfl ⟨le_t rfl, le_t rfl⟩ ⟨le_t rfl, le_t rfl⟩ rfl (le_t rfl) fun z22 h21 => ?_
  refine mr_if_eq (pc := 19) (tgt := 41) dX12_judge_19 (by decide) (r32 h21.1 rfl) (fun h23 => ?_) (fun h23 => ?_)
  · have h24 : 0 ≤ z22 ∧ z22 ≤ 0 := (vc_X12_write_78 h23 h21.2.1 h21.2.2.1 hp2 h17 h21.1)
    have h25 : p2 < 0 ∨ z15 ≤ p2 := (h21.2.2.1 (vc_X12_write_79 h21.2.1 h21.2.2.1 h23 hp2 h17 h24))
    refine mr_iconst (pc := 41) (z := (-1)) dX12_judge_41 ?_
    exact mr_iret dX12_judge_42 rfl (le_t rfl) (le_t rfl) hT mF.refl ⟨(rW (c := (-2147483648)) (d := 2147483647) (rR (x := (-1))) rfl), hIJC, hIRP, hIEP, hIHP, hIUP, hIG1, hIEV, trivial⟩
  have h26 : 1 ≤ z22 ∧ z22 ≤ 1 := (vc_X12_write_12 h23 h21.2.1 h21.2.2.1 hp2 h17 h21.1)
  have h27 : 0 ≤ p2 ∧ p2 < z15 := (h21.2.1 (vc_X12_write_13 h21.2.1 h21.2.2.1 h23 hp2 h17 h26))
  have h28 : 0 ≤ p2 ∧ p2 ≤ 9 := (vc_X12_write_14 h27 h21.2.1 h21.2.2.1 hp2 h17 h26)
  refine sv_aload_n (pc := 22) dX12_judge_22 rfl rfl ?_
  refine mr_iload_n (pc := 23) (z := p3) dX12_judge_23 rfl rfl ?_
  refine mr_cVP (pc := 24) (c_X12_isDomain hw hT hp3 q16) (gOk _ _ _ _ _) dX12_judge_24 (tX12_isDomain _ _ _ _ _) ⟨wV_X12_isDomain, wL_X12_isDomain⟩ wM_X12_49 (gCX12 _ _ _ _ _) rfl (A_106 hw) rfl ⟨le_t rfl, le_t rfl⟩ ⟨le_t rfl, le_t rfl⟩ rfl (le_t rfl) fun z33 h32 => ?_
  refine mr_if_eq (pc := 27) (tgt := 41) dX12_judge_27 (by decide) (r32 h32.1 rfl) (fun h34 => ?_) (fun h34 => ?_)
  · have h35 : 0 ≤ z33 ∧ z33 ≤ 0 := (vc_X12_write_78 h34 h32.2.1 h32.2.2.1 hp3 h17 h32.1)
    have h36 : p3 < 0 ∨ z15 ≤ p3 := (h32.2.2.1 (vc_X12_judge_u_12 h32.2.1 h32.2.2.1 h34 h21.2.1 h21.2.2.1 h27 h28 hp3 h17 h26 h35))
    refine mr_iconst (pc := 41) (z := (-1)) dX12_judge_41 ?_
    exact mr_iret dX12_judge_42 rfl (le_t rfl) (le_t rfl) hT mF.refl ⟨(rW (c := (-2147483648)) (d := 2147483647) (rR (x := (-1))) rfl), hIJC, hIRP, hIEP, hIHP, hIUP, hIG1, hIEV, trivial⟩
  have h37 : 1 ≤ z33 ∧ z33 ≤ 1 := (vc_X12_write_12 h34 h32.2.1 h32.2.2.1 hp3 h17 h32.1)
  have h38 : 0 ≤ p3 ∧ p3 < z15 := (h32.2.1 (vc_X12_judge_u_14 h32.2.1 h32.2.2.1 h34 h21.2.1 h21.2.2.1 h27 h28 hp3 h17 h26 h37))
  have h39 : 0 ≤ p3 ∧ p3 ≤ 9 := (vc_X12_judge_u_15 h38 h21.2.1 h21.2.2.1 h27 h32.2.1 h32.2.2.1 h28 hp3 h17 h26 h37)
  have h40 : 1 ≤ z15 ∧ z15 ≤ 10 := (vc_X12_judge_u_16 h38 h21.2.1 h21.2.2.1 h27 h32.2.1 h32.2.2.1 h28 h39 h17 h26 h37)
  refine sv_aload_n (pc := 30) dX12_judge_30 rfl rfl ?_
  refine mr_iload_n (pc := 31) (z := p2) dX12_judge_31 rfl rfl ?_
  refine mr_iload_n (pc := 32) (z := p3) dX12_judge_32 rfl rfl ?_
  obtain ⟨z41, q42⟩ : ∃ z, μ 106 6 = z := ⟨_, rfl⟩
  have h43 : (0 ≤ z41 ∧ z41 ≤ 20) := by rw [← q42]; exact hT 106 106 (A_106 hw) 6
  refine mr_cVP (pc := 33) (c_X12_tieOf_end hw hT (rW (c := (-2147483648)) (d := 2147483647) h28 rfl) (rW (c := (-2147483648)) (d := 2147483647) h39 rfl) q42) (gOk _ _ _ _ _) dX12_judge_33 (tX12_tieOf _ _ _ _ _) ⟨wV_X12_tieOf, wL_X12_tieOf⟩ wM_X12_43 (gCX12 _ _ _ _ _) rfl (A_106 hw) rfl ⟨le_t rfl, le_t rfl⟩ ⟨le_t rfl, le_t rfl⟩ rfl (le_t rfl) fun z48 h47 => ?_
  refine mr_ldc (pc := 36) (z := (-99999999)) dX12_judge_36 wG_X12_29 (by decide) ?_
  refine mr_icmp_ne (pc := 38) (tgt := 43) dX12_judge_38 (by decide) (r32 h47.1 rfl) (r32 (rR (x := (-99999999))) rfl) (fun h49 => ?_) (fun h49 => ?_)
  · have h50 : 0 ≤ z48 ∧ z48 ≤ 19 := (vc_X12_provides_2 h49 h47.2.1 h47.1)
    obtain ⟨z51, q52⟩ : ∃ z, μ 110 ((2 * z48).toNat) = z := ⟨_, rfl⟩
    have h53 : (0 ≤ z51 ∧ z51 ≤ 9) := by rw [← q52]; exact hT 110 110 (A_110 hw) ((2 * z48).toNat)
    obtain ⟨z54, q55⟩ : ∃ z, μ 110 (((2 * z48) + 1).toNat) = z := ⟨_, rfl⟩
    have h56 : (0 ≤ z54 ∧ z54 ≤ 9) := by rw [← q55]; exact hT 110 110 (A_110 hw) (((2 * z48) + 1).toNat)
    have h57 : z48 < z41 ∧ ((z51 = p2 ∧ z54 = p3) ∨ (z51 = p3 ∧ z54 = p2)) := by have h := (h47.2.2.1).resolve_left (vc_X12_look_u_6 h47.2.1 h49 h50); rw [q52, q55] at h; exact h
    refine sv_aload_n (pc := 43) dX12_judge_43 rfl rfl ?_
    refine gf_X12_70 (pc := 44) dX12_judge_44 wF_X12_411 (A_106 hw) hT fun z58 q59 h60 => ?_
    obtain ⟨z61, q62⟩ : ∃ z, μ 126 ((0 : Int).toNat) = z := ⟨_, rfl⟩
    have h63 := rt7 hT (A_126 hw) vc_X7_become_1 q62
    have h64 : (-1) ≤ z61 ∧ z61 ≤ 9 := h63.2.1 vc_X12_judge_u_20
    have h65 : z58 = 0 ∨ 0 ≤ z61 := G1.hand hIG1 q59 q62
    refine mr_if_ne (pc := 47) (tgt := 53) dX12_judge_47 (by decide) (r32 h60 rfl) (fun h66 => ?_) (fun h66 => ?_)
    · have h67 : 1 ≤ z58 ∧ z58 ≤ 1 := (vc_X12_judge_u_21 h66 h65 h60 h64)
      refine sv_aload_n (pc := 53) dX12_judge_53 rfl rfl ?_
      refine mr_iload_n (pc := 54) (z := p1) dX12_judge_54 rfl rfl ?_
      refine mr_iconst (pc := 55) (z := 0) dX12_judge_55 ?_
      refine mr_iload_n (pc := 56) (z := p2) dX12_judge_56 rfl rfl ?_
      refine mr_iload_n (pc := 57) (z := p3) dX12_judge_57 rfl rfl ?_
      obtain ⟨z68, q69⟩ : ∃ z, μ 106 2 = z := ⟨_, rfl⟩
      have h70 : (0 ≤ z68 ∧ z68 ≤ 10) := by rw [← q69]; exact hT 106 106 (A_106 hw) 2
      have h71 : z61 < z68 := (RP.at (r := (0 : Int)) hIRP vc_X12_judge_u_23 vc_X12_judge_u_24 (eqIx vc_X12_judge_u_22 q62) q69).2 vc_X12_judge_u_25
      refine mr_cVI (pc := 58) (c_X12_through_u hw hT (rW (c := (-2147483648)) (d := 2147483647) h14 rfl) (rW (c := 0) (d := 2099) (rR (x := 0)) rfl) (rW (c := (-2147483648)) (d := 2147483647) h28 rfl) (rW (c := (-2147483648)) (d := 2147483647) h39 rfl) h50 q52 q55 q42 (eqIx vc_X12_judge_u_22 q62) q2 q69 (vc_X12_judge_u_26 h47.2.1 h49 h57 h21.2.1 h21.2.2.1 h27 h32.2.1 h32.2.2.1 h38 h28 h39 h40 h26 h37 h43 h50 h53 h56) (vc_X12_judge_u_27 h21.2.1 h21.2.2.1 h27 h32.2.1 h32.2.2.1 h38 h57 h23 h34 h47.2.1 h49 h28 h39 h40 h26 h37 h43 h50 h53 h56) (vc_X12_judge_u_28 h65 h71 h66 h67 h64 h70) (vc_X12_judge_u_29 h7.2.1 h7.2.2.1 h13 h9 h14 h3 h12) (vc_X12_judge_u_30 h65 h71 h66 h67 h64 h70) hIJC hIPK) (gOk _ _ _ _ _) dX12_judge_58 (tX12_through _ _ _ _ _) ⟨wV_X12_through, wL_X12_through⟩ wM_X12_414 (gCX12 _ _ _ _ _) rfl (A_106 hw) rfl ⟨le_t rfl, le_t rfl⟩ ⟨le_t rfl, le_t rfl⟩ rfl (le_t rfl) fun z76 μ72 T73 F74 h75 => ?_
      obtain ⟨z77, q78, h79⟩ := h75
      have h80 := rt7 T73 (A_126 hw) vc_X12_judge_u_31 q78
      have h81 : (-1) ≤ z77 ∧ z77 ≤ 9 := h80.2.1 vc_X12_judge_u_32
      have q82 : μ72 126 (((40 * 0) : Int).toNat) = z61 := q78.trans h79.2.2.2.1
      refine mr_if_eq (pc := 61) (tgt := 68) dX12_judge_61 (by decide) (r32 h79.1 rfl) (fun h85 => ?_) (fun h85 => ?_)
      · have h86 : 0 ≤ z76 ∧ z76 ≤ 0 := (vc_X12_ring_22 h85 h79.1)
        refine mr_iconst (pc := 68) (z := 0) dX12_judge_68 ?_
        exact mr_iret dX12_judge_69 rfl (le_t rfl) (le_t rfl) T73 (mF.call mF.refl F74 rfl) ⟨(rW (c := (-2147483648)) (d := 2147483647) (rR (x := 0)) rfl), h79.2.2.1, (RP.keep hIRP hw ((mF.call mF.refl F74 rfl) : mF [106026, 106027, 106028, 106029, 106030, 106031, 126999, 151999, 152999, 153999] w μ μ72) rfl ((mG.call mG.refl h79.2.1 (List.forall_mem_cons.mpr ⟨⟨_, List.mem_cons_self, vc_X12_judge_u_34⟩, (fun _ h => absurd h List.not_mem_nil)⟩)) : mG [(((40 * 0) + 1), ((40 * 0) + 40))] μ μ72) (List.forall_mem_cons.mpr ⟨vc_X12_judge_u_35, (fun _ h => absurd h List.not_mem_nil)⟩)), (EP.keep hIEP hw ((mF.call mF.refl F74 rfl) : mF [106026, 106027, 106028, 106029, 106030, 106031, 126999, 151999, 152999, 153999] w μ μ72) rfl), (HP.keep hIHP hw ((mF.call mF.refl F74 rfl) : mF [106026, 106027, 106028, 106029, 106030, 106031, 126999, 151999, 152999, 153999] w μ μ72) rfl ((mG.call mG.refl h79.2.1 (List.forall_mem_cons.mpr ⟨⟨_, List.mem_cons_self, vc_X12_judge_u_34⟩, (fun _ h => absurd h List.not_mem_nil)⟩)) : mG [(((40 * 0) + 1), ((40 * 0) + 40))] μ μ72) (List.forall_mem_cons.mpr ⟨vc_X12_judge_u_36, (fun _ h => absurd h List.not_mem_nil)⟩)), (UPg.fr hIUP hw T73 rfl ((mF.call mF.refl F74 rfl) : mF [106026, 106027, 106028, 106029, 106030, 106031, 126999, 151999, 152999, 153999] w μ μ72) rfl rfl rfl ((mG.call mG.refl h79.2.1 (List.forall_mem_cons.mpr ⟨⟨_, List.mem_cons_self, vc_X12_judge_u_34⟩, (fun _ h => absurd h List.not_mem_nil)⟩)) : mG [(((40 * 0) + 1), ((40 * 0) + 40))] μ μ72) (List.forall_mem_cons.mpr ⟨vc_X12_judge_u_36, (fun _ h => absurd h List.not_mem_nil)⟩)), (G1.keep hIG1 hw ((mF.call mF.refl F74 rfl) : mF [106026, 106027, 106028, 106029, 106030, 106031, 126999, 151999, 152999, 153999] w μ μ72) rfl rfl ((mG.call mG.refl h79.2.1 (List.forall_mem_cons.mpr ⟨⟨_, List.mem_cons_self, vc_X12_judge_u_34⟩, (fun _ h => absurd h List.not_mem_nil)⟩)) : mG [(((40 * 0) + 1), ((40 * 0) + 40))] μ μ72) (List.forall_mem_cons.mpr ⟨vc_X12_judge_u_37, (fun _ h => absurd h List.not_mem_nil)⟩)), (EV.keep hIEV hw ((mF.call mF.refl F74 rfl) : mF [106026, 106027, 106028, 106029, 106030, 106031, 126999, 151999, 152999, 153999] w μ μ72) rfl), trivial⟩
      have h87 : 1 ≤ z76 ∧ z76 ≤ 1 := (vc_X12_ring_24 h85 h79.1)
      refine mr_iconst (pc := 64) (z := 1) dX12_judge_64 ?_
      refine sv_goto (pc := 65) (tgt := 69) dX12_judge_65 (by decide) ?_
      exact mr_iret dX12_judge_69 rfl (le_t rfl) (le_t rfl) T73 (mF.call mF.refl F74 rfl) ⟨(rW (c := (-2147483648)) (d := 2147483647) (rR (x := 1)) rfl), h79.2.2.1, (RP.keep hIRP hw ((mF.call mF.refl F74 rfl) : mF [106026, 106027, 106028, 106029, 106030, 106031, 126999, 151999, 152999, 153999] w μ μ72) rfl ((mG.call mG.refl h79.2.1 (List.forall_mem_cons.mpr ⟨⟨_, List.mem_cons_self, vc_X12_judge_u_34⟩, (fun _ h => absurd h List.not_mem_nil)⟩)) : mG [(((40 * 0) + 1), ((40 * 0) + 40))] μ μ72) (List.forall_mem_cons.mpr ⟨vc_X12_judge_u_35, (fun _ h => absurd h List.not_mem_nil)⟩)), (EP.keep hIEP hw ((mF.call mF.refl F74 rfl) : mF [106026, 106027, 106028, 106029, 106030, 106031, 126999, 151999, 152999, 153999] w μ μ72) rfl), (HP.keep hIHP hw ((mF.call mF.refl F74 rfl) : mF [106026, 106027, 106028, 106029, 106030, 106031, 126999, 151999, 152999, 153999] w μ μ72) rfl ((mG.call mG.refl h79.2.1 (List.forall_mem_cons.mpr ⟨⟨_, List.mem_cons_self, vc_X12_judge_u_34⟩, (fun _ h => absurd h List.not_mem_nil)⟩)) : mG [(((40 * 0) + 1), ((40 * 0) + 40))] μ μ72) (List.forall_mem_cons.mpr ⟨vc_X12_judge_u_36, (fun _ h => absurd h List.not_mem_nil)⟩)), (UPg.fr hIUP hw T73 rfl ((mF.call mF.refl F74 rfl) : mF [106026, 106027, 106028, 106029, 106030, 106031, 126999, 151999, 152999, 153999] w μ μ72) rfl rfl rfl ((mG.call mG.refl h79.2.1 (List.forall_mem_cons.mpr ⟨⟨_, List.mem_cons_self, vc_X12_judge_u_34⟩, (fun _ h => absurd h List.not_mem_nil)⟩)) : mG [(((40 * 0) + 1), ((40 * 0) + 40))] μ μ72) (List.forall_mem_cons.mpr ⟨vc_X12_judge_u_36, (fun _ h => absurd h List.not_mem_nil)⟩)), (G1.keep hIG1 hw ((mF.call mF.refl F74 rfl) : mF [106026, 106027, 106028, 106029, 106030, 106031, 126999, 151999, 152999, 153999] w μ μ72) rfl rfl ((mG.call mG.refl h79.2.1 (List.forall_mem_cons.mpr ⟨⟨_, List.mem_cons_self, vc_X12_judge_u_34⟩, (fun _ h => absurd h List.not_mem_nil)⟩)) : mG [(((40 * 0) + 1), ((40 * 0) + 40))] μ μ72) (List.forall_mem_cons.mpr ⟨vc_X12_judge_u_37, (fun _ h => absurd h List.not_mem_nil)⟩)), (EV.keep hIEV hw ((mF.call mF.refl F74 rfl) : mF [106026, 106027, 106028, 106029, 106030, 106031, 126999, 151999, 152999, 153999] w μ μ72) rfl), trivial⟩
    have h88 : 0 ≤ z58 ∧ z58 ≤ 0 := (vc_X12_judge_u_39 h66 h65 h60 h64)
    refine mr_bipush (pc := 50) (z := (-2)) dX12_judge_50 (by decide) ?_
    exact mr_iret dX12_judge_52 rfl (le_t rfl) (le_t rfl) hT mF.refl ⟨(rW (c := (-2147483648)) (d := 2147483647) (rR (x := (-2))) rfl), hIJC, hIRP, hIEP, hIHP, hIUP, hIG1, hIEV, trivial⟩
  have h89 : (-99999999) ≤ z48 ∧ z48 ≤ (-99999999) := (vc_X12_provides_1 h49 h47.2.1 h47.1)
  refine mr_iconst (pc := 41) (z := (-1)) dX12_judge_41 ?_
  exact mr_iret dX12_judge_42 rfl (le_t rfl) (le_t rfl) hT mF.refl ⟨(rW (c := (-2147483648)) (d := 2147483647) (rR (x := (-1))) rfl), hIJC, hIRP, hIEP, hIHP, hIUP, hIG1, hIEV, trivial⟩
theorem vc_X12_three_u_17  : ((960 : Int) : Int) ≤ (5200 : Int) ∨ (21200 : Int) ≤ ((160 : Int) : Int) := by omega
theorem vc_X12_three_u_22 {z3103 z3111 z4606 : Int} (h0 : z3111 ≤ z4606) (h1 : z3103 < z3111) (h2 : 0 ≤ z3103 ∧ z3103 ≤ 19) (h3 : 1 ≤ z3111 ∧ z3111 ≤ 20) (h4 : 0 ≤ z4606 ∧ z4606 ≤ 20) : 1 ≤ z4606 ∧ z4606 ≤ 20 := by omega
theorem vc_X12_three_u_23 {N z3103 z3111 z4606 : Int} (h0 : (21 - z3103) < N + 1) (h1 : z3103 < z3111) (h2 : z3111 ≤ z4606) (h3 : 0 ≤ z3103 ∧ z3103 ≤ 19) (h4 : 1 ≤ z3111 ∧ z3111 ≤ 20) (h5 : 1 ≤ z4606 ∧ z4606 ≤ 20) : (21 - (z3103 + 1)) < N := by omega
theorem vc_X12_three_u_24 {z3103 z3111 z4606 : Int} (h0 : z4606 < z3111) (h1 : z3103 < z3111) (h2 : 0 ≤ z3103 ∧ z3103 ≤ 19) (h3 : 1 ≤ z3111 ∧ z3111 ≤ 20) (h4 : 0 ≤ z4606 ∧ z4606 ≤ 20) : 0 ≤ z4606 ∧ z4606 ≤ 19 := by omega
theorem vc_X12_three_u_25 {z3103 z3111 z4606 : Int} (h0 : z3103 < z3111) (h1 : z4606 < z3111) (h2 : 0 ≤ z3103 ∧ z3103 ≤ 19) (h3 : 1 ≤ z3111 ∧ z3111 ≤ 20) (h4 : 0 ≤ z4606 ∧ z4606 ≤ 19) : 0 ≤ (40 * (4 + z3103)) := by omega
theorem vc_X12_three_u_26 {z3103 z3111 z4606 : Int} (h0 : z3103 < z3111) (h1 : z4606 < z3111) (h2 : 0 ≤ z3103 ∧ z3103 ≤ 19) (h3 : 1 ≤ z3111 ∧ z3111 ≤ 20) (h4 : 0 ≤ z4606 ∧ z4606 ≤ 19) : (40 * (4 + z3103)) % 40 = 0 := by omega
theorem vc_X12_three_u_30 {N z3103 z3111 z4606 : Int} (h0 : (21 - z3103) < N + 1) (h1 : z3103 < z3111) (h2 : z4606 < z3111) (h3 : 0 ≤ z3103 ∧ z3103 ≤ 19) (h4 : 1 ≤ z3111 ∧ z3111 ≤ 20) (h5 : 0 ≤ z4606 ∧ z4606 ≤ 19) : (21 - (z3103 + 1)) < N := by omega
theorem vc_X12_three_u_34 {N z3103 z3111 z4606 : Int} (h0 : (21 - z4606) < N + 1) (h1 : z4606 < z3111) (h2 : z4606 = z3103) (h3 : z3103 < z3111) (h4 : 0 ≤ z3103 ∧ z3103 ≤ 19) (h5 : 1 ≤ z3111 ∧ z3111 ≤ 20) (h6 : 0 ≤ z4606 ∧ z4606 ≤ 19) : (21 - (z4606 + 1)) < N := by omega
theorem vc_X12_three_u_35 {z3103 z3111 z4606 : Int} (h0 : z4606 < z3111) (h1 : ¬ z4606 = z3103) (h2 : z3103 < z3111) (h3 : 0 ≤ z3103 ∧ z3103 ≤ 19) (h4 : 1 ≤ z3111 ∧ z3111 ≤ 20) (h5 : 0 ≤ z4606 ∧ z4606 ≤ 19) : 0 ≤ (40 * (4 + z4606)) := by omega
theorem vc_X12_three_u_36 {z3103 z3111 z4606 : Int} (h0 : z4606 < z3111) (h1 : ¬ z4606 = z3103) (h2 : z3103 < z3111) (h3 : 0 ≤ z3103 ∧ z3103 ≤ 19) (h4 : 1 ≤ z3111 ∧ z3111 ≤ 20) (h5 : 0 ≤ z4606 ∧ z4606 ≤ 19) : (40 * (4 + z4606)) % 40 = 0 := by omega
theorem vc_X12_three_u_40 {N z3103 z3111 z4606 : Int} (h0 : (21 - z4606) < N + 1) (h1 : z4606 < z3111) (h2 : ¬ z4606 = z3103) (h3 : z3103 < z3111) (h4 : 0 ≤ z3103 ∧ z3103 ≤ 19) (h5 : 1 ≤ z3111 ∧ z3111 ≤ 20) (h6 : 0 ≤ z4606 ∧ z4606 ≤ 19) : (21 - (z4606 + 1)) < N := by omega
theorem vc_X12_three_u_46 {z3103 z3111 z4606 z5145 : Int} (h0 : z3111 ≤ z5145) (h1 : z3103 < z3111) (h2 : z4606 < z3111) (h3 : 0 ≤ z3103 ∧ z3103 ≤ 19) (h4 : 1 ≤ z3111 ∧ z3111 ≤ 20) (h5 : 0 ≤ z4606 ∧ z4606 ≤ 19) (h6 : 0 ≤ z5145 ∧ z5145 ≤ 20) : 1 ≤ z5145 ∧ z5145 ≤ 20 := by omega
theorem vc_X12_three_u_47 {N z3103 z3111 z4606 z5145 : Int} (h0 : (21 - z4606) < N + 1) (h1 : z4606 < z3111) (h2 : ¬ z4606 = z3103) (h3 : z3103 < z3111) (h4 : z3111 ≤ z5145) (h5 : 0 ≤ z3103 ∧ z3103 ≤ 19) (h6 : 1 ≤ z3111 ∧ z3111 ≤ 20) (h7 : 0 ≤ z4606 ∧ z4606 ≤ 19) (h8 : 1 ≤ z5145 ∧ z5145 ≤ 20) : (21 - (z4606 + 1)) < N := by omega
theorem vc_X12_three_u_48 {z3103 z3111 z4606 z5145 : Int} (h0 : z5145 < z3111) (h1 : z3103 < z3111) (h2 : z4606 < z3111) (h3 : 0 ≤ z3103 ∧ z3103 ≤ 19) (h4 : 1 ≤ z3111 ∧ z3111 ≤ 20) (h5 : 0 ≤ z4606 ∧ z4606 ≤ 19) (h6 : 0 ≤ z5145 ∧ z5145 ≤ 20) : 0 ≤ z5145 ∧ z5145 ≤ 19 := by omega
theorem vc_X12_three_u_49 {N z3103 z3111 z4606 z5145 : Int} (h0 : (21 - z5145) < N + 1) (h1 : z5145 < z3111) (h2 : z5145 = z3103) (h3 : z3103 < z3111) (h4 : z4606 < z3111) (h5 : ¬ z4606 = z3103) (h6 : 0 ≤ z3103 ∧ z3103 ≤ 19) (h7 : 1 ≤ z3111 ∧ z3111 ≤ 20) (h8 : 0 ≤ z4606 ∧ z4606 ≤ 19) (h9 : 0 ≤ z5145 ∧ z5145 ≤ 19) : (21 - (z5145 + 1)) < N := by omega
theorem vc_X12_three_u_50 {N z3103 z3111 z4606 z5145 : Int} (h0 : (21 - z5145) < N + 1) (h1 : z5145 < z3111) (h2 : ¬ z5145 = z3103) (h3 : z5145 = z4606) (h4 : z3103 < z3111) (h5 : z4606 < z3111) (h6 : ¬ z4606 = z3103) (h7 : 0 ≤ z3103 ∧ z3103 ≤ 19) (h8 : 1 ≤ z3111 ∧ z3111 ≤ 20) (h9 : 0 ≤ z4606 ∧ z4606 ≤ 19) (h10 : 0 ≤ z5145 ∧ z5145 ≤ 19) : (21 - (z5145 + 1)) < N := by omega
theorem vc_X12_three_u_51 {z3103 z3111 z4606 z5145 : Int} (h0 : z5145 < z3111) (h1 : ¬ z5145 = z3103) (h2 : ¬ z5145 = z4606) (h3 : z3103 < z3111) (h4 : z4606 < z3111) (h5 : ¬ z4606 = z3103) (h6 : 0 ≤ z3103 ∧ z3103 ≤ 19) (h7 : 1 ≤ z3111 ∧ z3111 ≤ 20) (h8 : 0 ≤ z4606 ∧ z4606 ≤ 19) (h9 : 0 ≤ z5145 ∧ z5145 ≤ 19) : 0 ≤ (40 * (4 + z5145)) := by omega
theorem vc_X12_three_u_52 {z3103 z3111 z4606 z5145 : Int} (h0 : z5145 < z3111) (h1 : ¬ z5145 = z3103) (h2 : ¬ z5145 = z4606) (h3 : z3103 < z3111) (h4 : z4606 < z3111) (h5 : ¬ z4606 = z3103) (h6 : 0 ≤ z3103 ∧ z3103 ≤ 19) (h7 : 1 ≤ z3111 ∧ z3111 ≤ 20) (h8 : 0 ≤ z4606 ∧ z4606 ≤ 19) (h9 : 0 ≤ z5145 ∧ z5145 ≤ 19) : (40 * (4 + z5145)) % 40 = 0 := by omega
theorem vc_X12_three_u_57 {N z3103 z3111 z4606 z5145 : Int} (h0 : (21 - z5145) < N + 1) (h1 : z5145 < z3111) (h2 : ¬ z5145 = z3103) (h3 : ¬ z5145 = z4606) (h4 : z3103 < z3111) (h5 : z4606 < z3111) (h6 : ¬ z4606 = z3103) (h7 : 0 ≤ z3103 ∧ z3103 ≤ 19) (h8 : 1 ≤ z3111 ∧ z3111 ≤ 20) (h9 : 0 ≤ z4606 ∧ z4606 ≤ 19) (h10 : 0 ≤ z5145 ∧ z5145 ≤ 19) : (21 - (z5145 + 1)) < N := by omega
theorem vc_X12_three_u_61 {p3 z38 : Int} (h0 : ¬ p3 = 0) (h1 : (z38 = 1 → (0 : Int) ≤ p3 ∧ p3 ≤ (2 : Int))) (h2 : (z38 = 0 → p3 < (0 : Int) ∨ (2 : Int) < p3)) (h3 : (0 : Int) ≤ p3 ∧ p3 ≤ (2 : Int)) (h4 : 0 ≤ p3 ∧ p3 ≤ 2) (h5 : 1 ≤ z38 ∧ z38 ≤ 1) : 1 ≤ p3 ∧ p3 ≤ 2 := by omega
theorem vc_X12_three_u_62 {p3 z38 : Int} (h0 : ¬ p3 = 1) (h1 : (z38 = 1 → (0 : Int) ≤ p3 ∧ p3 ≤ (2 : Int))) (h2 : (z38 = 0 → p3 < (0 : Int) ∨ (2 : Int) < p3)) (h3 : (0 : Int) ≤ p3 ∧ p3 ≤ (2 : Int)) (h4 : ¬ p3 = 0) (h5 : 1 ≤ p3 ∧ p3 ≤ 2) (h6 : 1 ≤ z38 ∧ z38 ≤ 1) : 2 ≤ p3 ∧ p3 ≤ 2 := by omega
theorem vc_X12_three_u_63 {p3 z38 : Int} (h0 : p3 = 1) (h1 : (z38 = 1 → (0 : Int) ≤ p3 ∧ p3 ≤ (2 : Int))) (h2 : (z38 = 0 → p3 < (0 : Int) ∨ (2 : Int) < p3)) (h3 : (0 : Int) ≤ p3 ∧ p3 ≤ (2 : Int)) (h4 : ¬ p3 = 0) (h5 : 1 ≤ p3 ∧ p3 ≤ 2) (h6 : 1 ≤ z38 ∧ z38 ≤ 1) : 1 ≤ p3 ∧ p3 ≤ 1 := by omega
theorem vc_X12_three_u_64 {p3 z38 : Int} (h0 : p3 = 0) (h1 : (z38 = 1 → (0 : Int) ≤ p3 ∧ p3 ≤ (2 : Int))) (h2 : (z38 = 0 → p3 < (0 : Int) ∨ (2 : Int) < p3)) (h3 : (0 : Int) ≤ p3 ∧ p3 ≤ (2 : Int)) (h4 : 0 ≤ p3 ∧ p3 ≤ 2) (h5 : 1 ≤ z38 ∧ z38 ≤ 1) : 0 ≤ p3 ∧ p3 ≤ 0 := by omega
set_option maxRecDepth 4000 in
set_option maxHeartbeats 4000000 in
theorem c_X12_three_u {l : Launch} {D : va_G} {c : Nat → ClassId} {H0 : Heap} {sa : Nat × Nat × (Nat → Int32)} {w : mW} {μ : mM} (hw : mWF w) (hT : mT w μ) {p1 : Int} (hp1 : (-2147483648) ≤ p1 ∧ p1 ≤ 2147483647) {p2 : Int} (hp2 : (-2147483648) ≤ p2 ∧ p2 ≤ 2147483647) {p3 : Int} (hp3 : (-2147483648) ≤ p3 ∧ p3 ≤ 2147483647) (hIJC : JC l D c H0 sa μ) (hIRP : RP μ) (hIEP : EP μ) (hIHP : HP μ) (hIUP : UP l D c H0 sa μ) (hIG1 : G1 μ) (hIEV : EV μ) (hIPK : PK μ) : sC (gG l D c H0 sa) mX12_three 9 0 0 [.ref 106, iv p1, iv p2, iv p3] (mk w μ) (qI w [106026, 106027, 106028, 106029, 106030, 106031, 126999, 151999, 152999, 153999] μ (fun z μ1 => ((-2147483648) ≤ z ∧ z ≤ 2147483647) ∧ JC l D c H0 sa μ1 ∧ RP μ1 ∧ EP μ1 ∧ HP μ1 ∧ UP l D c H0 sa μ1 ∧ G1 μ1 ∧ EV μ1 ∧ True)) := by
  refine sC.of rfl (by decide) (le_t rfl) ?_
  refine mr_lvE (lv' := [(0, .ref 106), (1, iv p1), (2, iv p2), (3, iv p3)]) rfl ?_
  refine sv_aload_n (pc := 0) dX12_three_0 rfl rfl ?_
  refine mr_iload_n (pc := 1) (z := p1) dX12_three_1 rfl rfl ?_
  obtain ⟨z1, q2⟩ : ∃ z, μ 106 5 = z := ⟨_, rfl⟩
  have h3 : (0 ≤ z1 ∧ z1 ≤ 10) := by rw [← q2]; exact hT 106 106 (A_106 hw) 5
  refine mr_cVP (pc := 2) (c_X12_isDomain hw hT hp1 q2) (gOk _ _ _ _ _) dX12_three_2 (tX12_isDomain _ _ _ _ _) ⟨wV_X12_isDomain, wL_X12_isDomain⟩ wM_X12_49 (gCX12 _ _ _ _ _) rfl (A_106 hw) rfl ⟨le_t rfl, le_t rfl⟩ ⟨le_t rfl, le_t rfl⟩ rfl (le_t rfl) fun z8 h7 => ?_
  refine mr_if_eq (pc := 5) (tgt := 16) dX12_three_5 (by decide) (r32 h7.1 rfl) (fun h9 => ?_) (fun h9 => ?_)
  · have h10 : 0 ≤ z8 ∧ z8 ≤ 0 := (vc_X12_write_78 h9 h7.2.1 h7.2.2.1 hp1 h3 h7.1)
    have h11 : p1 < 0 ∨ z1 ≤ p1 := (h7.2.2.1 (vc_X12_write_79 h7.2.1 h7.2.2.1 h9 hp1 h3 h10))
    refine mr_iconst (pc := 16) (z := (-1)) dX12_three_16 ?_
    exact mr_iret dX12_three_17 rfl (le_t rfl) (le_t rfl) hT mF.refl ⟨(rW (c := (-2147483648)) (d := 2147483647) (rR (x := (-1))) rfl), hIJC, hIRP, hIEP, hIHP, hIUP, hIG1, hIEV, trivial⟩
  have h12 : 1 ≤ z8 ∧ z8 ≤ 1 := (vc_X12_write_12 h9 h7.2.1 h7.2.2.1 hp1 h3 h7.1)
  have h13 : 0 ≤ p1 ∧ p1 < z1 := (h7.2.1 (vc_X12_write_13 h7.2.1 h7.2.2.1 h9 hp1 h3 h12))
  have h14 : 0 ≤ p1 ∧ p1 ≤ 9 := (vc_X12_write_14 h13 h7.2.1 h7.2.2.1 hp1 h3 h12)
  have h15 : 1 ≤ z1 ∧ z1 ≤ 10 := (vc_X12_write_15 h13 h7.2.1 h7.2.2.1 h14 h3 h12)
  refine sv_aload_n (pc := 8) dX12_three_8 rfl rfl ?_
  refine mr_iload_n (pc := 9) (z := p2) dX12_three_9 rfl rfl ?_
  obtain ⟨z16, q17⟩ : ∃ z, μ 106 2 = z := ⟨_, rfl⟩
  have h18 : (0 ≤ z16 ∧ z16 ≤ 10) := by rw [← q17]; exact hT 106 106 (A_106 hw) 2
  refine mr_cVP (pc := 10) (c_X12_isPrefix hw hT hp2 q17) (gOk _ _ _ _ _) dX12_three_10 (tX12_isPrefix _ _ _ _ _) ⟨wV_X12_isPrefix, wL_X12_isPrefix⟩ wM_X12_92 (gCX12 _ _ _ _ _) rfl (A_106 hw) rfl ⟨le_t rfl, le_t rfl⟩ ⟨le_t rfl, le_t rfl⟩ rfl (le_t rfl) fun z23 h22 => ?_
  refine mr_if_ne (pc := 13) (tgt := 18) dX12_three_13 (by decide) (r32 h22.1 rfl) (fun h24 => ?_) (fun h24 => ?_)
  · have h25 : 1 ≤ z23 ∧ z23 ≤ 1 := (vc_X12_write_12 h24 h22.2.1 h22.2.2.1 hp2 h18 h22.1)
    have h26 : 0 ≤ p2 ∧ p2 < z16 := (h22.2.1 (vc_X12_write_13 h22.2.1 h22.2.2.1 h24 hp2 h18 h25))
    have h27 : 0 ≤ p2 ∧ p2 ≤ 9 := (vc_X12_write_14 h26 h22.2.1 h22.2.2.1 hp2 h18 h25)
    refine sv_aload_n (pc := 18) dX12_three_18 rfl rfl ?_
    refine gf_X12_82 (pc := 19) dX12_three_19 wF_X12_448 (A_106 hw) hT ?_
    refine mr_bipush (pc := 22) (z := 10) dX12_three_22 (by decide) ?_
    refine mr_iload_n (pc := 24) (z := p1) dX12_three_24 rfl rfl ?_
    refine mr_imul (pc := 25) (x := 10) (y := p1) dX12_three_25 ?_
    refine mr_iload_n (pc := 26) (z := p2) dX12_three_26 rfl rfl ?_
    refine mr_iadd (pc := 27) (x := (10 * p1)) (y := p2) dX12_three_27 ?_
    refine la_162 (pc := 28) dX12_three_28 (A_162 hw) hT (rIx (n := 100) (rAdd (e := 0) (f := 99) (rMulL (n := 10) (e := 0) (f := 90) h14 rfl) h27 rfl) rfl) fun z28 q29 h30 => ?_
    refine mr_if_ge (pc := 29) (tgt := 41) dX12_three_29 (by decide) (r32 h30 rfl) (fun h31 => ?_) (fun h31 => ?_)
    · have h32 : 0 ≤ z28 ∧ z28 ≤ 2 := (vc_X12_look_u_133 h31 h30)
      refine mr_ldc (pc := 41) (z := (-99999999)) dX12_three_41 wG_X12_29 (by decide) ?_
      exact mr_iret dX12_three_43 rfl (le_t rfl) (le_t rfl) hT mF.refl ⟨(rW (c := (-2147483648)) (d := 2147483647) (rR (x := (-99999999))) rfl), hIJC, hIRP, hIEP, hIHP, hIUP, hIG1, hIEV, trivial⟩
    have h33 : (-1) ≤ z28 ∧ z28 ≤ (-1) := (vc_X12_look_u_2 h31 h30)
    refine mr_iload_n (pc := 32) (z := p3) dX12_three_32 rfl rfl ?_
    refine mr_iconst (pc := 33) (z := 0) dX12_three_33 ?_
    refine mr_iconst (pc := 34) (z := 2) dX12_three_34 ?_
    refine mr_cSP (pc := 35) (c_X12_in hw hT hp3 (rW (c := (-2147483648)) (d := 2147483647) (rR (x := 0)) rfl) (rW (c := (-2147483648)) (d := 2147483647) (rR (x := 2)) rfl)) (gOk _ _ _ _ _) dX12_three_35 (tX12_in _ _ _ _ _) wS_X12_in wM_X12_18 ⟨le_t rfl, le_t rfl⟩ ⟨le_t rfl, le_t rfl⟩ rfl (le_t rfl) fun z38 h37 => ?_
    refine mr_if_ne (pc := 38) (tgt := 44) dX12_three_38 (by decide) (r32 h37.1 rfl) (fun h39 => ?_) (fun h39 => ?_)
    · have h40 : 1 ≤ z38 ∧ z38 ≤ 1 := (vc_X12_units_1 h39 h37.2.1 h37.2.2.1 hp3 h37.1)
      have h41 : (0 : Int) ≤ p3 ∧ p3 ≤ (2 : Int) := (h37.2.1 (vc_X12_units_2 h37.2.1 h37.2.2.1 h39 hp3 h40))
      have h42 : 0 ≤ p3 ∧ p3 ≤ 2 := (vc_X12_units_3 h41 h37.2.1 h37.2.2.1 hp3 h40)
      refine sv_aload_n (pc := 44) dX12_three_44 rfl rfl ?_
      refine mr_iload_n (pc := 45) (z := p1) dX12_three_45 rfl rfl ?_
      refine mr_iload_n (pc := 46) (z := p2) dX12_three_46 rfl rfl ?_
      refine mr_cVV (pc := 47) (c_X12_candidates_u hw hT h14 h27 hIJC hIRP hIPK) (gOk _ _ _ _ _) dX12_three_47 (tX12_candidates _ _ _ _ _) ⟨wV_X12_candidates, wL_X12_candidates⟩ wM_X12_572 (gCX12 _ _ _ _ _) rfl (A_106 hw) rfl ⟨le_t rfl, le_t rfl⟩ ⟨le_t rfl, le_t rfl⟩ rfl (le_t rfl) fun μ43 T44 F45 h46 => ?_
      refine mr_iconst (pc := 50) (z := 0) dX12_three_50 ?_
      refine mr_istore (pc := 51) (lv' := [(4, iv 0), (0, .ref 106), (1, iv p1), (2, iv p2), (3, iv p3)]) dX12_three_51 (by decide) rfl ?_
      have L3104 : ∀ (nL3104 : Nat) (z3103 : Int), True → (0 ≤ z3103 ∧ z3103 ≤ 20) → (21 - z3103) < (nL3104 : Int) → sV (gG l D c H0 sa) mX12_three (sRm 9 0 0) (sZ (gG l D c H0 sa) 0 0 (qI w [106026, 106027, 106028, 106029, 106030, 106031, 126999, 151999, 152999, 153999] μ (fun z μ1 => ((-2147483648) ≤ z ∧ z ≤ 2147483647) ∧ JC l D c H0 sa μ1 ∧ RP μ1 ∧ EP μ1 ∧ HP μ1 ∧ UP l D c H0 sa μ1 ∧ G1 μ1 ∧ EV μ1 ∧ True))) 53 [(0, .ref 106), (1, iv p1), (2, iv p2), (3, iv p3), (4, iv z3103)] [] (mk w μ43) 0 0 := by
        intro nL3104
        induction nL3104 with
        | zero => intro z3103 _ h3105 h3109; exact ((vc_X12_tieOf_1 h3109 h3105)).elim
        | succ nL3104 ih3110 =>
          intro z3103 _ h3105 h3109
          refine mr_iload (pc := 53) (z := z3103) dX12_three_53 rfl ?_
          refine sv_aload_n (pc := 55) dX12_three_55 rfl rfl ?_
          refine gf_X12_6 (pc := 56) dX12_three_56 wF_X12_37 (A_106 hw) T44 fun z3111 q3112 h3113 => ?_
          refine mr_icmp_ge (pc := 59) (tgt := 225) dX12_three_59 (by decide) (r32 h3105 rfl) (r32 h3113 rfl) (fun h3114 => ?_) (fun h3114 => ?_)
          · refine mr_ldc (pc := 225) (z := (-99999999)) dX12_three_225 wG_X12_29 (by decide) ?_
            exact mr_iret dX12_three_227 rfl (le_t rfl) (le_t rfl) T44 (mF.call mF.refl F45 rfl) ⟨(rW (c := (-2147483648)) (d := 2147483647) (rR (x := (-99999999))) rfl), h46.2.1, h46.2.2.1, (EP.keep hIEP hw ((mF.call mF.refl F45 rfl) : mF [106026, 106027, 106028, 106029, 106030, 106031, 126999, 151999, 152999, 153999] w μ μ43) rfl), (HP.keep hIHP hw ((mF.call mF.refl F45 rfl) : mF [106026, 106027, 106028, 106029, 106030, 106031, 126999, 151999, 152999, 153999] w μ μ43) rfl ((mG.call mG.refl h46.1 (List.forall_mem_cons.mpr ⟨⟨_, List.mem_cons_self, vc_X12_candidates_2⟩, (fun _ h => absurd h List.not_mem_nil)⟩)) : mG [(160, 960)] μ μ43) (List.forall_mem_cons.mpr ⟨vc_X12_three_u_17, (fun _ h => absurd h List.not_mem_nil)⟩)), (UPg.fr hIUP hw T44 rfl ((mF.call mF.refl F45 rfl) : mF [106026, 106027, 106028, 106029, 106030, 106031, 126999, 151999, 152999, 153999] w μ μ43) rfl rfl rfl ((mG.call mG.refl h46.1 (List.forall_mem_cons.mpr ⟨⟨_, List.mem_cons_self, vc_X12_candidates_2⟩, (fun _ h => absurd h List.not_mem_nil)⟩)) : mG [(160, 960)] μ μ43) (List.forall_mem_cons.mpr ⟨vc_X12_three_u_17, (fun _ h => absurd h List.not_mem_nil)⟩)), (G1.keep hIG1 hw ((mF.call mF.refl F45 rfl) : mF [106026, 106027, 106028, 106029, 106030, 106031, 126999, 151999, 152999, 153999] w μ μ43) rfl rfl ((mG.call mG.refl h46.1 (List.forall_mem_cons.mpr ⟨⟨_, List.mem_cons_self, vc_X12_candidates_2⟩, (fun _ h => absurd h List.not_mem_nil)⟩)) : mG [(160, 960)] μ μ43) (List.forall_mem_cons.mpr ⟨vc_X12_look_u_20, (fun _ h => absurd h List.not_mem_nil)⟩)), (EV.keep hIEV hw ((mF.call mF.refl F45 rfl) : mF [106026, 106027, 106028, 106029, 106030, 106031, 126999, 151999, 152999, 153999] w μ μ43) rfl), trivial⟩
          have h3115 : 0 ≤ z3103 ∧ z3103 ≤ 19 := (vc_X12_tieOf_3 h3114 h3105 h3113)
          have h3116 : 1 ≤ z3111 ∧ z3111 ≤ 20 := (vc_X12_tieOf_4 h3114 h3115 h3113)
          refine mr_iconst (pc := 62) (z := 0) dX12_three_62 ?_
          refine mr_istore (pc := 63) (lv' := [(5, iv 0), (0, .ref 106), (1, iv p1), (2, iv p2), (3, iv p3), (4, iv z3103)]) dX12_three_63 (by decide) rfl ?_
          have L4607 : ∀ (nL4607 : Nat) (z4606 : Int), True → (0 ≤ z4606 ∧ z4606 ≤ 20) → (21 - z4606) < (nL4607 : Int) → sV (gG l D c H0 sa) mX12_three (sRm 9 0 0) (sZ (gG l D c H0 sa) 0 0 (qI w [106026, 106027, 106028, 106029, 106030, 106031, 126999, 151999, 152999, 153999] μ (fun z μ1 => ((-2147483648) ≤ z ∧ z ≤ 2147483647) ∧ JC l D c H0 sa μ1 ∧ RP μ1 ∧ EP μ1 ∧ HP μ1 ∧ UP l D c H0 sa μ1 ∧ G1 μ1 ∧ EV μ1 ∧ True))) 65 [(0, .ref 106), (1, iv p1), (2, iv p2), (3, iv p3), (4, iv z3103), (5, iv z4606)] [] (mk w μ43) 0 0 := by
            intro nL4607
            induction nL4607 with
            | zero => intro z4606 _ h4608 h4612; exact ((vc_X12_tieOf_1 h4612 h4608)).elim
            | succ nL4607 ih4613 =>
              intro z4606 _ h4608 h4612
              refine mr_iload (pc := 65) (z := z4606) dX12_three_65 rfl ?_
              refine sv_aload_n (pc := 67) dX12_three_67 rfl rfl ?_
              refine gk_X12_6 (pc := 68) dX12_three_68 wF_X12_37 (A_106 hw) q3112 ?_
              refine mr_icmp_ge (pc := 71) (tgt := 219) dX12_three_71 (by decide) (r32 h4608 rfl) (r32 h3116 rfl) (fun h4614 => ?_) (fun h4614 => ?_)
              · have h4615 : 1 ≤ z4606 ∧ z4606 ≤ 20 := (vc_X12_three_u_22 h4614 h3114 h3115 h3116 h4608)
                refine mr_iinc (pc := 219) (lv' := [(4, iv (z3103 + 1)), (0, .ref 106), (1, iv p1), (2, iv p2), (3, iv p3), (5, iv z4606)]) dX12_three_219 rfl (by decide) rfl ?_
                refine sv_goto (pc := 222) (tgt := 53) dX12_three_222 (by decide) ?_
                refine mr_lvS (lv' := [(0, .ref 106), (1, iv p1), (2, iv p2), (3, iv p3), (4, iv (z3103 + 1))]) (List.forall_mem_cons.mpr ⟨rfl, List.forall_mem_cons.mpr ⟨rfl, List.forall_mem_cons.mpr ⟨rfl, List.forall_mem_cons.mpr ⟨rfl, List.forall_mem_cons.mpr ⟨rfl, fun _ h => absurd h List.not_mem_nil⟩⟩⟩⟩⟩) ?_
                exact ih3110 (z3103 + 1) trivial (rW (c := 0) (d := 20) (rAdd (e := 1) (f := 20) h3115 (rR (x := 1)) rfl) rfl) (vc_X12_three_u_23 (nS h3109) h3114 h4614 h3115 h3116 h4615)
              have h4616 : 0 ≤ z4606 ∧ z4606 ≤ 19 := (vc_X12_three_u_24 h4614 h3114 h3115 h3116 h4608)
              refine sv_aload_n (pc := 74) dX12_three_74 rfl rfl ?_
              refine mr_iconst (pc := 75) (z := 4) dX12_three_75 ?_
              refine mr_iload (pc := 76) (z := z3103) dX12_three_76 rfl ?_
              refine mr_iadd (pc := 78) (x := 4) (y := z3103) dX12_three_78 ?_
              obtain ⟨z4617, q4618⟩ : ∃ z, μ43 126 ((40 * (4 + z3103)).toNat) = z := ⟨_, rfl⟩
              have h4619 := rt7 T44 (A_126 hw) (vc_X12_three_u_25 h3114 h4614 h3115 h3116 h4616) q4618
              have h4620 : (-1) ≤ z4617 ∧ z4617 ≤ 9 := h4619.2.1 (vc_X12_three_u_26 h3114 h4614 h3115 h3116 h4616)
              refine mr_cVP (pc := 79) (c_X12_isThere hw T44 (rW (c := 0) (d := 2099) (rAdd (e := 4) (f := 23) (rR (x := 4)) h3115 rfl) rfl) q4618) (gOk _ _ _ _ _) dX12_three_79 (tX12_isThere _ _ _ _ _) ⟨wV_X12_isThere, wL_X12_isThere⟩ wM_X12_151 (gCX12 _ _ _ _ _) rfl (A_106 hw) rfl ⟨le_t rfl, le_t rfl⟩ ⟨le_t rfl, le_t rfl⟩ rfl (le_t rfl) fun z4625 h4624 => ?_
              refine mr_if_eq (pc := 82) (tgt := 219) dX12_three_82 (by decide) (r32 h4624.1 rfl) (fun h4626 => ?_) (fun h4626 => ?_)
              · have h4627 : 0 ≤ z4625 ∧ z4625 ≤ 0 := (vc_X12_same_3 h4626 h4624.2.1 h4624.2.2.1 h4620 h4624.1)
                have h4628 : z4617 < 0 := (h4624.2.2.1 (vc_X12_same_4 h4624.2.1 h4624.2.2.1 h4626 h4620 h4627))
                have h4629 : (-1) ≤ z4617 ∧ z4617 ≤ (-1) := (vc_X12_same_5 h4628 h4624.2.1 h4624.2.2.1 h4620 h4627)
                refine mr_iinc (pc := 219) (lv' := [(4, iv (z3103 + 1)), (0, .ref 106), (1, iv p1), (2, iv p2), (3, iv p3), (5, iv z4606)]) dX12_three_219 rfl (by decide) rfl ?_
                refine sv_goto (pc := 222) (tgt := 53) dX12_three_222 (by decide) ?_
                refine mr_lvS (lv' := [(0, .ref 106), (1, iv p1), (2, iv p2), (3, iv p3), (4, iv (z3103 + 1))]) (List.forall_mem_cons.mpr ⟨rfl, List.forall_mem_cons.mpr ⟨rfl, List.forall_mem_cons.mpr ⟨rfl, List.forall_mem_cons.mpr ⟨rfl, List.forall_mem_cons.mpr ⟨rfl, fun _ h => absurd h List.not_mem_nil⟩⟩⟩⟩⟩) ?_
                exact ih3110 (z3103 + 1) trivial (rW (c := 0) (d := 20) (rAdd (e := 1) (f := 20) h3115 (rR (x := 1)) rfl) rfl) (vc_X12_three_u_30 (nS h3109) h3114 h4614 h3115 h3116 h4616)
              have h4630 : 1 ≤ z4625 ∧ z4625 ≤ 1 := (vc_X12_same_8 h4626 h4624.2.1 h4624.2.2.1 h4620 h4624.1)
              have h4631 : 0 ≤ z4617 := (h4624.2.1 (vc_X12_same_9 h4624.2.1 h4624.2.2.1 h4626 h4620 h4630))
              have h4632 : 0 ≤ z4617 ∧ z4617 ≤ 9 := (vc_X12_same_10 h4631 h4624.2.1 h4624.2.2.1 h4620 h4630)
              refine mr_iload (pc := 85) (z := z4606) dX12_three_85 rfl ?_
              refine mr_iload (pc := 87) (z := z3103) dX12_three_87 rfl ?_
              refine mr_icmp_eq (pc := 89) (tgt := 213) dX12_three_89 (by decide) (r32 h4616 rfl) (r32 h3115 rfl) (fun h4633 => ?_) (fun h4633 => ?_)
              · refine mr_iinc (pc := 213) (lv' := [(5, iv (z4606 + 1)), (0, .ref 106), (1, iv p1), (2, iv p2), (3, iv p3), (4, iv z3103)]) dX12_three_213 rfl (by decide) rfl ?_
                refine sv_goto (pc := 216) (tgt := 65) dX12_three_216 (by decide) ?_
                refine mr_lvS (lv' := [(0, .ref 106), (1, iv p1), (2, iv p2), (3, iv p3), (4, iv z3103), (5, iv (z4606 + 1))]) (List.forall_mem_cons.mpr ⟨rfl, List.forall_mem_cons.mpr ⟨rfl, List.forall_mem_cons.mpr ⟨rfl, List.forall_mem_cons.mpr ⟨rfl, List.forall_mem_cons.mpr ⟨rfl, List.forall_mem_cons.mpr ⟨rfl, fun _ h => absurd h List.not_mem_nil⟩⟩⟩⟩⟩⟩) ?_
                exact ih4613 (z4606 + 1) trivial (rW (c := 0) (d := 20) (rAdd (e := 1) (f := 20) h4616 (rR (x := 1)) rfl) rfl) (vc_X12_three_u_34 (nS h4612) h4614 h4633 h3114 h3115 h3116 h4616)
              refine sv_aload_n (pc := 92) dX12_three_92 rfl rfl ?_
              refine mr_iconst (pc := 93) (z := 4) dX12_three_93 ?_
              refine mr_iload (pc := 94) (z := z4606) dX12_three_94 rfl ?_
              refine mr_iadd (pc := 96) (x := 4) (y := z4606) dX12_three_96 ?_
              obtain ⟨z4634, q4635⟩ : ∃ z, μ43 126 ((40 * (4 + z4606)).toNat) = z := ⟨_, rfl⟩
              have h4636 := rt7 T44 (A_126 hw) (vc_X12_three_u_35 h4614 h4633 h3114 h3115 h3116 h4616) q4635
              have h4637 : (-1) ≤ z4634 ∧ z4634 ≤ 9 := h4636.2.1 (vc_X12_three_u_36 h4614 h4633 h3114 h3115 h3116 h4616)
              refine mr_cVP (pc := 97) (c_X12_isThere hw T44 (rW (c := 0) (d := 2099) (rAdd (e := 4) (f := 23) (rR (x := 4)) h4616 rfl) rfl) q4635) (gOk _ _ _ _ _) dX12_three_97 (tX12_isThere _ _ _ _ _) ⟨wV_X12_isThere, wL_X12_isThere⟩ wM_X12_151 (gCX12 _ _ _ _ _) rfl (A_106 hw) rfl ⟨le_t rfl, le_t rfl⟩ ⟨le_t rfl, le_t rfl⟩ rfl (le_t rfl) fun z4642 h4641 => ?_
              refine mr_if_eq (pc := 100) (tgt := 213) dX12_three_100 (by decide) (r32 h4641.1 rfl) (fun h4643 => ?_) (fun h4643 => ?_)
              · have h4644 : 0 ≤ z4642 ∧ z4642 ≤ 0 := (vc_X12_same_3 h4643 h4641.2.1 h4641.2.2.1 h4637 h4641.1)
                have h4645 : z4634 < 0 := (h4641.2.2.1 (vc_X12_same_4 h4641.2.1 h4641.2.2.1 h4643 h4637 h4644))
                have h4646 : (-1) ≤ z4634 ∧ z4634 ≤ (-1) := (vc_X12_same_5 h4645 h4641.2.1 h4641.2.2.1 h4637 h4644)
                refine mr_iinc (pc := 213) (lv' := [(5, iv (z4606 + 1)), (0, .ref 106), (1, iv p1), (2, iv p2), (3, iv p3), (4, iv z3103)]) dX12_three_213 rfl (by decide) rfl ?_
                refine sv_goto (pc := 216) (tgt := 65) dX12_three_216 (by decide) ?_
                refine mr_lvS (lv' := [(0, .ref 106), (1, iv p1), (2, iv p2), (3, iv p3), (4, iv z3103), (5, iv (z4606 + 1))]) (List.forall_mem_cons.mpr ⟨rfl, List.forall_mem_cons.mpr ⟨rfl, List.forall_mem_cons.mpr ⟨rfl, List.forall_mem_cons.mpr ⟨rfl, List.forall_mem_cons.mpr ⟨rfl, List.forall_mem_cons.mpr ⟨rfl, fun _ h => absurd h List.not_mem_nil⟩⟩⟩⟩⟩⟩) ?_
                exact ih4613 (z4606 + 1) trivial (rW (c := 0) (d := 20) (rAdd (e := 1) (f := 20) h4616 (rR (x := 1)) rfl) rfl) (vc_X12_three_u_40 (nS h4612) h4614 h4633 h3114 h3115 h3116 h4616)
              have h4647 : 1 ≤ z4642 ∧ z4642 ≤ 1 := (vc_X12_same_8 h4643 h4641.2.1 h4641.2.2.1 h4637 h4641.1)
              have h4648 : 0 ≤ z4634 := (h4641.2.1 (vc_X12_same_9 h4641.2.1 h4641.2.2.1 h4643 h4637 h4647))
              have h4649 : 0 ≤ z4634 ∧ z4634 ≤ 9 := (vc_X12_same_10 h4648 h4641.2.1 h4641.2.2.1 h4637 h4647)
              refine sv_aload_n (pc := 103) dX12_three_103 rfl rfl ?_
              refine mr_iload_n (pc := 104) (z := p1) dX12_three_104 rfl rfl ?_
              refine mr_iload (pc := 105) (z := z3103) dX12_three_105 rfl ?_
              refine mr_iload (pc := 107) (z := z4606) dX12_three_107 rfl ?_
              refine mr_iload_n (pc := 109) (z := p2) dX12_three_109 rfl rfl ?_
              refine mr_cVP (pc := 110) (c_X12_beats hw T44 h14 h3115 h4616 h27) (gOk _ _ _ _ _) dX12_three_110 (tX12_beats _ _ _ _ _) ⟨wV_X12_beats, wL_X12_beats⟩ wM_X12_568 (gCX12 _ _ _ _ _) rfl (A_106 hw) rfl ⟨le_t rfl, le_t rfl⟩ ⟨le_t rfl, le_t rfl⟩ rfl (le_t rfl) fun z4654 h4653 => ?_
              refine mr_if_ne (pc := 113) (tgt := 119) dX12_three_113 (by decide) (r32 h4653.1 rfl) (fun h4655 => ?_) (fun h4655 => ?_)
              · have h4656 : 1 ≤ z4654 ∧ z4654 ≤ 1 := (vc_X12_ring_24 h4655 h4653.1)
                refine mr_iconst (pc := 119) (z := 0) dX12_three_119 ?_
                refine mr_istore (pc := 120) (lv' := [(6, iv 0), (0, .ref 106), (1, iv p1), (2, iv p2), (3, iv p3), (4, iv z3103), (5, iv z4606)]) dX12_three_120 (by decide) rfl ?_
                have L5146 : ∀ (nL5146 : Nat) (z5145 : Int), True → (0 ≤ z5145 ∧ z5145 ≤ 20) → (21 - z5145) < (nL5146 : Int) → sV (gG l D c H0 sa) mX12_three (sRm 9 0 0) (sZ (gG l D c H0 sa) 0 0 (qI w [106026, 106027, 106028, 106029, 106030, 106031, 126999, 151999, 152999, 153999] μ (fun z μ1 => ((-2147483648) ≤ z ∧ z ≤ 2147483647) ∧ JC l D c H0 sa μ1 ∧ RP μ1 ∧ EP μ1 ∧ HP μ1 ∧ UP l D c H0 sa μ1 ∧ G1 μ1 ∧ EV μ1 ∧ True))) 122 [(0, .ref 106), (1, iv p1), (2, iv p2), (3, iv p3), (4, iv z3103), (5, iv z4606), (6, iv z5145)] [] (mk w μ43) 0 0 := by
                  intro nL5146
                  induction nL5146 with
                  | zero => intro z5145 _ h5147 h5151; exact ((vc_X12_tieOf_1 h5151 h5147)).elim
                  | succ nL5146 ih5152 =>
                    intro z5145 _ h5147 h5151
                    refine mr_iload (pc := 122) (z := z5145) dX12_three_122 rfl ?_
                    refine sv_aload_n (pc := 124) dX12_three_124 rfl rfl ?_
                    refine gk_X12_6 (pc := 125) dX12_three_125 wF_X12_37 (A_106 hw) q3112 ?_
                    refine mr_icmp_ge (pc := 128) (tgt := 213) dX12_three_128 (by decide) (r32 h5147 rfl) (r32 h3116 rfl) (fun h5153 => ?_) (fun h5153 => ?_)
                    · have h5154 : 1 ≤ z5145 ∧ z5145 ≤ 20 := (vc_X12_three_u_46 h5153 h3114 h4614 h3115 h3116 h4616 h5147)
                      refine mr_iinc (pc := 213) (lv' := [(5, iv (z4606 + 1)), (0, .ref 106), (1, iv p1), (2, iv p2), (3, iv p3), (4, iv z3103), (6, iv z5145)]) dX12_three_213 rfl (by decide) rfl ?_
                      refine sv_goto (pc := 216) (tgt := 65) dX12_three_216 (by decide) ?_
                      refine mr_lvS (lv' := [(0, .ref 106), (1, iv p1), (2, iv p2), (3, iv p3), (4, iv z3103), (5, iv (z4606 + 1))]) (List.forall_mem_cons.mpr ⟨rfl, List.forall_mem_cons.mpr ⟨rfl, List.forall_mem_cons.mpr ⟨rfl, List.forall_mem_cons.mpr ⟨rfl, List.forall_mem_cons.mpr ⟨rfl, List.forall_mem_cons.mpr ⟨rfl, fun _ h => absurd h List.not_mem_nil⟩⟩⟩⟩⟩⟩) ?_
                      exact ih4613 (z4606 + 1) trivial (rW (c := 0) (d := 20) (rAdd (e := 1) (f := 20) h4616 (rR (x := 1)) rfl) rfl) (vc_X12_three_u_47 (nS h4612) h4614 h4633 h3114 h5153 h3115 h3116 h4616 h5154)
                    have h5155 : 0 ≤ z5145 ∧ z5145 ≤ 19 := (vc_X12_three_u_48 h5153 h3114 h4614 h3115 h3116 h4616 h5147)
                    refine mr_iload (pc := 131) (z := z5145) dX12_three_131 rfl ?_
                    refine mr_iload (pc := 133) (z := z3103) dX12_three_133 rfl ?_
                    refine mr_icmp_eq (pc := 135) (tgt := 207) dX12_three_135 (by decide) (r32 h5155 rfl) (r32 h3115 rfl) (fun h5156 => ?_) (fun h5156 => ?_)
                    · refine mr_iinc (pc := 207) (lv' := [(6, iv (z5145 + 1)), (0, .ref 106), (1, iv p1), (2, iv p2), (3, iv p3), (4, iv z3103), (5, iv z4606)]) dX12_three_207 rfl (by decide) rfl ?_
                      refine sv_goto (pc := 210) (tgt := 122) dX12_three_210 (by decide) ?_
                      refine mr_lvS (lv' := [(0, .ref 106), (1, iv p1), (2, iv p2), (3, iv p3), (4, iv z3103), (5, iv z4606), (6, iv (z5145 + 1))]) (List.forall_mem_cons.mpr ⟨rfl, List.forall_mem_cons.mpr ⟨rfl, List.forall_mem_cons.mpr ⟨rfl, List.forall_mem_cons.mpr ⟨rfl, List.forall_mem_cons.mpr ⟨rfl, List.forall_mem_cons.mpr ⟨rfl, List.forall_mem_cons.mpr ⟨rfl, fun _ h => absurd h List.not_mem_nil⟩⟩⟩⟩⟩⟩⟩) ?_
                      exact ih5152 (z5145 + 1) trivial (rW (c := 0) (d := 20) (rAdd (e := 1) (f := 20) h5155 (rR (x := 1)) rfl) rfl) (vc_X12_three_u_49 (nS h5151) h5153 h5156 h3114 h4614 h4633 h3115 h3116 h4616 h5155)
                    refine mr_iload (pc := 138) (z := z5145) dX12_three_138 rfl ?_
                    refine mr_iload (pc := 140) (z := z4606) dX12_three_140 rfl ?_
                    refine mr_icmp_eq (pc := 142) (tgt := 207) dX12_three_142 (by decide) (r32 h5155 rfl) (r32 h4616 rfl) (fun h5157 => ?_) (fun h5157 => ?_)
                    · refine mr_iinc (pc := 207) (lv' := [(6, iv (z5145 + 1)), (0, .ref 106), (1, iv p1), (2, iv p2), (3, iv p3), (4, iv z3103), (5, iv z4606)]) dX12_three_207 rfl (by decide) rfl ?_
                      refine sv_goto (pc := 210) (tgt := 122) dX12_three_210 (by decide) ?_
                      refine mr_lvS (lv' := [(0, .ref 106), (1, iv p1), (2, iv p2), (3, iv p3), (4, iv z3103), (5, iv z4606), (6, iv (z5145 + 1))]) (List.forall_mem_cons.mpr ⟨rfl, List.forall_mem_cons.mpr ⟨rfl, List.forall_mem_cons.mpr ⟨rfl, List.forall_mem_cons.mpr ⟨rfl, List.forall_mem_cons.mpr ⟨rfl, List.forall_mem_cons.mpr ⟨rfl, List.forall_mem_cons.mpr ⟨rfl, fun _ h => absurd h List.not_mem_nil⟩⟩⟩⟩⟩⟩⟩) ?_
                      exact ih5152 (z5145 + 1) trivial (rW (c := 0) (d := 20) (rAdd (e := 1) (f := 20) h5155 (rR (x := 1)) rfl) rfl) (vc_X12_three_u_50 (nS h5151) h5153 h5156 h5157 h3114 h4614 h4633 h3115 h3116 h4616 h5155)
                    refine sv_aload_n (pc := 145) dX12_three_145 rfl rfl ?_
                    refine mr_iconst (pc := 146) (z := 4) dX12_three_146 ?_
                    refine mr_iload (pc := 147) (z := z5145) dX12_three_147 rfl ?_
                    refine mr_iadd (pc := 149) (x := 4) (y := z5145) dX12_three_149 ?_
                    obtain ⟨z5158, q5159⟩ : ∃ z, μ43 126 ((40 * (4 + z5145)).toNat) = z := ⟨_, rfl⟩
                    have h5160 := rt7 T44 (A_126 hw) (vc_X12_three_u_51 h5153 h5156 h5157 h3114 h4614 h4633 h3115 h3116 h4616 h5155) q5159
                    have h5161 : (-1) ≤ z5158 ∧ z5158 ≤ 9 := h5160.2.1 (vc_X12_three_u_52 h5153 h5156 h5157 h3114 h4614 h4633 h3115 h3116 h4616 h5155)
                    refine mr_cVP (pc := 150) (c_X12_isThere hw T44 (rW (c := 0) (d := 2099) (rAdd (e := 4) (f := 23) (rR (x := 4)) h5155 rfl) rfl) q5159) (gOk _ _ _ _ _) dX12_three_150 (tX12_isThere _ _ _ _ _) ⟨wV_X12_isThere, wL_X12_isThere⟩ wM_X12_151 (gCX12 _ _ _ _ _) rfl (A_106 hw) rfl ⟨le_t rfl, le_t rfl⟩ ⟨le_t rfl, le_t rfl⟩ rfl (le_t rfl) fun z5166 h5165 => ?_
                    refine mr_if_ne (pc := 153) (tgt := 159) dX12_three_153 (by decide) (r32 h5165.1 rfl) (fun h5167 => ?_) (fun h5167 => ?_)
                    · have h5168 : 1 ≤ z5166 ∧ z5166 ≤ 1 := (vc_X12_same_8 h5167 h5165.2.1 h5165.2.2.1 h5161 h5165.1)
                      have h5169 : 0 ≤ z5158 := (h5165.2.1 (vc_X12_same_9 h5165.2.1 h5165.2.2.1 h5167 h5161 h5168))
                      have h5170 : 0 ≤ z5158 ∧ z5158 ≤ 9 := (vc_X12_same_10 h5169 h5165.2.1 h5165.2.2.1 h5161 h5168)
                      refine sv_aload_n (pc := 159) dX12_three_159 rfl rfl ?_
                      refine mr_iload_n (pc := 160) (z := p1) dX12_three_160 rfl rfl ?_
                      refine mr_iload (pc := 161) (z := z4606) dX12_three_161 rfl ?_
                      refine mr_iload (pc := 163) (z := z5145) dX12_three_163 rfl ?_
                      refine mr_iload_n (pc := 165) (z := p2) dX12_three_165 rfl rfl ?_
                      refine mr_cVP (pc := 166) (c_X12_beats hw T44 h14 h4616 h5155 h27) (gOk _ _ _ _ _) dX12_three_166 (tX12_beats _ _ _ _ _) ⟨wV_X12_beats, wL_X12_beats⟩ wM_X12_568 (gCX12 _ _ _ _ _) rfl (A_106 hw) rfl ⟨le_t rfl, le_t rfl⟩ ⟨le_t rfl, le_t rfl⟩ rfl (le_t rfl) fun z5175 h5174 => ?_
                      refine mr_if_eq (pc := 169) (tgt := 207) dX12_three_169 (by decide) (r32 h5174.1 rfl) (fun h5176 => ?_) (fun h5176 => ?_)
                      · have h5177 : 0 ≤ z5175 ∧ z5175 ≤ 0 := (vc_X12_ring_22 h5176 h5174.1)
                        refine mr_iinc (pc := 207) (lv' := [(6, iv (z5145 + 1)), (0, .ref 106), (1, iv p1), (2, iv p2), (3, iv p3), (4, iv z3103), (5, iv z4606)]) dX12_three_207 rfl (by decide) rfl ?_
                        refine sv_goto (pc := 210) (tgt := 122) dX12_three_210 (by decide) ?_
                        refine mr_lvS (lv' := [(0, .ref 106), (1, iv p1), (2, iv p2), (3, iv p3), (4, iv z3103), (5, iv z4606), (6, iv (z5145 + 1))]) (List.forall_mem_cons.mpr ⟨rfl, List.forall_mem_cons.mpr ⟨rfl, List.forall_mem_cons.mpr ⟨rfl, List.forall_mem_cons.mpr ⟨rfl, List.forall_mem_cons.mpr ⟨rfl, List.forall_mem_cons.mpr ⟨rfl, List.forall_mem_cons.mpr ⟨rfl, fun _ h => absurd h List.not_mem_nil⟩⟩⟩⟩⟩⟩⟩) ?_
                        exact ih5152 (z5145 + 1) trivial (rW (c := 0) (d := 20) (rAdd (e := 1) (f := 20) h5155 (rR (x := 1)) rfl) rfl) (vc_X12_three_u_57 (nS h5151) h5153 h5156 h5157 h3114 h4614 h4633 h3115 h3116 h4616 h5155)
                      have h5178 : 1 ≤ z5175 ∧ z5175 ≤ 1 := (vc_X12_ring_24 h5176 h5174.1)
                      refine sv_aload_n (pc := 172) dX12_three_172 rfl rfl ?_
                      refine mr_iload_n (pc := 173) (z := p1) dX12_three_173 rfl rfl ?_
                      refine mr_iload (pc := 174) (z := z5145) dX12_three_174 rfl ?_
                      refine mr_iload (pc := 176) (z := z3103) dX12_three_176 rfl ?_
                      refine mr_iload_n (pc := 178) (z := p2) dX12_three_178 rfl rfl ?_
                      refine mr_cVP (pc := 179) (c_X12_beats hw T44 h14 h5155 h3115 h27) (gOk _ _ _ _ _) dX12_three_179 (tX12_beats _ _ _ _ _) ⟨wV_X12_beats, wL_X12_beats⟩ wM_X12_568 (gCX12 _ _ _ _ _) rfl (A_106 hw) rfl ⟨le_t rfl, le_t rfl⟩ ⟨le_t rfl, le_t rfl⟩ rfl (le_t rfl) fun z5183 h5182 => ?_
                      refine mr_if_eq (pc := 182) (tgt := 207) dX12_three_182 (by decide) (r32 h5182.1 rfl) (fun h5184 => ?_) (fun h5184 => ?_)
                      · have h5185 : 0 ≤ z5183 ∧ z5183 ≤ 0 := (vc_X12_ring_22 h5184 h5182.1)
                        refine mr_iinc (pc := 207) (lv' := [(6, iv (z5145 + 1)), (0, .ref 106), (1, iv p1), (2, iv p2), (3, iv p3), (4, iv z3103), (5, iv z4606)]) dX12_three_207 rfl (by decide) rfl ?_
                        refine sv_goto (pc := 210) (tgt := 122) dX12_three_210 (by decide) ?_
                        refine mr_lvS (lv' := [(0, .ref 106), (1, iv p1), (2, iv p2), (3, iv p3), (4, iv z3103), (5, iv z4606), (6, iv (z5145 + 1))]) (List.forall_mem_cons.mpr ⟨rfl, List.forall_mem_cons.mpr ⟨rfl, List.forall_mem_cons.mpr ⟨rfl, List.forall_mem_cons.mpr ⟨rfl, List.forall_mem_cons.mpr ⟨rfl, List.forall_mem_cons.mpr ⟨rfl, List.forall_mem_cons.mpr ⟨rfl, fun _ h => absurd h List.not_mem_nil⟩⟩⟩⟩⟩⟩⟩) ?_
                        exact ih5152 (z5145 + 1) trivial (rW (c := 0) (d := 20) (rAdd (e := 1) (f := 20) h5155 (rR (x := 1)) rfl) rfl) (vc_X12_three_u_57 (nS h5151) h5153 h5156 h5157 h3114 h4614 h4633 h3115 h3116 h4616 h5155)
                      have h5186 : 1 ≤ z5183 ∧ z5183 ≤ 1 := (vc_X12_ring_24 h5184 h5182.1)
                      refine mr_iload_n (pc := 185) (z := p3) dX12_three_185 rfl rfl ?_
                      refine mr_if_ne (pc := 186) (tgt := 194) dX12_three_186 (by decide) (r32 h42 rfl) (fun h5191 => ?_) (fun h5191 => ?_)
                      · have h5192 : 1 ≤ p3 ∧ p3 ≤ 2 := (vc_X12_three_u_61 h5191 h37.2.1 h37.2.2.1 h41 h42 h40)
                        refine mr_iload_n (pc := 194) (z := p3) dX12_three_194 rfl rfl ?_
                        refine mr_iconst (pc := 195) (z := 1) dX12_three_195 ?_
                        refine mr_icmp_ne (pc := 196) (tgt := 204) dX12_three_196 (by decide) (r32 h5192 rfl) (r32 (rR (x := 1)) rfl) (fun h5195 => ?_) (fun h5195 => ?_)
                        · have h5196 : 2 ≤ p3 ∧ p3 ≤ 2 := (vc_X12_three_u_62 h5195 h37.2.1 h37.2.2.1 h41 h5191 h5192 h40)
                          refine mr_iload (pc := 204) (z := z5145) dX12_three_204 rfl ?_
                          exact mr_iret dX12_three_206 rfl (le_t rfl) (le_t rfl) T44 (mF.call mF.refl F45 rfl) ⟨(rW (c := (-2147483648)) (d := 2147483647) h5155 rfl), h46.2.1, h46.2.2.1, (EP.keep hIEP hw ((mF.call mF.refl F45 rfl) : mF [106026, 106027, 106028, 106029, 106030, 106031, 126999, 151999, 152999, 153999] w μ μ43) rfl), (HP.keep hIHP hw ((mF.call mF.refl F45 rfl) : mF [106026, 106027, 106028, 106029, 106030, 106031, 126999, 151999, 152999, 153999] w μ μ43) rfl ((mG.call mG.refl h46.1 (List.forall_mem_cons.mpr ⟨⟨_, List.mem_cons_self, vc_X12_candidates_2⟩, (fun _ h => absurd h List.not_mem_nil)⟩)) : mG [(160, 960)] μ μ43) (List.forall_mem_cons.mpr ⟨vc_X12_three_u_17, (fun _ h => absurd h List.not_mem_nil)⟩)), (UPg.fr hIUP hw T44 rfl ((mF.call mF.refl F45 rfl) : mF [106026, 106027, 106028, 106029, 106030, 106031, 126999, 151999, 152999, 153999] w μ μ43) rfl rfl rfl ((mG.call mG.refl h46.1 (List.forall_mem_cons.mpr ⟨⟨_, List.mem_cons_self, vc_X12_candidates_2⟩, (fun _ h => absurd h List.not_mem_nil)⟩)) : mG [(160, 960)] μ μ43) (List.forall_mem_cons.mpr ⟨vc_X12_three_u_17, (fun _ h => absurd h List.not_mem_nil)⟩)), (G1.keep hIG1 hw ((mF.call mF.refl F45 rfl) : mF [106026, 106027, 106028, 106029, 106030, 106031, 126999, 151999, 152999, 153999] w μ μ43) rfl rfl ((mG.call mG.refl h46.1 (List.forall_mem_cons.mpr ⟨⟨_, List.mem_cons_self, vc_X12_candidates_2⟩, (fun _ h => absurd h List.not_mem_nil)⟩)) : mG [(160, 960)] μ μ43) (List.forall_mem_cons.mpr ⟨vc_X12_look_u_20, (fun _ h => absurd h List.not_mem_nil)⟩)), (EV.keep hIEV hw ((mF.call mF.refl F45 rfl) : mF [106026, 106027, 106028, 106029, 106030, 106031, 126999, 151999, 152999, 153999] w μ μ43) rfl), trivial⟩
                        have h5197 : 1 ≤ p3 ∧ p3 ≤ 1 := (vc_X12_three_u_63 h5195 h37.2.1 h37.2.2.1 h41 h5191 h5192 h40)
                        refine mr_iload (pc := 199) (z := z4606) dX12_three_199 rfl ?_
                        refine sv_goto (pc := 201) (tgt := 206) dX12_three_201 (by decide) ?_
                        exact mr_iret dX12_three_206 rfl (le_t rfl) (le_t rfl) T44 (mF.call mF.refl F45 rfl) ⟨(rW (c := (-2147483648)) (d := 2147483647) h4616 rfl), h46.2.1, h46.2.2.1, (EP.keep hIEP hw ((mF.call mF.refl F45 rfl) : mF [106026, 106027, 106028, 106029, 106030, 106031, 126999, 151999, 152999, 153999] w μ μ43) rfl), (HP.keep hIHP hw ((mF.call mF.refl F45 rfl) : mF [106026, 106027, 106028, 106029, 106030, 106031, 126999, 151999, 152999, 153999] w μ μ43) rfl ((mG.call mG.refl h46.1 (List.forall_mem_cons.mpr ⟨⟨_, List.mem_cons_self, vc_X12_candidates_2⟩, (fun _ h => absurd h List.not_mem_nil)⟩)) : mG [(160, 960)] μ μ43) (List.forall_mem_cons.mpr ⟨vc_X12_three_u_17, (fun _ h => absurd h List.not_mem_nil)⟩)), (UPg.fr hIUP hw T44 rfl ((mF.call mF.refl F45 rfl) : mF [106026, 106027, 106028, 106029, 106030, 106031, 126999, 151999, 152999, 153999] w μ μ43) rfl rfl rfl ((mG.call mG.refl h46.1 (List.forall_mem_cons.mpr ⟨⟨_, List.mem_cons_self, vc_X12_candidates_2⟩, (fun _ h => absurd h List.not_mem_nil)⟩)) : mG [(160, 960)] μ μ43) (List.forall_mem_cons.mpr ⟨vc_X12_three_u_17, (fun _ h => absurd h List.not_mem_nil)⟩)), (G1.keep hIG1 hw ((mF.call mF.refl F45 rfl) : mF [106026, 106027, 106028, 106029, 106030, 106031, 126999, 151999, 152999, 153999] w μ μ43) rfl rfl ((mG.call mG.refl h46.1 (List.forall_mem_cons.mpr ⟨⟨_, List.mem_cons_self, vc_X12_candidates_2⟩, (fun _ h => absurd h List.not_mem_nil)⟩)) : mG [(160, 960)] μ μ43) (List.forall_mem_cons.mpr ⟨vc_X12_look_u_20, (fun _ h => absurd h List.not_mem_nil)⟩)), (EV.keep hIEV hw ((mF.call mF.refl F45 rfl) : mF [106026, 106027, 106028, 106029, 106030, 106031, 126999, 151999, 152999, 153999] w μ μ43) rfl), trivial⟩
                      have h5198 : 0 ≤ p3 ∧ p3 ≤ 0 := (vc_X12_three_u_64 h5191 h37.2.1 h37.2.2.1 h41 h42 h40)
                      refine mr_iload (pc := 189) (z := z3103) dX12_three_189 rfl ?_
                      refine sv_goto (pc := 191) (tgt := 206) dX12_three_191 (by decide) ?_
                      exact mr_iret dX12_three_206 rfl (le_t rfl) (le_t rfl) T44 (mF.call mF.refl F45 rfl) ⟨(rW (c := (-2147483648)) (d := 2147483647) h3115 rfl), h46.2.1, h46.2.2.1, (EP.keep hIEP hw ((mF.call mF.refl F45 rfl) : mF [106026, 106027, 106028, 106029, 106030, 106031, 126999, 151999, 152999, 153999] w μ μ43) rfl), (HP.keep hIHP hw ((mF.call mF.refl F45 rfl) : mF [106026, 106027, 106028, 106029, 106030, 106031, 126999, 151999, 152999, 153999] w μ μ43) rfl ((mG.call mG.refl h46.1 (List.forall_mem_cons.mpr ⟨⟨_, List.mem_cons_self, vc_X12_candidates_2⟩, (fun _ h => absurd h List.not_mem_nil)⟩)) : mG [(160, 960)] μ μ43) (List.forall_mem_cons.mpr ⟨vc_X12_three_u_17, (fun _ h => absurd h List.not_mem_nil)⟩)), (UPg.fr hIUP hw T44 rfl ((mF.call mF.refl F45 rfl) : mF [106026, 106027, 106028, 106029, 106030, 106031, 126999, 151999, 152999, 153999] w μ μ43) rfl rfl rfl ((mG.call mG.refl h46.1 (List.forall_mem_cons.mpr ⟨⟨_, List.mem_cons_self, vc_X12_candidates_2⟩, (fun _ h => absurd h List.not_mem_nil)⟩)) : mG [(160, 960)] μ μ43) (List.forall_mem_cons.mpr ⟨vc_X12_three_u_17, (fun _ h => absurd h List.not_mem_nil)⟩)), (G1.keep hIG1 hw ((mF.call mF.refl F45 rfl) : mF [106026, 106027, 106028, 106029, 106030, 106031, 126999, 151999, 152999, 153999] w μ μ43) rfl rfl ((mG.call mG.refl h46.1 (List.forall_mem_cons.mpr ⟨⟨_, List.mem_cons_self, vc_X12_candidates_2⟩, (fun _ h => absurd h List.not_mem_nil)⟩)) : mG [(160, 960)] μ μ43) (List.forall_mem_cons.mpr ⟨vc_X12_look_u_20, (fun _ h => absurd h List.not_mem_nil)⟩)), (EV.keep hIEV hw ((mF.call mF.refl F45 rfl) : mF [106026, 106027, 106028, 106029, 106030, 106031, 126999, 151999, 152999, 153999] w μ μ43) rfl), trivial⟩
                    have h5199 : 0 ≤ z5166 ∧ z5166 ≤ 0 := (vc_X12_same_3 h5167 h5165.2.1 h5165.2.2.1 h5161 h5165.1)
                    have h5200 : z5158 < 0 := (h5165.2.2.1 (vc_X12_same_4 h5165.2.1 h5165.2.2.1 h5167 h5161 h5199))
                    have h5201 : (-1) ≤ z5158 ∧ z5158 ≤ (-1) := (vc_X12_same_5 h5200 h5165.2.1 h5165.2.2.1 h5161 h5199)
                    refine sv_goto (pc := 156) (tgt := 207) dX12_three_156 (by decide) ?_
                    refine mr_iinc (pc := 207) (lv' := [(6, iv (z5145 + 1)), (0, .ref 106), (1, iv p1), (2, iv p2), (3, iv p3), (4, iv z3103), (5, iv z4606)]) dX12_three_207 rfl (by decide) rfl ?_
                    refine sv_goto (pc := 210) (tgt := 122) dX12_three_210 (by decide) ?_
                    refine mr_lvS (lv' := [(0, .ref 106), (1, iv p1), (2, iv p2), (3, iv p3), (4, iv z3103), (5, iv z4606), (6, iv (z5145 + 1))]) (List.forall_mem_cons.mpr ⟨rfl, List.forall_mem_cons.mpr ⟨rfl, List.forall_mem_cons.mpr ⟨rfl, List.forall_mem_cons.mpr ⟨rfl, List.forall_mem_cons.mpr ⟨rfl, List.forall_mem_cons.mpr ⟨rfl, List.forall_mem_cons.mpr ⟨rfl, fun _ h => absurd h List.not_mem_nil⟩⟩⟩⟩⟩⟩⟩) ?_
                    exact ih5152 (z5145 + 1) trivial (rW (c := 0) (d := 20) (rAdd (e := 1) (f := 20) h5155 (rR (x := 1)) rfl) rfl) (vc_X12_three_u_57 (nS h5151) h5153 h5156 h5157 h3114 h4614 h4633 h3115 h3116 h4616 h5155)
                refine mr_lvS (lv' := [(0, .ref 106), (1, iv p1), (2, iv p2), (3, iv p3), (4, iv z3103), (5, iv z4606), (6, iv 0)]) (List.forall_mem_cons.mpr ⟨rfl, List.forall_mem_cons.mpr ⟨rfl, List.forall_mem_cons.mpr ⟨rfl, List.forall_mem_cons.mpr ⟨rfl, List.forall_mem_cons.mpr ⟨rfl, List.forall_mem_cons.mpr ⟨rfl, List.forall_mem_cons.mpr ⟨rfl, fun _ h => absurd h List.not_mem_nil⟩⟩⟩⟩⟩⟩⟩) ?_
                exact L5146 22 0 trivial (rW (c := 0) (d := 20) (rR (x := 0)) rfl) vc_X12_tieOf_12
              have h5202 : 0 ≤ z4654 ∧ z4654 ≤ 0 := (vc_X12_ring_22 h4655 h4653.1)
              refine sv_goto (pc := 116) (tgt := 213) dX12_three_116 (by decide) ?_
              refine mr_iinc (pc := 213) (lv' := [(5, iv (z4606 + 1)), (0, .ref 106), (1, iv p1), (2, iv p2), (3, iv p3), (4, iv z3103)]) dX12_three_213 rfl (by decide) rfl ?_
              refine sv_goto (pc := 216) (tgt := 65) dX12_three_216 (by decide) ?_
              refine mr_lvS (lv' := [(0, .ref 106), (1, iv p1), (2, iv p2), (3, iv p3), (4, iv z3103), (5, iv (z4606 + 1))]) (List.forall_mem_cons.mpr ⟨rfl, List.forall_mem_cons.mpr ⟨rfl, List.forall_mem_cons.mpr ⟨rfl, List.forall_mem_cons.mpr ⟨rfl, List.forall_mem_cons.mpr ⟨rfl, List.forall_mem_cons.mpr ⟨rfl, fun _ h => absurd h List.not_mem_nil⟩⟩⟩⟩⟩⟩) ?_
              exact ih4613 (z4606 + 1) trivial (rW (c := 0) (d := 20) (rAdd (e := 1) (f := 20) h4616 (rR (x := 1)) rfl) rfl) (vc_X12_three_u_40 (nS h4612) h4614 h4633 h3114 h3115 h3116 h4616)
          refine mr_lvS (lv' := [(0, .ref 106), (1, iv p1), (2, iv p2), (3, iv p3), (4, iv z3103), (5, iv 0)]) (List.forall_mem_cons.mpr ⟨rfl, List.forall_mem_cons.mpr ⟨rfl, List.forall_mem_cons.mpr ⟨rfl, List.forall_mem_cons.mpr ⟨rfl, List.forall_mem_cons.mpr ⟨rfl, List.forall_mem_cons.mpr ⟨rfl, fun _ h => absurd h List.not_mem_nil⟩⟩⟩⟩⟩⟩) ?_
          exact L4607 22 0 trivial (rW (c := 0) (d := 20) (rR (x := 0)) rfl) vc_X12_tieOf_12
      refine mr_lvS (lv' := [(0, .ref 106), (1, iv p1), (2, iv p2), (3, iv p3), (4, iv 0)]) (List.forall_mem_cons.mpr ⟨rfl, List.forall_mem_cons.mpr ⟨rfl, List.forall_mem_cons.mpr ⟨rfl, List.forall_mem_cons.mpr ⟨rfl, List.forall_mem_cons.mpr ⟨rfl, fun _ h => absurd h List.not_mem_nil⟩⟩⟩⟩⟩) ?_
      exact L3104 22 0 trivial (rW (c := 0) (d := 20) (rR (x := 0)) rfl) vc_X12_tieOf_12
    have h5203 : 0 ≤ z38 ∧ z38 ≤ 0 := (vc_X12_units_9 h39 h37.2.1 h37.2.2.1 hp3 h37.1)
    have h5204 : p3 < (0 : Int) ∨ (2 : Int) < p3 := (h37.2.2.1 (vc_X12_units_10 h37.2.1 h37.2.2.1 h39 hp3 h5203))
    refine mr_ldc (pc := 41) (z := (-99999999)) dX12_three_41 wG_X12_29 (by decide) ?_
    exact mr_iret dX12_three_43 rfl (le_t rfl) (le_t rfl) hT mF.refl ⟨(rW (c := (-2147483648)) (d := 2147483647) (rR (x := (-99999999))) rfl), hIJC, hIRP, hIEP, hIHP, hIUP, hIG1, hIEV, trivial⟩
  have h5205 : 0 ≤ z23 ∧ z23 ≤ 0 := (vc_X12_write_78 h24 h22.2.1 h22.2.2.1 hp2 h18 h22.1)
  have h5206 : p2 < 0 ∨ z16 ≤ p2 := (h22.2.2.1 (vc_X12_write_79 h22.2.1 h22.2.2.1 h24 hp2 h18 h5205))
  refine mr_iconst (pc := 16) (z := (-1)) dX12_three_16 ?_
  exact mr_iret dX12_three_17 rfl (le_t rfl) (le_t rfl) hT mF.refl ⟨(rW (c := (-2147483648)) (d := 2147483647) (rR (x := (-1))) rfl), hIJC, hIRP, hIEP, hIHP, hIUP, hIG1, hIEV, trivial⟩
theorem vc_X12_picked_u_11 {p1 p2 z1 z16 z23 z8 : Int} (h0 : (z8 = 1 → 0 ≤ p1 ∧ p1 < z1)) (h1 : (z8 = 0 → p1 < 0 ∨ z1 ≤ p1)) (h2 : 0 ≤ p1 ∧ p1 < z1) (h3 : (z23 = 1 → 0 ≤ p2 ∧ p2 < z16)) (h4 : (z23 = 0 → p2 < 0 ∨ z16 ≤ p2)) (h5 : 0 ≤ p2 ∧ p2 < z16) (h6 : ¬ z8 = 0) (h7 : ¬ z23 = 0) (h8 : 0 ≤ p1 ∧ p1 ≤ 9) (h9 : 0 ≤ p2 ∧ p2 ≤ 9) (h10 : 1 ≤ z1 ∧ z1 ≤ 10) (h11 : 0 ≤ z16 ∧ z16 ≤ 10) (h12 : 1 ≤ z23 ∧ z23 ≤ 1) (h13 : 1 ≤ z8 ∧ z8 ≤ 1) : 0 ≤ (40 * (30 + ((10 * p1) + p2))) := by omega
theorem vc_X12_picked_u_12 {p1 p2 z1 z16 z23 z8 : Int} (h0 : (z8 = 1 → 0 ≤ p1 ∧ p1 < z1)) (h1 : (z8 = 0 → p1 < 0 ∨ z1 ≤ p1)) (h2 : 0 ≤ p1 ∧ p1 < z1) (h3 : (z23 = 1 → 0 ≤ p2 ∧ p2 < z16)) (h4 : (z23 = 0 → p2 < 0 ∨ z16 ≤ p2)) (h5 : 0 ≤ p2 ∧ p2 < z16) (h6 : ¬ z8 = 0) (h7 : ¬ z23 = 0) (h8 : 0 ≤ p1 ∧ p1 ≤ 9) (h9 : 0 ≤ p2 ∧ p2 ≤ 9) (h10 : 1 ≤ z1 ∧ z1 ≤ 10) (h11 : 0 ≤ z16 ∧ z16 ≤ 10) (h12 : 1 ≤ z23 ∧ z23 ≤ 1) (h13 : 1 ≤ z8 ∧ z8 ≤ 1) : (40 * (30 + ((10 * p1) + p2))) % 40 = 0 := by omega
theorem vc_X12_picked_u_13 {p1 p2 z1 z16 z23 z8 : Int} (h0 : (z8 = 1 → 0 ≤ p1 ∧ p1 < z1)) (h1 : (z8 = 0 → p1 < 0 ∨ z1 ≤ p1)) (h2 : 0 ≤ p1 ∧ p1 < z1) (h3 : (z23 = 1 → 0 ≤ p2 ∧ p2 < z16)) (h4 : (z23 = 0 → p2 < 0 ∨ z16 ≤ p2)) (h5 : 0 ≤ p2 ∧ p2 < z16) (h6 : ¬ z8 = 0) (h7 : ¬ z23 = 0) (h8 : 0 ≤ p1 ∧ p1 ≤ 9) (h9 : 0 ≤ p2 ∧ p2 ≤ 9) (h10 : 1 ≤ z1 ∧ z1 ≤ 10) (h11 : 0 ≤ z16 ∧ z16 ≤ 10) (h12 : 1 ≤ z23 ∧ z23 ≤ 1) (h13 : 1 ≤ z8 ∧ z8 ≤ 1) : (40 * (30 + ((10 * p1) + p2))) = 1200 + 40 * ((10 * p1) + p2) := by omega
theorem vc_X12_picked_u_15 {p1 p2 z1 z16 z23 z8 : Int} (h0 : (z8 = 1 → 0 ≤ p1 ∧ p1 < z1)) (h1 : (z8 = 0 → p1 < 0 ∨ z1 ≤ p1)) (h2 : 0 ≤ p1 ∧ p1 < z1) (h3 : (z23 = 1 → 0 ≤ p2 ∧ p2 < z16)) (h4 : (z23 = 0 → p2 < 0 ∨ z16 ≤ p2)) (h5 : 0 ≤ p2 ∧ p2 < z16) (h6 : ¬ z8 = 0) (h7 : ¬ z23 = 0) (h8 : 0 ≤ p1 ∧ p1 ≤ 9) (h9 : 0 ≤ p2 ∧ p2 ≤ 9) (h10 : 1 ≤ z1 ∧ z1 ≤ 10) (h11 : 0 ≤ z16 ∧ z16 ≤ 10) (h12 : 1 ≤ z23 ∧ z23 ≤ 1) (h13 : 1 ≤ z8 ∧ z8 ≤ 1) : (30 + ((10 * p1) + p2)) < (0 : Int) ∨ (0 : Int) < (30 + ((10 * p1) + p2)) := by omega
theorem vc_X12_picked_u_16 {p1 p2 z1 z16 z23 z8 : Int} (h0 : (z8 = 1 → 0 ≤ p1 ∧ p1 < z1)) (h1 : (z8 = 0 → p1 < 0 ∨ z1 ≤ p1)) (h2 : 0 ≤ p1 ∧ p1 < z1) (h3 : (z23 = 1 → 0 ≤ p2 ∧ p2 < z16)) (h4 : (z23 = 0 → p2 < 0 ∨ z16 ≤ p2)) (h5 : 0 ≤ p2 ∧ p2 < z16) (h6 : ¬ z8 = 0) (h7 : ¬ z23 = 0) (h8 : 0 ≤ p1 ∧ p1 ≤ 9) (h9 : 0 ≤ p2 ∧ p2 ≤ 9) (h10 : 1 ≤ z1 ∧ z1 ≤ 10) (h11 : 0 ≤ z16 ∧ z16 ≤ 10) (h12 : 1 ≤ z23 ∧ z23 ≤ 1) (h13 : 1 ≤ z8 ∧ z8 ≤ 1) : (30 + ((10 * p1) + p2)) ≤ 1399 := by omega
theorem vc_X12_picked_u_18 {p1 p2 z1 z16 z23 z8 : Int} (h0 : (z8 = 1 → 0 ≤ p1 ∧ p1 < z1)) (h1 : (z8 = 0 → p1 < 0 ∨ z1 ≤ p1)) (h2 : 0 ≤ p1 ∧ p1 < z1) (h3 : (z23 = 1 → 0 ≤ p2 ∧ p2 < z16)) (h4 : (z23 = 0 → p2 < 0 ∨ z16 ≤ p2)) (h5 : 0 ≤ p2 ∧ p2 < z16) (h6 : ¬ z8 = 0) (h7 : ¬ z23 = 0) (h8 : 0 ≤ p1 ∧ p1 ≤ 9) (h9 : 0 ≤ p2 ∧ p2 ≤ 9) (h10 : 1 ≤ z1 ∧ z1 ≤ 10) (h11 : 0 ≤ z16 ∧ z16 ≤ 10) (h12 : 1 ≤ z23 ∧ z23 ≤ 1) (h13 : 1 ≤ z8 ∧ z8 ≤ 1) : ¬ (30 + ((10 * p1) + p2)) = 24 ∨ 0 < z16 := by omega
theorem vc_X12_picked_u_21  : ((40 : Int) * (0 : Int)) ≤ ((40 : Int) * (0 : Int)) ∧ (((40 : Int) * (0 : Int)) + (40 : Int)) ≤ (((40 : Int) * (0 : Int)) + (40 : Int)) := by omega
theorem vc_X12_picked_u_22  : ((((40 : Int) * (0 : Int)) + (40 : Int)) : Int) ≤ (1200 : Int) ∨ (5200 : Int) ≤ (((40 : Int) * (0 : Int)) : Int) := by omega
theorem vc_X12_picked_u_23  : (0 : Int) = ((40 : Int) * (0 : Int)) := by omega
theorem vc_X12_picked_u_24 {z28 z32 z43 : Int} (h0 : z28 = -99999999 ∨ 0 ≤ z32) (h1 : z43 = z32) (h2 : ¬ z28 = (-99999999)) (h3 : (-4) ≤ z28 ∧ z28 ≤ 19) (h4 : z28 = -99999999 ∨ z28 = -4 ∨ (0 ≤ z28 ∧ z28 ≤ 19)) (h5 : (-1) ≤ z32 ∧ z32 ≤ 9) (h6 : (-1) ≤ z43 ∧ z43 ≤ 9) : 0 ≤ z32 := by omega
theorem vc_X12_picked_u_25  : ((((40 : Int) * (0 : Int)) + (40 : Int)) : Int) ≤ (5200 : Int) ∨ (21200 : Int) ≤ (((40 : Int) * (0 : Int)) : Int) := by omega
set_option maxRecDepth 4000 in
set_option maxHeartbeats 4000000 in
theorem c_X12_picked_u {l : Launch} {D : va_G} {c : Nat → ClassId} {H0 : Heap} {sa : Nat × Nat × (Nat → Int32)} {w : mW} {μ : mM} (hw : mWF w) (hT : mT w μ) {p1 : Int} (hp1 : (-2147483648) ≤ p1 ∧ p1 ≤ 2147483647) {p2 : Int} (hp2 : (-2147483648) ≤ p2 ∧ p2 ≤ 2147483647) (hIJC : JC l D c H0 sa μ) (hIRP : RP μ) (hIEP : EP μ) (hIHP : HP μ) (hIUP : UP l D c H0 sa μ) (hIG1 : G1 μ) : sC (gG l D c H0 sa) mX12_picked 3 0 0 [.ref 106, iv p1, iv p2] (mk w μ) (qI w [106070, 126999] μ (fun z μ1 => ((-2147483648) ≤ z ∧ z ≤ 2147483647) ∧ JC l D c H0 sa μ1 ∧ RP μ1 ∧ EP μ1 ∧ HP μ1 ∧ UP l D c H0 sa μ1 ∧ G1 μ1 ∧ True)) := by
  refine sC.of rfl (by decide) (le_t rfl) ?_
  refine mr_lvE (lv' := [(0, .ref 106), (1, iv p1), (2, iv p2)]) rfl ?_
  refine sv_aload_n (pc := 0) dX12_picked_0 rfl rfl ?_
  refine mr_iload_n (pc := 1) (z := p1) dX12_picked_1 rfl rfl ?_
  obtain ⟨z1, q2⟩ : ∃ z, μ 106 5 = z := ⟨_, rfl⟩
  have h3 : (0 ≤ z1 ∧ z1 ≤ 10) := by rw [← q2]; exact hT 106 106 (A_106 hw) 5
  refine mr_cVP (pc := 2) (c_X12_isDomain hw hT hp1 q2) (gOk _ _ _ _ _) dX12_picked_2 (tX12_isDomain _ _ _ _ _) ⟨wV_X12_isDomain, wL_X12_isDomain⟩ wM_X12_49 (gCX12 _ _ _ _ _) rfl (A_106 hw) rfl ⟨le_t rfl, le_t rfl⟩ ⟨le_t rfl, le_t rfl⟩ rfl (le_t rfl) fun z8 h7 => ?_
  refine mr_if_eq (pc := 5) (tgt := 16) dX12_picked_5 (by decide) (r32 h7.1 rfl) (fun h9 => ?_) (fun h9 => ?_)
  · have h10 : 0 ≤ z8 ∧ z8 ≤ 0 := (vc_X12_write_78 h9 h7.2.1 h7.2.2.1 hp1 h3 h7.1)
    have h11 : p1 < 0 ∨ z1 ≤ p1 := (h7.2.2.1 (vc_X12_write_79 h7.2.1 h7.2.2.1 h9 hp1 h3 h10))
    refine mr_iconst (pc := 16) (z := (-1)) dX12_picked_16 ?_
    exact mr_iret dX12_picked_17 rfl (le_t rfl) (le_t rfl) hT mF.refl ⟨(rW (c := (-2147483648)) (d := 2147483647) (rR (x := (-1))) rfl), hIJC, hIRP, hIEP, hIHP, hIUP, hIG1, trivial⟩
  have h12 : 1 ≤ z8 ∧ z8 ≤ 1 := (vc_X12_write_12 h9 h7.2.1 h7.2.2.1 hp1 h3 h7.1)
  have h13 : 0 ≤ p1 ∧ p1 < z1 := (h7.2.1 (vc_X12_write_13 h7.2.1 h7.2.2.1 h9 hp1 h3 h12))
  have h14 : 0 ≤ p1 ∧ p1 ≤ 9 := (vc_X12_write_14 h13 h7.2.1 h7.2.2.1 hp1 h3 h12)
  have h15 : 1 ≤ z1 ∧ z1 ≤ 10 := (vc_X12_write_15 h13 h7.2.1 h7.2.2.1 h14 h3 h12)
  refine sv_aload_n (pc := 8) dX12_picked_8 rfl rfl ?_
  refine mr_iload_n (pc := 9) (z := p2) dX12_picked_9 rfl rfl ?_
  obtain ⟨z16, q17⟩ : ∃ z, μ 106 2 = z := ⟨_, rfl⟩
  have h18 : (0 ≤ z16 ∧ z16 ≤ 10) := by rw [← q17]; exact hT 106 106 (A_106 hw) 2
  refine mr_cVP (pc := 10) (c_X12_isPrefix hw hT hp2 q17) (gOk _ _ _ _ _) dX12_picked_10 (tX12_isPrefix _ _ _ _ _) ⟨wV_X12_isPrefix, wL_X12_isPrefix⟩ wM_X12_92 (gCX12 _ _ _ _ _) rfl (A_106 hw) rfl ⟨le_t rfl, le_t rfl⟩ ⟨le_t rfl, le_t rfl⟩ rfl (le_t rfl) fun z23 h22 => ?_
  refine mr_if_ne (pc := 13) (tgt := 18) dX12_picked_13 (by decide) (r32 h22.1 rfl) (fun h24 => ?_) (fun h24 => ?_)
  · have h25 : 1 ≤ z23 ∧ z23 ≤ 1 := (vc_X12_write_12 h24 h22.2.1 h22.2.2.1 hp2 h18 h22.1)
    have h26 : 0 ≤ p2 ∧ p2 < z16 := (h22.2.1 (vc_X12_write_13 h22.2.1 h22.2.2.1 h24 hp2 h18 h25))
    have h27 : 0 ≤ p2 ∧ p2 ≤ 9 := (vc_X12_write_14 h26 h22.2.1 h22.2.2.1 hp2 h18 h25)
    refine mr_bipush (pc := 18) (z := 10) dX12_picked_18 (by decide) ?_
    refine mr_iload_n (pc := 20) (z := p1) dX12_picked_20 rfl rfl ?_
    refine mr_imul (pc := 21) (x := 10) (y := p1) dX12_picked_21 ?_
    refine mr_iload_n (pc := 22) (z := p2) dX12_picked_22 rfl rfl ?_
    refine mr_iadd (pc := 23) (x := (10 * p1)) (y := p2) dX12_picked_23 ?_
    refine mr_istore_n (pc := 24) (lv' := [(3, iv ((10 * p1) + p2)), (0, .ref 106), (1, iv p1), (2, iv p2)]) dX12_picked_24 rfl (by decide) rfl ?_
    refine sv_aload_n (pc := 25) dX12_picked_25 rfl rfl ?_
    refine gf_X12_81 (pc := 26) dX12_picked_26 wF_X12_445 (A_106 hw) hT ?_
    refine mr_iload_n (pc := 29) (z := ((10 * p1) + p2)) dX12_picked_29 rfl rfl ?_
    refine la_161 (pc := 30) dX12_picked_30 (A_161 hw) hT (rIx (n := 100) (rAdd (e := 0) (f := 99) (rMulL (n := 10) (e := 0) (f := 90) h14 rfl) h27 rfl) rfl) fun z28 q29 h30 => ?_
    have h31 : (-99999999) ≤ z28 ∧ z28 ≤ 19 := (vc_X12_sends_3 h30)
    obtain ⟨z32, q33⟩ : ∃ z, μ 126 ((40 * (30 + ((10 * p1) + p2))).toNat) = z := ⟨_, rfl⟩
    have h34 := rt7 hT (A_126 hw) (vc_X12_picked_u_11 h7.2.1 h7.2.2.1 h13 h22.2.1 h22.2.2.1 h26 h9 h24 h14 h27 h15 h18 h25 h12) q33
    have h35 : (-1) ≤ z32 ∧ z32 ≤ 9 := h34.2.1 (vc_X12_picked_u_12 h7.2.1 h7.2.2.1 h13 h22.2.1 h22.2.2.1 h26 h9 h24 h14 h27 h15 h18 h25 h12)
    have h36 : z28 = -99999999 ∨ 0 ≤ z32 := G1.at hIG1 (rAdd (e := 0) (f := 99) (rMulL (n := 10) (e := 0) (f := 90) h14 rfl) h27 rfl) q29 (vc_X12_picked_u_13 h7.2.1 h7.2.2.1 h13 h22.2.1 h22.2.2.1 h26 h9 h24 h14 h27 h15 h18 h25 h12) q33
    refine mr_ldc (pc := 31) (z := (-99999999)) dX12_picked_31 wG_X12_29 (by decide) ?_
    refine mr_icmp_ne (pc := 33) (tgt := 39) dX12_picked_33 (by decide) (r32 h31 rfl) (r32 (rR (x := (-99999999))) rfl) (fun h37 => ?_) (fun h37 => ?_)
    · have h38 : (-4) ≤ z28 ∧ z28 ≤ 19 := (vc_X12_say_u_48 h37 h36 h31 h30 h35)
      refine sv_aload_n (pc := 39) dX12_picked_39 rfl rfl ?_
      refine mr_bipush (pc := 40) (z := 30) dX12_picked_40 (by decide) ?_
      refine mr_iload_n (pc := 42) (z := ((10 * p1) + p2)) dX12_picked_42 rfl rfl ?_
      refine mr_iadd (pc := 43) (x := 30) (y := ((10 * p1) + p2)) dX12_picked_43 ?_
      refine mr_iconst (pc := 44) (z := 0) dX12_picked_44 ?_
      refine mr_cVV (pc := 45) (c_X12_copy_u hw hT (rW (c := 0) (d := 2099) (rAdd (e := 30) (f := 129) (rR (x := 30)) (rAdd (e := 0) (f := 99) (rMulL (n := 10) (e := 0) (f := 90) h14 rfl) h27 rfl) rfl) rfl) (rW (c := 0) (d := 2099) (rR (x := 0)) rfl) q33 q17 (vc_X12_picked_u_15 h7.2.1 h7.2.2.1 h13 h22.2.1 h22.2.2.1 h26 h9 h24 h14 h27 h15 h18 h25 h12) (vc_X12_picked_u_16 h7.2.1 h7.2.2.1 h13 h22.2.1 h22.2.2.1 h26 h9 h24 h14 h27 h15 h18 h25 h12) vc_X12_judge_u_25 (vc_X12_picked_u_18 h7.2.1 h7.2.2.1 h13 h22.2.1 h22.2.2.1 h26 h9 h24 h14 h27 h15 h18 h25 h12) hIRP) (gOk _ _ _ _ _) dX12_picked_45 (tX12_copy _ _ _ _ _) ⟨wV_X12_copy, wL_X12_copy⟩ wM_X12_559 (gCX12 _ _ _ _ _) rfl (A_106 hw) rfl ⟨le_t rfl, le_t rfl⟩ ⟨le_t rfl, le_t rfl⟩ rfl (le_t rfl) fun μ39 T40 F41 h42 => ?_
      obtain ⟨z43, q44, h45⟩ := h42
      have h46 := rt7 T40 (A_126 hw) vc_X12_judge_u_31 q44
      have h47 : (-1) ≤ z43 ∧ z43 ≤ 9 := h46.2.1 vc_X12_judge_u_32
      have q48 : μ39 126 (((40 * 0) : Int).toNat) = z32 := q44.trans h45.2.2.1
      refine sv_aload_n (pc := 48) dX12_picked_48 rfl rfl ?_
      refine mr_iconst (pc := 49) (z := 1) dX12_picked_49 ?_
      refine pf_X12_70 (pc := 50) dX12_picked_50 wF_X12_411 (A_106 hw) T40 (rW (c := 0) (d := 1) (rR (x := 1)) rfl) fun μ49 u50 T51 => ?_
      have I52 : G1 μ49 := G1.take hIG1 hw ((mF.up (mF.call mF.refl F41 rfl) (A_106 hw) u50 rfl) : mF [106070, 126999] w μ μ49) rfl ((mG.upO (mG.call mG.refl h45.1 (List.forall_mem_cons.mpr ⟨⟨_, List.mem_cons_self, vc_X12_picked_u_21⟩, (fun _ h => absurd h List.not_mem_nil)⟩)) u50 rfl) : mG [((40 * 0), ((40 * 0) + 40))] μ μ49) (List.forall_mem_cons.mpr ⟨vc_X12_picked_u_22, (fun _ h => absurd h List.not_mem_nil)⟩) (eqIx vc_X12_picked_u_23 (u50.f (Or.inl (mAt.ne (A_106 hw) (A_126 hw) rfl)) q48)) (vc_X12_picked_u_24 h36 h45.2.2.1 h37 h38 h30 h35 h47)
      refine sv_aload_n (pc := 53) dX12_picked_53 rfl rfl ?_
      refine gf_X12_81 (pc := 54) dX12_picked_54 wF_X12_445 (A_106 hw) T51 ?_
      refine mr_iload_n (pc := 57) (z := ((10 * p1) + p2)) dX12_picked_57 rfl rfl ?_
      refine lk_161 (pc := 58) dX12_picked_58 (A_161 hw) (rIx (n := 100) (rAdd (e := 0) (f := 99) (rMulL (n := 10) (e := 0) (f := 90) h14 rfl) h27 rfl) rfl) (u50.f (Or.inl (mAt.ne (A_106 hw) (A_161 hw) rfl)) (F41.f (A_161 hw) rfl q29)) ?_
      exact mr_iret dX12_picked_59 rfl (le_t rfl) (le_t rfl) T51 (mF.up (mF.call mF.refl F41 rfl) (A_106 hw) u50 rfl) ⟨(rW (c := (-2147483648)) (d := 2147483647) h38 rfl), (JC.keepJ hIJC hw ((mF.up (mF.call mF.refl F41 rfl) (A_106 hw) u50 rfl) : mF [106070, 126999] w μ μ49) rfl), (RP.keep h45.2.1 hw ((mF.up mF.refl (A_106 hw) u50 rfl) : mF [106070] w μ39 μ49) rfl ((mG.upO mG.refl u50 rfl) : mG [] μ39 μ49) (fun _ h => absurd h List.not_mem_nil)), (EP.keep hIEP hw ((mF.up (mF.call mF.refl F41 rfl) (A_106 hw) u50 rfl) : mF [106070, 126999] w μ μ49) rfl), (HP.keep hIHP hw ((mF.up (mF.call mF.refl F41 rfl) (A_106 hw) u50 rfl) : mF [106070, 126999] w μ μ49) rfl ((mG.upO (mG.call mG.refl h45.1 (List.forall_mem_cons.mpr ⟨⟨_, List.mem_cons_self, vc_X12_picked_u_21⟩, (fun _ h => absurd h List.not_mem_nil)⟩)) u50 rfl) : mG [((40 * 0), ((40 * 0) + 40))] μ μ49) (List.forall_mem_cons.mpr ⟨vc_X12_picked_u_25, (fun _ h => absurd h List.not_mem_nil)⟩)), (UPg.fr hIUP hw T51 rfl ((mF.up (mF.call mF.refl F41 rfl) (A_106 hw) u50 rfl) : mF [106070, 126999] w μ μ49) rfl rfl rfl ((mG.upO (mG.call mG.refl h45.1 (List.forall_mem_cons.mpr ⟨⟨_, List.mem_cons_self, vc_X12_picked_u_21⟩, (fun _ h => absurd h List.not_mem_nil)⟩)) u50 rfl) : mG [((40 * 0), ((40 * 0) + 40))] μ μ49) (List.forall_mem_cons.mpr ⟨vc_X12_picked_u_25, (fun _ h => absurd h List.not_mem_nil)⟩)), I52, trivial⟩
    have h53 : (-99999999) ≤ z28 ∧ z28 ≤ (-99999999) := (vc_X12_say_u_47 h37 h36 h31 h30 h35)
    refine mr_ldc (pc := 36) (z := (-99999999)) dX12_picked_36 wG_X12_29 (by decide) ?_
    exact mr_iret dX12_picked_38 rfl (le_t rfl) (le_t rfl) hT mF.refl ⟨(rW (c := (-2147483648)) (d := 2147483647) (rR (x := (-99999999))) rfl), hIJC, hIRP, hIEP, hIHP, hIUP, hIG1, trivial⟩
  have h54 : 0 ≤ z23 ∧ z23 ≤ 0 := (vc_X12_write_78 h24 h22.2.1 h22.2.2.1 hp2 h18 h22.1)
  have h55 : p2 < 0 ∨ z16 ≤ p2 := (h22.2.2.1 (vc_X12_write_79 h22.2.1 h22.2.2.1 h24 hp2 h18 h54))
  refine mr_iconst (pc := 16) (z := (-1)) dX12_picked_16 ?_
  exact mr_iret dX12_picked_17 rfl (le_t rfl) (le_t rfl) hT mF.refl ⟨(rW (c := (-2147483648)) (d := 2147483647) (rR (x := (-1))) rfl), hIJC, hIRP, hIEP, hIHP, hIUP, hIG1, trivial⟩
theorem vc_X12_heard_u_22 {p1 p2 p3 z1 z20 z27 z34 z55 z59 z8 : Int} (h0 : z55 = (((20 * p1) + (10 * p2)) + p3)) (h1 : (z8 = 1 → 0 ≤ p1 ∧ p1 < z1)) (h2 : (z8 = 0 → p1 < 0 ∨ z1 ≤ p1)) (h3 : 0 ≤ p1 ∧ p1 < z1) (h4 : (z20 = 1 → (0 : Int) ≤ p2 ∧ p2 ≤ (1 : Int))) (h5 : (z20 = 0 → p2 < (0 : Int) ∨ (1 : Int) < p2)) (h6 : (0 : Int) ≤ p2 ∧ p2 ≤ (1 : Int)) (h7 : (z34 = 1 → 0 ≤ p3 ∧ p3 < z27)) (h8 : (z34 = 0 → p3 < 0 ∨ z27 ≤ p3)) (h9 : 0 ≤ p3 ∧ p3 < z27) (h10 : 0 ≤ p1 ∧ p1 ≤ 19) (h11 : 0 ≤ p2 ∧ p2 ≤ 1) (h12 : 0 ≤ p3 ∧ p3 ≤ 9) (h13 : 1 ≤ z1 ∧ z1 ≤ 20) (h14 : 1 ≤ z20 ∧ z20 ≤ 1) (h15 : 1 ≤ z27 ∧ z27 ≤ 10) (h16 : 1 ≤ z34 ∧ z34 ≤ 1) (h17 : 0 ≤ z55 ∧ z55 ≤ 399) (h18 : 130 ≤ z59 ∧ z59 ≤ 530) (h19 : 1 ≤ z8 ∧ z8 ≤ 1) : 0 ≤ (40 * (z59 + z55)) := by omega
theorem vc_X12_heard_u_23 {p1 p2 p3 z1 z20 z27 z34 z55 z59 z8 : Int} (h0 : z55 = (((20 * p1) + (10 * p2)) + p3)) (h1 : (z8 = 1 → 0 ≤ p1 ∧ p1 < z1)) (h2 : (z8 = 0 → p1 < 0 ∨ z1 ≤ p1)) (h3 : 0 ≤ p1 ∧ p1 < z1) (h4 : (z20 = 1 → (0 : Int) ≤ p2 ∧ p2 ≤ (1 : Int))) (h5 : (z20 = 0 → p2 < (0 : Int) ∨ (1 : Int) < p2)) (h6 : (0 : Int) ≤ p2 ∧ p2 ≤ (1 : Int)) (h7 : (z34 = 1 → 0 ≤ p3 ∧ p3 < z27)) (h8 : (z34 = 0 → p3 < 0 ∨ z27 ≤ p3)) (h9 : 0 ≤ p3 ∧ p3 < z27) (h10 : 0 ≤ p1 ∧ p1 ≤ 19) (h11 : 0 ≤ p2 ∧ p2 ≤ 1) (h12 : 0 ≤ p3 ∧ p3 ≤ 9) (h13 : 1 ≤ z1 ∧ z1 ≤ 20) (h14 : 1 ≤ z20 ∧ z20 ≤ 1) (h15 : 1 ≤ z27 ∧ z27 ≤ 10) (h16 : 1 ≤ z34 ∧ z34 ≤ 1) (h17 : 0 ≤ z55 ∧ z55 ≤ 399) (h18 : 130 ≤ z59 ∧ z59 ≤ 530) (h19 : 1 ≤ z8 ∧ z8 ≤ 1) : (40 * (z59 + z55)) % 40 = 0 := by omega
theorem vc_X12_heard_u_27 {p1 p2 p3 z1 z20 z27 z34 z55 z59 z8 : Int} (h0 : z55 = (((20 * p1) + (10 * p2)) + p3)) (h1 : (z8 = 1 → 0 ≤ p1 ∧ p1 < z1)) (h2 : (z8 = 0 → p1 < 0 ∨ z1 ≤ p1)) (h3 : 0 ≤ p1 ∧ p1 < z1) (h4 : (z20 = 1 → (0 : Int) ≤ p2 ∧ p2 ≤ (1 : Int))) (h5 : (z20 = 0 → p2 < (0 : Int) ∨ (1 : Int) < p2)) (h6 : (0 : Int) ≤ p2 ∧ p2 ≤ (1 : Int)) (h7 : (z34 = 1 → 0 ≤ p3 ∧ p3 < z27)) (h8 : (z34 = 0 → p3 < 0 ∨ z27 ≤ p3)) (h9 : 0 ≤ p3 ∧ p3 < z27) (h10 : 0 ≤ p1 ∧ p1 ≤ 19) (h11 : 0 ≤ p2 ∧ p2 ≤ 1) (h12 : 0 ≤ p3 ∧ p3 ≤ 9) (h13 : 1 ≤ z1 ∧ z1 ≤ 20) (h14 : 1 ≤ z20 ∧ z20 ≤ 1) (h15 : 1 ≤ z27 ∧ z27 ≤ 10) (h16 : 1 ≤ z34 ∧ z34 ≤ 1) (h17 : 0 ≤ z55 ∧ z55 ≤ 399) (h18 : 130 ≤ z59 ∧ z59 ≤ 530) (h19 : 1 ≤ z8 ∧ z8 ≤ 1) : (z59 + z55) < (0 : Int) ∨ (0 : Int) < (z59 + z55) := by omega
theorem vc_X12_heard_u_28 {p1 p2 p3 z1 z20 z27 z34 z55 z59 z8 : Int} (h0 : z55 = (((20 * p1) + (10 * p2)) + p3)) (h1 : (z8 = 1 → 0 ≤ p1 ∧ p1 < z1)) (h2 : (z8 = 0 → p1 < 0 ∨ z1 ≤ p1)) (h3 : 0 ≤ p1 ∧ p1 < z1) (h4 : (z20 = 1 → (0 : Int) ≤ p2 ∧ p2 ≤ (1 : Int))) (h5 : (z20 = 0 → p2 < (0 : Int) ∨ (1 : Int) < p2)) (h6 : (0 : Int) ≤ p2 ∧ p2 ≤ (1 : Int)) (h7 : (z34 = 1 → 0 ≤ p3 ∧ p3 < z27)) (h8 : (z34 = 0 → p3 < 0 ∨ z27 ≤ p3)) (h9 : 0 ≤ p3 ∧ p3 < z27) (h10 : 0 ≤ p1 ∧ p1 ≤ 19) (h11 : 0 ≤ p2 ∧ p2 ≤ 1) (h12 : 0 ≤ p3 ∧ p3 ≤ 9) (h13 : 1 ≤ z1 ∧ z1 ≤ 20) (h14 : 1 ≤ z20 ∧ z20 ≤ 1) (h15 : 1 ≤ z27 ∧ z27 ≤ 10) (h16 : 1 ≤ z34 ∧ z34 ≤ 1) (h17 : 0 ≤ z55 ∧ z55 ≤ 399) (h18 : 130 ≤ z59 ∧ z59 ≤ 530) (h19 : 1 ≤ z8 ∧ z8 ≤ 1) : (z59 + z55) ≤ 1399 := by omega
theorem vc_X12_heard_u_30 {p1 p2 p3 z1 z20 z27 z34 z55 z59 z8 : Int} (h0 : (z34 = 1 → 0 ≤ p3 ∧ p3 < z27)) (h1 : (z34 = 0 → p3 < 0 ∨ z27 ≤ p3)) (h2 : 0 ≤ p3 ∧ p3 < z27) (h3 : z55 = (((20 * p1) + (10 * p2)) + p3)) (h4 : (z8 = 1 → 0 ≤ p1 ∧ p1 < z1)) (h5 : (z8 = 0 → p1 < 0 ∨ z1 ≤ p1)) (h6 : 0 ≤ p1 ∧ p1 < z1) (h7 : (z20 = 1 → (0 : Int) ≤ p2 ∧ p2 ≤ (1 : Int))) (h8 : (z20 = 0 → p2 < (0 : Int) ∨ (1 : Int) < p2)) (h9 : (0 : Int) ≤ p2 ∧ p2 ≤ (1 : Int)) (h10 : ¬ z34 = 0) (h11 : 0 ≤ p1 ∧ p1 ≤ 19) (h12 : 0 ≤ p2 ∧ p2 ≤ 1) (h13 : 0 ≤ p3 ∧ p3 ≤ 9) (h14 : 1 ≤ z1 ∧ z1 ≤ 20) (h15 : 1 ≤ z20 ∧ z20 ≤ 1) (h16 : 1 ≤ z27 ∧ z27 ≤ 10) (h17 : 1 ≤ z34 ∧ z34 ≤ 1) (h18 : 0 ≤ z55 ∧ z55 ≤ 399) (h19 : 130 ≤ z59 ∧ z59 ≤ 530) (h20 : 1 ≤ z8 ∧ z8 ≤ 1) : ¬ (z59 + z55) = 24 ∨ 0 < z27 := by omega
theorem vc_X12_heard_u_38 {p4 z46 : Int} (h0 : ¬ p4 = 0) (h1 : (z46 = 1 → (0 : Int) ≤ p4 ∧ p4 ≤ (1 : Int))) (h2 : (z46 = 0 → p4 < (0 : Int) ∨ (1 : Int) < p4)) (h3 : (0 : Int) ≤ p4 ∧ p4 ≤ (1 : Int)) (h4 : 0 ≤ p4 ∧ p4 ≤ 1) (h5 : 1 ≤ z46 ∧ z46 ≤ 1) : 1 ≤ p4 ∧ p4 ≤ 1 := by omega
theorem vc_X12_heard_u_40 {p4 z46 : Int} (h0 : p4 = 0) (h1 : (z46 = 1 → (0 : Int) ≤ p4 ∧ p4 ≤ (1 : Int))) (h2 : (z46 = 0 → p4 < (0 : Int) ∨ (1 : Int) < p4)) (h3 : (0 : Int) ≤ p4 ∧ p4 ≤ (1 : Int)) (h4 : 0 ≤ p4 ∧ p4 ≤ 1) (h5 : 1 ≤ z46 ∧ z46 ≤ 1) : 0 ≤ p4 ∧ p4 ≤ 0 := by omega
set_option maxRecDepth 4000 in
set_option maxHeartbeats 4000000 in
theorem c_X12_heard_u {l : Launch} {D : va_G} {c : Nat → ClassId} {H0 : Heap} {sa : Nat × Nat × (Nat → Int32)} {w : mW} {μ : mM} (hw : mWF w) (hT : mT w μ) {p1 : Int} (hp1 : (-2147483648) ≤ p1 ∧ p1 ≤ 2147483647) {p2 : Int} (hp2 : (-2147483648) ≤ p2 ∧ p2 ≤ 2147483647) {p3 : Int} (hp3 : (-2147483648) ≤ p3 ∧ p3 ≤ 2147483647) {p4 : Int} (hp4 : (-2147483648) ≤ p4 ∧ p4 ≤ 2147483647) (hIJC : JC l D c H0 sa μ) (hIRP : RP μ) (hIEP : EP μ) (hIHP : HP μ) (hIUP : UP l D c H0 sa μ) (hIG1 : G1 μ) : sC (gG l D c H0 sa) mX12_heard 3 0 0 [.ref 106, iv p1, iv p2, iv p3, iv p4] (mk w μ) (qI w [106070, 126999] μ (fun z μ1 => ((-2147483648) ≤ z ∧ z ≤ 2147483647) ∧ JC l D c H0 sa μ1 ∧ RP μ1 ∧ EP μ1 ∧ HP μ1 ∧ UP l D c H0 sa μ1 ∧ G1 μ1 ∧ True)) := by
  refine sC.of rfl (by decide) (le_t rfl) ?_
  refine mr_lvE (lv' := [(0, .ref 106), (1, iv p1), (2, iv p2), (3, iv p3), (4, iv p4)]) rfl ?_
  refine sv_aload_n (pc := 0) dX12_heard_0 rfl rfl ?_
  refine mr_iload_n (pc := 1) (z := p1) dX12_heard_1 rfl rfl ?_
  obtain ⟨z1, q2⟩ : ∃ z, μ 106 6 = z := ⟨_, rfl⟩
  have h3 : (0 ≤ z1 ∧ z1 ≤ 20) := by rw [← q2]; exact hT 106 106 (A_106 hw) 6
  refine mr_cVP (pc := 2) (c_X12_isTie hw hT hp1 q2) (gOk _ _ _ _ _) dX12_heard_2 (tX12_isTie _ _ _ _ _) ⟨wV_X12_isTie, wL_X12_isTie⟩ wM_X12_66 (gCX12 _ _ _ _ _) rfl (A_106 hw) rfl ⟨le_t rfl, le_t rfl⟩ ⟨le_t rfl, le_t rfl⟩ rfl (le_t rfl) fun z8 h7 => ?_
  refine mr_if_eq (pc := 5) (tgt := 35) dX12_heard_5 (by decide) (r32 h7.1 rfl) (fun h9 => ?_) (fun h9 => ?_)
  · have h10 : 0 ≤ z8 ∧ z8 ≤ 0 := (vc_X12_pace_1 h9 h7.2.1 h7.2.2.1 hp1 h3 h7.1)
    have h11 : p1 < 0 ∨ z1 ≤ p1 := (h7.2.2.1 (vc_X12_pace_2 h7.2.1 h7.2.2.1 h9 hp1 h3 h10))
    refine mr_iconst (pc := 35) (z := (-1)) dX12_heard_35 ?_
    exact mr_iret dX12_heard_36 rfl (le_t rfl) (le_t rfl) hT mF.refl ⟨(rW (c := (-2147483648)) (d := 2147483647) (rR (x := (-1))) rfl), hIJC, hIRP, hIEP, hIHP, hIUP, hIG1, trivial⟩
  have h12 : 1 ≤ z8 ∧ z8 ≤ 1 := (vc_X12_pace_3 h9 h7.2.1 h7.2.2.1 hp1 h3 h7.1)
  have h13 : 0 ≤ p1 ∧ p1 < z1 := (h7.2.1 (vc_X12_pace_4 h7.2.1 h7.2.2.1 h9 hp1 h3 h12))
  have h14 : 0 ≤ p1 ∧ p1 ≤ 19 := (vc_X12_pace_5 h13 h7.2.1 h7.2.2.1 hp1 h3 h12)
  have h15 : 1 ≤ z1 ∧ z1 ≤ 20 := (vc_X12_pace_6 h13 h7.2.1 h7.2.2.1 h14 h3 h12)
  refine mr_iload_n (pc := 8) (z := p2) dX12_heard_8 rfl rfl ?_
  refine mr_iconst (pc := 9) (z := 0) dX12_heard_9 ?_
  refine mr_iconst (pc := 10) (z := 1) dX12_heard_10 ?_
  refine mr_cSP (pc := 11) (c_X12_in hw hT hp2 (rW (c := (-2147483648)) (d := 2147483647) (rR (x := 0)) rfl) (rW (c := (-2147483648)) (d := 2147483647) (rR (x := 1)) rfl)) (gOk _ _ _ _ _) dX12_heard_11 (tX12_in _ _ _ _ _) wS_X12_in wM_X12_18 ⟨le_t rfl, le_t rfl⟩ ⟨le_t rfl, le_t rfl⟩ rfl (le_t rfl) fun z20 h19 => ?_
  refine mr_if_eq (pc := 14) (tgt := 35) dX12_heard_14 (by decide) (r32 h19.1 rfl) (fun h21 => ?_) (fun h21 => ?_)
  · have h22 : 0 ≤ z20 ∧ z20 ≤ 0 := (vc_X12_write_7 h21 h19.2.1 h19.2.2.1 hp2 h19.1)
    have h23 : p2 < (0 : Int) ∨ (1 : Int) < p2 := (h19.2.2.1 (vc_X12_write_8 h19.2.1 h19.2.2.1 h21 hp2 h22))
    refine mr_iconst (pc := 35) (z := (-1)) dX12_heard_35 ?_
    exact mr_iret dX12_heard_36 rfl (le_t rfl) (le_t rfl) hT mF.refl ⟨(rW (c := (-2147483648)) (d := 2147483647) (rR (x := (-1))) rfl), hIJC, hIRP, hIEP, hIHP, hIUP, hIG1, trivial⟩
  have h24 : 1 ≤ z20 ∧ z20 ≤ 1 := (vc_X12_write_9 h21 h19.2.1 h19.2.2.1 hp2 h19.1)
  have h25 : (0 : Int) ≤ p2 ∧ p2 ≤ (1 : Int) := (h19.2.1 (vc_X12_write_10 h19.2.1 h19.2.2.1 h21 hp2 h24))
  have h26 : 0 ≤ p2 ∧ p2 ≤ 1 := (vc_X12_write_11 h25 h19.2.1 h19.2.2.1 hp2 h24)
  refine sv_aload_n (pc := 17) dX12_heard_17 rfl rfl ?_
  refine mr_iload_n (pc := 18) (z := p3) dX12_heard_18 rfl rfl ?_
  obtain ⟨z27, q28⟩ : ∃ z, μ 106 2 = z := ⟨_, rfl⟩
  have h29 : (0 ≤ z27 ∧ z27 ≤ 10) := by rw [← q28]; exact hT 106 106 (A_106 hw) 2
  refine mr_cVP (pc := 19) (c_X12_isPrefix hw hT hp3 q28) (gOk _ _ _ _ _) dX12_heard_19 (tX12_isPrefix _ _ _ _ _) ⟨wV_X12_isPrefix, wL_X12_isPrefix⟩ wM_X12_92 (gCX12 _ _ _ _ _) rfl (A_106 hw) rfl ⟨le_t rfl, le_t rfl⟩ ⟨le_t rfl, le_t rfl⟩ rfl (le_t rfl) fun z34 h33 => ?_
  refine mr_if_eq (pc := 22) (tgt := 35) dX12_heard_22 (by decide) (r32 h33.1 rfl) (fun h35 => ?_) (fun h35 => ?_)
  · have h36 : 0 ≤ z34 ∧ z34 ≤ 0 := (vc_X12_write_78 h35 h33.2.1 h33.2.2.1 hp3 h29 h33.1)
    have h37 : p3 < 0 ∨ z27 ≤ p3 := (h33.2.2.1 (vc_X12_write_79 h33.2.1 h33.2.2.1 h35 hp3 h29 h36))
    refine mr_iconst (pc := 35) (z := (-1)) dX12_heard_35 ?_
    exact mr_iret dX12_heard_36 rfl (le_t rfl) (le_t rfl) hT mF.refl ⟨(rW (c := (-2147483648)) (d := 2147483647) (rR (x := (-1))) rfl), hIJC, hIRP, hIEP, hIHP, hIUP, hIG1, trivial⟩
  have h38 : 1 ≤ z34 ∧ z34 ≤ 1 := (vc_X12_write_12 h35 h33.2.1 h33.2.2.1 hp3 h29 h33.1)
  have h39 : 0 ≤ p3 ∧ p3 < z27 := (h33.2.1 (vc_X12_write_13 h33.2.1 h33.2.2.1 h35 hp3 h29 h38))
  have h40 : 0 ≤ p3 ∧ p3 ≤ 9 := (vc_X12_write_14 h39 h33.2.1 h33.2.2.1 hp3 h29 h38)
  have h41 : 1 ≤ z27 ∧ z27 ≤ 10 := (vc_X12_write_15 h39 h33.2.1 h33.2.2.1 h40 h29 h38)
  refine mr_iload (pc := 25) (z := p4) dX12_heard_25 rfl ?_
  refine mr_iconst (pc := 27) (z := 0) dX12_heard_27 ?_
  refine mr_iconst (pc := 28) (z := 1) dX12_heard_28 ?_
  refine mr_cSP (pc := 29) (c_X12_in hw hT hp4 (rW (c := (-2147483648)) (d := 2147483647) (rR (x := 0)) rfl) (rW (c := (-2147483648)) (d := 2147483647) (rR (x := 1)) rfl)) (gOk _ _ _ _ _) dX12_heard_29 (tX12_in _ _ _ _ _) wS_X12_in wM_X12_18 ⟨le_t rfl, le_t rfl⟩ ⟨le_t rfl, le_t rfl⟩ rfl (le_t rfl) fun z46 h45 => ?_
  refine mr_if_ne (pc := 32) (tgt := 37) dX12_heard_32 (by decide) (r32 h45.1 rfl) (fun h47 => ?_) (fun h47 => ?_)
  · have h48 : 1 ≤ z46 ∧ z46 ≤ 1 := (vc_X12_write_9 h47 h45.2.1 h45.2.2.1 hp4 h45.1)
    have h49 : (0 : Int) ≤ p4 ∧ p4 ≤ (1 : Int) := (h45.2.1 (vc_X12_write_10 h45.2.1 h45.2.2.1 h47 hp4 h48))
    have h50 : 0 ≤ p4 ∧ p4 ≤ 1 := (vc_X12_write_11 h49 h45.2.1 h45.2.2.1 hp4 h48)
    refine mr_iload_n (pc := 37) (z := p1) dX12_heard_37 rfl rfl ?_
    refine mr_iload_n (pc := 38) (z := p2) dX12_heard_38 rfl rfl ?_
    refine mr_iload_n (pc := 39) (z := p3) dX12_heard_39 rfl rfl ?_
    refine mr_cSP (pc := 40) (c_X12_slot hw hT (rW (c := 0) (d := 20) h14 rfl) (rW (c := 0) (d := 2) h26 rfl) h40) (gOk _ _ _ _ _) dX12_heard_40 (tX12_slot _ _ _ _ _) wS_X12_slot wM_X12_545 ⟨le_t rfl, le_t rfl⟩ ⟨le_t rfl, le_t rfl⟩ rfl (le_t rfl) fun z55 h54 => ?_
    have h56 : 0 ≤ z55 ∧ z55 ≤ 399 := (vc_X12_write_16 h54.2.1 h13 h19.2.1 h19.2.2.1 h25 h33.2.1 h33.2.2.1 h39 h14 h26 h40 h15 h24 h41 h38 h54.1)
    refine mr_istore (pc := 43) (lv' := [(5, iv z55), (0, .ref 106), (1, iv p1), (2, iv p2), (3, iv p3), (4, iv p4)]) dX12_heard_43 (by decide) rfl ?_
    refine mr_iload (pc := 45) (z := p4) dX12_heard_45 rfl ?_
    have J61 : ∀ (z59 : Int), ((130 ≤ z59 ∧ z59 ≤ 530)) → sV (gG l D c H0 sa) mX12_heard (sRm 3 0 0) (sZ (gG l D c H0 sa) 0 0 (qI w [106070, 126999] μ (fun z μ1 => ((-2147483648) ≤ z ∧ z ≤ 2147483647) ∧ JC l D c H0 sa μ1 ∧ RP μ1 ∧ EP μ1 ∧ HP μ1 ∧ UP l D c H0 sa μ1 ∧ G1 μ1 ∧ True))) 59 [(0, .ref 106), (4, iv p4), (5, iv z55)] [iv z59] (mk w μ) 0 0 := by
      intro z59 h60
      refine mr_iload (pc := 59) (z := z55) dX12_heard_59 rfl ?_
      refine mr_iadd (pc := 61) (x := z59) (y := z55) dX12_heard_61 ?_
      refine mr_istore (pc := 62) (lv' := [(6, iv (z59 + z55)), (0, .ref 106), (4, iv p4), (5, iv z55)]) dX12_heard_62 (by decide) rfl ?_
      refine sv_aload_n (pc := 64) dX12_heard_64 rfl rfl ?_
      refine mr_iload (pc := 65) (z := (z59 + z55)) dX12_heard_65 rfl ?_
      obtain ⟨z62, q63⟩ : ∃ z, μ 126 ((40 * (z59 + z55)).toNat) = z := ⟨_, rfl⟩
      have h64 := rt7 hT (A_126 hw) (vc_X12_heard_u_22 h54.2.1 h7.2.1 h7.2.2.1 h13 h19.2.1 h19.2.2.1 h25 h33.2.1 h33.2.2.1 h39 h14 h26 h40 h15 h24 h41 h38 h56 h60 h12) q63
      have h65 : (-1) ≤ z62 ∧ z62 ≤ 9 := h64.2.1 (vc_X12_heard_u_23 h54.2.1 h7.2.1 h7.2.2.1 h13 h19.2.1 h19.2.2.1 h25 h33.2.1 h33.2.2.1 h39 h14 h26 h40 h15 h24 h41 h38 h56 h60 h12)
      refine mr_cVP (pc := 67) (c_X12_isThere hw hT (rW (c := 0) (d := 2099) (rAdd (e := 130) (f := 929) h60 h56 rfl) rfl) q63) (gOk _ _ _ _ _) dX12_heard_67 (tX12_isThere _ _ _ _ _) ⟨wV_X12_isThere, wL_X12_isThere⟩ wM_X12_151 (gCX12 _ _ _ _ _) rfl (A_106 hw) rfl ⟨le_t rfl, le_t rfl⟩ ⟨le_t rfl, le_t rfl⟩ rfl (le_t rfl) fun z70 h69 => ?_
      refine mr_if_ne (pc := 70) (tgt := 76) dX12_heard_70 (by decide) (r32 h69.1 rfl) (fun h71 => ?_) (fun h71 => ?_)
      · have h72 : 1 ≤ z70 ∧ z70 ≤ 1 := (vc_X12_same_8 h71 h69.2.1 h69.2.2.1 h65 h69.1)
        have h73 : 0 ≤ z62 := (h69.2.1 (vc_X12_same_9 h69.2.1 h69.2.2.1 h71 h65 h72))
        have h74 : 0 ≤ z62 ∧ z62 ≤ 9 := (vc_X12_same_10 h73 h69.2.1 h69.2.2.1 h65 h72)
        refine sv_aload_n (pc := 76) dX12_heard_76 rfl rfl ?_
        refine mr_iload (pc := 77) (z := (z59 + z55)) dX12_heard_77 rfl ?_
        refine mr_iconst (pc := 79) (z := 0) dX12_heard_79 ?_
        refine mr_cVV (pc := 80) (c_X12_copy_u hw hT (rW (c := 0) (d := 2099) (rAdd (e := 130) (f := 929) h60 h56 rfl) rfl) (rW (c := 0) (d := 2099) (rR (x := 0)) rfl) q63 q28 (vc_X12_heard_u_27 h54.2.1 h7.2.1 h7.2.2.1 h13 h19.2.1 h19.2.2.1 h25 h33.2.1 h33.2.2.1 h39 h14 h26 h40 h15 h24 h41 h38 h56 h60 h12) (vc_X12_heard_u_28 h54.2.1 h7.2.1 h7.2.2.1 h13 h19.2.1 h19.2.2.1 h25 h33.2.1 h33.2.2.1 h39 h14 h26 h40 h15 h24 h41 h38 h56 h60 h12) vc_X12_judge_u_25 (vc_X12_heard_u_30 h33.2.1 h33.2.2.1 h39 h54.2.1 h7.2.1 h7.2.2.1 h13 h19.2.1 h19.2.2.1 h25 h35 h14 h26 h40 h15 h24 h41 h38 h56 h60 h12) hIRP) (gOk _ _ _ _ _) dX12_heard_80 (tX12_copy _ _ _ _ _) ⟨wV_X12_copy, wL_X12_copy⟩ wM_X12_559 (gCX12 _ _ _ _ _) rfl (A_106 hw) rfl ⟨le_t rfl, le_t rfl⟩ ⟨le_t rfl, le_t rfl⟩ rfl (le_t rfl) fun μ75 T76 F77 h78 => ?_
        obtain ⟨z79, q80, h81⟩ := h78
        have h82 := rt7 T76 (A_126 hw) vc_X12_judge_u_31 q80
        have h83 : (-1) ≤ z79 ∧ z79 ≤ 9 := h82.2.1 vc_X12_judge_u_32
        have q84 : μ75 126 (((40 * 0) : Int).toNat) = z62 := q80.trans h81.2.2.1
        have h85 : 0 ≤ z79 ∧ z79 ≤ 9 := (vc_X12_candidate_18 h81.2.2.1 h69.2.1 h69.2.2.1 h73 h74 h72 h83)
        refine sv_aload_n (pc := 83) dX12_heard_83 rfl rfl ?_
        refine mr_iconst (pc := 84) (z := 1) dX12_heard_84 ?_
        refine pf_X12_70 (pc := 85) dX12_heard_85 wF_X12_411 (A_106 hw) T76 (rW (c := 0) (d := 1) (rR (x := 1)) rfl) fun μ86 u87 T88 => ?_
        have I89 : G1 μ86 := G1.take hIG1 hw ((mF.up (mF.call mF.refl F77 rfl) (A_106 hw) u87 rfl) : mF [106070, 126999] w μ μ86) rfl ((mG.upO (mG.call mG.refl h81.1 (List.forall_mem_cons.mpr ⟨⟨_, List.mem_cons_self, vc_X12_picked_u_21⟩, (fun _ h => absurd h List.not_mem_nil)⟩)) u87 rfl) : mG [((40 * 0), ((40 * 0) + 40))] μ μ86) (List.forall_mem_cons.mpr ⟨vc_X12_picked_u_22, (fun _ h => absurd h List.not_mem_nil)⟩) (eqIx vc_X12_picked_u_23 (u87.f (Or.inl (mAt.ne (A_106 hw) (A_126 hw) rfl)) q84)) (vc_X12_candidate_23 h69.2.1 h69.2.2.1 h73 h81.2.2.1 h71 h74 h72 h85)
        refine mr_iload (pc := 88) (z := p4) dX12_heard_88 rfl ?_
        refine mr_if_ne (pc := 90) (tgt := 103) dX12_heard_90 (by decide) (r32 h50 rfl) (fun h98 => ?_) (fun h98 => ?_)
        · have h99 : 1 ≤ p4 ∧ p4 ≤ 1 := (vc_X12_heard_u_38 h98 h45.2.1 h45.2.2.1 h49 h50 h48)
          refine sv_aload_n (pc := 103) dX12_heard_103 rfl rfl ?_
          refine gf_X12_76 (pc := 104) dX12_heard_104 wF_X12_430 (A_106 hw) T88 ?_
          refine mr_iload (pc := 107) (z := z55) dX12_heard_107 rfl ?_
          refine la_156 (pc := 109) dX12_heard_109 (A_156 hw) T88 (rIx (n := 400) h56 rfl) fun z100 q101 h102 => ?_
          exact mr_iret dX12_heard_110 rfl (le_t rfl) (le_t rfl) T88 (mF.up (mF.call mF.refl F77 rfl) (A_106 hw) u87 rfl) ⟨(rW (c := (-2147483648)) (d := 2147483647) h102 rfl), (JC.keepJ hIJC hw ((mF.up (mF.call mF.refl F77 rfl) (A_106 hw) u87 rfl) : mF [106070, 126999] w μ μ86) rfl), (RP.keep h81.2.1 hw ((mF.up mF.refl (A_106 hw) u87 rfl) : mF [106070] w μ75 μ86) rfl ((mG.upO mG.refl u87 rfl) : mG [] μ75 μ86) (fun _ h => absurd h List.not_mem_nil)), (EP.keep hIEP hw ((mF.up (mF.call mF.refl F77 rfl) (A_106 hw) u87 rfl) : mF [106070, 126999] w μ μ86) rfl), (HP.keep hIHP hw ((mF.up (mF.call mF.refl F77 rfl) (A_106 hw) u87 rfl) : mF [106070, 126999] w μ μ86) rfl ((mG.upO (mG.call mG.refl h81.1 (List.forall_mem_cons.mpr ⟨⟨_, List.mem_cons_self, vc_X12_picked_u_21⟩, (fun _ h => absurd h List.not_mem_nil)⟩)) u87 rfl) : mG [((40 * 0), ((40 * 0) + 40))] μ μ86) (List.forall_mem_cons.mpr ⟨vc_X12_picked_u_25, (fun _ h => absurd h List.not_mem_nil)⟩)), (UPg.fr hIUP hw T88 rfl ((mF.up (mF.call mF.refl F77 rfl) (A_106 hw) u87 rfl) : mF [106070, 126999] w μ μ86) rfl rfl rfl ((mG.upO (mG.call mG.refl h81.1 (List.forall_mem_cons.mpr ⟨⟨_, List.mem_cons_self, vc_X12_picked_u_21⟩, (fun _ h => absurd h List.not_mem_nil)⟩)) u87 rfl) : mG [((40 * 0), ((40 * 0) + 40))] μ μ86) (List.forall_mem_cons.mpr ⟨vc_X12_picked_u_25, (fun _ h => absurd h List.not_mem_nil)⟩)), I89, trivial⟩
        have h103 : 0 ≤ p4 ∧ p4 ≤ 0 := (vc_X12_heard_u_40 h98 h45.2.1 h45.2.2.1 h49 h50 h48)
        refine sv_aload_n (pc := 93) dX12_heard_93 rfl rfl ?_
        refine gf_X12_74 (pc := 94) dX12_heard_94 wF_X12_424 (A_106 hw) T88 ?_
        refine mr_iload (pc := 97) (z := z55) dX12_heard_97 rfl ?_
        refine la_154 (pc := 99) dX12_heard_99 (A_154 hw) T88 (rIx (n := 400) h56 rfl) fun z104 q105 h106 => ?_
        refine sv_goto (pc := 100) (tgt := 110) dX12_heard_100 (by decide) ?_
        exact mr_iret dX12_heard_110 rfl (le_t rfl) (le_t rfl) T88 (mF.up (mF.call mF.refl F77 rfl) (A_106 hw) u87 rfl) ⟨(rW (c := (-2147483648)) (d := 2147483647) h106 rfl), (JC.keepJ hIJC hw ((mF.up (mF.call mF.refl F77 rfl) (A_106 hw) u87 rfl) : mF [106070, 126999] w μ μ86) rfl), (RP.keep h81.2.1 hw ((mF.up mF.refl (A_106 hw) u87 rfl) : mF [106070] w μ75 μ86) rfl ((mG.upO mG.refl u87 rfl) : mG [] μ75 μ86) (fun _ h => absurd h List.not_mem_nil)), (EP.keep hIEP hw ((mF.up (mF.call mF.refl F77 rfl) (A_106 hw) u87 rfl) : mF [106070, 126999] w μ μ86) rfl), (HP.keep hIHP hw ((mF.up (mF.call mF.refl F77 rfl) (A_106 hw) u87 rfl) : mF [106070, 126999] w μ μ86) rfl ((mG.upO (mG.call mG.refl h81.1 (List.forall_mem_cons.mpr ⟨⟨_, List.mem_cons_self, vc_X12_picked_u_21⟩, (fun _ h => absurd h List.not_mem_nil)⟩)) u87 rfl) : mG [((40 * 0), ((40 * 0) + 40))] μ μ86) (List.forall_mem_cons.mpr ⟨vc_X12_picked_u_25, (fun _ h => absurd h List.not_mem_nil)⟩)), (UPg.fr hIUP hw T88 rfl ((mF.up (mF.call mF.refl F77 rfl) (A_106 hw) u87 rfl) : mF [106070, 126999] w μ μ86) rfl rfl rfl ((mG.upO (mG.call mG.refl h81.1 (List.forall_mem_cons.mpr ⟨⟨_, List.mem_cons_self, vc_X12_picked_u_21⟩, (fun _ h => absurd h List.not_mem_nil)⟩)) u87 rfl) : mG [((40 * 0), ((40 * 0) + 40))] μ μ86) (List.forall_mem_cons.mpr ⟨vc_X12_picked_u_25, (fun _ h => absurd h List.not_mem_nil)⟩)), I89, trivial⟩
      have h107 : 0 ≤ z70 ∧ z70 ≤ 0 := (vc_X12_same_3 h71 h69.2.1 h69.2.2.1 h65 h69.1)
      have h108 : z62 < 0 := (h69.2.2.1 (vc_X12_same_4 h69.2.1 h69.2.2.1 h71 h65 h107))
      have h109 : (-1) ≤ z62 ∧ z62 ≤ (-1) := (vc_X12_same_5 h108 h69.2.1 h69.2.2.1 h65 h107)
      refine mr_ldc (pc := 73) (z := (-99999999)) dX12_heard_73 wG_X12_29 (by decide) ?_
      exact mr_iret dX12_heard_75 rfl (le_t rfl) (le_t rfl) hT mF.refl ⟨(rW (c := (-2147483648)) (d := 2147483647) (rR (x := (-99999999))) rfl), hIJC, hIRP, hIEP, hIHP, hIUP, hIG1, trivial⟩
    refine mr_if_ne (pc := 47) (tgt := 56) dX12_heard_47 (by decide) (r32 h50 rfl) (fun h110 => ?_) (fun h110 => ?_)
    · have h111 : 1 ≤ p4 ∧ p4 ≤ 1 := (vc_X12_heard_u_38 h110 h45.2.1 h45.2.2.1 h49 h50 h48)
      refine mr_sipush (pc := 56) (z := 530) dX12_heard_56 (by decide) ?_
      refine mr_lvS (lv' := [(0, .ref 106), (4, iv p4), (5, iv z55)]) (List.forall_mem_cons.mpr ⟨rfl, List.forall_mem_cons.mpr ⟨rfl, List.forall_mem_cons.mpr ⟨rfl, fun _ h => absurd h List.not_mem_nil⟩⟩⟩) ?_
      exact J61 530 (rW (c := 130) (d := 530) (rR (x := 530)) rfl)
    have h112 : 0 ≤ p4 ∧ p4 ≤ 0 := (vc_X12_heard_u_40 h110 h45.2.1 h45.2.2.1 h49 h50 h48)
    refine mr_sipush (pc := 50) (z := 130) dX12_heard_50 (by decide) ?_
    refine sv_goto (pc := 53) (tgt := 59) dX12_heard_53 (by decide) ?_
    refine mr_lvS (lv' := [(0, .ref 106), (4, iv p4), (5, iv z55)]) (List.forall_mem_cons.mpr ⟨rfl, List.forall_mem_cons.mpr ⟨rfl, List.forall_mem_cons.mpr ⟨rfl, fun _ h => absurd h List.not_mem_nil⟩⟩⟩) ?_
    exact J61 130 (rW (c := 130) (d := 530) (rR (x := 130)) rfl)
  have h113 : 0 ≤ z46 ∧ z46 ≤ 0 := (vc_X12_write_7 h47 h45.2.1 h45.2.2.1 hp4 h45.1)
  have h114 : p4 < (0 : Int) ∨ (1 : Int) < p4 := (h45.2.2.1 (vc_X12_write_8 h45.2.1 h45.2.2.1 h47 hp4 h113))
  refine mr_iconst (pc := 35) (z := (-1)) dX12_heard_35 ?_
  exact mr_iret dX12_heard_36 rfl (le_t rfl) (le_t rfl) hT mF.refl ⟨(rW (c := (-2147483648)) (d := 2147483647) (rR (x := (-1))) rfl), hIJC, hIRP, hIEP, hIHP, hIUP, hIG1, trivial⟩
theorem vc_X12_route_u_17 {p4 z42 : Int} (h0 : ¬ z42 = 0) (h1 : (z42 = 1 → (0 : Int) ≤ p4 ∧ p4 ≤ (1000000 : Int))) (h2 : (z42 = 0 → p4 < (0 : Int) ∨ (1000000 : Int) < p4)) (h3 : (-2147483648) ≤ p4 ∧ p4 ≤ 2147483647) (h4 : 0 ≤ z42 ∧ z42 ≤ 1) : 1 ≤ z42 ∧ z42 ≤ 1 := by omega
theorem vc_X12_route_u_18 {p4 z42 : Int} (h0 : (z42 = 1 → (0 : Int) ≤ p4 ∧ p4 ≤ (1000000 : Int))) (h1 : (z42 = 0 → p4 < (0 : Int) ∨ (1000000 : Int) < p4)) (h2 : ¬ z42 = 0) (h3 : (-2147483648) ≤ p4 ∧ p4 ≤ 2147483647) (h4 : 1 ≤ z42 ∧ z42 ≤ 1) : z42 = 1 := by omega
theorem vc_X12_route_u_19 {p4 z42 : Int} (h0 : (0 : Int) ≤ p4 ∧ p4 ≤ (1000000 : Int)) (h1 : (z42 = 1 → (0 : Int) ≤ p4 ∧ p4 ≤ (1000000 : Int))) (h2 : (z42 = 0 → p4 < (0 : Int) ∨ (1000000 : Int) < p4)) (h3 : (-2147483648) ≤ p4 ∧ p4 ≤ 2147483647) (h4 : 1 ≤ z42 ∧ z42 ≤ 1) : 0 ≤ p4 ∧ p4 ≤ 1000000 := by omega
theorem vc_X12_route_u_20 {p1 z1 z8 : Int} (h0 : (z8 = 1 → 0 ≤ p1 ∧ p1 < z1)) (h1 : (z8 = 0 → p1 < 0 ∨ z1 ≤ p1)) (h2 : 0 ≤ p1 ∧ p1 < z1) (h3 : ¬ z8 = 0) (h4 : 0 ≤ p1 ∧ p1 ≤ 9) (h5 : 1 ≤ z1 ∧ z1 ≤ 10) (h6 : 1 ≤ z8 ∧ z8 ≤ 1) : (-2147483648 ≤ p1 ∧ p1 ≤ 2147483647) ∧ ((0 : Int) % 40 = 0 → -1 ≤ p1 ∧ p1 ≤ 9) ∧ ((0 : Int) % 40 = 4 → 0 ≤ p1 ∧ p1 ≤ 20) ∧ ((0 : Int) % 40 = 5 → 0 ≤ p1 ∧ p1 ≤ 8) := by omega
theorem vc_X12_route_u_22 {p1 z1 z8 : Int} (h0 : (z8 = 1 → 0 ≤ p1 ∧ p1 < z1)) (h1 : (z8 = 0 → p1 < 0 ∨ z1 ≤ p1)) (h2 : 0 ≤ p1 ∧ p1 < z1) (h3 : ¬ z8 = 0) (h4 : 0 ≤ p1 ∧ p1 ≤ 9) (h5 : 1 ≤ z1 ∧ z1 ≤ 10) (h6 : 1 ≤ z8 ∧ z8 ≤ 1) : ¬ (0 : Int) % 40 = 0 ∨ 56000 ≤ (0 : Int) ∨ ((0 : Int) = 960 ∧ p1 ≤ 0) ∨ (¬ (0 : Int) = 960 ∧ p1 < z1) := by omega
theorem vc_X12_route_u_23  : (0 : Int) ≤ (0 : Int) ∧ (0 : Int) ≤ (0 : Int) ∧ (0 : Int) < ((0 : Int) + (1 : Int)) := by omega
theorem vc_X12_route_u_24  : (((0 : Int) + (1 : Int)) : Int) ≤ (1200 : Int) ∨ (5200 : Int) ≤ ((0 : Int) : Int) := by omega
theorem vc_X12_route_u_25 {p1 z1 z8 : Int} (h0 : (z8 = 1 → 0 ≤ p1 ∧ p1 < z1)) (h1 : (z8 = 0 → p1 < 0 ∨ z1 ≤ p1)) (h2 : 0 ≤ p1 ∧ p1 < z1) (h3 : ¬ z8 = 0) (h4 : 0 ≤ p1 ∧ p1 ≤ 9) (h5 : 1 ≤ z1 ∧ z1 ≤ 10) (h6 : 1 ≤ z8 ∧ z8 ≤ 1) : 0 ≤ p1 := by omega
theorem vc_X12_route_u_26 {p2 z20 : Int} (h0 : (z20 = 1 → (0 : Int) ≤ p2 ∧ p2 ≤ (1000 : Int))) (h1 : (z20 = 0 → p2 < (0 : Int) ∨ (1000 : Int) < p2)) (h2 : (0 : Int) ≤ p2 ∧ p2 ≤ (1000 : Int)) (h3 : ¬ z20 = 0) (h4 : 0 ≤ p2 ∧ p2 ≤ 1000) (h5 : 1 ≤ z20 ∧ z20 ≤ 1) : (-2147483648 ≤ p2 ∧ p2 ≤ 2147483647) ∧ ((1 : Int) % 40 = 0 → -1 ≤ p2 ∧ p2 ≤ 9) ∧ ((1 : Int) % 40 = 4 → 0 ≤ p2 ∧ p2 ≤ 20) ∧ ((1 : Int) % 40 = 5 → 0 ≤ p2 ∧ p2 ≤ 8) := by omega
theorem vc_X12_route_u_28 {p1 p2 z1 z20 z8 : Int} (h0 : (z8 = 1 → 0 ≤ p1 ∧ p1 < z1)) (h1 : (z8 = 0 → p1 < 0 ∨ z1 ≤ p1)) (h2 : 0 ≤ p1 ∧ p1 < z1) (h3 : (z20 = 1 → (0 : Int) ≤ p2 ∧ p2 ≤ (1000 : Int))) (h4 : (z20 = 0 → p2 < (0 : Int) ∨ (1000 : Int) < p2)) (h5 : (0 : Int) ≤ p2 ∧ p2 ≤ (1000 : Int)) (h6 : ¬ z8 = 0) (h7 : ¬ z20 = 0) (h8 : 0 ≤ p1 ∧ p1 ≤ 9) (h9 : 0 ≤ p2 ∧ p2 ≤ 1000) (h10 : 1 ≤ z1 ∧ z1 ≤ 10) (h11 : 1 ≤ z20 ∧ z20 ≤ 1) (h12 : 1 ≤ z8 ∧ z8 ≤ 1) : ¬ (1 : Int) % 40 = 0 ∨ 56000 ≤ (1 : Int) ∨ ((1 : Int) = 960 ∧ p2 ≤ 0) ∨ (¬ (1 : Int) = 960 ∧ p2 < z1) := by omega
theorem vc_X12_route_u_29 {p3 z31 : Int} (h0 : (z31 = 1 → (0 : Int) ≤ p3 ∧ p3 ≤ (2 : Int))) (h1 : (z31 = 0 → p3 < (0 : Int) ∨ (2 : Int) < p3)) (h2 : (0 : Int) ≤ p3 ∧ p3 ≤ (2 : Int)) (h3 : ¬ z31 = 0) (h4 : 0 ≤ p3 ∧ p3 ≤ 2) (h5 : 1 ≤ z31 ∧ z31 ≤ 1) : (-2147483648 ≤ p3 ∧ p3 ≤ 2147483647) ∧ ((2 : Int) % 40 = 0 → -1 ≤ p3 ∧ p3 ≤ 9) ∧ ((2 : Int) % 40 = 4 → 0 ≤ p3 ∧ p3 ≤ 20) ∧ ((2 : Int) % 40 = 5 → 0 ≤ p3 ∧ p3 ≤ 8) := by omega
theorem vc_X12_route_u_30  : (0 : Int) ≤ ((2 : Int) : Int) := by omega
theorem vc_X12_route_u_31 {p1 p3 z1 z31 z8 : Int} (h0 : (z8 = 1 → 0 ≤ p1 ∧ p1 < z1)) (h1 : (z8 = 0 → p1 < 0 ∨ z1 ≤ p1)) (h2 : 0 ≤ p1 ∧ p1 < z1) (h3 : (z31 = 1 → (0 : Int) ≤ p3 ∧ p3 ≤ (2 : Int))) (h4 : (z31 = 0 → p3 < (0 : Int) ∨ (2 : Int) < p3)) (h5 : (0 : Int) ≤ p3 ∧ p3 ≤ (2 : Int)) (h6 : ¬ z8 = 0) (h7 : ¬ z31 = 0) (h8 : 0 ≤ p1 ∧ p1 ≤ 9) (h9 : 0 ≤ p3 ∧ p3 ≤ 2) (h10 : 1 ≤ z1 ∧ z1 ≤ 10) (h11 : 1 ≤ z31 ∧ z31 ≤ 1) (h12 : 1 ≤ z8 ∧ z8 ≤ 1) : ¬ (2 : Int) % 40 = 0 ∨ 56000 ≤ (2 : Int) ∨ ((2 : Int) = 960 ∧ p3 ≤ 0) ∨ (¬ (2 : Int) = 960 ∧ p3 < z1) := by omega
theorem vc_X12_route_u_32 {p4 z42 : Int} (h0 : (z42 = 1 → (0 : Int) ≤ p4 ∧ p4 ≤ (1000000 : Int))) (h1 : (z42 = 0 → p4 < (0 : Int) ∨ (1000000 : Int) < p4)) (h2 : (0 : Int) ≤ p4 ∧ p4 ≤ (1000000 : Int)) (h3 : ¬ z42 = 0) (h4 : 0 ≤ p4 ∧ p4 ≤ 1000000) (h5 : 1 ≤ z42 ∧ z42 ≤ 1) : (-2147483648 ≤ p4 ∧ p4 ≤ 2147483647) ∧ ((3 : Int) % 40 = 0 → -1 ≤ p4 ∧ p4 ≤ 9) ∧ ((3 : Int) % 40 = 4 → 0 ≤ p4 ∧ p4 ≤ 20) ∧ ((3 : Int) % 40 = 5 → 0 ≤ p4 ∧ p4 ≤ 8) := by omega
theorem vc_X12_route_u_33  : (0 : Int) ≤ ((3 : Int) : Int) := by omega
theorem vc_X12_route_u_34 {p1 p4 z1 z42 z8 : Int} (h0 : (z8 = 1 → 0 ≤ p1 ∧ p1 < z1)) (h1 : (z8 = 0 → p1 < 0 ∨ z1 ≤ p1)) (h2 : 0 ≤ p1 ∧ p1 < z1) (h3 : (z42 = 1 → (0 : Int) ≤ p4 ∧ p4 ≤ (1000000 : Int))) (h4 : (z42 = 0 → p4 < (0 : Int) ∨ (1000000 : Int) < p4)) (h5 : (0 : Int) ≤ p4 ∧ p4 ≤ (1000000 : Int)) (h6 : ¬ z8 = 0) (h7 : ¬ z42 = 0) (h8 : 0 ≤ p1 ∧ p1 ≤ 9) (h9 : 0 ≤ p4 ∧ p4 ≤ 1000000) (h10 : 1 ≤ z1 ∧ z1 ≤ 10) (h11 : 1 ≤ z42 ∧ z42 ≤ 1) (h12 : 1 ≤ z8 ∧ z8 ≤ 1) : ¬ (3 : Int) % 40 = 0 ∨ 56000 ≤ (3 : Int) ∨ ((3 : Int) = 960 ∧ p4 ≤ 0) ∨ (¬ (3 : Int) = 960 ∧ p4 < z1) := by omega
theorem vc_X12_route_u_35 {z64 : Int} (h0 : 0 ≤ z64 ∧ z64 ≤ 20) : (-2147483648 ≤ z64 ∧ z64 ≤ 2147483647) ∧ ((4 : Int) % 40 = 0 → -1 ≤ z64 ∧ z64 ≤ 9) ∧ ((4 : Int) % 40 = 4 → 0 ≤ z64 ∧ z64 ≤ 20) ∧ ((4 : Int) % 40 = 5 → 0 ≤ z64 ∧ z64 ≤ 8) := by omega
theorem vc_X12_route_u_36  : (0 : Int) ≤ ((4 : Int) : Int) := by omega
theorem vc_X12_route_u_37 {p1 z1 z64 z8 : Int} (h0 : (z8 = 1 → 0 ≤ p1 ∧ p1 < z1)) (h1 : (z8 = 0 → p1 < 0 ∨ z1 ≤ p1)) (h2 : 0 ≤ p1 ∧ p1 < z1) (h3 : ¬ z8 = 0) (h4 : 0 ≤ p1 ∧ p1 ≤ 9) (h5 : 1 ≤ z1 ∧ z1 ≤ 10) (h6 : 0 ≤ z64 ∧ z64 ≤ 20) (h7 : 1 ≤ z8 ∧ z8 ≤ 1) : ¬ (4 : Int) % 40 = 0 ∨ 56000 ≤ (4 : Int) ∨ ((4 : Int) = 960 ∧ z64 ≤ 0) ∨ (¬ (4 : Int) = 960 ∧ z64 < z1) := by omega
theorem vc_X12_route_u_38  : (-(2147483648 : Int) ≤ ((0 : Int) : Int) ∧ ((0 : Int) : Int) ≤ (2147483647 : Int)) ∧ (((5 : Int) : Int) % (40 : Int) = (0 : Int) → -(1 : Int) ≤ ((0 : Int) : Int) ∧ ((0 : Int) : Int) ≤ (9 : Int)) ∧ (((5 : Int) : Int) % (40 : Int) = (4 : Int) → (0 : Int) ≤ ((0 : Int) : Int) ∧ ((0 : Int) : Int) ≤ (20 : Int)) ∧ (((5 : Int) : Int) % (40 : Int) = (5 : Int) → (0 : Int) ≤ ((0 : Int) : Int) ∧ ((0 : Int) : Int) ≤ (8 : Int)) := by omega
theorem vc_X12_route_u_39  : (0 : Int) ≤ ((5 : Int) : Int) := by omega
theorem vc_X12_route_u_40 {p1 z1 z8 : Int} (h0 : (z8 = 1 → 0 ≤ p1 ∧ p1 < z1)) (h1 : (z8 = 0 → p1 < 0 ∨ z1 ≤ p1)) (h2 : 0 ≤ p1 ∧ p1 < z1) (h3 : ¬ z8 = 0) (h4 : 0 ≤ p1 ∧ p1 ≤ 9) (h5 : 1 ≤ z1 ∧ z1 ≤ 10) (h6 : 1 ≤ z8 ∧ z8 ≤ 1) : ¬ (5 : Int) % 40 = 0 ∨ 56000 ≤ (5 : Int) ∨ ((5 : Int) = 960 ∧ (0 : Int) ≤ 0) ∨ (¬ (5 : Int) = 960 ∧ (0 : Int) < z1) := by omega
theorem vc_X12_route_u_44 {f_q p1 z1 z8 : Int} (h0 : f_q = p1) (h1 : (z8 = 1 → 0 ≤ p1 ∧ p1 < z1)) (h2 : (z8 = 0 → p1 < 0 ∨ z1 ≤ p1)) (h3 : 0 ≤ p1 ∧ p1 < z1) (h4 : (-1) ≤ f_q ∧ f_q ≤ 9) (h5 : 0 ≤ p1 ∧ p1 ≤ 9) (h6 : 1 ≤ z1 ∧ z1 ≤ 10) (h7 : 1 ≤ z8 ∧ z8 ≤ 1) : 0 ≤ f_q := by omega
theorem vc_X12_route_u_45  : (0 : Int) ≤ (0 : Int) ∧ (0 : Int) ≤ (0 : Int) ∧ (0 : Int) < (40 : Int) := by omega
theorem vc_X12_route_u_46  : (0 : Int) ≤ (1 : Int) ∧ (0 : Int) ≤ (1 : Int) ∧ (1 : Int) < (40 : Int) := by omega
theorem vc_X12_route_u_47  : (0 : Int) ≤ (2 : Int) ∧ (0 : Int) ≤ (2 : Int) ∧ (2 : Int) < (40 : Int) := by omega
theorem vc_X12_route_u_48  : (0 : Int) ≤ (3 : Int) ∧ (0 : Int) ≤ (3 : Int) ∧ (3 : Int) < (40 : Int) := by omega
theorem vc_X12_route_u_49  : (0 : Int) ≤ (4 : Int) ∧ (0 : Int) ≤ (4 : Int) ∧ (4 : Int) < (40 : Int) := by omega
theorem vc_X12_route_u_50  : (0 : Int) ≤ (5 : Int) ∧ (0 : Int) ≤ (5 : Int) ∧ (5 : Int) < (40 : Int) := by omega
theorem vc_X12_route_u_51  : (0 : Int) ≤ (0 : Int) ∧ (40 : Int) ≤ (40 : Int) := by omega
theorem vc_X12_route_u_54 {z299 z333 z64 : Int} (h0 : z299 < z64) (h1 : 0 ≤ z299 ∧ z299 ≤ 19) (h2 : 0 ≤ z333 ∧ z333 ≤ 9) (h3 : 1 ≤ z64 ∧ z64 ≤ 20) : (-2147483648 ≤ z333 ∧ z333 ≤ 2147483647) ∧ ((6 + z299) % 40 = 0 → -1 ≤ z333 ∧ z333 ≤ 9) ∧ ((6 + z299) % 40 = 4 → 0 ≤ z333 ∧ z333 ≤ 20) ∧ ((6 + z299) % 40 = 5 → 0 ≤ z333 ∧ z333 ≤ 8) := by omega
theorem vc_X12_route_u_55 {z299 z64 : Int} (h0 : z299 < z64) (h1 : 0 ≤ z299 ∧ z299 ≤ 19) (h2 : 1 ≤ z64 ∧ z64 ≤ 20) : 0 ≤ (6 + z299) := by omega
theorem vc_X12_route_u_56 {f_q p1 z1 z299 z333 z64 z8 : Int} (h0 : (z8 = 1 → 0 ≤ p1 ∧ p1 < z1)) (h1 : (z8 = 0 → p1 < 0 ∨ z1 ≤ p1)) (h2 : 0 ≤ p1 ∧ p1 < z1) (h3 : z299 < z64) (h4 : ¬ z8 = 0) (h5 : f_q = p1) (h6 : (-1) ≤ f_q ∧ f_q ≤ 9) (h7 : 0 ≤ p1 ∧ p1 ≤ 9) (h8 : 1 ≤ z1 ∧ z1 ≤ 10) (h9 : 0 ≤ z299 ∧ z299 ≤ 19) (h10 : 0 ≤ z333 ∧ z333 ≤ 9) (h11 : 1 ≤ z64 ∧ z64 ≤ 20) (h12 : 1 ≤ z8 ∧ z8 ≤ 1) : ¬ (6 + z299) % 40 = 0 ∨ 56000 ≤ (6 + z299) ∨ ((6 + z299) = 960 ∧ z333 ≤ 0) ∨ (¬ (6 + z299) = 960 ∧ z333 < z1) := by omega
theorem vc_X12_route_u_57 {z299 z64 : Int} (h0 : z299 < z64) (h1 : 0 ≤ z299 ∧ z299 ≤ 19) (h2 : 1 ≤ z64 ∧ z64 ≤ 20) : (0 : Int).toNat ≠ (6 + z299).toNat := by omega
theorem vc_X12_route_u_58 {f_q p1 z1 z8 : Int} (h0 : (z8 = 1 → 0 ≤ p1 ∧ p1 < z1)) (h1 : (z8 = 0 → p1 < 0 ∨ z1 ≤ p1)) (h2 : 0 ≤ p1 ∧ p1 < z1) (h3 : f_q = p1) (h4 : ¬ z8 = 0) (h5 : (-1) ≤ f_q ∧ f_q ≤ 9) (h6 : 0 ≤ p1 ∧ p1 ≤ 9) (h7 : 1 ≤ z1 ∧ z1 ≤ 10) (h8 : 1 ≤ z8 ∧ z8 ≤ 1) : f_q = p1 := by omega
theorem vc_X12_route_u_60 {z299 z64 : Int} (h0 : z299 < z64) (h1 : 0 ≤ z299 ∧ z299 ≤ 19) (h2 : 1 ≤ z64 ∧ z64 ≤ 20) : 0 ≤ (6 + z299) ∧ 0 ≤ (6 + z299) ∧ (6 + z299) < 40 := by omega
theorem vc_X12_route_u_61 {z299 z64 : Int} (h0 : z299 < z64) (h1 : 0 ≤ z299 ∧ z299 ≤ 19) (h2 : 1 ≤ z64 ∧ z64 ≤ 20) : 0 ≤ (6 + z299) ∧ (6 + z299) ≤ (6 + z299) ∧ (6 + z299) < ((6 + z299) + 1) := by omega
theorem vc_X12_route_u_62 {z299 z64 : Int} (h0 : z299 < z64) (h1 : 0 ≤ z299 ∧ z299 ≤ 19) (h2 : 1 ≤ z64 ∧ z64 ≤ 20) : ((6 + z299) + 1) ≤ 5200 ∨ 21200 ≤ (6 + z299) := by omega
theorem vc_X12_route_u_63 {z299 z64 : Int} (h0 : z299 < z64) (h1 : 0 ≤ z299 ∧ z299 ≤ 19) (h2 : 1 ≤ z64 ∧ z64 ≤ 20) : (1 ≤ (6 + z299) ∧ ((6 + z299) + 1) ≤ 1200) ∨ 5200 ≤ (6 + z299) := by omega
theorem vc_X12_route_u_64  : (0 : Int).toNat ≠ (1 : Int).toNat := by omega
theorem vc_X12_route_u_65  : (0 : Int).toNat ≠ (2 : Int).toNat := by omega
theorem vc_X12_route_u_66  : (0 : Int).toNat ≠ (3 : Int).toNat := by omega
theorem vc_X12_route_u_67  : (0 : Int).toNat ≠ (4 : Int).toNat := by omega
theorem vc_X12_route_u_68  : (0 : Int).toNat ≠ (5 : Int).toNat := by omega
theorem vc_X12_route_u_69 {p1 z1 z8 : Int} (h0 : (z8 = 1 → 0 ≤ p1 ∧ p1 < z1)) (h1 : (z8 = 0 → p1 < 0 ∨ z1 ≤ p1)) (h2 : 0 ≤ p1 ∧ p1 < z1) (h3 : ¬ z8 = 0) (h4 : 0 ≤ p1 ∧ p1 ≤ 9) (h5 : 1 ≤ z1 ∧ z1 ≤ 10) (h6 : 1 ≤ z8 ∧ z8 ≤ 1) : p1 = p1 := by omega
theorem vc_X12_route_u_71  : (0 : Int) ≤ (1 : Int) ∧ (1 : Int) ≤ (1 : Int) ∧ (1 : Int) < ((1 : Int) + (1 : Int)) := by omega
theorem vc_X12_route_u_72  : (0 : Int) ≤ (2 : Int) ∧ (2 : Int) ≤ (2 : Int) ∧ (2 : Int) < ((2 : Int) + (1 : Int)) := by omega
theorem vc_X12_route_u_73  : (0 : Int) ≤ (3 : Int) ∧ (3 : Int) ≤ (3 : Int) ∧ (3 : Int) < ((3 : Int) + (1 : Int)) := by omega
theorem vc_X12_route_u_74  : (0 : Int) ≤ (4 : Int) ∧ (4 : Int) ≤ (4 : Int) ∧ (4 : Int) < ((4 : Int) + (1 : Int)) := by omega
theorem vc_X12_route_u_75  : (0 : Int) ≤ (5 : Int) ∧ (5 : Int) ≤ (5 : Int) ∧ (5 : Int) < ((5 : Int) + (1 : Int)) := by omega
theorem vc_X12_route_u_76  : (((5 : Int) + (1 : Int)) : Int) ≤ (5200 : Int) ∨ (21200 : Int) ≤ ((5 : Int) : Int) := by omega
theorem vc_X12_route_u_77  : (((4 : Int) + (1 : Int)) : Int) ≤ (5200 : Int) ∨ (21200 : Int) ≤ ((4 : Int) : Int) := by omega
theorem vc_X12_route_u_78  : (((3 : Int) + (1 : Int)) : Int) ≤ (5200 : Int) ∨ (21200 : Int) ≤ ((3 : Int) : Int) := by omega
theorem vc_X12_route_u_79  : (((2 : Int) + (1 : Int)) : Int) ≤ (5200 : Int) ∨ (21200 : Int) ≤ ((2 : Int) : Int) := by omega
theorem vc_X12_route_u_80  : (((1 : Int) + (1 : Int)) : Int) ≤ (5200 : Int) ∨ (21200 : Int) ≤ ((1 : Int) : Int) := by omega
theorem vc_X12_route_u_81  : (((0 : Int) + (1 : Int)) : Int) ≤ (5200 : Int) ∨ (21200 : Int) ≤ ((0 : Int) : Int) := by omega
theorem vc_X12_route_u_82  : ((1 : Int) ≤ ((5 : Int) : Int) ∧ (((5 : Int) + (1 : Int)) : Int) ≤ (1200 : Int)) ∨ (5200 : Int) ≤ ((5 : Int) : Int) := by omega
theorem vc_X12_route_u_83  : ((1 : Int) ≤ ((4 : Int) : Int) ∧ (((4 : Int) + (1 : Int)) : Int) ≤ (1200 : Int)) ∨ (5200 : Int) ≤ ((4 : Int) : Int) := by omega
theorem vc_X12_route_u_84  : ((1 : Int) ≤ ((3 : Int) : Int) ∧ (((3 : Int) + (1 : Int)) : Int) ≤ (1200 : Int)) ∨ (5200 : Int) ≤ ((3 : Int) : Int) := by omega
theorem vc_X12_route_u_85  : ((1 : Int) ≤ ((2 : Int) : Int) ∧ (((2 : Int) + (1 : Int)) : Int) ≤ (1200 : Int)) ∨ (5200 : Int) ≤ ((2 : Int) : Int) := by omega
theorem vc_X12_route_u_86  : ((1 : Int) ≤ ((1 : Int) : Int) ∧ (((1 : Int) + (1 : Int)) : Int) ≤ (1200 : Int)) ∨ (5200 : Int) ≤ ((1 : Int) : Int) := by omega
theorem vc_X12_route_u_87 {p4 z42 : Int} (h0 : z42 = 0) (h1 : (z42 = 1 → (0 : Int) ≤ p4 ∧ p4 ≤ (1000000 : Int))) (h2 : (z42 = 0 → p4 < (0 : Int) ∨ (1000000 : Int) < p4)) (h3 : (-2147483648) ≤ p4 ∧ p4 ≤ 2147483647) (h4 : 0 ≤ z42 ∧ z42 ≤ 1) : 0 ≤ z42 ∧ z42 ≤ 0 := by omega
theorem vc_X12_route_u_88 {p4 z42 : Int} (h0 : (z42 = 1 → (0 : Int) ≤ p4 ∧ p4 ≤ (1000000 : Int))) (h1 : (z42 = 0 → p4 < (0 : Int) ∨ (1000000 : Int) < p4)) (h2 : z42 = 0) (h3 : (-2147483648) ≤ p4 ∧ p4 ≤ 2147483647) (h4 : 0 ≤ z42 ∧ z42 ≤ 0) : z42 = 0 := by omega
set_option maxRecDepth 4000 in
set_option maxHeartbeats 4000000 in
theorem c_X12_route_u {l : Launch} {D : va_G} {c : Nat → ClassId} {H0 : Heap} {sa : Nat × Nat × (Nat → Int32)} {w : mW} {μ : mM} (hw : mWF w) (hT : mT w μ) {p1 : Int} (hp1 : (-2147483648) ≤ p1 ∧ p1 ≤ 2147483647) {p2 : Int} (hp2 : (-2147483648) ≤ p2 ∧ p2 ≤ 2147483647) {p3 : Int} (hp3 : (-2147483648) ≤ p3 ∧ p3 ≤ 2147483647) {p4 : Int} (hp4 : (-2147483648) ≤ p4 ∧ p4 ≤ 2147483647) (hIJC : JC l D c H0 sa μ) (hIRP : RP μ) (hIEP : EP μ) (hIHP : HP μ) (hIUP : UP l D c H0 sa μ) (hIG1 : G1 μ) : sC (gG l D c H0 sa) mX12_route 3 0 0 [.ref 106, iv p1, iv p2, iv p3, iv p4] (mk w μ) (qI w [106070, 126999] μ (fun z μ1 => ((-2147483648) ≤ z ∧ z ≤ 2147483647) ∧ mG [(0, 40)] μ μ1 ∧ JC l D c H0 sa μ1 ∧ RP μ1 ∧ EP μ1 ∧ HP μ1 ∧ UP l D c H0 sa μ1 ∧ G1 μ1 ∧ True)) := by
  refine sC.of rfl (by decide) (le_t rfl) ?_
  refine mr_lvE (lv' := [(0, .ref 106), (1, iv p1), (2, iv p2), (3, iv p3), (4, iv p4)]) rfl ?_
  refine sv_aload_n (pc := 0) dX12_route_0 rfl rfl ?_
  refine mr_iload_n (pc := 1) (z := p1) dX12_route_1 rfl rfl ?_
  obtain ⟨z1, q2⟩ : ∃ z, μ 106 2 = z := ⟨_, rfl⟩
  have h3 : (0 ≤ z1 ∧ z1 ≤ 10) := by rw [← q2]; exact hT 106 106 (A_106 hw) 2
  refine mr_cVP (pc := 2) (c_X12_isPrefix hw hT hp1 q2) (gOk _ _ _ _ _) dX12_route_2 (tX12_isPrefix _ _ _ _ _) ⟨wV_X12_isPrefix, wL_X12_isPrefix⟩ wM_X12_92 (gCX12 _ _ _ _ _) rfl (A_106 hw) rfl ⟨le_t rfl, le_t rfl⟩ ⟨le_t rfl, le_t rfl⟩ rfl (le_t rfl) fun z8 h7 => ?_
  refine mr_if_eq (pc := 5) (tgt := 40) dX12_route_5 (by decide) (r32 h7.1 rfl) (fun h9 => ?_) (fun h9 => ?_)
  · have h10 : 0 ≤ z8 ∧ z8 ≤ 0 := (vc_X12_write_78 h9 h7.2.1 h7.2.2.1 hp1 h3 h7.1)
    have h11 : p1 < 0 ∨ z1 ≤ p1 := (h7.2.2.1 (vc_X12_write_79 h7.2.1 h7.2.2.1 h9 hp1 h3 h10))
    refine mr_iconst (pc := 40) (z := (-1)) dX12_route_40 ?_
    exact mr_iret dX12_route_41 rfl (le_t rfl) (le_t rfl) hT mF.refl ⟨(rW (c := (-2147483648)) (d := 2147483647) (rR (x := (-1))) rfl), mG.refl, hIJC, hIRP, hIEP, hIHP, hIUP, hIG1, trivial⟩
  have h12 : 1 ≤ z8 ∧ z8 ≤ 1 := (vc_X12_write_12 h9 h7.2.1 h7.2.2.1 hp1 h3 h7.1)
  have h13 : 0 ≤ p1 ∧ p1 < z1 := (h7.2.1 (vc_X12_write_13 h7.2.1 h7.2.2.1 h9 hp1 h3 h12))
  have h14 : 0 ≤ p1 ∧ p1 ≤ 9 := (vc_X12_write_14 h13 h7.2.1 h7.2.2.1 hp1 h3 h12)
  have h15 : 1 ≤ z1 ∧ z1 ≤ 10 := (vc_X12_write_15 h13 h7.2.1 h7.2.2.1 h14 h3 h12)
  refine mr_iload_n (pc := 8) (z := p2) dX12_route_8 rfl rfl ?_
  refine mr_iconst (pc := 9) (z := 0) dX12_route_9 ?_
  refine mr_sipush (pc := 10) (z := 1000) dX12_route_10 (by decide) ?_
  refine mr_cSP (pc := 13) (c_X12_in hw hT hp2 (rW (c := (-2147483648)) (d := 2147483647) (rR (x := 0)) rfl) (rW (c := (-2147483648)) (d := 2147483647) (rR (x := 1000)) rfl)) (gOk _ _ _ _ _) dX12_route_13 (tX12_in _ _ _ _ _) wS_X12_in wM_X12_18 ⟨le_t rfl, le_t rfl⟩ ⟨le_t rfl, le_t rfl⟩ rfl (le_t rfl) fun z20 h19 => ?_
  refine mr_if_eq (pc := 16) (tgt := 40) dX12_route_16 (by decide) (r32 h19.1 rfl) (fun h21 => ?_) (fun h21 => ?_)
  · have h22 : 0 ≤ z20 ∧ z20 ≤ 0 := (vc_X12_pace_15 h21 h19.2.1 h19.2.2.1 hp2 h19.1)
    have h23 : p2 < (0 : Int) ∨ (1000 : Int) < p2 := (h19.2.2.1 (vc_X12_pace_16 h19.2.1 h19.2.2.1 h21 hp2 h22))
    refine mr_iconst (pc := 40) (z := (-1)) dX12_route_40 ?_
    exact mr_iret dX12_route_41 rfl (le_t rfl) (le_t rfl) hT mF.refl ⟨(rW (c := (-2147483648)) (d := 2147483647) (rR (x := (-1))) rfl), mG.refl, hIJC, hIRP, hIEP, hIHP, hIUP, hIG1, trivial⟩
  have h24 : 1 ≤ z20 ∧ z20 ≤ 1 := (vc_X12_pace_12 h21 h19.2.1 h19.2.2.1 hp2 h19.1)
  have h25 : (0 : Int) ≤ p2 ∧ p2 ≤ (1000 : Int) := (h19.2.1 (vc_X12_pace_13 h19.2.1 h19.2.2.1 h21 hp2 h24))
  have h26 : 0 ≤ p2 ∧ p2 ≤ 1000 := (vc_X12_pace_14 h25 h19.2.1 h19.2.2.1 hp2 h24)
  refine mr_iload_n (pc := 19) (z := p3) dX12_route_19 rfl rfl ?_
  refine mr_iconst (pc := 20) (z := 0) dX12_route_20 ?_
  refine mr_iconst (pc := 21) (z := 2) dX12_route_21 ?_
  refine mr_cSP (pc := 22) (c_X12_in hw hT hp3 (rW (c := (-2147483648)) (d := 2147483647) (rR (x := 0)) rfl) (rW (c := (-2147483648)) (d := 2147483647) (rR (x := 2)) rfl)) (gOk _ _ _ _ _) dX12_route_22 (tX12_in _ _ _ _ _) wS_X12_in wM_X12_18 ⟨le_t rfl, le_t rfl⟩ ⟨le_t rfl, le_t rfl⟩ rfl (le_t rfl) fun z31 h30 => ?_
  refine mr_if_eq (pc := 25) (tgt := 40) dX12_route_25 (by decide) (r32 h30.1 rfl) (fun h32 => ?_) (fun h32 => ?_)
  · have h33 : 0 ≤ z31 ∧ z31 ≤ 0 := (vc_X12_units_9 h32 h30.2.1 h30.2.2.1 hp3 h30.1)
    have h34 : p3 < (0 : Int) ∨ (2 : Int) < p3 := (h30.2.2.1 (vc_X12_units_10 h30.2.1 h30.2.2.1 h32 hp3 h33))
    refine mr_iconst (pc := 40) (z := (-1)) dX12_route_40 ?_
    exact mr_iret dX12_route_41 rfl (le_t rfl) (le_t rfl) hT mF.refl ⟨(rW (c := (-2147483648)) (d := 2147483647) (rR (x := (-1))) rfl), mG.refl, hIJC, hIRP, hIEP, hIHP, hIUP, hIG1, trivial⟩
  have h35 : 1 ≤ z31 ∧ z31 ≤ 1 := (vc_X12_units_1 h32 h30.2.1 h30.2.2.1 hp3 h30.1)
  have h36 : (0 : Int) ≤ p3 ∧ p3 ≤ (2 : Int) := (h30.2.1 (vc_X12_units_2 h30.2.1 h30.2.2.1 h32 hp3 h35))
  have h37 : 0 ≤ p3 ∧ p3 ≤ 2 := (vc_X12_units_3 h36 h30.2.1 h30.2.2.1 hp3 h35)
  refine mr_iload (pc := 28) (z := p4) dX12_route_28 rfl ?_
  refine mr_iconst (pc := 30) (z := 0) dX12_route_30 ?_
  refine mr_ldcw (pc := 31) (z := 1000000) dX12_route_31 wG_X12_291 (by decide) ?_
  refine mr_cSP (pc := 34) (c_X12_in hw hT hp4 (rW (c := (-2147483648)) (d := 2147483647) (rR (x := 0)) rfl) (rW (c := (-2147483648)) (d := 2147483647) (rR (x := 1000000)) rfl)) (gOk _ _ _ _ _) dX12_route_34 (tX12_in _ _ _ _ _) wS_X12_in wM_X12_18 ⟨le_t rfl, le_t rfl⟩ ⟨le_t rfl, le_t rfl⟩ rfl (le_t rfl) fun z42 h41 => ?_
  refine mr_if_ne (pc := 37) (tgt := 42) dX12_route_37 (by decide) (r32 h41.1 rfl) (fun h43 => ?_) (fun h43 => ?_)
  · have h44 : 1 ≤ z42 ∧ z42 ≤ 1 := (vc_X12_route_u_17 h43 h41.2.1 h41.2.2.1 hp4 h41.1)
    have h45 : (0 : Int) ≤ p4 ∧ p4 ≤ (1000000 : Int) := (h41.2.1 (vc_X12_route_u_18 h41.2.1 h41.2.2.1 h43 hp4 h44))
    have h46 : 0 ≤ p4 ∧ p4 ≤ 1000000 := (vc_X12_route_u_19 h45 h41.2.1 h41.2.2.1 hp4 h44)
    refine sv_aload_n (pc := 42) dX12_route_42 rfl rfl ?_
    refine gf_X12_32 (pc := 43) dX12_route_43 wF_X12_148 (A_106 hw) hT ?_
    refine mr_iconst (pc := 46) (z := 0) dX12_route_46 ?_
    refine mr_iload_n (pc := 47) (z := p1) dX12_route_47 rfl rfl ?_
    refine ss_126 (pc := 48) dX12_route_48 (A_126 hw) hT (rIx (n := 84000) (rR (x := 0)) rfl) (vc_X12_route_u_20 h7.2.1 h7.2.2.1 h13 h9 h14 h15 h12) fun μ47 u48 T49 => ?_
    have I50 : RP μ47 := RP.up hIRP u48 (u48.f (Or.inl (mAt.ne (A_126 hw) (A_106 hw) rfl)) q2) vc_X12_through_6 (vc_X12_route_u_22 h7.2.1 h7.2.2.1 h13 h9 h14 h15 h12)
    have I51 : G1 μ47 := G1.take hIG1 hw ((mF.up mF.refl (A_126 hw) u48 rfl) : mF [126999] w μ μ47) rfl ((mG.up mG.refl u48 List.mem_cons_self vc_X12_route_u_23) : mG [(0, (0 + 1))] μ μ47) (List.forall_mem_cons.mpr ⟨vc_X12_route_u_24, (fun _ h => absurd h List.not_mem_nil)⟩) u48.1 (vc_X12_route_u_25 h7.2.1 h7.2.2.1 h13 h9 h14 h15 h12)
    refine sv_aload_n (pc := 49) dX12_route_49 rfl rfl ?_
    refine gf_X12_32 (pc := 50) dX12_route_50 wF_X12_148 (A_106 hw) T49 ?_
    refine mr_iconst (pc := 53) (z := 1) dX12_route_53 ?_
    refine mr_iload_n (pc := 54) (z := p2) dX12_route_54 rfl rfl ?_
    refine ss_126 (pc := 55) dX12_route_55 (A_126 hw) T49 (rIx (n := 84000) (rR (x := 1)) rfl) (vc_X12_route_u_26 h19.2.1 h19.2.2.1 h25 h21 h26 h24) fun μ52 u53 T54 => ?_
    have I55 : RP μ52 := RP.up I50 u53 (u53.f (Or.inl (mAt.ne (A_126 hw) (A_106 hw) rfl)) (u48.f (Or.inl (mAt.ne (A_126 hw) (A_106 hw) rfl)) q2)) vc_X12_number_f_13 (vc_X12_route_u_28 h7.2.1 h7.2.2.1 h13 h19.2.1 h19.2.2.1 h25 h9 h21 h14 h26 h15 h24 h12)
    refine sv_aload_n (pc := 56) dX12_route_56 rfl rfl ?_
    refine gf_X12_32 (pc := 57) dX12_route_57 wF_X12_148 (A_106 hw) T54 ?_
    refine mr_iconst (pc := 60) (z := 2) dX12_route_60 ?_
    refine mr_iload_n (pc := 61) (z := p3) dX12_route_61 rfl rfl ?_
    refine ss_126 (pc := 62) dX12_route_62 (A_126 hw) T54 (rIx (n := 84000) (rR (x := 2)) rfl) (vc_X12_route_u_29 h30.2.1 h30.2.2.1 h36 h32 h37 h35) fun μ56 u57 T58 => ?_
    have I59 : RP μ56 := RP.up I55 u57 (u57.f (Or.inl (mAt.ne (A_126 hw) (A_106 hw) rfl)) (u53.f (Or.inl (mAt.ne (A_126 hw) (A_106 hw) rfl)) (u48.f (Or.inl (mAt.ne (A_126 hw) (A_106 hw) rfl)) q2))) vc_X12_route_u_30 (vc_X12_route_u_31 h7.2.1 h7.2.2.1 h13 h30.2.1 h30.2.2.1 h36 h9 h32 h14 h37 h15 h35 h12)
    refine sv_aload_n (pc := 63) dX12_route_63 rfl rfl ?_
    refine gf_X12_32 (pc := 64) dX12_route_64 wF_X12_148 (A_106 hw) T58 ?_
    refine mr_iconst (pc := 67) (z := 3) dX12_route_67 ?_
    refine mr_iload (pc := 68) (z := p4) dX12_route_68 rfl ?_
    refine ss_126 (pc := 70) dX12_route_70 (A_126 hw) T58 (rIx (n := 84000) (rR (x := 3)) rfl) (vc_X12_route_u_32 h41.2.1 h41.2.2.1 h45 h43 h46 h44) fun μ60 u61 T62 => ?_
    have I63 : RP μ60 := RP.up I59 u61 (u61.f (Or.inl (mAt.ne (A_126 hw) (A_106 hw) rfl)) (u57.f (Or.inl (mAt.ne (A_126 hw) (A_106 hw) rfl)) (u53.f (Or.inl (mAt.ne (A_126 hw) (A_106 hw) rfl)) (u48.f (Or.inl (mAt.ne (A_126 hw) (A_106 hw) rfl)) q2)))) vc_X12_route_u_33 (vc_X12_route_u_34 h7.2.1 h7.2.2.1 h13 h41.2.1 h41.2.2.1 h45 h9 h43 h14 h46 h15 h44 h12)
    refine sv_aload_n (pc := 71) dX12_route_71 rfl rfl ?_
    refine gf_X12_32 (pc := 72) dX12_route_72 wF_X12_148 (A_106 hw) T62 ?_
    refine mr_iconst (pc := 75) (z := 4) dX12_route_75 ?_
    refine sv_aload_n (pc := 76) dX12_route_76 rfl rfl ?_
    refine gf_X12_15 (pc := 77) dX12_route_77 wF_X12_79 (A_106 hw) T62 fun z64 q65 h66 => ?_
    refine ss_126 (pc := 80) dX12_route_80 (A_126 hw) T62 (rIx (n := 84000) (rR (x := 4)) rfl) (vc_X12_route_u_35 h66) fun μ67 u68 T69 => ?_
    have I70 : RP μ67 := RP.up I63 u68 (u68.f (Or.inl (mAt.ne (A_126 hw) (A_106 hw) rfl)) (u61.f (Or.inl (mAt.ne (A_126 hw) (A_106 hw) rfl)) (u57.f (Or.inl (mAt.ne (A_126 hw) (A_106 hw) rfl)) (u53.f (Or.inl (mAt.ne (A_126 hw) (A_106 hw) rfl)) (u48.f (Or.inl (mAt.ne (A_126 hw) (A_106 hw) rfl)) q2))))) vc_X12_route_u_36 (vc_X12_route_u_37 h7.2.1 h7.2.2.1 h13 h9 h14 h15 h66 h12)
    refine sv_aload_n (pc := 81) dX12_route_81 rfl rfl ?_
    refine gf_X12_32 (pc := 82) dX12_route_82 wF_X12_148 (A_106 hw) T69 ?_
    refine mr_iconst (pc := 85) (z := 5) dX12_route_85 ?_
    refine mr_iconst (pc := 86) (z := 0) dX12_route_86 ?_
    refine ss_126 (pc := 87) dX12_route_87 (A_126 hw) T69 (rIx (n := 84000) (rR (x := 5)) rfl) vc_X12_route_u_38 fun μ71 u72 T73 => ?_
    have I74 : RP μ71 := RP.up I70 u72 (u72.f (Or.inl (mAt.ne (A_126 hw) (A_106 hw) rfl)) (u68.f (Or.inl (mAt.ne (A_126 hw) (A_106 hw) rfl)) (u61.f (Or.inl (mAt.ne (A_126 hw) (A_106 hw) rfl)) (u57.f (Or.inl (mAt.ne (A_126 hw) (A_106 hw) rfl)) (u53.f (Or.inl (mAt.ne (A_126 hw) (A_106 hw) rfl)) (u48.f (Or.inl (mAt.ne (A_126 hw) (A_106 hw) rfl)) q2)))))) vc_X12_route_u_39 (vc_X12_route_u_40 h7.2.1 h7.2.2.1 h13 h9 h14 h15 h12)
    refine mr_iconst (pc := 88) (z := 0) dX12_route_88 ?_
    refine mr_istore (pc := 89) (lv' := [(5, iv 0), (0, .ref 106), (1, iv p1), (2, iv p2), (3, iv p3), (4, iv p4)]) dX12_route_89 (by decide) rfl ?_
    have L301 : ∀ (nL301 : Nat) (z299 : Int) (μ300 : mM) (f_q : Int), mT w μ300 → mF [126999] w μ71 μ300 → mG [(0, 40)] μ71 μ300 → μ300 126 ((0 : Int).toNat) = f_q → (0 ≤ z299 ∧ z299 ≤ 20) → (f_q = p1) → JC l D c H0 sa μ300 → RP μ300 → EP μ300 → HP μ300 → UP l D c H0 sa μ300 → G1 μ300 → (21 - z299) < (nL301 : Int) → sV (gG l D c H0 sa) mX12_route (sRm 3 0 0) (sZ (gG l D c H0 sa) 0 0 (qI w [106070, 126999] μ (fun z μ1 => ((-2147483648) ≤ z ∧ z ≤ 2147483647) ∧ mG [(0, 40)] μ μ1 ∧ JC l D c H0 sa μ1 ∧ RP μ1 ∧ EP μ1 ∧ HP μ1 ∧ UP l D c H0 sa μ1 ∧ G1 μ1 ∧ True))) 91 [(0, .ref 106), (5, iv z299)] [] (mk w μ300) 0 0 := by
      intro nL301
      induction nL301 with
      | zero => intro z299 μ300 f_q T303 F304 G305 q314 h302 h306 I307 I308 I309 I310 I311 I312 h313; exact ((vc_X12_tieOf_1 h313 h302)).elim
      | succ nL301 ih315 =>
        intro z299 μ300 f_q T303 F304 G305 q314 h302 h306 I307 I308 I309 I310 I311 I312 h313
        have h316 := rt7 T303 (A_126 hw) vc_X7_become_1 q314
        have h317 : (-1) ≤ f_q ∧ f_q ≤ 9 := h316.2.1 vc_X12_judge_u_20
        refine mr_iload (pc := 91) (z := z299) dX12_route_91 rfl ?_
        refine sv_aload_n (pc := 93) dX12_route_93 rfl rfl ?_
        refine gk_X12_15 (pc := 94) dX12_route_94 wF_X12_79 (A_106 hw) (F304.f (A_106 hw) rfl (u72.f (Or.inl (mAt.ne (A_126 hw) (A_106 hw) rfl)) (u68.f (Or.inl (mAt.ne (A_126 hw) (A_106 hw) rfl)) q65))) ?_
        refine mr_icmp_ge (pc := 97) (tgt := 123) dX12_route_97 (by decide) (r32 h302 rfl) (r32 h66 rfl) (fun h326 => ?_) (fun h326 => ?_)
        · refine sv_aload_n (pc := 123) dX12_route_123 rfl rfl ?_
          refine mr_iconst (pc := 124) (z := 1) dX12_route_124 ?_
          refine pf_X12_70 (pc := 125) dX12_route_125 wF_X12_411 (A_106 hw) T303 (rW (c := 0) (d := 1) (rR (x := 1)) rfl) fun μ327 u328 T329 => ?_
          have I330 : G1 μ327 := G1.take I312 hw ((mF.up mF.refl (A_106 hw) u328 rfl) : mF [106070] w μ300 μ327) rfl ((mG.upO mG.refl u328 rfl) : mG [] μ300 μ327) (fun _ h => absurd h List.not_mem_nil) (u328.f (Or.inl (mAt.ne (A_106 hw) (A_126 hw) rfl)) q314) (vc_X12_route_u_44 h306 h7.2.1 h7.2.2.1 h13 h317 h14 h15 h12)
          refine mr_iconst (pc := 128) (z := 0) dX12_route_128 ?_
          exact mr_iret dX12_route_129 rfl (le_t rfl) (le_t rfl) T329 (mF.up (mF.call (mF.up (mF.up (mF.up (mF.up (mF.up (mF.up mF.refl (A_126 hw) u48 rfl) (A_126 hw) u53 rfl) (A_126 hw) u57 rfl) (A_126 hw) u61 rfl) (A_126 hw) u68 rfl) (A_126 hw) u72 rfl) F304 rfl) (A_106 hw) u328 rfl) ⟨(rW (c := (-2147483648)) (d := 2147483647) (rR (x := 0)) rfl), (mG.upO (mG.call (mG.up (mG.up (mG.up (mG.up (mG.up (mG.up mG.refl u48 List.mem_cons_self vc_X12_route_u_45) u53 List.mem_cons_self vc_X12_route_u_46) u57 List.mem_cons_self vc_X12_route_u_47) u61 List.mem_cons_self vc_X12_route_u_48) u68 List.mem_cons_self vc_X12_route_u_49) u72 List.mem_cons_self vc_X12_route_u_50) G305 (List.forall_mem_cons.mpr ⟨⟨_, List.mem_cons_self, vc_X12_route_u_51⟩, (fun _ h => absurd h List.not_mem_nil)⟩)) u328 rfl), (JC.keepJ I307 hw ((mF.up mF.refl (A_106 hw) u328 rfl) : mF [106070] w μ300 μ327) rfl), (RP.keep I308 hw ((mF.up mF.refl (A_106 hw) u328 rfl) : mF [106070] w μ300 μ327) rfl ((mG.upO mG.refl u328 rfl) : mG [] μ300 μ327) (fun _ h => absurd h List.not_mem_nil)), (EP.keep I309 hw ((mF.up mF.refl (A_106 hw) u328 rfl) : mF [106070] w μ300 μ327) rfl), (HP.keep I310 hw ((mF.up mF.refl (A_106 hw) u328 rfl) : mF [106070] w μ300 μ327) rfl ((mG.upO mG.refl u328 rfl) : mG [] μ300 μ327) (fun _ h => absurd h List.not_mem_nil)), (UPg.fr I311 hw T329 rfl ((mF.up mF.refl (A_106 hw) u328 rfl) : mF [106070] w μ300 μ327) rfl rfl rfl ((mG.upO mG.refl u328 rfl) : mG [] μ300 μ327) (fun _ h => absurd h List.not_mem_nil)), I330, trivial⟩
        have h331 : 0 ≤ z299 ∧ z299 ≤ 19 := (vc_X12_tieOf_3 h326 h302 h66)
        have h332 : 1 ≤ z64 ∧ z64 ≤ 20 := (vc_X12_tieOf_4 h326 h331 h66)
        refine sv_aload_n (pc := 100) dX12_route_100 rfl rfl ?_
        refine gf_X12_32 (pc := 101) dX12_route_101 wF_X12_148 (A_106 hw) T303 ?_
        refine mr_bipush (pc := 104) (z := 6) dX12_route_104 (by decide) ?_
        refine mr_iload (pc := 106) (z := z299) dX12_route_106 rfl ?_
        refine mr_iadd (pc := 108) (x := 6) (y := z299) dX12_route_108 ?_
        refine sv_aload_n (pc := 109) dX12_route_109 rfl rfl ?_
        refine gf_X12_16 (pc := 110) dX12_route_110 wF_X12_82 (A_106 hw) T303 ?_
        refine mr_iload (pc := 113) (z := z299) dX12_route_113 rfl ?_
        refine la_118 (pc := 115) dX12_route_115 (A_118 hw) T303 (rIx (n := 20) h331 rfl) fun z333 q334 h335 => ?_
        refine ss_126 (pc := 116) dX12_route_116 (A_126 hw) T303 (rIx (n := 84000) (rAdd (e := 6) (f := 25) (rR (x := 6)) h331 rfl) rfl) (vc_X12_route_u_54 h326 h331 h335 h332) fun μ336 u337 T338 => ?_
        have I339 : RP μ336 := RP.up I308 u337 (u337.f (Or.inl (mAt.ne (A_126 hw) (A_106 hw) rfl)) (F304.f (A_106 hw) rfl (u72.f (Or.inl (mAt.ne (A_126 hw) (A_106 hw) rfl)) (u68.f (Or.inl (mAt.ne (A_126 hw) (A_106 hw) rfl)) (u61.f (Or.inl (mAt.ne (A_126 hw) (A_106 hw) rfl)) (u57.f (Or.inl (mAt.ne (A_126 hw) (A_106 hw) rfl)) (u53.f (Or.inl (mAt.ne (A_126 hw) (A_106 hw) rfl)) (u48.f (Or.inl (mAt.ne (A_126 hw) (A_106 hw) rfl)) q2)))))))) (vc_X12_route_u_55 h326 h331 h332) (vc_X12_route_u_56 h7.2.1 h7.2.2.1 h13 h326 h9 h306 h317 h14 h15 h331 h335 h332 h12)
        refine mr_iinc (pc := 117) (lv' := [(5, iv (z299 + 1)), (0, .ref 106)]) dX12_route_117 rfl (by decide) rfl ?_
        refine sv_goto (pc := 120) (tgt := 91) dX12_route_120 (by decide) ?_
        refine mr_lvS (lv' := [(0, .ref 106), (5, iv (z299 + 1))]) (List.forall_mem_cons.mpr ⟨rfl, List.forall_mem_cons.mpr ⟨rfl, fun _ h => absurd h List.not_mem_nil⟩⟩) ?_
        exact ih315 (z299 + 1) μ336 f_q T338 (mF.up (mF.call mF.refl F304 rfl) (A_126 hw) u337 rfl) (mG.up (mG.call mG.refl G305 (List.forall_mem_cons.mpr ⟨⟨_, List.mem_cons_self, vc_X12_route_u_51⟩, (fun _ h => absurd h List.not_mem_nil)⟩)) u337 List.mem_cons_self (vc_X12_route_u_60 h326 h331 h332)) (u337.f (Or.inr (vc_X12_route_u_57 h326 h331 h332)) q314) (rW (c := 0) (d := 20) (rAdd (e := 1) (f := 20) h331 (rR (x := 1)) rfl) rfl) (vc_X12_route_u_58 h7.2.1 h7.2.2.1 h13 h306 h9 h317 h14 h15 h12) (JC.keepJ I307 hw ((mF.up mF.refl (A_126 hw) u337 rfl) : mF [126999] w μ300 μ336) rfl) I339 (EP.keep I309 hw ((mF.up mF.refl (A_126 hw) u337 rfl) : mF [126999] w μ300 μ336) rfl) (HP.keep I310 hw ((mF.up mF.refl (A_126 hw) u337 rfl) : mF [126999] w μ300 μ336) rfl ((mG.up mG.refl u337 List.mem_cons_self (vc_X12_route_u_61 h326 h331 h332)) : mG [((6 + z299), ((6 + z299) + 1))] μ300 μ336) (List.forall_mem_cons.mpr ⟨(vc_X12_route_u_62 h326 h331 h332), (fun _ h => absurd h List.not_mem_nil)⟩)) (UPg.fr I311 hw T338 rfl ((mF.up mF.refl (A_126 hw) u337 rfl) : mF [126999] w μ300 μ336) rfl rfl rfl ((mG.up mG.refl u337 List.mem_cons_self (vc_X12_route_u_61 h326 h331 h332)) : mG [((6 + z299), ((6 + z299) + 1))] μ300 μ336) (List.forall_mem_cons.mpr ⟨(vc_X12_route_u_62 h326 h331 h332), (fun _ h => absurd h List.not_mem_nil)⟩)) (G1.keep I312 hw ((mF.up mF.refl (A_126 hw) u337 rfl) : mF [126999] w μ300 μ336) rfl rfl ((mG.up mG.refl u337 List.mem_cons_self (vc_X12_route_u_61 h326 h331 h332)) : mG [((6 + z299), ((6 + z299) + 1))] μ300 μ336) (List.forall_mem_cons.mpr ⟨(vc_X12_route_u_63 h326 h331 h332), (fun _ h => absurd h List.not_mem_nil)⟩)) (vc_X12_tieOf_5 (nS h313) h326 h331 h332)
    refine mr_lvS (lv' := [(0, .ref 106), (5, iv 0)]) (List.forall_mem_cons.mpr ⟨rfl, List.forall_mem_cons.mpr ⟨rfl, fun _ h => absurd h List.not_mem_nil⟩⟩) ?_
    exact L301 22 0 μ71 p1 T73 mF.refl mG.refl (u72.f (Or.inr vc_X12_route_u_68) (u68.f (Or.inr vc_X12_route_u_67) (u61.f (Or.inr vc_X12_route_u_66) (u57.f (Or.inr vc_X12_route_u_65) (u53.f (Or.inr vc_X12_route_u_64) u48.1))))) (rW (c := 0) (d := 20) (rR (x := 0)) rfl) (vc_X12_route_u_69 h7.2.1 h7.2.2.1 h13 h9 h14 h15 h12) (JC.keepJ hIJC hw ((mF.up (mF.up (mF.up (mF.up (mF.up (mF.up mF.refl (A_126 hw) u48 rfl) (A_126 hw) u53 rfl) (A_126 hw) u57 rfl) (A_126 hw) u61 rfl) (A_126 hw) u68 rfl) (A_126 hw) u72 rfl) : mF [126999] w μ μ71) rfl) I74 (EP.keep hIEP hw ((mF.up (mF.up (mF.up (mF.up (mF.up (mF.up mF.refl (A_126 hw) u48 rfl) (A_126 hw) u53 rfl) (A_126 hw) u57 rfl) (A_126 hw) u61 rfl) (A_126 hw) u68 rfl) (A_126 hw) u72 rfl) : mF [126999] w μ μ71) rfl) (HP.keep hIHP hw ((mF.up (mF.up (mF.up (mF.up (mF.up (mF.up mF.refl (A_126 hw) u48 rfl) (A_126 hw) u53 rfl) (A_126 hw) u57 rfl) (A_126 hw) u61 rfl) (A_126 hw) u68 rfl) (A_126 hw) u72 rfl) : mF [126999] w μ μ71) rfl ((mG.up (mG.up (mG.up (mG.up (mG.up (mG.up mG.refl u48 List.mem_cons_self vc_X12_route_u_23) u53 (List.mem_cons_of_mem _ List.mem_cons_self) vc_X12_route_u_71) u57 (List.mem_cons_of_mem _ (List.mem_cons_of_mem _ List.mem_cons_self)) vc_X12_route_u_72) u61 (List.mem_cons_of_mem _ (List.mem_cons_of_mem _ (List.mem_cons_of_mem _ List.mem_cons_self))) vc_X12_route_u_73) u68 (List.mem_cons_of_mem _ (List.mem_cons_of_mem _ (List.mem_cons_of_mem _ (List.mem_cons_of_mem _ List.mem_cons_self)))) vc_X12_route_u_74) u72 (List.mem_cons_of_mem _ (List.mem_cons_of_mem _ (List.mem_cons_of_mem _ (List.mem_cons_of_mem _ (List.mem_cons_of_mem _ List.mem_cons_self))))) vc_X12_route_u_75) : mG [(0, (0 + 1)), (1, (1 + 1)), (2, (2 + 1)), (3, (3 + 1)), (4, (4 + 1)), (5, (5 + 1))] μ μ71) (List.forall_mem_cons.mpr ⟨vc_X12_route_u_81, (List.forall_mem_cons.mpr ⟨vc_X12_route_u_80, (List.forall_mem_cons.mpr ⟨vc_X12_route_u_79, (List.forall_mem_cons.mpr ⟨vc_X12_route_u_78, (List.forall_mem_cons.mpr ⟨vc_X12_route_u_77, (List.forall_mem_cons.mpr ⟨vc_X12_route_u_76, (fun _ h => absurd h List.not_mem_nil)⟩)⟩)⟩)⟩)⟩)⟩)) (UPg.fr hIUP hw T73 rfl ((mF.up (mF.up (mF.up (mF.up (mF.up (mF.up mF.refl (A_126 hw) u48 rfl) (A_126 hw) u53 rfl) (A_126 hw) u57 rfl) (A_126 hw) u61 rfl) (A_126 hw) u68 rfl) (A_126 hw) u72 rfl) : mF [126999] w μ μ71) rfl rfl rfl ((mG.up (mG.up (mG.up (mG.up (mG.up (mG.up mG.refl u48 List.mem_cons_self vc_X12_route_u_23) u53 (List.mem_cons_of_mem _ List.mem_cons_self) vc_X12_route_u_71) u57 (List.mem_cons_of_mem _ (List.mem_cons_of_mem _ List.mem_cons_self)) vc_X12_route_u_72) u61 (List.mem_cons_of_mem _ (List.mem_cons_of_mem _ (List.mem_cons_of_mem _ List.mem_cons_self))) vc_X12_route_u_73) u68 (List.mem_cons_of_mem _ (List.mem_cons_of_mem _ (List.mem_cons_of_mem _ (List.mem_cons_of_mem _ List.mem_cons_self)))) vc_X12_route_u_74) u72 (List.mem_cons_of_mem _ (List.mem_cons_of_mem _ (List.mem_cons_of_mem _ (List.mem_cons_of_mem _ (List.mem_cons_of_mem _ List.mem_cons_self))))) vc_X12_route_u_75) : mG [(0, (0 + 1)), (1, (1 + 1)), (2, (2 + 1)), (3, (3 + 1)), (4, (4 + 1)), (5, (5 + 1))] μ μ71) (List.forall_mem_cons.mpr ⟨vc_X12_route_u_81, (List.forall_mem_cons.mpr ⟨vc_X12_route_u_80, (List.forall_mem_cons.mpr ⟨vc_X12_route_u_79, (List.forall_mem_cons.mpr ⟨vc_X12_route_u_78, (List.forall_mem_cons.mpr ⟨vc_X12_route_u_77, (List.forall_mem_cons.mpr ⟨vc_X12_route_u_76, (fun _ h => absurd h List.not_mem_nil)⟩)⟩)⟩)⟩)⟩)⟩)) (G1.keep I51 hw ((mF.up (mF.up (mF.up (mF.up (mF.up mF.refl (A_126 hw) u53 rfl) (A_126 hw) u57 rfl) (A_126 hw) u61 rfl) (A_126 hw) u68 rfl) (A_126 hw) u72 rfl) : mF [126999] w μ47 μ71) rfl rfl ((mG.up (mG.up (mG.up (mG.up (mG.up mG.refl u53 List.mem_cons_self vc_X12_route_u_71) u57 (List.mem_cons_of_mem _ List.mem_cons_self) vc_X12_route_u_72) u61 (List.mem_cons_of_mem _ (List.mem_cons_of_mem _ List.mem_cons_self)) vc_X12_route_u_73) u68 (List.mem_cons_of_mem _ (List.mem_cons_of_mem _ (List.mem_cons_of_mem _ List.mem_cons_self))) vc_X12_route_u_74) u72 (List.mem_cons_of_mem _ (List.mem_cons_of_mem _ (List.mem_cons_of_mem _ (List.mem_cons_of_mem _ List.mem_cons_self)))) vc_X12_route_u_75) : mG [(1, (1 + 1)), (2, (2 + 1)), (3, (3 + 1)), (4, (4 + 1)), (5, (5 + 1))] μ47 μ71) (List.forall_mem_cons.mpr ⟨vc_X12_route_u_86, (List.forall_mem_cons.mpr ⟨vc_X12_route_u_85, (List.forall_mem_cons.mpr ⟨vc_X12_route_u_84, (List.forall_mem_cons.mpr ⟨vc_X12_route_u_83, (List.forall_mem_cons.mpr ⟨vc_X12_route_u_82, (fun _ h => absurd h List.not_mem_nil)⟩)⟩)⟩)⟩)⟩)) vc_X12_tieOf_12
  have h340 : 0 ≤ z42 ∧ z42 ≤ 0 := (vc_X12_route_u_87 h43 h41.2.1 h41.2.2.1 hp4 h41.1)
  have h341 : p4 < (0 : Int) ∨ (1000000 : Int) < p4 := (h41.2.2.1 (vc_X12_route_u_88 h41.2.1 h41.2.2.1 h43 hp4 h340))
  refine mr_iconst (pc := 40) (z := (-1)) dX12_route_40 ?_
  exact mr_iret dX12_route_41 rfl (le_t rfl) (le_t rfl) hT mF.refl ⟨(rW (c := (-2147483648)) (d := 2147483647) (rR (x := (-1))) rfl), mG.refl, hIJC, hIRP, hIEP, hIHP, hIUP, hIG1, trivial⟩
end
section
set_option maxRecDepth 4000 in
set_option maxHeartbeats 4000000 in
theorem c_X12_verdict_u {l : Launch} {D : va_G} {c : Nat → ClassId} {H0 : Heap} {sa : Nat × Nat × (Nat → Int32)} {w : mW} {μ : mM} (hw : mWF w) (hT : mT w μ) {p1 : Int} (hp1 : (-2147483648) ≤ p1 ∧ p1 ≤ 2147483647) {p2 : Int} (hp2 : (-2147483648) ≤ p2 ∧ p2 ≤ 2147483647) {p3 : Int} (hp3 : (-2147483648) ≤ p3 ∧ p3 ≤ 2147483647) {p4 : Int} (hp4 : (-2147483648) ≤ p4 ∧ p4 ≤ 2147483647) (hIJC : JC l D c H0 sa μ) (hIRP : RP μ) (hIEP : EP μ) (hIHP : HP μ) (hIUP : UP l D c H0 sa μ) : sC (gG l D c H0 sa) mX12_verdict 5 0 0 [.ref 106, iv p1, iv p2, iv p3, iv p4] (mk w μ) (qI w [106026, 106027, 106028, 106029, 106030, 106031] μ (fun z μ1 => ((-2147483648) ≤ z ∧ z ≤ 2147483647) ∧ JC l D c H0 sa μ1 ∧ RP μ1 ∧ EP μ1 ∧ HP μ1 ∧ UP l D c H0 sa μ1 ∧ True)) := by
  refine sC.of rfl (by decide) (le_t rfl) ?_
  refine mr_lvE (lv' := [(0, .ref 106), (1, iv p1), (2, iv p2), (3, iv p3), (4, iv p4)]) rfl ?_
  refine sv_aload_n (pc := 0) dX12_verdict_0 rfl rfl ?_
  refine mr_iload_n (pc := 1) (z := p1) dX12_verdict_1 rfl rfl ?_
  obtain ⟨z1, q2⟩ : ∃ z, μ 106 2 = z := ⟨_, rfl⟩
  have h3 : (0 ≤ z1 ∧ z1 ≤ 10) := by rw [← q2]; exact hT 106 106 (A_106 hw) 2
  refine mr_cVP (pc := 2) (c_X12_isPrefix hw hT hp1 q2) (gOk _ _ _ _ _) dX12_verdict_2 (tX12_isPrefix _ _ _ _ _) ⟨wV_X12_isPrefix, wL_X12_isPrefix⟩ wM_X12_92 (gCX12 _ _ _ _ _) rfl (A_106 hw) rfl ⟨le_t rfl, le_t rfl⟩ ⟨le_t rfl, le_t rfl⟩ rfl (le_t rfl) fun z8 h7 => ?_
  refine mr_if_eq (pc := 5) (tgt := 17) dX12_verdict_5 (by decide) (r32 h7.1 rfl) (fun h9 => ?_) (fun h9 => ?_)
  · have h10 : 0 ≤ z8 ∧ z8 ≤ 0 := (vc_X12_write_78 h9 h7.2.1 h7.2.2.1 hp1 h3 h7.1)
    have h11 : p1 < 0 ∨ z1 ≤ p1 := (h7.2.2.1 (vc_X12_write_79 h7.2.1 h7.2.2.1 h9 hp1 h3 h10))
    refine mr_iconst (pc := 17) (z := (-1)) dX12_verdict_17 ?_
    exact mr_iret dX12_verdict_18 rfl (le_t rfl) (le_t rfl) hT mF.refl ⟨(rW (c := (-2147483648)) (d := 2147483647) (rR (x := (-1))) rfl), hIJC, hIRP, hIEP, hIHP, hIUP, trivial⟩
  have h12 : 1 ≤ z8 ∧ z8 ≤ 1 := (vc_X12_write_12 h9 h7.2.1 h7.2.2.1 hp1 h3 h7.1)
  have h13 : 0 ≤ p1 ∧ p1 < z1 := (h7.2.1 (vc_X12_write_13 h7.2.1 h7.2.2.1 h9 hp1 h3 h12))
  have h14 : 0 ≤ p1 ∧ p1 ≤ 9 := (vc_X12_write_14 h13 h7.2.1 h7.2.2.1 hp1 h3 h12)
  have h15 : 1 ≤ z1 ∧ z1 ≤ 10 := (vc_X12_write_15 h13 h7.2.1 h7.2.2.1 h14 h3 h12)
  refine mr_iload_n (pc := 8) (z := p3) dX12_verdict_8 rfl rfl ?_
  refine mr_if_lt (pc := 9) (tgt := 17) dX12_verdict_9 (by decide) hp3 (fun h16 => ?_) (fun h16 => ?_)
  · have h17 : (-2147483648) ≤ p3 ∧ p3 ≤ (-1) := (vc_X12_ring_60 h16 hp3)
    refine mr_iconst (pc := 17) (z := (-1)) dX12_verdict_17 ?_
    exact mr_iret dX12_verdict_18 rfl (le_t rfl) (le_t rfl) hT mF.refl ⟨(rW (c := (-2147483648)) (d := 2147483647) (rR (x := (-1))) rfl), hIJC, hIRP, hIEP, hIHP, hIUP, trivial⟩
  have h18 : 0 ≤ p3 ∧ p3 ≤ 2147483647 := (vc_X12_ring_1 h16 hp3)
  refine mr_iload (pc := 12) (z := p4) dX12_verdict_12 rfl ?_
  refine mr_if_ge (pc := 14) (tgt := 19) dX12_verdict_14 (by decide) hp4 (fun h19 => ?_) (fun h19 => ?_)
  · have h20 : 0 ≤ p4 ∧ p4 ≤ 2147483647 := (vc_X12_ring_1 h19 hp4)
    refine sv_aload_n (pc := 19) dX12_verdict_19 rfl rfl ?_
    refine mr_iload_n (pc := 20) (z := p1) dX12_verdict_20 rfl rfl ?_
    refine mr_iload_n (pc := 21) (z := p2) dX12_verdict_21 rfl rfl ?_
    refine mr_iload_n (pc := 22) (z := p3) dX12_verdict_22 rfl rfl ?_
    refine mr_iload (pc := 23) (z := p4) dX12_verdict_23 rfl ?_
    refine mr_cVI (pc := 25) (c_X12_judged_u hw hT h14 hp2 (rW (c := (-2147483648)) (d := 2147483647) h18 rfl) (rW (c := (-2147483648)) (d := 2147483647) h20 rfl) q2 (vc_X12_right_u_24 h7.2.1 h7.2.2.1 h13 h9 h14 h15 h12) hIJC) (gOk _ _ _ _ _) dX12_verdict_25 (tX12_judged _ _ _ _ _) ⟨wV_X12_judged, wL_X12_judged⟩ wM_X12_145 (gCX12 _ _ _ _ _) rfl (A_106 hw) rfl ⟨le_t rfl, le_t rfl⟩ ⟨le_t rfl, le_t rfl⟩ rfl (le_t rfl) fun z25 μ21 T22 F23 h24 => ?_
    exact mr_iret dX12_verdict_28 rfl (le_t rfl) (le_t rfl) T22 (mF.call mF.refl F23 rfl) ⟨(rW (c := (-2147483648)) (d := 2147483647) h24.1 rfl), h24.2.1, (RP.keep hIRP hw ((mF.call mF.refl F23 rfl) : mF [106026, 106027, 106028, 106029, 106030, 106031] w μ μ21) rfl ((mG.fr mG.refl F23 (A_126 hw) rfl) : mG [] μ μ21) (fun _ h => absurd h List.not_mem_nil)), (EP.keep hIEP hw ((mF.call mF.refl F23 rfl) : mF [106026, 106027, 106028, 106029, 106030, 106031] w μ μ21) rfl), (HP.keep hIHP hw ((mF.call mF.refl F23 rfl) : mF [106026, 106027, 106028, 106029, 106030, 106031] w μ μ21) rfl ((mG.fr mG.refl F23 (A_126 hw) rfl) : mG [] μ μ21) (fun _ h => absurd h List.not_mem_nil)), (UPg.fr hIUP hw T22 rfl ((mF.call mF.refl F23 rfl) : mF [106026, 106027, 106028, 106029, 106030, 106031] w μ μ21) rfl rfl rfl ((mG.fr mG.refl F23 (A_126 hw) rfl) : mG [] μ μ21) (fun _ h => absurd h List.not_mem_nil)), trivial⟩
  have h26 : (-2147483648) ≤ p4 ∧ p4 ≤ (-1) := (vc_X12_ring_60 h19 hp4)
  refine mr_iconst (pc := 17) (z := (-1)) dX12_verdict_17 ?_
  exact mr_iret dX12_verdict_18 rfl (le_t rfl) (le_t rfl) hT mF.refl ⟨(rW (c := (-2147483648)) (d := 2147483647) (rR (x := (-1))) rfl), hIJC, hIRP, hIEP, hIHP, hIUP, trivial⟩
theorem vc_X12_attributes_u_1 {f_c z1201 : Int} (h0 : (1003 - z1201) < ((0 : Nat) : Int)) (h1 : 3 * f_c ≤ z1201) (h2 : 0 ≤ z1201 ∧ z1201 ≤ 1002) : False := by omega
theorem vc_X12_attributes_u_3 {f_c f_size p2 z1201 : Int} (h0 : z1201 < p2) (h1 : p2 ≤ f_size) (h2 : 3 * f_c ≤ z1201) (h3 : 0 ≤ f_c ∧ f_c ≤ 400) (h4 : 0 ≤ f_size ∧ f_size ≤ 1000) (h5 : 0 ≤ p2 ∧ p2 ≤ 1000) (h6 : 0 ≤ z1201 ∧ z1201 ≤ 1002) : 0 ≤ z1201 ∧ z1201 ≤ 999 := by omega
theorem vc_X12_attributes_u_4 {f_c f_size p2 z1201 : Int} (h0 : z1201 < p2) (h1 : p2 ≤ f_size) (h2 : 3 * f_c ≤ z1201) (h3 : 0 ≤ f_c ∧ f_c ≤ 400) (h4 : 0 ≤ f_size ∧ f_size ≤ 1000) (h5 : 0 ≤ p2 ∧ p2 ≤ 1000) (h6 : 0 ≤ z1201 ∧ z1201 ≤ 999) : 1 ≤ p2 ∧ p2 ≤ 1000 := by omega
theorem vc_X12_attributes_u_5 {f_c f_size p2 z1201 : Int} (h0 : p2 ≤ f_size) (h1 : 3 * f_c ≤ z1201) (h2 : z1201 < p2) (h3 : 0 ≤ f_c ∧ f_c ≤ 400) (h4 : 0 ≤ f_size ∧ f_size ≤ 1000) (h5 : 1 ≤ p2 ∧ p2 ≤ 1000) (h6 : 0 ≤ z1201 ∧ z1201 ≤ 999) : z1201 < f_size := by omega
theorem vc_X12_attributes_u_6 {f_c f_size p2 z1201 z1231 : Int} (h0 : (z1201 + z1231) ≤ p2) (h1 : p2 ≤ f_size) (h2 : 3 * f_c ≤ z1201) (h3 : z1201 < p2) (h4 : 0 ≤ f_c ∧ f_c ≤ 400) (h5 : 0 ≤ f_size ∧ f_size ≤ 1000) (h6 : 1 ≤ p2 ∧ p2 ≤ 1000) (h7 : 0 ≤ z1201 ∧ z1201 ≤ 999) (h8 : 3 ≤ z1231 ∧ z1231 ≤ 4) : 0 ≤ z1201 ∧ z1201 ≤ 997 := by omega
theorem vc_X12_attributes_u_7 {f_c f_size p2 z1201 z1231 : Int} (h0 : (z1201 + z1231) ≤ p2) (h1 : p2 ≤ f_size) (h2 : 3 * f_c ≤ z1201) (h3 : z1201 < p2) (h4 : 0 ≤ f_c ∧ f_c ≤ 400) (h5 : 0 ≤ f_size ∧ f_size ≤ 1000) (h6 : 1 ≤ p2 ∧ p2 ≤ 1000) (h7 : 0 ≤ z1201 ∧ z1201 ≤ 997) (h8 : 3 ≤ z1231 ∧ z1231 ≤ 4) : 3 ≤ p2 ∧ p2 ≤ 1000 := by omega
theorem vc_X12_attributes_u_8 {f_c f_size p2 z1201 z1231 : Int} (h0 : p2 ≤ f_size) (h1 : 3 * f_c ≤ z1201) (h2 : z1201 < p2) (h3 : (z1201 + z1231) ≤ p2) (h4 : 0 ≤ f_c ∧ f_c ≤ 400) (h5 : 0 ≤ f_size ∧ f_size ≤ 1000) (h6 : 3 ≤ p2 ∧ p2 ≤ 1000) (h7 : 0 ≤ z1201 ∧ z1201 ≤ 997) (h8 : 3 ≤ z1231 ∧ z1231 ≤ 4) : (z1201 + 2) + (z1231 - 2) ≤ f_size := by omega
theorem vc_X12_attributes_u_9 {f_c f_size p2 z1201 z1231 z1245 : Int} (h0 : ((z1201 + z1231) + z1245) ≤ p2) (h1 : p2 ≤ f_size) (h2 : 3 * f_c ≤ z1201) (h3 : z1201 < p2) (h4 : (z1201 + z1231) ≤ p2) (h5 : 0 ≤ f_c ∧ f_c ≤ 400) (h6 : 0 ≤ f_size ∧ f_size ≤ 1000) (h7 : 3 ≤ p2 ∧ p2 ≤ 1000) (h8 : 0 ≤ z1201 ∧ z1201 ≤ 997) (h9 : 3 ≤ z1231 ∧ z1231 ≤ 4) (h10 : 0 ≤ z1245 ∧ z1245 ≤ 65535) : 0 ≤ z1245 ∧ z1245 ≤ 997 := by omega
theorem vc_X12_attributes_u_10 {f_c f_size p2 z1201 z1231 z1245 : Int} (h0 : p2 ≤ f_size) (h1 : 3 * f_c ≤ z1201) (h2 : z1201 < p2) (h3 : (z1201 + z1231) ≤ p2) (h4 : ((z1201 + z1231) + z1245) ≤ p2) (h5 : 0 ≤ f_c ∧ f_c ≤ 400) (h6 : 0 ≤ f_size ∧ f_size ≤ 1000) (h7 : 3 ≤ p2 ∧ p2 ≤ 1000) (h8 : 0 ≤ z1201 ∧ z1201 ≤ 997) (h9 : 3 ≤ z1231 ∧ z1231 ≤ 4) (h10 : 0 ≤ z1245 ∧ z1245 ≤ 997) : z1201 < f_size := by omega
theorem vc_X12_attributes_u_11 {f_c f_size p2 z1201 z1231 z1245 : Int} (h0 : p2 ≤ f_size) (h1 : 3 * f_c ≤ z1201) (h2 : z1201 < p2) (h3 : (z1201 + z1231) ≤ p2) (h4 : ((z1201 + z1231) + z1245) ≤ p2) (h5 : 0 ≤ f_c ∧ f_c ≤ 400) (h6 : 0 ≤ f_size ∧ f_size ≤ 1000) (h7 : 3 ≤ p2 ∧ p2 ≤ 1000) (h8 : 0 ≤ z1201 ∧ z1201 ≤ 997) (h9 : 3 ≤ z1231 ∧ z1231 ≤ 4) (h10 : 0 ≤ z1245 ∧ z1245 ≤ 997) : (z1201 + 1) < f_size := by omega
theorem vc_X12_attributes_u_12 {f_c f_size p2 z1201 z1231 z1245 : Int} (h0 : p2 ≤ f_size) (h1 : 3 * f_c ≤ z1201) (h2 : z1201 < p2) (h3 : (z1201 + z1231) ≤ p2) (h4 : ((z1201 + z1231) + z1245) ≤ p2) (h5 : 0 ≤ f_c ∧ f_c ≤ 400) (h6 : 0 ≤ f_size ∧ f_size ≤ 1000) (h7 : 3 ≤ p2 ∧ p2 ≤ 1000) (h8 : 0 ≤ z1201 ∧ z1201 ≤ 997) (h9 : 3 ≤ z1231 ∧ z1231 ≤ 4) (h10 : 0 ≤ z1245 ∧ z1245 ≤ 997) : (z1201 + 2) + (z1231 - 2) ≤ f_size := by omega
theorem vc_X12_attributes_u_13 {p2 z1201 z1231 z1245 z1262 : Int} (h0 : z1262 = z1245) (h1 : ((z1201 + z1231) + z1245) ≤ p2) (h2 : 3 ≤ p2 ∧ p2 ≤ 1000) (h3 : 0 ≤ z1201 ∧ z1201 ≤ 997) (h4 : 3 ≤ z1231 ∧ z1231 ≤ 4) (h5 : 0 ≤ z1245 ∧ z1245 ≤ 997) (h6 : 0 ≤ z1262 ∧ z1262 ≤ 65535) : 0 ≤ z1262 ∧ z1262 ≤ 997 := by omega
theorem vc_X12_attributes_u_16 {f_c f_size p2 z1201 z1231 z1245 z1262 z1443 : Int} (h0 : 3 * f_c ≤ z1201) (h1 : z1201 < p2) (h2 : (z1201 + z1231) ≤ p2) (h3 : ((z1201 + z1231) + z1245) ≤ p2) (h4 : z1262 = z1245) (h5 : 3 * z1443 ≤ (z1201 + z1231)) (h6 : p2 ≤ f_size) (h7 : 0 ≤ f_c ∧ f_c ≤ 400) (h8 : 0 ≤ f_size ∧ f_size ≤ 1000) (h9 : 3 ≤ p2 ∧ p2 ≤ 1000) (h10 : 0 ≤ z1201 ∧ z1201 ≤ 997) (h11 : 3 ≤ z1231 ∧ z1231 ≤ 4) (h12 : 0 ≤ z1245 ∧ z1245 ≤ 997) (h13 : 0 ≤ z1262 ∧ z1262 ≤ 997) (h14 : 0 ≤ z1443 ∧ z1443 ≤ 400) : 0 ≤ ((z1201 + z1231) + z1262) ∧ ((z1201 + z1231) + z1262) ≤ 1002 := by omega
theorem vc_X12_attributes_u_17 {f_c f_size p2 z1201 z1231 z1245 z1262 z1443 : Int} (h0 : 3 * f_c ≤ z1201) (h1 : z1201 < p2) (h2 : (z1201 + z1231) ≤ p2) (h3 : ((z1201 + z1231) + z1245) ≤ p2) (h4 : z1262 = z1245) (h5 : 3 * z1443 ≤ (z1201 + z1231)) (h6 : p2 ≤ f_size) (h7 : 0 ≤ f_c ∧ f_c ≤ 400) (h8 : 0 ≤ f_size ∧ f_size ≤ 1000) (h9 : 3 ≤ p2 ∧ p2 ≤ 1000) (h10 : 0 ≤ z1201 ∧ z1201 ≤ 997) (h11 : 3 ≤ z1231 ∧ z1231 ≤ 4) (h12 : 0 ≤ z1245 ∧ z1245 ≤ 997) (h13 : 0 ≤ z1262 ∧ z1262 ≤ 997) (h14 : 0 ≤ z1443 ∧ z1443 ≤ 400) : 3 * z1443 ≤ ((z1201 + z1231) + z1262) := by omega
theorem vc_X12_attributes_u_18 {N f_c f_size p2 z1201 z1231 z1245 z1262 z1443 : Int} (h0 : (1003 - z1201) < N + 1) (h1 : 3 * f_c ≤ z1201) (h2 : z1201 < p2) (h3 : (z1201 + z1231) ≤ p2) (h4 : ((z1201 + z1231) + z1245) ≤ p2) (h5 : z1262 = z1245) (h6 : 3 * z1443 ≤ (z1201 + z1231)) (h7 : p2 ≤ f_size) (h8 : 0 ≤ f_c ∧ f_c ≤ 400) (h9 : 0 ≤ f_size ∧ f_size ≤ 1000) (h10 : 3 ≤ p2 ∧ p2 ≤ 1000) (h11 : 0 ≤ z1201 ∧ z1201 ≤ 997) (h12 : 3 ≤ z1231 ∧ z1231 ≤ 4) (h13 : 0 ≤ z1245 ∧ z1245 ≤ 997) (h14 : 0 ≤ z1262 ∧ z1262 ≤ 997) (h15 : 0 ≤ z1443 ∧ z1443 ≤ 400) : (1003 - ((z1201 + z1231) + z1262)) < N := by omega
theorem vc_X12_attributes_u_20 {z1369 : Int} (h0 : z1369 < 0) (h1 : (-1) ≤ z1369 ∧ z1369 ≤ 192) : (-1) ≤ z1369 ∧ z1369 ≤ (-1) := by omega
theorem vc_X12_attributes_u_22 {f_c f_size p2 z1201 z1231 z1245 z1262 : Int} (h0 : 3 * f_c ≤ z1201) (h1 : z1201 < p2) (h2 : (z1201 + z1231) ≤ p2) (h3 : ((z1201 + z1231) + z1245) ≤ p2) (h4 : p2 ≤ f_size) (h5 : z1262 = z1245) (h6 : 0 ≤ f_c ∧ f_c ≤ 400) (h7 : 0 ≤ f_size ∧ f_size ≤ 1000) (h8 : 3 ≤ p2 ∧ p2 ≤ 1000) (h9 : 0 ≤ z1201 ∧ z1201 ≤ 997) (h10 : 3 ≤ z1231 ∧ z1231 ≤ 4) (h11 : 0 ≤ z1245 ∧ z1245 ≤ 997) (h12 : 0 ≤ z1262 ∧ z1262 ≤ 997) : 3 * f_c ≤ (z1201 + z1231) := by omega
theorem vc_X12_attributes_u_24 {z1473 : Int} (h0 : z1473 = 0) (h1 : 0 ≤ z1473 ∧ z1473 ≤ 64) : 0 ≤ z1473 ∧ z1473 ≤ 0 := by omega
theorem vc_X12_attributes_u_25 {z1473 : Int} (h0 : ¬ z1473 = 0) (h1 : 0 ≤ z1473 ∧ z1473 ≤ 64) : 1 ≤ z1473 ∧ z1473 ≤ 64 := by omega
theorem vc_X12_attributes_u_26 {f_c p2 z1201 z1231 z1245 : Int} (h0 : 3 * f_c ≤ z1201) (h1 : z1201 < p2) (h2 : (z1201 + z1231) ≤ p2) (h3 : ((z1201 + z1231) + z1245) ≤ p2) (h4 : 0 ≤ f_c ∧ f_c ≤ 400) (h5 : 3 ≤ p2 ∧ p2 ≤ 1000) (h6 : 0 ≤ z1201 ∧ z1201 ≤ 997) (h7 : 3 ≤ z1231 ∧ z1231 ≤ 4) (h8 : 0 ≤ z1245 ∧ z1245 ≤ 997) : 0 ≤ f_c ∧ f_c < 400 := by omega
theorem vc_X12_attributes_u_27 {f_c p2 z1201 z1231 z1245 : Int} (h0 : 3 * f_c ≤ z1201) (h1 : z1201 < p2) (h2 : (z1201 + z1231) ≤ p2) (h3 : ((z1201 + z1231) + z1245) ≤ p2) (h4 : 0 ≤ f_c ∧ f_c ≤ 400) (h5 : 3 ≤ p2 ∧ p2 ≤ 1000) (h6 : 0 ≤ z1201 ∧ z1201 ≤ 997) (h7 : 3 ≤ z1231 ∧ z1231 ≤ 4) (h8 : 0 ≤ z1245 ∧ z1245 ≤ 997) : 0 ≤ (f_c + 1) ∧ (f_c + 1) ≤ 400 := by omega
theorem vc_X12_attributes_u_28 {f_c f_size p2 z1201 z1231 z1245 z1262 : Int} (h0 : 3 * f_c ≤ z1201) (h1 : z1201 < p2) (h2 : (z1201 + z1231) ≤ p2) (h3 : ((z1201 + z1231) + z1245) ≤ p2) (h4 : p2 ≤ f_size) (h5 : z1262 = z1245) (h6 : 0 ≤ f_c ∧ f_c ≤ 400) (h7 : 0 ≤ f_size ∧ f_size ≤ 1000) (h8 : 3 ≤ p2 ∧ p2 ≤ 1000) (h9 : 0 ≤ z1201 ∧ z1201 ≤ 997) (h10 : 3 ≤ z1231 ∧ z1231 ≤ 4) (h11 : 0 ≤ z1245 ∧ z1245 ≤ 997) (h12 : 0 ≤ z1262 ∧ z1262 ≤ 997) : 3 * (f_c + 1) ≤ (z1201 + z1231) := by omega
theorem vc_X12_attributes_u_31 {z1369 : Int} (h0 : 0 ≤ z1369) (h1 : (-1) ≤ z1369 ∧ z1369 ≤ 192) : 0 ≤ z1369 ∧ z1369 ≤ 192 := by omega
theorem vc_X12_attributes_u_32 {z1369 z1489 : Int} (h0 : z1489 = z1369) (h1 : 0 ≤ z1369) (h2 : 0 ≤ z1369 ∧ z1369 ≤ 192) (h3 : 0 ≤ z1489 ∧ z1489 ≤ 255) : 0 ≤ z1489 ∧ z1489 ≤ 192 := by omega
theorem vc_X12_attributes_u_33 {f_c f_size p2 z1201 z1231 z1245 z1262 : Int} (h0 : 3 * f_c ≤ z1201) (h1 : z1201 < p2) (h2 : (z1201 + z1231) ≤ p2) (h3 : ((z1201 + z1231) + z1245) ≤ p2) (h4 : p2 ≤ f_size) (h5 : z1262 = z1245) (h6 : 0 ≤ f_c ∧ f_c ≤ 400) (h7 : 0 ≤ f_size ∧ f_size ≤ 1000) (h8 : 3 ≤ p2 ∧ p2 ≤ 1000) (h9 : 0 ≤ z1201 ∧ z1201 ≤ 997) (h10 : 3 ≤ z1231 ∧ z1231 ≤ 4) (h11 : 0 ≤ z1245 ∧ z1245 ≤ 997) (h12 : 0 ≤ z1262 ∧ z1262 ≤ 997) : 0 ≤ (z1201 + z1231) ∧ (z1201 + z1231) ≤ 1000 := by omega
theorem vc_X12_attributes_u_34 {f_c f_size p2 z1201 z1231 z1245 z1262 : Int} (h0 : p2 ≤ f_size) (h1 : 3 * f_c ≤ z1201) (h2 : z1201 < p2) (h3 : (z1201 + z1231) ≤ p2) (h4 : ((z1201 + z1231) + z1245) ≤ p2) (h5 : z1262 = z1245) (h6 : 0 ≤ f_c ∧ f_c ≤ 400) (h7 : 0 ≤ f_size ∧ f_size ≤ 1000) (h8 : 3 ≤ p2 ∧ p2 ≤ 1000) (h9 : 0 ≤ z1201 ∧ z1201 ≤ 997) (h10 : 3 ≤ z1231 ∧ z1231 ≤ 4) (h11 : 0 ≤ z1245 ∧ z1245 ≤ 997) (h12 : 0 ≤ z1262 ∧ z1262 ≤ 997) : (z1201 + z1231) + z1262 ≤ f_size := by omega
theorem vc_X12_attributes_u_37 {z1257 : Int} (h0 : z1257 = 4) (h1 : ¬ z1257 = 1) (h2 : ¬ z1257 = 2) (h3 : 0 ≤ z1257 ∧ z1257 ≤ 255) : 4 ≤ z1257 ∧ z1257 ≤ 4 := by omega
theorem vc_X12_attributes_u_39  : (961 : Int) ≤ (963 : Int) ∧ (964 : Int) ≤ (1000 : Int) := by omega
theorem vc_X12_attributes_u_43  : (961 : Int) ≤ (964 : Int) ∧ (986 : Int) ≤ (1000 : Int) := by omega
theorem vc_X12_attributes_u_47  : (961 : Int) ≤ (962 : Int) ∧ (963 : Int) ≤ (1000 : Int) := by omega
theorem vc_X12_attributes_u_49 {z1257 : Int} (h0 : z1257 = 8) (h1 : ¬ z1257 = 1) (h2 : ¬ z1257 = 2) (h3 : ¬ z1257 = 4) (h4 : 0 ≤ z1257 ∧ z1257 ≤ 255) : 8 ≤ z1257 ∧ z1257 ≤ 8 := by omega
theorem vc_X12_attributes_u_51 {f_c f_size p2 z1201 z1231 z1245 z1262 : Int} (h0 : 3 * f_c ≤ z1201) (h1 : z1201 < p2) (h2 : (z1201 + z1231) ≤ p2) (h3 : ((z1201 + z1231) + z1245) ≤ p2) (h4 : z1262 = z1245) (h5 : p2 ≤ f_size) (h6 : 0 ≤ f_c ∧ f_c ≤ 400) (h7 : 0 ≤ f_size ∧ f_size ≤ 1000) (h8 : 3 ≤ p2 ∧ p2 ≤ 1000) (h9 : 0 ≤ z1201 ∧ z1201 ≤ 997) (h10 : 3 ≤ z1231 ∧ z1231 ≤ 4) (h11 : 0 ≤ z1245 ∧ z1245 ≤ 997) (h12 : 0 ≤ z1262 ∧ z1262 ≤ 997) : 0 ≤ ((z1201 + z1231) + z1262) ∧ ((z1201 + z1231) + z1262) ≤ 1002 := by omega
theorem vc_X12_attributes_u_52 {f_c f_size p2 z1201 z1231 z1245 z1262 : Int} (h0 : 3 * f_c ≤ z1201) (h1 : z1201 < p2) (h2 : (z1201 + z1231) ≤ p2) (h3 : ((z1201 + z1231) + z1245) ≤ p2) (h4 : z1262 = z1245) (h5 : p2 ≤ f_size) (h6 : 0 ≤ f_c ∧ f_c ≤ 400) (h7 : 0 ≤ f_size ∧ f_size ≤ 1000) (h8 : 3 ≤ p2 ∧ p2 ≤ 1000) (h9 : 0 ≤ z1201 ∧ z1201 ≤ 997) (h10 : 3 ≤ z1231 ∧ z1231 ≤ 4) (h11 : 0 ≤ z1245 ∧ z1245 ≤ 997) (h12 : 0 ≤ z1262 ∧ z1262 ≤ 997) : 3 * f_c ≤ ((z1201 + z1231) + z1262) := by omega
theorem vc_X12_attributes_u_53 {N f_c f_size p2 z1201 z1231 z1245 z1262 : Int} (h0 : (1003 - z1201) < N + 1) (h1 : 3 * f_c ≤ z1201) (h2 : z1201 < p2) (h3 : (z1201 + z1231) ≤ p2) (h4 : ((z1201 + z1231) + z1245) ≤ p2) (h5 : z1262 = z1245) (h6 : p2 ≤ f_size) (h7 : 0 ≤ f_c ∧ f_c ≤ 400) (h8 : 0 ≤ f_size ∧ f_size ≤ 1000) (h9 : 3 ≤ p2 ∧ p2 ≤ 1000) (h10 : 0 ≤ z1201 ∧ z1201 ≤ 997) (h11 : 3 ≤ z1231 ∧ z1231 ≤ 4) (h12 : 0 ≤ z1245 ∧ z1245 ≤ 997) (h13 : 0 ≤ z1262 ∧ z1262 ≤ 997) : (1003 - ((z1201 + z1231) + z1262)) < N := by omega
theorem vc_X12_attributes_u_58 {f_c0 p1 : Int} (h0 : 3 * f_c0 ≤ p1) (h1 : 0 ≤ f_c0 ∧ f_c0 ≤ 400) (h2 : 0 ≤ p1 ∧ p1 ≤ 1002) : 3 * f_c0 ≤ p1 := by omega
theorem vc_X12_attributes_u_59 {f_c0 p1 : Int} (h0 : 3 * f_c0 ≤ p1) (h1 : 0 ≤ f_c0 ∧ f_c0 ≤ 400) (h2 : 0 ≤ p1 ∧ p1 ≤ 1002) : (1003 - p1) < ((1004 : Nat) : Int) := by omega
set_option maxRecDepth 4000 in
set_option maxHeartbeats 4000000 in
theorem c_X12_attributes_u {l : Launch} {D : va_G} {c : Nat → ClassId} {H0 : Heap} {sa : Nat × Nat × (Nat → Int32)} {w : mW} {μ : mM} (hw : mWF w) (hT : mT w μ) {p1 : Int} (hp1 : 0 ≤ p1 ∧ p1 ≤ 1002) {p2 : Int} (hp2 : 0 ≤ p2 ∧ p2 ≤ 1000) {f_size : Int} (q_f_size : μ 106 1 = f_size) {f_c0 : Int} (q_f_c0 : μ 106 93 = f_c0) (hq0 : p2 ≤ f_size) (hq1 : 3 * f_c0 ≤ p1) : sC (gG l D c H0 sa) mX12_attributes 4 0 0 [.ref 106, iv p1, iv p2] (mk w μ) (qV w [106093, 106098, 106099, 106101, 126999, 170999, 171999, 172999, 173999] μ (fun μ1 => mG [(961, 1000)] μ μ1 ∧ True)) := by
  refine sC.of rfl (by decide) (le_t rfl) ?_
  have ht_f_size : (0 ≤ f_size ∧ f_size ≤ 1000) := by rw [← q_f_size]; exact hT 106 106 (A_106 hw) 1
  have ht_f_c0 : (0 ≤ f_c0 ∧ f_c0 ≤ 400) := by rw [← q_f_c0]; exact hT 106 106 (A_106 hw) 93
  refine mr_lvE (lv' := [(0, .ref 106), (1, iv p1), (2, iv p2)]) rfl ?_
  refine mr_iload_n (pc := 0) (z := p1) dX12_attributes_0 rfl rfl ?_
  refine mr_istore_n (pc := 1) (lv' := [(3, iv p1), (0, .ref 106), (1, iv p1), (2, iv p2)]) dX12_attributes_1 rfl (by decide) rfl ?_
  have L1203 : ∀ (nL1203 : Nat) (z1201 : Int) (μ1202 : mM) (f_c : Int), mT w μ1202 → mF [106093, 106098, 106099, 106101, 126999, 170999, 171999, 172999, 173999] w μ μ1202 → mG [(961, 1000)] μ μ1202 → μ1202 106 (93) = f_c → (0 ≤ z1201 ∧ z1201 ≤ 1002) → (3 * f_c ≤ z1201) → (1003 - z1201) < (nL1203 : Int) → sV (gG l D c H0 sa) mX12_attributes (sRm 4 0 0) (sZ (gG l D c H0 sa) 0 0 (qV w [106093, 106098, 106099, 106101, 126999, 170999, 171999, 172999, 173999] μ (fun μ1 => mG [(961, 1000)] μ μ1 ∧ True))) 2 [(0, .ref 106), (2, iv p2), (3, iv z1201)] [] (mk w μ1202) 0 0 := by
    intro nL1203
    induction nL1203 with
    | zero => intro z1201 μ1202 f_c T1205 F1206 G1207 q1210 h1204 h1208 h1209; exact ((vc_X12_attributes_u_1 h1209 h1208 h1204)).elim
    | succ nL1203 ih1211 =>
      intro z1201 μ1202 f_c T1205 F1206 G1207 q1210 h1204 h1208 h1209
      have h1212 : (0 ≤ f_c ∧ f_c ≤ 400) := by rw [← q1210]; exact T1205 106 106 (A_106 hw) (93)
      refine mr_iload_n (pc := 2) (z := z1201) dX12_attributes_2 rfl rfl ?_
      refine mr_iload_n (pc := 3) (z := p2) dX12_attributes_3 rfl rfl ?_
      refine mr_icmp_ge (pc := 4) (tgt := 345) dX12_attributes_4 (by decide) (r32 h1204 rfl) (r32 hp2 rfl) (fun h1213 => ?_) (fun h1213 => ?_)
      · exact mr_vret dX12_attributes_345 rfl (le_t rfl) (le_t rfl) T1205 (mF.call mF.refl F1206 rfl) ⟨(mG.call mG.refl G1207 (List.forall_mem_cons.mpr ⟨⟨_, List.mem_cons_self, vc_X12_marksRight_f_4⟩, (fun _ h => absurd h List.not_mem_nil)⟩)), trivial⟩
      have h1214 : 0 ≤ z1201 ∧ z1201 ≤ 999 := (vc_X12_attributes_u_3 h1213 hq0 h1208 h1212 ht_f_size hp2 h1204)
      have h1215 : 1 ≤ p2 ∧ p2 ≤ 1000 := (vc_X12_attributes_u_4 h1213 hq0 h1208 h1212 ht_f_size hp2 h1214)
      refine sv_aload_n (pc := 7) dX12_attributes_7 rfl rfl ?_
      refine mr_iload_n (pc := 8) (z := z1201) dX12_attributes_8 rfl rfl ?_
      refine mr_cVP (pc := 9) (c_X12_byteAt_f hw T1205 (rW (c := 0) (d := 2147483647) h1214 rfl) (F1206.f (A_106 hw) rfl q_f_size) (vc_X12_attributes_u_5 hq0 h1208 h1213 h1212 ht_f_size h1215 h1214)) (gOk _ _ _ _ _) dX12_attributes_9 (tX12_byteAt _ _ _ _ _) ⟨wV_X12_byteAt, wL_X12_byteAt⟩ wM_X12_227 (gCX12 _ _ _ _ _) rfl (A_106 hw) rfl ⟨le_t rfl, le_t rfl⟩ ⟨le_t rfl, le_t rfl⟩ rfl (le_t rfl) fun z1220 h1219 => ?_
      refine mr_bipush (pc := 12) (z := 16) dX12_attributes_12 (by decide) ?_
      refine mr_iand (pc := 14) (x := z1220) (y := 16) dX12_attributes_14 ?_
      refine mr_gen (P := fun z => 0 ≤ z ∧ z ≤ 16) (rAndR (rR (x := 16)) rfl) fun z1221 q1222 h1223 => ?_
      have J1228 : ∀ (z1226 : Int), ((0 ≤ z1226 ∧ z1226 ≤ 1)) → sV (gG l D c H0 sa) mX12_attributes (sRm 4 0 0) (sZ (gG l D c H0 sa) 0 0 (qV w [106093, 106098, 106099, 106101, 126999, 170999, 171999, 172999, 173999] μ (fun μ1 => mG [(961, 1000)] μ μ1 ∧ True))) 23 [(0, .ref 106), (2, iv p2), (3, iv z1201)] [iv z1226] (mk w μ1202) 0 0 := by
        intro z1226 h1227
        refine mr_istore (pc := 23) (lv' := [(4, iv z1226), (0, .ref 106), (2, iv p2), (3, iv z1201)]) dX12_attributes_23 (by decide) rfl ?_
        refine mr_iload (pc := 25) (z := z1226) dX12_attributes_25 rfl ?_
        have J1233 : ∀ (z1231 : Int), ((3 ≤ z1231 ∧ z1231 ≤ 4)) → sV (gG l D c H0 sa) mX12_attributes (sRm 4 0 0) (sZ (gG l D c H0 sa) 0 0 (qV w [106093, 106098, 106099, 106101, 126999, 170999, 171999, 172999, 173999] μ (fun μ1 => mG [(961, 1000)] μ μ1 ∧ True))) 35 [(0, .ref 106), (2, iv p2), (3, iv z1201)] [iv z1231] (mk w μ1202) 0 0 := by
          intro z1231 h1232
          refine mr_istore (pc := 35) (lv' := [(5, iv z1231), (0, .ref 106), (2, iv p2), (3, iv z1201)]) dX12_attributes_35 (by decide) rfl ?_
          refine mr_iload_n (pc := 37) (z := z1201) dX12_attributes_37 rfl rfl ?_
          refine mr_iload (pc := 38) (z := z1231) dX12_attributes_38 rfl ?_
          refine mr_iadd (pc := 40) (x := z1201) (y := z1231) dX12_attributes_40 ?_
          refine mr_iload_n (pc := 41) (z := p2) dX12_attributes_41 rfl rfl ?_
          refine mr_icmp_gt (pc := 42) (tgt := 65) dX12_attributes_42 (by decide) (r32 (rAdd (e := 3) (f := 1003) h1214 h1232 rfl) rfl) (r32 h1215 rfl) (fun h1234 => ?_) (fun h1234 => ?_)
          · refine sv_aload_n (pc := 65) dX12_attributes_65 rfl rfl ?_
            refine mr_iconst (pc := 66) (z := 2) dX12_attributes_66 ?_
            refine mr_iload_n (pc := 67) (z := z1201) dX12_attributes_67 rfl rfl ?_
            refine mr_cVV (pc := 68) (c_X12_fails hw T1205 (rW (c := 0) (d := 3) (rR (x := 2)) rfl) (rW (c := (-2147483648)) (d := 2147483647) h1214 rfl)) (gOk _ _ _ _ _) dX12_attributes_68 (tX12_fails _ _ _ _ _) ⟨wV_X12_fails, wL_X12_fails⟩ wM_X12_620 (gCX12 _ _ _ _ _) rfl (A_106 hw) rfl ⟨le_t rfl, le_t rfl⟩ ⟨le_t rfl, le_t rfl⟩ rfl (le_t rfl) fun μ1235 T1236 F1237 h1238 => ?_
            exact mr_vret dX12_attributes_71 rfl (le_t rfl) (le_t rfl) T1236 (mF.call (mF.call mF.refl F1206 rfl) F1237 rfl) ⟨(mG.fr (mG.call mG.refl G1207 (List.forall_mem_cons.mpr ⟨⟨_, List.mem_cons_self, vc_X12_marksRight_f_4⟩, (fun _ h => absurd h List.not_mem_nil)⟩)) F1237 (A_126 hw) rfl), trivial⟩
          have h1239 : 0 ≤ z1201 ∧ z1201 ≤ 997 := (vc_X12_attributes_u_6 h1234 hq0 h1208 h1213 h1212 ht_f_size h1215 h1214 h1232)
          have h1240 : 3 ≤ p2 ∧ p2 ≤ 1000 := (vc_X12_attributes_u_7 h1234 hq0 h1208 h1213 h1212 ht_f_size h1215 h1239 h1232)
          refine mr_iload_n (pc := 45) (z := z1201) dX12_attributes_45 rfl rfl ?_
          refine mr_iload (pc := 46) (z := z1231) dX12_attributes_46 rfl ?_
          refine mr_iadd (pc := 48) (x := z1201) (y := z1231) dX12_attributes_48 ?_
          refine sv_aload_n (pc := 49) dX12_attributes_49 rfl rfl ?_
          refine mr_iload_n (pc := 50) (z := z1201) dX12_attributes_50 rfl rfl ?_
          refine mr_iconst (pc := 51) (z := 2) dX12_attributes_51 ?_
          refine mr_iadd (pc := 52) (x := z1201) (y := 2) dX12_attributes_52 ?_
          refine mr_iload (pc := 53) (z := z1231) dX12_attributes_53 rfl ?_
          refine mr_iconst (pc := 55) (z := 2) dX12_attributes_55 ?_
          refine mr_isub (pc := 56) (x := z1231) (y := 2) dX12_attributes_56 ?_
          refine mr_cVP (pc := 57) (c_X12_number_f2 hw T1205 (rW (c := 0) (d := 1000) (rAdd (e := 2) (f := 999) h1239 (rR (x := 2)) rfl) rfl) (rW (c := 0) (d := 2) (rSub (e := 1) (f := 2) h1232 (rR (x := 2)) rfl) rfl) (F1206.f (A_106 hw) rfl q_f_size) (vc_X12_attributes_u_8 hq0 h1208 h1213 h1234 h1212 ht_f_size h1240 h1239 h1232)) (gOk _ _ _ _ _) dX12_attributes_57 (tX12_number _ _ _ _ _) ⟨wV_X12_number, wL_X12_number⟩ wM_X12_623 (gCX12 _ _ _ _ _) rfl (A_106 hw) rfl ⟨le_t rfl, le_t rfl⟩ ⟨le_t rfl, le_t rfl⟩ rfl (le_t rfl) fun z1245 h1244 => ?_
          refine mr_iadd (pc := 60) (x := (z1201 + z1231)) (y := z1245) dX12_attributes_60 ?_
          refine mr_iload_n (pc := 61) (z := p2) dX12_attributes_61 rfl rfl ?_
          refine mr_icmp_le (pc := 62) (tgt := 72) dX12_attributes_62 (by decide) (r32 (rAdd (e := 3) (f := 66536) (rAdd (e := 3) (f := 1001) h1239 h1232 rfl) h1244.1 rfl) rfl) (r32 h1240 rfl) (fun h1246 => ?_) (fun h1246 => ?_)
          · have h1247 : 0 ≤ z1245 ∧ z1245 ≤ 997 := (vc_X12_attributes_u_9 h1246 hq0 h1208 h1213 h1234 h1212 ht_f_size h1240 h1239 h1232 h1244.1)
            refine sv_aload_n (pc := 72) dX12_attributes_72 rfl rfl ?_
            refine mr_iload_n (pc := 73) (z := z1201) dX12_attributes_73 rfl rfl ?_
            refine mr_cVP (pc := 74) (c_X12_byteAt_f hw T1205 (rW (c := 0) (d := 2147483647) h1239 rfl) (F1206.f (A_106 hw) rfl q_f_size) (vc_X12_attributes_u_10 hq0 h1208 h1213 h1234 h1246 h1212 ht_f_size h1240 h1239 h1232 h1247)) (gOk _ _ _ _ _) dX12_attributes_74 (tX12_byteAt _ _ _ _ _) ⟨wV_X12_byteAt, wL_X12_byteAt⟩ wM_X12_227 (gCX12 _ _ _ _ _) rfl (A_106 hw) rfl ⟨le_t rfl, le_t rfl⟩ ⟨le_t rfl, le_t rfl⟩ rfl (le_t rfl) fun z1252 h1251 => ?_
            refine mr_istore (pc := 77) (lv' := [(6, iv z1252), (5, iv z1231), (0, .ref 106), (2, iv p2), (3, iv z1201)]) dX12_attributes_77 (by decide) rfl ?_
            refine sv_aload_n (pc := 79) dX12_attributes_79 rfl rfl ?_
            refine mr_iload_n (pc := 80) (z := z1201) dX12_attributes_80 rfl rfl ?_
            refine mr_iconst (pc := 81) (z := 1) dX12_attributes_81 ?_
            refine mr_iadd (pc := 82) (x := z1201) (y := 1) dX12_attributes_82 ?_
            refine mr_cVP (pc := 83) (c_X12_byteAt_f hw T1205 (rW (c := 0) (d := 2147483647) (rAdd (e := 1) (f := 998) h1239 (rR (x := 1)) rfl) rfl) (F1206.f (A_106 hw) rfl q_f_size) (vc_X12_attributes_u_11 hq0 h1208 h1213 h1234 h1246 h1212 ht_f_size h1240 h1239 h1232 h1247)) (gOk _ _ _ _ _) dX12_attributes_83 (tX12_byteAt _ _ _ _ _) ⟨wV_X12_byteAt, wL_X12_byteAt⟩ wM_X12_227 (gCX12 _ _ _ _ _) rfl (A_106 hw) rfl ⟨le_t rfl, le_t rfl⟩ ⟨le_t rfl, le_t rfl⟩ rfl (le_t rfl) fun z1257 h1256 => ?_
            refine mr_istore (pc := 86) (lv' := [(7, iv z1257), (6, iv z1252), (5, iv z1231), (0, .ref 106), (2, iv p2), (3, iv z1201)]) dX12_attributes_86 (by decide) rfl ?_
            refine sv_aload_n (pc := 88) dX12_attributes_88 rfl rfl ?_
            refine mr_iload_n (pc := 89) (z := z1201) dX12_attributes_89 rfl rfl ?_
            refine mr_iconst (pc := 90) (z := 2) dX12_attributes_90 ?_
            refine mr_iadd (pc := 91) (x := z1201) (y := 2) dX12_attributes_91 ?_
            refine mr_iload (pc := 92) (z := z1231) dX12_attributes_92 rfl ?_
            refine mr_iconst (pc := 94) (z := 2) dX12_attributes_94 ?_
            refine mr_isub (pc := 95) (x := z1231) (y := 2) dX12_attributes_95 ?_
            refine mr_cVP (pc := 96) (c_X12_number_f2 hw T1205 (rW (c := 0) (d := 1000) (rAdd (e := 2) (f := 999) h1239 (rR (x := 2)) rfl) rfl) (rW (c := 0) (d := 2) (rSub (e := 1) (f := 2) h1232 (rR (x := 2)) rfl) rfl) (F1206.f (A_106 hw) rfl q_f_size) (vc_X12_attributes_u_12 hq0 h1208 h1213 h1234 h1246 h1212 ht_f_size h1240 h1239 h1232 h1247)) (gOk _ _ _ _ _) dX12_attributes_96 (tX12_number _ _ _ _ _) ⟨wV_X12_number, wL_X12_number⟩ wM_X12_623 (gCX12 _ _ _ _ _) rfl (A_106 hw) rfl ⟨le_t rfl, le_t rfl⟩ ⟨le_t rfl, le_t rfl⟩ rfl (le_t rfl) fun z1262 h1261 => ?_
            have h1263 : 0 ≤ z1262 ∧ z1262 ≤ 997 := (vc_X12_attributes_u_13 (h1261.2.1.trans h1244.2.1.symm) h1246 h1240 h1239 h1232 h1247 h1261.1)
            refine mr_istore (pc := 99) (lv' := [(8, iv z1262), (7, iv z1257), (6, iv z1252), (5, iv z1231), (0, .ref 106), (2, iv p2), (3, iv z1201)]) dX12_attributes_99 (by decide) rfl ?_
            refine mr_iload_n (pc := 101) (z := z1201) dX12_attributes_101 rfl rfl ?_
            refine mr_iload (pc := 102) (z := z1231) dX12_attributes_102 rfl ?_
            refine mr_iadd (pc := 104) (x := z1201) (y := z1231) dX12_attributes_104 ?_
            refine mr_istore (pc := 105) (lv' := [(9, iv (z1201 + z1231)), (8, iv z1262), (7, iv z1257), (6, iv z1252), (5, iv z1231), (0, .ref 106), (2, iv p2), (3, iv z1201)]) dX12_attributes_105 (by decide) rfl ?_
            refine sv_aload_n (pc := 107) dX12_attributes_107 rfl rfl ?_
            refine gf_X12_94 (pc := 108) dX12_attributes_108 wF_X12_475 (A_106 hw) T1205 ?_
            refine mr_iload (pc := 111) (z := z1257) dX12_attributes_111 rfl ?_
            refine la_171 (pc := 113) dX12_attributes_113 (A_171 hw) T1205 (rIx (n := 256) h1256.1 rfl) fun z1264 q1265 h1266 => ?_
            refine mr_if_eq (pc := 114) (tgt := 126) dX12_attributes_114 (by decide) (r32 h1266 rfl) (fun h1360 => ?_) (fun h1360 => ?_)
            · have h1361 : 0 ≤ z1264 ∧ z1264 ≤ 0 := (vc_X12_ring_22 h1360 h1266)
              refine sv_aload_n (pc := 126) dX12_attributes_126 rfl rfl ?_
              refine gf_X12_94 (pc := 127) dX12_attributes_127 wF_X12_475 (A_106 hw) T1205 ?_
              refine mr_iload (pc := 130) (z := z1257) dX12_attributes_130 rfl ?_
              refine mr_iconst (pc := 132) (z := 1) dX12_attributes_132 ?_
              refine ss_171 (pc := 133) dX12_attributes_133 (A_171 hw) T1205 (rIx (n := 256) h1256.1 rfl) (rW (c := 0) (d := 1) (rR (x := 1)) rfl) fun μ1362 u1363 T1364 => ?_
              refine mr_iload (pc := 134) (z := z1257) dX12_attributes_134 rfl ?_
              refine mr_iconst (pc := 136) (z := 1) dX12_attributes_136 ?_
              have J1371 : ∀ (z1369 : Int), (((-1) ≤ z1369 ∧ z1369 ≤ 192)) → sV (gG l D c H0 sa) mX12_attributes (sRm 4 0 0) (sZ (gG l D c H0 sa) 0 0 (qV w [106093, 106098, 106099, 106101, 126999, 170999, 171999, 172999, 173999] μ (fun μ1 => mG [(961, 1000)] μ μ1 ∧ True))) 177 [(0, .ref 106), (2, iv p2), (3, iv z1201), (6, iv z1252), (7, iv z1257), (8, iv z1262), (9, iv (z1201 + z1231))] [iv z1369] (mk w μ1362) 0 0 := by
                intro z1369 h1370
                refine mr_istore (pc := 177) (lv' := [(10, iv z1369), (0, .ref 106), (2, iv p2), (3, iv z1201), (6, iv z1252), (7, iv z1257), (8, iv z1262), (9, iv (z1201 + z1231))]) dX12_attributes_177 (by decide) rfl ?_
                refine mr_iload (pc := 179) (z := z1369) dX12_attributes_179 rfl ?_
                have J1442 : ∀ (z1435 : Int) (μ1437 : mM), (mT w μ1437) → (mF [106093, 106098, 106099, 106101, 126999, 170999, 173999] w μ1362 μ1437) → (mG [(961, 1000)] μ1362 μ1437) → ((0 ≤ z1435 ∧ z1435 ≤ 1)) → ((3 * μ1437 106 (93) ≤ (z1201 + z1231))) → sV (gG l D c H0 sa) mX12_attributes (sRm 4 0 0) (sZ (gG l D c H0 sa) 0 0 (qV w [106093, 106098, 106099, 106101, 126999, 170999, 171999, 172999, 173999] μ (fun μ1 => mG [(961, 1000)] μ μ1 ∧ True))) 325 [(0, .ref 106), (2, iv p2), (3, iv z1201), (8, iv z1262), (9, iv (z1201 + z1231)), (11, iv z1435)] [] (mk w μ1437) 0 0 := by
                  intro z1435 μ1437 T1438 F1439 G1440 h1436 h1441
                  obtain ⟨z1443, q1444⟩ : ∃ z, μ1437 106 93 = z := ⟨_, rfl⟩
                  have h1445 : (0 ≤ z1443 ∧ z1443 ≤ 400) := by rw [← q1444]; exact T1438 106 106 (A_106 hw) 93
                  have h1446 : 3 * z1443 ≤ (z1201 + z1231) := q1444 ▸ h1441
                  refine mr_iload (pc := 325) (z := z1435) dX12_attributes_325 rfl ?_
                  refine mr_if_ne (pc := 327) (tgt := 336) dX12_attributes_327 (by decide) (r32 h1436 rfl) (fun h1453 => ?_) (fun h1453 => ?_)
                  · have h1454 : 1 ≤ z1435 ∧ z1435 ≤ 1 := (vc_X12_ring_24 h1453 h1436)
                    refine mr_iload (pc := 336) (z := (z1201 + z1231)) dX12_attributes_336 rfl ?_
                    refine mr_iload (pc := 338) (z := z1262) dX12_attributes_338 rfl ?_
                    refine mr_iadd (pc := 340) (x := (z1201 + z1231)) (y := z1262) dX12_attributes_340 ?_
                    refine mr_istore_n (pc := 341) (lv' := [(3, iv ((z1201 + z1231) + z1262)), (0, .ref 106), (2, iv p2), (8, iv z1262), (9, iv (z1201 + z1231)), (11, iv z1435)]) dX12_attributes_341 rfl (by decide) rfl ?_
                    refine sv_goto (pc := 342) (tgt := 2) dX12_attributes_342 (by decide) ?_
                    refine mr_lvS (lv' := [(0, .ref 106), (2, iv p2), (3, iv ((z1201 + z1231) + z1262))]) (List.forall_mem_cons.mpr ⟨rfl, List.forall_mem_cons.mpr ⟨rfl, List.forall_mem_cons.mpr ⟨rfl, fun _ h => absurd h List.not_mem_nil⟩⟩⟩) ?_
                    exact ih1211 ((z1201 + z1231) + z1262) μ1437 z1443 T1438 (mF.call (mF.up (mF.call mF.refl F1206 rfl) (A_171 hw) u1363 rfl) F1439 rfl) (mG.call (mG.upO (mG.call mG.refl G1207 (List.forall_mem_cons.mpr ⟨⟨_, List.mem_cons_self, vc_X12_marksRight_f_4⟩, (fun _ h => absurd h List.not_mem_nil)⟩)) u1363 rfl) G1440 (List.forall_mem_cons.mpr ⟨⟨_, List.mem_cons_self, vc_X12_marksRight_f_4⟩, (fun _ h => absurd h List.not_mem_nil)⟩)) q1444 (vc_X12_attributes_u_16 h1208 h1213 h1234 h1246 (h1261.2.1.trans h1244.2.1.symm) h1446 hq0 h1212 ht_f_size h1240 h1239 h1232 h1247 h1263 h1445) (vc_X12_attributes_u_17 h1208 h1213 h1234 h1246 (h1261.2.1.trans h1244.2.1.symm) h1446 hq0 h1212 ht_f_size h1240 h1239 h1232 h1247 h1263 h1445) (vc_X12_attributes_u_18 (nS h1209) h1208 h1213 h1234 h1246 (h1261.2.1.trans h1244.2.1.symm) h1446 hq0 h1212 ht_f_size h1240 h1239 h1232 h1247 h1263 h1445)
                  have h1455 : 0 ≤ z1435 ∧ z1435 ≤ 0 := (vc_X12_ring_22 h1453 h1436)
                  refine sv_aload_n (pc := 330) dX12_attributes_330 rfl rfl ?_
                  refine mr_iconst (pc := 331) (z := 2) dX12_attributes_331 ?_
                  refine mr_iload_n (pc := 332) (z := z1201) dX12_attributes_332 rfl rfl ?_
                  refine mr_cVV (pc := 333) (c_X12_fails hw T1438 (rW (c := 0) (d := 3) (rR (x := 2)) rfl) (rW (c := (-2147483648)) (d := 2147483647) h1239 rfl)) (gOk _ _ _ _ _) dX12_attributes_333 (tX12_fails _ _ _ _ _) ⟨wV_X12_fails, wL_X12_fails⟩ wM_X12_620 (gCX12 _ _ _ _ _) rfl (A_106 hw) rfl ⟨le_t rfl, le_t rfl⟩ ⟨le_t rfl, le_t rfl⟩ rfl (le_t rfl) fun μ1456 T1457 F1458 h1459 => ?_
                  refine mr_iload (pc := 336) (z := (z1201 + z1231)) dX12_attributes_336 rfl ?_
                  refine mr_iload (pc := 338) (z := z1262) dX12_attributes_338 rfl ?_
                  refine mr_iadd (pc := 340) (x := (z1201 + z1231)) (y := z1262) dX12_attributes_340 ?_
                  refine mr_istore_n (pc := 341) (lv' := [(3, iv ((z1201 + z1231) + z1262)), (0, .ref 106), (2, iv p2), (8, iv z1262), (9, iv (z1201 + z1231)), (11, iv z1435)]) dX12_attributes_341 rfl (by decide) rfl ?_
                  refine sv_goto (pc := 342) (tgt := 2) dX12_attributes_342 (by decide) ?_
                  refine mr_lvS (lv' := [(0, .ref 106), (2, iv p2), (3, iv ((z1201 + z1231) + z1262))]) (List.forall_mem_cons.mpr ⟨rfl, List.forall_mem_cons.mpr ⟨rfl, List.forall_mem_cons.mpr ⟨rfl, fun _ h => absurd h List.not_mem_nil⟩⟩⟩) ?_
                  exact ih1211 ((z1201 + z1231) + z1262) μ1456 z1443 T1457 (mF.call (mF.call (mF.up (mF.call mF.refl F1206 rfl) (A_171 hw) u1363 rfl) F1439 rfl) F1458 rfl) (mG.fr (mG.call (mG.upO (mG.call mG.refl G1207 (List.forall_mem_cons.mpr ⟨⟨_, List.mem_cons_self, vc_X12_marksRight_f_4⟩, (fun _ h => absurd h List.not_mem_nil)⟩)) u1363 rfl) G1440 (List.forall_mem_cons.mpr ⟨⟨_, List.mem_cons_self, vc_X12_marksRight_f_4⟩, (fun _ h => absurd h List.not_mem_nil)⟩)) F1458 (A_126 hw) rfl) (F1458.f (A_106 hw) rfl q1444) (vc_X12_attributes_u_16 h1208 h1213 h1234 h1246 (h1261.2.1.trans h1244.2.1.symm) h1446 hq0 h1212 ht_f_size h1240 h1239 h1232 h1247 h1263 h1445) (vc_X12_attributes_u_17 h1208 h1213 h1234 h1246 (h1261.2.1.trans h1244.2.1.symm) h1446 hq0 h1212 ht_f_size h1240 h1239 h1232 h1247 h1263 h1445) (vc_X12_attributes_u_18 (nS h1209) h1208 h1213 h1234 h1246 (h1261.2.1.trans h1244.2.1.symm) h1446 hq0 h1212 ht_f_size h1240 h1239 h1232 h1247 h1263 h1445)
                refine mr_if_lt (pc := 181) (tgt := 275) dX12_attributes_181 (by decide) (r32 h1370 rfl) (fun h1460 => ?_) (fun h1460 => ?_)
                · have h1461 : (-1) ≤ z1369 ∧ z1369 ≤ (-1) := (vc_X12_attributes_u_20 h1460 h1370)
                  refine mr_iload (pc := 275) (z := z1252) dX12_attributes_275 rfl ?_
                  refine mr_sipush (pc := 277) (z := 128) dX12_attributes_277 (by decide) ?_
                  refine mr_iand (pc := 280) (x := z1252) (y := 128) dX12_attributes_280 ?_
                  refine mr_gen (P := fun z => 0 ≤ z ∧ z ≤ 128) (rAndR (rR (x := 128)) rfl) fun z1462 q1463 h1464 => ?_
                  have J1469 : ∀ (z1467 : Int), ((0 ≤ z1467 ∧ z1467 ≤ 1)) → sV (gG l D c H0 sa) mX12_attributes (sRm 4 0 0) (sZ (gG l D c H0 sa) 0 0 (qV w [106093, 106098, 106099, 106101, 126999, 170999, 171999, 172999, 173999] μ (fun μ1 => mG [(961, 1000)] μ μ1 ∧ True))) 289 [(0, .ref 106), (2, iv p2), (3, iv z1201), (6, iv z1252), (7, iv z1257), (8, iv z1262), (9, iv (z1201 + z1231))] [iv z1467] (mk w μ1362) 0 0 := by
                    intro z1467 h1468
                    refine mr_istore (pc := 289) (lv' := [(11, iv z1467), (0, .ref 106), (2, iv p2), (3, iv z1201), (6, iv z1252), (7, iv z1257), (8, iv z1262), (9, iv (z1201 + z1231))]) dX12_attributes_289 (by decide) rfl ?_
                    refine mr_iload (pc := 291) (z := z1467) dX12_attributes_291 rfl ?_
                    refine mr_if_eq (pc := 293) (tgt := 325) dX12_attributes_293 (by decide) (r32 h1468 rfl) (fun h1470 => ?_) (fun h1470 => ?_)
                    · have h1471 : 0 ≤ z1467 ∧ z1467 ≤ 0 := (vc_X12_ring_22 h1470 h1468)
                      refine mr_lvS (lv' := [(0, .ref 106), (2, iv p2), (3, iv z1201), (8, iv z1262), (9, iv (z1201 + z1231)), (11, iv z1467)]) (List.forall_mem_cons.mpr ⟨rfl, List.forall_mem_cons.mpr ⟨rfl, List.forall_mem_cons.mpr ⟨rfl, List.forall_mem_cons.mpr ⟨rfl, List.forall_mem_cons.mpr ⟨rfl, List.forall_mem_cons.mpr ⟨rfl, fun _ h => absurd h List.not_mem_nil⟩⟩⟩⟩⟩⟩) ?_
                      exact J1442 z1467 μ1362 T1364 mF.refl mG.refl (rW (c := 0) (d := 1) h1471 rfl) (by rw [(u1363.f (Or.inl (mAt.ne (A_171 hw) (A_106 hw) rfl)) q1210)]; exact (vc_X12_attributes_u_22 h1208 h1213 h1234 h1246 hq0 (h1261.2.1.trans h1244.2.1.symm) h1212 ht_f_size h1240 h1239 h1232 h1247 h1263))
                    have h1472 : 1 ≤ z1467 ∧ z1467 ≤ 1 := (vc_X12_ring_24 h1470 h1468)
                    refine mr_iload (pc := 296) (z := z1252) dX12_attributes_296 rfl ?_
                    refine mr_bipush (pc := 298) (z := 64) dX12_attributes_298 (by decide) ?_
                    refine mr_iand (pc := 300) (x := z1252) (y := 64) dX12_attributes_300 ?_
                    refine mr_gen (P := fun z => 0 ≤ z ∧ z ≤ 64) (rAndR (rR (x := 64)) rfl) fun z1473 q1474 h1475 => ?_
                    refine mr_if_eq (pc := 301) (tgt := 325) dX12_attributes_301 (by decide) (r32 h1475 rfl) (fun h1476 => ?_) (fun h1476 => ?_)
                    · have h1477 : 0 ≤ z1473 ∧ z1473 ≤ 0 := (vc_X12_attributes_u_24 h1476 h1475)
                      refine mr_lvS (lv' := [(0, .ref 106), (2, iv p2), (3, iv z1201), (8, iv z1262), (9, iv (z1201 + z1231)), (11, iv z1467)]) (List.forall_mem_cons.mpr ⟨rfl, List.forall_mem_cons.mpr ⟨rfl, List.forall_mem_cons.mpr ⟨rfl, List.forall_mem_cons.mpr ⟨rfl, List.forall_mem_cons.mpr ⟨rfl, List.forall_mem_cons.mpr ⟨rfl, fun _ h => absurd h List.not_mem_nil⟩⟩⟩⟩⟩⟩) ?_
                      exact J1442 z1467 μ1362 T1364 mF.refl mG.refl (rW (c := 0) (d := 1) h1472 rfl) (by rw [(u1363.f (Or.inl (mAt.ne (A_171 hw) (A_106 hw) rfl)) q1210)]; exact (vc_X12_attributes_u_22 h1208 h1213 h1234 h1246 hq0 (h1261.2.1.trans h1244.2.1.symm) h1212 ht_f_size h1240 h1239 h1232 h1247 h1263))
                    have h1478 : 1 ≤ z1473 ∧ z1473 ≤ 64 := (vc_X12_attributes_u_25 h1476 h1475)
                    refine sv_aload_n (pc := 304) dX12_attributes_304 rfl rfl ?_
                    refine gf_X12_92 (pc := 305) dX12_attributes_305 wF_X12_472 (A_106 hw) T1364 ?_
                    refine sv_aload_n (pc := 308) dX12_attributes_308 rfl rfl ?_
                    refine gk_X12_93 (pc := 309) dX12_attributes_309 wF_X12_652 (A_106 hw) (u1363.f (Or.inl (mAt.ne (A_171 hw) (A_106 hw) rfl)) q1210) ?_
                    refine mr_iload (pc := 312) (z := z1257) dX12_attributes_312 rfl ?_
                    refine ss_170 (pc := 314) dX12_attributes_314 (A_170 hw) T1364 (vc_X12_attributes_u_26 h1208 h1213 h1234 h1246 h1212 h1240 h1239 h1232 h1247) (rW (c := (-2147483648)) (d := 2147483647) h1256.1 rfl) fun μ1479 u1480 T1481 => ?_
                    refine sv_aload_n (pc := 315) dX12_attributes_315 rfl rfl ?_
                    refine sv_dup (pc := 316) dX12_attributes_316 rfl ?_
                    refine gk_X12_93 (pc := 317) dX12_attributes_317 wF_X12_652 (A_106 hw) (u1480.f (Or.inl (mAt.ne (A_170 hw) (A_106 hw) rfl)) (u1363.f (Or.inl (mAt.ne (A_171 hw) (A_106 hw) rfl)) q1210)) ?_
                    refine mr_iconst (pc := 320) (z := 1) dX12_attributes_320 ?_
                    refine mr_iadd (pc := 321) (x := f_c) (y := 1) dX12_attributes_321 ?_
                    refine pf_X12_93 (pc := 322) dX12_attributes_322 wF_X12_652 (A_106 hw) T1481 (vc_X12_attributes_u_27 h1208 h1213 h1234 h1246 h1212 h1240 h1239 h1232 h1247) fun μ1482 u1483 T1484 => ?_
                    refine mr_lvS (lv' := [(0, .ref 106), (2, iv p2), (3, iv z1201), (8, iv z1262), (9, iv (z1201 + z1231)), (11, iv z1467)]) (List.forall_mem_cons.mpr ⟨rfl, List.forall_mem_cons.mpr ⟨rfl, List.forall_mem_cons.mpr ⟨rfl, List.forall_mem_cons.mpr ⟨rfl, List.forall_mem_cons.mpr ⟨rfl, List.forall_mem_cons.mpr ⟨rfl, fun _ h => absurd h List.not_mem_nil⟩⟩⟩⟩⟩⟩) ?_
                    exact J1442 z1467 μ1482 T1484 (mF.up (mF.up mF.refl (A_170 hw) u1480 rfl) (A_106 hw) u1483 rfl) (mG.upO (mG.upO mG.refl u1480 rfl) u1483 rfl) (rW (c := 0) (d := 1) h1472 rfl) (by rw [u1483.1]; exact (vc_X12_attributes_u_28 h1208 h1213 h1234 h1246 hq0 (h1261.2.1.trans h1244.2.1.symm) h1212 ht_f_size h1240 h1239 h1232 h1247 h1263))
                  refine mr_if_eq (pc := 281) (tgt := 288) dX12_attributes_281 (by decide) (r32 h1464 rfl) (fun h1485 => ?_) (fun h1485 => ?_)
                  · have h1486 : 0 ≤ z1462 ∧ z1462 ≤ 0 := (vc_X3_readAttribute_20 h1485 h1464)
                    refine mr_iconst (pc := 288) (z := 0) dX12_attributes_288 ?_
                    refine mr_lvS (lv' := [(0, .ref 106), (2, iv p2), (3, iv z1201), (6, iv z1252), (7, iv z1257), (8, iv z1262), (9, iv (z1201 + z1231))]) (List.forall_mem_cons.mpr ⟨rfl, List.forall_mem_cons.mpr ⟨rfl, List.forall_mem_cons.mpr ⟨rfl, List.forall_mem_cons.mpr ⟨rfl, List.forall_mem_cons.mpr ⟨rfl, List.forall_mem_cons.mpr ⟨rfl, List.forall_mem_cons.mpr ⟨rfl, fun _ h => absurd h List.not_mem_nil⟩⟩⟩⟩⟩⟩⟩) ?_
                    exact J1469 0 (rW (c := 0) (d := 1) (rR (x := 0)) rfl)
                  have h1487 : 1 ≤ z1462 ∧ z1462 ≤ 128 := (vc_X3_readAttribute_21 h1485 h1464)
                  refine mr_iconst (pc := 284) (z := 1) dX12_attributes_284 ?_
                  refine sv_goto (pc := 285) (tgt := 289) dX12_attributes_285 (by decide) ?_
                  refine mr_lvS (lv' := [(0, .ref 106), (2, iv p2), (3, iv z1201), (6, iv z1252), (7, iv z1257), (8, iv z1262), (9, iv (z1201 + z1231))]) (List.forall_mem_cons.mpr ⟨rfl, List.forall_mem_cons.mpr ⟨rfl, List.forall_mem_cons.mpr ⟨rfl, List.forall_mem_cons.mpr ⟨rfl, List.forall_mem_cons.mpr ⟨rfl, List.forall_mem_cons.mpr ⟨rfl, List.forall_mem_cons.mpr ⟨rfl, fun _ h => absurd h List.not_mem_nil⟩⟩⟩⟩⟩⟩⟩) ?_
                  exact J1469 1 (rW (c := 0) (d := 1) (rR (x := 1)) rfl)
                have h1488 : 0 ≤ z1369 ∧ z1369 ≤ 192 := (vc_X12_attributes_u_31 h1460 h1370)
                refine mr_iload (pc := 184) (z := z1252) dX12_attributes_184 rfl ?_
                refine mr_bipush (pc := 186) (z := (-49)) dX12_attributes_186 (by decide) ?_
                refine mr_iand (pc := 188) (x := z1252) (y := (-49)) dX12_attributes_188 ?_
                refine mr_gen (P := fun z => 0 ≤ z ∧ z ≤ 255) (rAndL h1251.1 rfl) fun z1489 q1490 h1491 => ?_
                refine mr_iload (pc := 189) (z := z1369) dX12_attributes_189 rfl ?_
                have J1530 : ∀ (z1524 : Int) (μ1526 : mM), (mT w μ1526) → (mF [106098, 106099, 106101, 126999, 173999] w μ1362 μ1526) → (mG [(961, 1000)] μ1362 μ1526) → ((0 ≤ z1524 ∧ z1524 ≤ 1)) → sV (gG l D c H0 sa) mX12_attributes (sRm 4 0 0) (sZ (gG l D c H0 sa) 0 0 (qV w [106093, 106098, 106099, 106101, 126999, 170999, 171999, 172999, 173999] μ (fun μ1 => mG [(961, 1000)] μ μ1 ∧ True))) 270 [(0, .ref 106), (2, iv p2), (3, iv z1201), (8, iv z1262), (9, iv (z1201 + z1231))] [iv z1524] (mk w μ1526) 0 0 := by
                  intro z1524 μ1526 T1527 F1528 G1529 h1525
                  refine mr_istore (pc := 270) (lv' := [(11, iv z1524), (0, .ref 106), (2, iv p2), (3, iv z1201), (8, iv z1262), (9, iv (z1201 + z1231))]) dX12_attributes_270 (by decide) rfl ?_
                  refine sv_goto (pc := 272) (tgt := 325) dX12_attributes_272 (by decide) ?_
                  refine mr_lvS (lv' := [(0, .ref 106), (2, iv p2), (3, iv z1201), (8, iv z1262), (9, iv (z1201 + z1231)), (11, iv z1524)]) (List.forall_mem_cons.mpr ⟨rfl, List.forall_mem_cons.mpr ⟨rfl, List.forall_mem_cons.mpr ⟨rfl, List.forall_mem_cons.mpr ⟨rfl, List.forall_mem_cons.mpr ⟨rfl, List.forall_mem_cons.mpr ⟨rfl, fun _ h => absurd h List.not_mem_nil⟩⟩⟩⟩⟩⟩) ?_
                  exact J1442 z1524 μ1526 T1527 (mF.call mF.refl F1528 rfl) (mG.call mG.refl G1529 (List.forall_mem_cons.mpr ⟨⟨_, List.mem_cons_self, vc_X12_marksRight_f_4⟩, (fun _ h => absurd h List.not_mem_nil)⟩)) h1525 (by rw [(F1528.f (A_106 hw) rfl (u1363.f (Or.inl (mAt.ne (A_171 hw) (A_106 hw) rfl)) q1210))]; exact (vc_X12_attributes_u_22 h1208 h1213 h1234 h1246 hq0 (h1261.2.1.trans h1244.2.1.symm) h1212 ht_f_size h1240 h1239 h1232 h1247 h1263))
                refine mr_icmp_ne (pc := 191) (tgt := 269) dX12_attributes_191 (by decide) (r32 h1491 rfl) (r32 h1488 rfl) (fun h1531 => ?_) (fun h1531 => ?_)
                · refine mr_iconst (pc := 269) (z := 0) dX12_attributes_269 ?_
                  refine mr_lvS (lv' := [(0, .ref 106), (2, iv p2), (3, iv z1201), (8, iv z1262), (9, iv (z1201 + z1231))]) (List.forall_mem_cons.mpr ⟨rfl, List.forall_mem_cons.mpr ⟨rfl, List.forall_mem_cons.mpr ⟨rfl, List.forall_mem_cons.mpr ⟨rfl, List.forall_mem_cons.mpr ⟨rfl, fun _ h => absurd h List.not_mem_nil⟩⟩⟩⟩⟩) ?_
                  exact J1530 0 μ1362 T1364 mF.refl mG.refl (rW (c := 0) (d := 1) (rR (x := 0)) rfl)
                have h1532 : 0 ≤ z1489 ∧ z1489 ≤ 192 := (vc_X12_attributes_u_32 h1531 h1460 h1488 h1491)
                refine mr_iload (pc := 194) (z := z1257) dX12_attributes_194 rfl ?_
                refine mr_iconst (pc := 196) (z := 1) dX12_attributes_196 ?_
                refine mr_icmp_ne (pc := 197) (tgt := 214) dX12_attributes_197 (by decide) (r32 h1256.1 rfl) (r32 (rR (x := 1)) rfl) (fun h1533 => ?_) (fun h1533 => ?_)
                · refine mr_iload (pc := 214) (z := z1257) dX12_attributes_214 rfl ?_
                  refine mr_iconst (pc := 216) (z := 2) dX12_attributes_216 ?_
                  refine mr_icmp_ne (pc := 217) (tgt := 234) dX12_attributes_217 (by decide) (r32 h1256.1 rfl) (r32 (rR (x := 2)) rfl) (fun h1534 => ?_) (fun h1534 => ?_)
                  · refine mr_iload (pc := 234) (z := z1257) dX12_attributes_234 rfl ?_
                    refine mr_iconst (pc := 236) (z := 4) dX12_attributes_236 ?_
                    refine mr_icmp_ne (pc := 237) (tgt := 254) dX12_attributes_237 (by decide) (r32 h1256.1 rfl) (r32 (rR (x := 4)) rfl) (fun h1535 => ?_) (fun h1535 => ?_)
                    · refine sv_aload_n (pc := 254) dX12_attributes_254 rfl rfl ?_
                      refine mr_iload (pc := 255) (z := (z1201 + z1231)) dX12_attributes_255 rfl ?_
                      refine mr_iload (pc := 257) (z := z1262) dX12_attributes_257 rfl ?_
                      refine mr_cVI (pc := 259) (c_X12_marksRight_f hw T1364 (vc_X12_attributes_u_33 h1208 h1213 h1234 h1246 hq0 (h1261.2.1.trans h1244.2.1.symm) h1212 ht_f_size h1240 h1239 h1232 h1247 h1263) (rW (c := 0) (d := 1000) h1263 rfl) (u1363.f (Or.inl (mAt.ne (A_171 hw) (A_106 hw) rfl)) (F1206.f (A_106 hw) rfl q_f_size)) (vc_X12_attributes_u_34 hq0 h1208 h1213 h1234 h1246 (h1261.2.1.trans h1244.2.1.symm) h1212 ht_f_size h1240 h1239 h1232 h1247 h1263)) (gOk _ _ _ _ _) dX12_attributes_259 (tX12_marksRight _ _ _ _ _) ⟨wV_X12_marksRight, wL_X12_marksRight⟩ wM_X12_649 (gCX12 _ _ _ _ _) rfl (A_106 hw) rfl ⟨le_t rfl, le_t rfl⟩ ⟨le_t rfl, le_t rfl⟩ rfl (le_t rfl) fun z1540 μ1536 T1537 F1538 h1539 => ?_
                      refine mr_if_eq (pc := 262) (tgt := 269) dX12_attributes_262 (by decide) (r32 h1539.1 rfl) (fun h1541 => ?_) (fun h1541 => ?_)
                      · have h1542 : 0 ≤ z1540 ∧ z1540 ≤ 0 := (vc_X12_ring_22 h1541 h1539.1)
                        refine mr_iconst (pc := 269) (z := 0) dX12_attributes_269 ?_
                        refine mr_lvS (lv' := [(0, .ref 106), (2, iv p2), (3, iv z1201), (8, iv z1262), (9, iv (z1201 + z1231))]) (List.forall_mem_cons.mpr ⟨rfl, List.forall_mem_cons.mpr ⟨rfl, List.forall_mem_cons.mpr ⟨rfl, List.forall_mem_cons.mpr ⟨rfl, List.forall_mem_cons.mpr ⟨rfl, fun _ h => absurd h List.not_mem_nil⟩⟩⟩⟩⟩) ?_
                        exact J1530 0 μ1536 T1537 (mF.call mF.refl F1538 rfl) (mG.call mG.refl h1539.2.1 (List.forall_mem_cons.mpr ⟨⟨_, List.mem_cons_self, vc_X12_marksRight_f_4⟩, (fun _ h => absurd h List.not_mem_nil)⟩)) (rW (c := 0) (d := 1) (rR (x := 0)) rfl)
                      have h1543 : 1 ≤ z1540 ∧ z1540 ≤ 1 := (vc_X12_ring_24 h1541 h1539.1)
                      refine mr_iconst (pc := 265) (z := 1) dX12_attributes_265 ?_
                      refine sv_goto (pc := 266) (tgt := 270) dX12_attributes_266 (by decide) ?_
                      refine mr_lvS (lv' := [(0, .ref 106), (2, iv p2), (3, iv z1201), (8, iv z1262), (9, iv (z1201 + z1231))]) (List.forall_mem_cons.mpr ⟨rfl, List.forall_mem_cons.mpr ⟨rfl, List.forall_mem_cons.mpr ⟨rfl, List.forall_mem_cons.mpr ⟨rfl, List.forall_mem_cons.mpr ⟨rfl, fun _ h => absurd h List.not_mem_nil⟩⟩⟩⟩⟩) ?_
                      exact J1530 1 μ1536 T1537 (mF.call mF.refl F1538 rfl) (mG.call mG.refl h1539.2.1 (List.forall_mem_cons.mpr ⟨⟨_, List.mem_cons_self, vc_X12_marksRight_f_4⟩, (fun _ h => absurd h List.not_mem_nil)⟩)) (rW (c := 0) (d := 1) (rR (x := 1)) rfl)
                    have h1544 : 4 ≤ z1257 ∧ z1257 ≤ 4 := (vc_X12_attributes_u_37 h1535 h1533 h1534 h1256.1)
                    refine sv_aload_n (pc := 240) dX12_attributes_240 rfl rfl ?_
                    refine mr_iload (pc := 241) (z := (z1201 + z1231)) dX12_attributes_241 rfl ?_
                    refine mr_iload (pc := 243) (z := z1262) dX12_attributes_243 rfl ?_
                    refine mr_cVI (pc := 245) (c_X12_costRight_f hw T1364 (vc_X12_attributes_u_33 h1208 h1213 h1234 h1246 hq0 (h1261.2.1.trans h1244.2.1.symm) h1212 ht_f_size h1240 h1239 h1232 h1247 h1263) (rW (c := 0) (d := 1000) h1263 rfl) (u1363.f (Or.inl (mAt.ne (A_171 hw) (A_106 hw) rfl)) (F1206.f (A_106 hw) rfl q_f_size)) (vc_X12_attributes_u_34 hq0 h1208 h1213 h1234 h1246 (h1261.2.1.trans h1244.2.1.symm) h1212 ht_f_size h1240 h1239 h1232 h1247 h1263)) (gOk _ _ _ _ _) dX12_attributes_245 (tX12_costRight _ _ _ _ _) ⟨wV_X12_costRight, wL_X12_costRight⟩ wM_X12_646 (gCX12 _ _ _ _ _) rfl (A_106 hw) rfl ⟨le_t rfl, le_t rfl⟩ ⟨le_t rfl, le_t rfl⟩ rfl (le_t rfl) fun z1549 μ1545 T1546 F1547 h1548 => ?_
                    refine mr_if_eq (pc := 248) (tgt := 269) dX12_attributes_248 (by decide) (r32 h1548.1 rfl) (fun h1550 => ?_) (fun h1550 => ?_)
                    · have h1551 : 0 ≤ z1549 ∧ z1549 ≤ 0 := (vc_X12_ring_22 h1550 h1548.1)
                      refine mr_iconst (pc := 269) (z := 0) dX12_attributes_269 ?_
                      refine mr_lvS (lv' := [(0, .ref 106), (2, iv p2), (3, iv z1201), (8, iv z1262), (9, iv (z1201 + z1231))]) (List.forall_mem_cons.mpr ⟨rfl, List.forall_mem_cons.mpr ⟨rfl, List.forall_mem_cons.mpr ⟨rfl, List.forall_mem_cons.mpr ⟨rfl, List.forall_mem_cons.mpr ⟨rfl, fun _ h => absurd h List.not_mem_nil⟩⟩⟩⟩⟩) ?_
                      exact J1530 0 μ1545 T1546 (mF.call mF.refl F1547 rfl) (mG.call mG.refl h1548.2.1 (List.forall_mem_cons.mpr ⟨⟨_, List.mem_cons_self, vc_X12_attributes_u_39⟩, (fun _ h => absurd h List.not_mem_nil)⟩)) (rW (c := 0) (d := 1) (rR (x := 0)) rfl)
                    have h1552 : 1 ≤ z1549 ∧ z1549 ≤ 1 := (vc_X12_ring_24 h1550 h1548.1)
                    refine sv_goto (pc := 251) (tgt := 265) dX12_attributes_251 (by decide) ?_
                    refine mr_iconst (pc := 265) (z := 1) dX12_attributes_265 ?_
                    refine sv_goto (pc := 266) (tgt := 270) dX12_attributes_266 (by decide) ?_
                    refine mr_lvS (lv' := [(0, .ref 106), (2, iv p2), (3, iv z1201), (8, iv z1262), (9, iv (z1201 + z1231))]) (List.forall_mem_cons.mpr ⟨rfl, List.forall_mem_cons.mpr ⟨rfl, List.forall_mem_cons.mpr ⟨rfl, List.forall_mem_cons.mpr ⟨rfl, List.forall_mem_cons.mpr ⟨rfl, fun _ h => absurd h List.not_mem_nil⟩⟩⟩⟩⟩) ?_
                    exact J1530 1 μ1545 T1546 (mF.call mF.refl F1547 rfl) (mG.call mG.refl h1548.2.1 (List.forall_mem_cons.mpr ⟨⟨_, List.mem_cons_self, vc_X12_attributes_u_39⟩, (fun _ h => absurd h List.not_mem_nil)⟩)) (rW (c := 0) (d := 1) (rR (x := 1)) rfl)
                  have h1553 : 2 ≤ z1257 ∧ z1257 ≤ 2 := (vc_X3_readAttribute_10 h1534 h1533 h1256.1)
                  refine sv_aload_n (pc := 220) dX12_attributes_220 rfl rfl ?_
                  refine mr_iload (pc := 221) (z := (z1201 + z1231)) dX12_attributes_221 rfl ?_
                  refine mr_iload (pc := 223) (z := z1262) dX12_attributes_223 rfl ?_
                  refine mr_cVI (pc := 225) (c_X12_wayRight hw T1364 (vc_X12_attributes_u_33 h1208 h1213 h1234 h1246 hq0 (h1261.2.1.trans h1244.2.1.symm) h1212 ht_f_size h1240 h1239 h1232 h1247 h1263) (rW (c := 0) (d := 1000) h1263 rfl) (u1363.f (Or.inl (mAt.ne (A_171 hw) (A_106 hw) rfl)) (F1206.f (A_106 hw) rfl q_f_size)) (vc_X12_attributes_u_34 hq0 h1208 h1213 h1234 h1246 (h1261.2.1.trans h1244.2.1.symm) h1212 ht_f_size h1240 h1239 h1232 h1247 h1263)) (gOk _ _ _ _ _) dX12_attributes_225 (tX12_wayRight _ _ _ _ _) ⟨wV_X12_wayRight, wL_X12_wayRight⟩ wM_X12_643 (gCX12 _ _ _ _ _) rfl (A_106 hw) rfl ⟨le_t rfl, le_t rfl⟩ ⟨le_t rfl, le_t rfl⟩ rfl (le_t rfl) fun z1558 μ1554 T1555 F1556 h1557 => ?_
                  refine mr_if_eq (pc := 228) (tgt := 269) dX12_attributes_228 (by decide) (r32 h1557.1 rfl) (fun h1559 => ?_) (fun h1559 => ?_)
                  · have h1560 : 0 ≤ z1558 ∧ z1558 ≤ 0 := (vc_X12_ring_22 h1559 h1557.1)
                    refine mr_iconst (pc := 269) (z := 0) dX12_attributes_269 ?_
                    refine mr_lvS (lv' := [(0, .ref 106), (2, iv p2), (3, iv z1201), (8, iv z1262), (9, iv (z1201 + z1231))]) (List.forall_mem_cons.mpr ⟨rfl, List.forall_mem_cons.mpr ⟨rfl, List.forall_mem_cons.mpr ⟨rfl, List.forall_mem_cons.mpr ⟨rfl, List.forall_mem_cons.mpr ⟨rfl, fun _ h => absurd h List.not_mem_nil⟩⟩⟩⟩⟩) ?_
                    exact J1530 0 μ1554 T1555 (mF.call mF.refl F1556 rfl) (mG.call mG.refl h1557.2.1 (List.forall_mem_cons.mpr ⟨⟨_, List.mem_cons_self, vc_X12_attributes_u_43⟩, (fun _ h => absurd h List.not_mem_nil)⟩)) (rW (c := 0) (d := 1) (rR (x := 0)) rfl)
                  have h1561 : 1 ≤ z1558 ∧ z1558 ≤ 1 := (vc_X12_ring_24 h1559 h1557.1)
                  refine sv_goto (pc := 231) (tgt := 265) dX12_attributes_231 (by decide) ?_
                  refine mr_iconst (pc := 265) (z := 1) dX12_attributes_265 ?_
                  refine sv_goto (pc := 266) (tgt := 270) dX12_attributes_266 (by decide) ?_
                  refine mr_lvS (lv' := [(0, .ref 106), (2, iv p2), (3, iv z1201), (8, iv z1262), (9, iv (z1201 + z1231))]) (List.forall_mem_cons.mpr ⟨rfl, List.forall_mem_cons.mpr ⟨rfl, List.forall_mem_cons.mpr ⟨rfl, List.forall_mem_cons.mpr ⟨rfl, List.forall_mem_cons.mpr ⟨rfl, fun _ h => absurd h List.not_mem_nil⟩⟩⟩⟩⟩) ?_
                  exact J1530 1 μ1554 T1555 (mF.call mF.refl F1556 rfl) (mG.call mG.refl h1557.2.1 (List.forall_mem_cons.mpr ⟨⟨_, List.mem_cons_self, vc_X12_attributes_u_43⟩, (fun _ h => absurd h List.not_mem_nil)⟩)) (rW (c := 0) (d := 1) (rR (x := 1)) rfl)
                have h1562 : 1 ≤ z1257 ∧ z1257 ≤ 1 := (vc_X12_wayRight_28 h1533 h1256.1)
                refine sv_aload_n (pc := 200) dX12_attributes_200 rfl rfl ?_
                refine mr_iload (pc := 201) (z := (z1201 + z1231)) dX12_attributes_201 rfl ?_
                refine mr_iload (pc := 203) (z := z1262) dX12_attributes_203 rfl ?_
                refine mr_cVI (pc := 205) (c_X12_originRight_f hw T1364 (vc_X12_attributes_u_33 h1208 h1213 h1234 h1246 hq0 (h1261.2.1.trans h1244.2.1.symm) h1212 ht_f_size h1240 h1239 h1232 h1247 h1263) (rW (c := 0) (d := 1000) h1263 rfl) (u1363.f (Or.inl (mAt.ne (A_171 hw) (A_106 hw) rfl)) (F1206.f (A_106 hw) rfl q_f_size)) (vc_X12_attributes_u_34 hq0 h1208 h1213 h1234 h1246 (h1261.2.1.trans h1244.2.1.symm) h1212 ht_f_size h1240 h1239 h1232 h1247 h1263)) (gOk _ _ _ _ _) dX12_attributes_205 (tX12_originRight _ _ _ _ _) ⟨wV_X12_originRight, wL_X12_originRight⟩ wM_X12_640 (gCX12 _ _ _ _ _) rfl (A_106 hw) rfl ⟨le_t rfl, le_t rfl⟩ ⟨le_t rfl, le_t rfl⟩ rfl (le_t rfl) fun z1567 μ1563 T1564 F1565 h1566 => ?_
                refine mr_if_eq (pc := 208) (tgt := 269) dX12_attributes_208 (by decide) (r32 h1566.1 rfl) (fun h1568 => ?_) (fun h1568 => ?_)
                · have h1569 : 0 ≤ z1567 ∧ z1567 ≤ 0 := (vc_X12_ring_22 h1568 h1566.1)
                  refine mr_iconst (pc := 269) (z := 0) dX12_attributes_269 ?_
                  refine mr_lvS (lv' := [(0, .ref 106), (2, iv p2), (3, iv z1201), (8, iv z1262), (9, iv (z1201 + z1231))]) (List.forall_mem_cons.mpr ⟨rfl, List.forall_mem_cons.mpr ⟨rfl, List.forall_mem_cons.mpr ⟨rfl, List.forall_mem_cons.mpr ⟨rfl, List.forall_mem_cons.mpr ⟨rfl, fun _ h => absurd h List.not_mem_nil⟩⟩⟩⟩⟩) ?_
                  exact J1530 0 μ1563 T1564 (mF.call mF.refl F1565 rfl) (mG.call mG.refl h1566.2.1 (List.forall_mem_cons.mpr ⟨⟨_, List.mem_cons_self, vc_X12_attributes_u_47⟩, (fun _ h => absurd h List.not_mem_nil)⟩)) (rW (c := 0) (d := 1) (rR (x := 0)) rfl)
                have h1570 : 1 ≤ z1567 ∧ z1567 ≤ 1 := (vc_X12_ring_24 h1568 h1566.1)
                refine sv_goto (pc := 211) (tgt := 265) dX12_attributes_211 (by decide) ?_
                refine mr_iconst (pc := 265) (z := 1) dX12_attributes_265 ?_
                refine sv_goto (pc := 266) (tgt := 270) dX12_attributes_266 (by decide) ?_
                refine mr_lvS (lv' := [(0, .ref 106), (2, iv p2), (3, iv z1201), (8, iv z1262), (9, iv (z1201 + z1231))]) (List.forall_mem_cons.mpr ⟨rfl, List.forall_mem_cons.mpr ⟨rfl, List.forall_mem_cons.mpr ⟨rfl, List.forall_mem_cons.mpr ⟨rfl, List.forall_mem_cons.mpr ⟨rfl, fun _ h => absurd h List.not_mem_nil⟩⟩⟩⟩⟩) ?_
                exact J1530 1 μ1563 T1564 (mF.call mF.refl F1565 rfl) (mG.call mG.refl h1566.2.1 (List.forall_mem_cons.mpr ⟨⟨_, List.mem_cons_self, vc_X12_attributes_u_47⟩, (fun _ h => absurd h List.not_mem_nil)⟩)) (rW (c := 0) (d := 1) (rR (x := 1)) rfl)
              refine mr_icmp_eq (pc := 137) (tgt := 146) dX12_attributes_137 (by decide) (r32 h1256.1 rfl) (r32 (rR (x := 1)) rfl) (fun h1571 => ?_) (fun h1571 => ?_)
              · have h1572 : 1 ≤ z1257 ∧ z1257 ≤ 1 := (vc_X12_wayRight_28 h1571 h1256.1)
                refine mr_bipush (pc := 146) (z := 64) dX12_attributes_146 (by decide) ?_
                refine sv_goto (pc := 148) (tgt := 177) dX12_attributes_148 (by decide) ?_
                refine mr_lvS (lv' := [(0, .ref 106), (2, iv p2), (3, iv z1201), (6, iv z1252), (7, iv z1257), (8, iv z1262), (9, iv (z1201 + z1231))]) (List.forall_mem_cons.mpr ⟨rfl, List.forall_mem_cons.mpr ⟨rfl, List.forall_mem_cons.mpr ⟨rfl, List.forall_mem_cons.mpr ⟨rfl, List.forall_mem_cons.mpr ⟨rfl, List.forall_mem_cons.mpr ⟨rfl, List.forall_mem_cons.mpr ⟨rfl, fun _ h => absurd h List.not_mem_nil⟩⟩⟩⟩⟩⟩⟩) ?_
                exact J1371 64 (rW (c := (-1)) (d := 192) (rR (x := 64)) rfl)
              refine mr_iload (pc := 140) (z := z1257) dX12_attributes_140 rfl ?_
              refine mr_iconst (pc := 142) (z := 2) dX12_attributes_142 ?_
              refine mr_icmp_ne (pc := 143) (tgt := 151) dX12_attributes_143 (by decide) (r32 h1256.1 rfl) (r32 (rR (x := 2)) rfl) (fun h1573 => ?_) (fun h1573 => ?_)
              · refine mr_iload (pc := 151) (z := z1257) dX12_attributes_151 rfl ?_
                refine mr_iconst (pc := 153) (z := 4) dX12_attributes_153 ?_
                refine mr_icmp_ne (pc := 154) (tgt := 163) dX12_attributes_154 (by decide) (r32 h1256.1 rfl) (r32 (rR (x := 4)) rfl) (fun h1574 => ?_) (fun h1574 => ?_)
                · refine mr_iload (pc := 163) (z := z1257) dX12_attributes_163 rfl ?_
                  refine mr_bipush (pc := 165) (z := 8) dX12_attributes_165 (by decide) ?_
                  refine mr_icmp_ne (pc := 167) (tgt := 176) dX12_attributes_167 (by decide) (r32 h1256.1 rfl) (r32 (rR (x := 8)) rfl) (fun h1575 => ?_) (fun h1575 => ?_)
                  · refine mr_iconst (pc := 176) (z := (-1)) dX12_attributes_176 ?_
                    refine mr_lvS (lv' := [(0, .ref 106), (2, iv p2), (3, iv z1201), (6, iv z1252), (7, iv z1257), (8, iv z1262), (9, iv (z1201 + z1231))]) (List.forall_mem_cons.mpr ⟨rfl, List.forall_mem_cons.mpr ⟨rfl, List.forall_mem_cons.mpr ⟨rfl, List.forall_mem_cons.mpr ⟨rfl, List.forall_mem_cons.mpr ⟨rfl, List.forall_mem_cons.mpr ⟨rfl, List.forall_mem_cons.mpr ⟨rfl, fun _ h => absurd h List.not_mem_nil⟩⟩⟩⟩⟩⟩⟩) ?_
                    exact J1371 (-1) (rW (c := (-1)) (d := 192) (rR (x := (-1))) rfl)
                  have h1576 : 8 ≤ z1257 ∧ z1257 ≤ 8 := (vc_X12_attributes_u_49 h1575 h1571 h1573 h1574 h1256.1)
                  refine mr_sipush (pc := 170) (z := 192) dX12_attributes_170 (by decide) ?_
                  refine sv_goto (pc := 173) (tgt := 177) dX12_attributes_173 (by decide) ?_
                  refine mr_lvS (lv' := [(0, .ref 106), (2, iv p2), (3, iv z1201), (6, iv z1252), (7, iv z1257), (8, iv z1262), (9, iv (z1201 + z1231))]) (List.forall_mem_cons.mpr ⟨rfl, List.forall_mem_cons.mpr ⟨rfl, List.forall_mem_cons.mpr ⟨rfl, List.forall_mem_cons.mpr ⟨rfl, List.forall_mem_cons.mpr ⟨rfl, List.forall_mem_cons.mpr ⟨rfl, List.forall_mem_cons.mpr ⟨rfl, fun _ h => absurd h List.not_mem_nil⟩⟩⟩⟩⟩⟩⟩) ?_
                  exact J1371 192 (rW (c := (-1)) (d := 192) (rR (x := 192)) rfl)
                have h1577 : 4 ≤ z1257 ∧ z1257 ≤ 4 := (vc_X12_attributes_u_37 h1574 h1571 h1573 h1256.1)
                refine mr_sipush (pc := 157) (z := 128) dX12_attributes_157 (by decide) ?_
                refine sv_goto (pc := 160) (tgt := 177) dX12_attributes_160 (by decide) ?_
                refine mr_lvS (lv' := [(0, .ref 106), (2, iv p2), (3, iv z1201), (6, iv z1252), (7, iv z1257), (8, iv z1262), (9, iv (z1201 + z1231))]) (List.forall_mem_cons.mpr ⟨rfl, List.forall_mem_cons.mpr ⟨rfl, List.forall_mem_cons.mpr ⟨rfl, List.forall_mem_cons.mpr ⟨rfl, List.forall_mem_cons.mpr ⟨rfl, List.forall_mem_cons.mpr ⟨rfl, List.forall_mem_cons.mpr ⟨rfl, fun _ h => absurd h List.not_mem_nil⟩⟩⟩⟩⟩⟩⟩) ?_
                exact J1371 128 (rW (c := (-1)) (d := 192) (rR (x := 128)) rfl)
              have h1578 : 2 ≤ z1257 ∧ z1257 ≤ 2 := (vc_X3_readAttribute_10 h1573 h1571 h1256.1)
              refine mr_bipush (pc := 146) (z := 64) dX12_attributes_146 (by decide) ?_
              refine sv_goto (pc := 148) (tgt := 177) dX12_attributes_148 (by decide) ?_
              refine mr_lvS (lv' := [(0, .ref 106), (2, iv p2), (3, iv z1201), (6, iv z1252), (7, iv z1257), (8, iv z1262), (9, iv (z1201 + z1231))]) (List.forall_mem_cons.mpr ⟨rfl, List.forall_mem_cons.mpr ⟨rfl, List.forall_mem_cons.mpr ⟨rfl, List.forall_mem_cons.mpr ⟨rfl, List.forall_mem_cons.mpr ⟨rfl, List.forall_mem_cons.mpr ⟨rfl, List.forall_mem_cons.mpr ⟨rfl, fun _ h => absurd h List.not_mem_nil⟩⟩⟩⟩⟩⟩⟩) ?_
              exact J1371 64 (rW (c := (-1)) (d := 192) (rR (x := 64)) rfl)
            have h1579 : 1 ≤ z1264 ∧ z1264 ≤ 1 := (vc_X12_ring_24 h1360 h1266)
            refine sv_aload_n (pc := 117) dX12_attributes_117 rfl rfl ?_
            refine mr_iconst (pc := 118) (z := 3) dX12_attributes_118 ?_
            refine mr_iload_n (pc := 119) (z := z1201) dX12_attributes_119 rfl rfl ?_
            refine mr_cVV (pc := 120) (c_X12_fails hw T1205 (rW (c := 0) (d := 3) (rR (x := 3)) rfl) (rW (c := (-2147483648)) (d := 2147483647) h1239 rfl)) (gOk _ _ _ _ _) dX12_attributes_120 (tX12_fails _ _ _ _ _) ⟨wV_X12_fails, wL_X12_fails⟩ wM_X12_620 (gCX12 _ _ _ _ _) rfl (A_106 hw) rfl ⟨le_t rfl, le_t rfl⟩ ⟨le_t rfl, le_t rfl⟩ rfl (le_t rfl) fun μ1580 T1581 F1582 h1583 => ?_
            refine sv_goto (pc := 123) (tgt := 336) dX12_attributes_123 (by decide) ?_
            refine mr_iload (pc := 336) (z := (z1201 + z1231)) dX12_attributes_336 rfl ?_
            refine mr_iload (pc := 338) (z := z1262) dX12_attributes_338 rfl ?_
            refine mr_iadd (pc := 340) (x := (z1201 + z1231)) (y := z1262) dX12_attributes_340 ?_
            refine mr_istore_n (pc := 341) (lv' := [(3, iv ((z1201 + z1231) + z1262)), (9, iv (z1201 + z1231)), (8, iv z1262), (7, iv z1257), (6, iv z1252), (5, iv z1231), (0, .ref 106), (2, iv p2)]) dX12_attributes_341 rfl (by decide) rfl ?_
            refine sv_goto (pc := 342) (tgt := 2) dX12_attributes_342 (by decide) ?_
            refine mr_lvS (lv' := [(0, .ref 106), (2, iv p2), (3, iv ((z1201 + z1231) + z1262))]) (List.forall_mem_cons.mpr ⟨rfl, List.forall_mem_cons.mpr ⟨rfl, List.forall_mem_cons.mpr ⟨rfl, fun _ h => absurd h List.not_mem_nil⟩⟩⟩) ?_
            exact ih1211 ((z1201 + z1231) + z1262) μ1580 f_c T1581 (mF.call (mF.call mF.refl F1206 rfl) F1582 rfl) (mG.fr (mG.call mG.refl G1207 (List.forall_mem_cons.mpr ⟨⟨_, List.mem_cons_self, vc_X12_marksRight_f_4⟩, (fun _ h => absurd h List.not_mem_nil)⟩)) F1582 (A_126 hw) rfl) (F1582.f (A_106 hw) rfl q1210) (vc_X12_attributes_u_51 h1208 h1213 h1234 h1246 (h1261.2.1.trans h1244.2.1.symm) hq0 h1212 ht_f_size h1240 h1239 h1232 h1247 h1263) (vc_X12_attributes_u_52 h1208 h1213 h1234 h1246 (h1261.2.1.trans h1244.2.1.symm) hq0 h1212 ht_f_size h1240 h1239 h1232 h1247 h1263) (vc_X12_attributes_u_53 (nS h1209) h1208 h1213 h1234 h1246 (h1261.2.1.trans h1244.2.1.symm) hq0 h1212 ht_f_size h1240 h1239 h1232 h1247 h1263)
          refine sv_aload_n (pc := 65) dX12_attributes_65 rfl rfl ?_
          refine mr_iconst (pc := 66) (z := 2) dX12_attributes_66 ?_
          refine mr_iload_n (pc := 67) (z := z1201) dX12_attributes_67 rfl rfl ?_
          refine mr_cVV (pc := 68) (c_X12_fails hw T1205 (rW (c := 0) (d := 3) (rR (x := 2)) rfl) (rW (c := (-2147483648)) (d := 2147483647) h1239 rfl)) (gOk _ _ _ _ _) dX12_attributes_68 (tX12_fails _ _ _ _ _) ⟨wV_X12_fails, wL_X12_fails⟩ wM_X12_620 (gCX12 _ _ _ _ _) rfl (A_106 hw) rfl ⟨le_t rfl, le_t rfl⟩ ⟨le_t rfl, le_t rfl⟩ rfl (le_t rfl) fun μ1584 T1585 F1586 h1587 => ?_
          exact mr_vret dX12_attributes_71 rfl (le_t rfl) (le_t rfl) T1585 (mF.call (mF.call mF.refl F1206 rfl) F1586 rfl) ⟨(mG.fr (mG.call mG.refl G1207 (List.forall_mem_cons.mpr ⟨⟨_, List.mem_cons_self, vc_X12_marksRight_f_4⟩, (fun _ h => absurd h List.not_mem_nil)⟩)) F1586 (A_126 hw) rfl), trivial⟩
        refine mr_if_eq (pc := 27) (tgt := 34) dX12_attributes_27 (by decide) (r32 h1227 rfl) (fun h1588 => ?_) (fun h1588 => ?_)
        · have h1589 : 0 ≤ z1226 ∧ z1226 ≤ 0 := (vc_X12_ring_22 h1588 h1227)
          refine mr_iconst (pc := 34) (z := 3) dX12_attributes_34 ?_
          refine mr_lvS (lv' := [(0, .ref 106), (2, iv p2), (3, iv z1201)]) (List.forall_mem_cons.mpr ⟨rfl, List.forall_mem_cons.mpr ⟨rfl, List.forall_mem_cons.mpr ⟨rfl, fun _ h => absurd h List.not_mem_nil⟩⟩⟩) ?_
          exact J1233 3 (rW (c := 3) (d := 4) (rR (x := 3)) rfl)
        have h1590 : 1 ≤ z1226 ∧ z1226 ≤ 1 := (vc_X12_ring_24 h1588 h1227)
        refine mr_iconst (pc := 30) (z := 4) dX12_attributes_30 ?_
        refine sv_goto (pc := 31) (tgt := 35) dX12_attributes_31 (by decide) ?_
        refine mr_lvS (lv' := [(0, .ref 106), (2, iv p2), (3, iv z1201)]) (List.forall_mem_cons.mpr ⟨rfl, List.forall_mem_cons.mpr ⟨rfl, List.forall_mem_cons.mpr ⟨rfl, fun _ h => absurd h List.not_mem_nil⟩⟩⟩) ?_
        exact J1233 4 (rW (c := 3) (d := 4) (rR (x := 4)) rfl)
      refine mr_if_eq (pc := 15) (tgt := 22) dX12_attributes_15 (by decide) (r32 h1223 rfl) (fun h1591 => ?_) (fun h1591 => ?_)
      · have h1592 : 0 ≤ z1221 ∧ z1221 ≤ 0 := (vc_X3_readAttributes_5 h1591 h1223)
        refine mr_iconst (pc := 22) (z := 0) dX12_attributes_22 ?_
        exact J1228 0 (rW (c := 0) (d := 1) (rR (x := 0)) rfl)
      have h1593 : 1 ≤ z1221 ∧ z1221 ≤ 16 := (vc_X3_readAttributes_13 h1591 h1223)
      refine mr_iconst (pc := 18) (z := 1) dX12_attributes_18 ?_
      refine sv_goto (pc := 19) (tgt := 23) dX12_attributes_19 (by decide) ?_
      exact J1228 1 (rW (c := 0) (d := 1) (rR (x := 1)) rfl)
  refine mr_lvS (lv' := [(0, .ref 106), (2, iv p2), (3, iv p1)]) (List.forall_mem_cons.mpr ⟨rfl, List.forall_mem_cons.mpr ⟨rfl, List.forall_mem_cons.mpr ⟨rfl, fun _ h => absurd h List.not_mem_nil⟩⟩⟩) ?_
  exact L1203 1004 p1 μ f_c0 hT mF.refl mG.refl q_f_c0 hp1 (vc_X12_attributes_u_58 hq1 ht_f_c0 hp1) (vc_X12_attributes_u_59 hq1 ht_f_c0 hp1)
theorem vc_X12_prefix_u_1 {p2 z5 : Int} (h0 : z5 = 0) (h1 : (z5 = 1 → (0 : Int) ≤ p2 ∧ p2 ≤ (32 : Int))) (h2 : (z5 = 0 → p2 < (0 : Int) ∨ (32 : Int) < p2)) (h3 : (-2147483648) ≤ p2 ∧ p2 ≤ 2147483647) (h4 : 0 ≤ z5 ∧ z5 ≤ 1) : 0 ≤ z5 ∧ z5 ≤ 0 := by omega
theorem vc_X12_prefix_u_2 {p2 z5 : Int} (h0 : (z5 = 1 → (0 : Int) ≤ p2 ∧ p2 ≤ (32 : Int))) (h1 : (z5 = 0 → p2 < (0 : Int) ∨ (32 : Int) < p2)) (h2 : z5 = 0) (h3 : (-2147483648) ≤ p2 ∧ p2 ≤ 2147483647) (h4 : 0 ≤ z5 ∧ z5 ≤ 0) : z5 = 0 := by omega
theorem vc_X12_prefix_u_3 {p2 z5 : Int} (h0 : ¬ z5 = 0) (h1 : (z5 = 1 → (0 : Int) ≤ p2 ∧ p2 ≤ (32 : Int))) (h2 : (z5 = 0 → p2 < (0 : Int) ∨ (32 : Int) < p2)) (h3 : (-2147483648) ≤ p2 ∧ p2 ≤ 2147483647) (h4 : 0 ≤ z5 ∧ z5 ≤ 1) : 1 ≤ z5 ∧ z5 ≤ 1 := by omega
theorem vc_X12_prefix_u_4 {p2 z5 : Int} (h0 : (z5 = 1 → (0 : Int) ≤ p2 ∧ p2 ≤ (32 : Int))) (h1 : (z5 = 0 → p2 < (0 : Int) ∨ (32 : Int) < p2)) (h2 : ¬ z5 = 0) (h3 : (-2147483648) ≤ p2 ∧ p2 ≤ 2147483647) (h4 : 1 ≤ z5 ∧ z5 ≤ 1) : z5 = 1 := by omega
theorem vc_X12_prefix_u_5 {p2 z5 : Int} (h0 : (0 : Int) ≤ p2 ∧ p2 ≤ (32 : Int)) (h1 : (z5 = 1 → (0 : Int) ≤ p2 ∧ p2 ≤ (32 : Int))) (h2 : (z5 = 0 → p2 < (0 : Int) ∨ (32 : Int) < p2)) (h3 : (-2147483648) ≤ p2 ∧ p2 ≤ 2147483647) (h4 : 1 ≤ z5 ∧ z5 ≤ 1) : 0 ≤ p2 ∧ p2 ≤ 32 := by omega
theorem vc_X12_prefix_u_8 {z25 z32 : Int} (h0 : ¬ z25 = 10) (h1 : z32 < z25) (h2 : 0 ≤ z25 ∧ z25 ≤ 10) (h3 : (-99999999) ≤ z32 ∧ z32 ≤ (-99999999)) (h4 : z32 = -99999999 ∨ (0 ≤ z32 ∧ z32 ≤ 9)) : 0 ≤ z25 ∧ z25 ≤ 9 := by omega
theorem vc_X12_prefix_u_9 {z25 z32 : Int} (h0 : z32 < z25) (h1 : ¬ z25 = 10) (h2 : z32 = -99999999 ∨ (0 ≤ z32 ∧ z32 ≤ 9)) (h3 : z32 = (-99999999)) (h4 : 0 ≤ z25 ∧ z25 ≤ 9) (h5 : (-99999999) ≤ z32 ∧ z32 ≤ (-99999999)) : z25 ≤ (z25 + 1) := by omega
theorem vc_X12_prefix_u_10 {z25 z32 : Int} (h0 : z32 < z25) (h1 : ¬ z25 = 10) (h2 : z32 = -99999999 ∨ (0 ≤ z32 ∧ z32 ≤ 9)) (h3 : z32 = (-99999999)) (h4 : 0 ≤ z25 ∧ z25 ≤ 9) (h5 : (-99999999) ≤ z32 ∧ z32 ≤ (-99999999)) : (z25 + 1) = z25 + 1 := by omega
theorem vc_X12_prefix_u_11 {z25 z32 : Int} (h0 : z25 = 10) (h1 : z32 < z25) (h2 : 0 ≤ z25 ∧ z25 ≤ 10) (h3 : (-99999999) ≤ z32 ∧ z32 ≤ (-99999999)) (h4 : z32 = -99999999 ∨ (0 ≤ z32 ∧ z32 ≤ 9)) : 10 ≤ z25 ∧ z25 ≤ 10 := by omega
set_option maxRecDepth 4000 in
set_option maxHeartbeats 4000000 in
theorem c_X12_prefix_u {l : Launch} {D : va_G} {c : Nat → ClassId} {H0 : Heap} {sa : Nat × Nat × (Nat → Int32)} {w : mW} {μ : mM} (hw : mWF w) (hT : mT w μ) {p1 : Int} (hp1 : (-2147483648) ≤ p1 ∧ p1 ≤ 2147483647) {p2 : Int} (hp2 : (-2147483648) ≤ p2 ∧ p2 ≤ 2147483647) (hIJC : JC l D c H0 sa μ) (hIRP : RP μ) (hIEP : EP μ) (hIHP : HP μ) (hIUP : UP l D c H0 sa μ) (hIRR : RR μ) (hIG1 : G1 μ) (hIEV : EV μ) (hIPK : PK μ) : sC (gG l D c H0 sa) mX12_prefix 2 0 0 [.ref 106, iv p1, iv p2] (mk w μ) (qI w [106002, 108999, 109999] μ (fun z μ1 => ((-2147483648) ≤ z ∧ z ≤ 2147483647) ∧ JC l D c H0 sa μ1 ∧ RP μ1 ∧ EP μ1 ∧ HP μ1 ∧ UP l D c H0 sa μ1 ∧ RR μ1 ∧ G1 μ1 ∧ EV μ1 ∧ PK μ1 ∧ True)) := by
  refine sC.of rfl (by decide) (le_t rfl) ?_
  refine mr_lvE (lv' := [(0, .ref 106), (1, iv p1), (2, iv p2)]) rfl ?_
  refine mr_iload_n (pc := 0) (z := p2) dX12_prefix_0 rfl rfl ?_
  refine mr_iconst (pc := 1) (z := 0) dX12_prefix_1 ?_
  refine mr_bipush (pc := 2) (z := 32) dX12_prefix_2 (by decide) ?_
  refine mr_cSP (pc := 4) (c_X12_in hw hT hp2 (rW (c := (-2147483648)) (d := 2147483647) (rR (x := 0)) rfl) (rW (c := (-2147483648)) (d := 2147483647) (rR (x := 32)) rfl)) (gOk _ _ _ _ _) dX12_prefix_4 (tX12_in _ _ _ _ _) wS_X12_in wM_X12_18 ⟨le_t rfl, le_t rfl⟩ ⟨le_t rfl, le_t rfl⟩ rfl (le_t rfl) fun z5 h4 => ?_
  refine mr_if_eq (pc := 7) (tgt := 21) dX12_prefix_7 (by decide) (r32 h4.1 rfl) (fun h6 => ?_) (fun h6 => ?_)
  · have h7 : 0 ≤ z5 ∧ z5 ≤ 0 := (vc_X12_prefix_u_1 h6 h4.2.1 h4.2.2.1 hp2 h4.1)
    have h8 : p2 < (0 : Int) ∨ (32 : Int) < p2 := (h4.2.2.1 (vc_X12_prefix_u_2 h4.2.1 h4.2.2.1 h6 hp2 h7))
    refine mr_iconst (pc := 21) (z := (-1)) dX12_prefix_21 ?_
    exact mr_iret dX12_prefix_22 rfl (le_t rfl) (le_t rfl) hT mF.refl ⟨(rW (c := (-2147483648)) (d := 2147483647) (rR (x := (-1))) rfl), hIJC, hIRP, hIEP, hIHP, hIUP, hIRR, hIG1, hIEV, hIPK, trivial⟩
  have h9 : 1 ≤ z5 ∧ z5 ≤ 1 := (vc_X12_prefix_u_3 h6 h4.2.1 h4.2.2.1 hp2 h4.1)
  have h10 : (0 : Int) ≤ p2 ∧ p2 ≤ (32 : Int) := (h4.2.1 (vc_X12_prefix_u_4 h4.2.1 h4.2.2.1 h6 hp2 h9))
  have h11 : 0 ≤ p2 ∧ p2 ≤ 32 := (vc_X12_prefix_u_5 h10 h4.2.1 h4.2.2.1 hp2 h9)
  refine mr_iload_n (pc := 10) (z := p1) dX12_prefix_10 rfl rfl ?_
  refine mr_iload_n (pc := 11) (z := p2) dX12_prefix_11 rfl rfl ?_
  refine mr_cSP (pc := 12) (c_X12_mask hw hT (rW (c := (-2147483648)) (d := 2147483647) h11 rfl)) (gOk _ _ _ _ _) dX12_prefix_12 (tX12_mask _ _ _ _ _) wS_X12_mask wM_X12_11 ⟨le_t rfl, le_t rfl⟩ ⟨le_t rfl, le_t rfl⟩ rfl (le_t rfl) fun z16 h15 => ?_
  refine mr_iconst (pc := 15) (z := (-1)) dX12_prefix_15 ?_
  refine mr_ixor (pc := 16) (x := z16) (y := (-1)) dX12_prefix_16 ?_
  refine mr_gen (P := fun z => (-2147483648) ≤ z ∧ z ≤ 2147483647) (r32i _) fun z17 q18 h19 => ?_
  refine mr_iand (pc := 17) (x := p1) (y := z17) dX12_prefix_17 ?_
  refine mr_gen (P := fun z => (-2147483648) ≤ z ∧ z ≤ 2147483647) (r32i _) fun z20 q21 h22 => ?_
  refine mr_if_eq (pc := 18) (tgt := 23) dX12_prefix_18 (by decide) h22 (fun h23 => ?_) (fun h23 => ?_)
  · have h24 : 0 ≤ z20 ∧ z20 ≤ 0 := (vc_X12_mask_1 h23 h22)
    refine sv_aload_n (pc := 23) dX12_prefix_23 rfl rfl ?_
    refine mr_iload_n (pc := 24) (z := p1) dX12_prefix_24 rfl rfl ?_
    refine mr_iload_n (pc := 25) (z := p2) dX12_prefix_25 rfl rfl ?_
    obtain ⟨z25, q26⟩ : ∃ z, μ 106 2 = z := ⟨_, rfl⟩
    have h27 : (0 ≤ z25 ∧ z25 ≤ 10) := by rw [← q26]; exact hT 106 106 (A_106 hw) 2
    refine mr_cVP (pc := 26) (c_X12_prefixOf_u hw hT hp1 (rW (c := (-2147483648)) (d := 2147483647) h11 rfl) q26) (gOk _ _ _ _ _) dX12_prefix_26 (tX12_prefixOf _ _ _ _ _) ⟨wV_X12_prefixOf, wL_X12_prefixOf⟩ wM_X12_30 (gCX12 _ _ _ _ _) rfl (A_106 hw) rfl ⟨le_t rfl, le_t rfl⟩ ⟨le_t rfl, le_t rfl⟩ rfl (le_t rfl) fun z32 h31 => ?_
    refine mr_ldc (pc := 29) (z := (-99999999)) dX12_prefix_29 wG_X12_29 (by decide) ?_
    refine mr_icmp_eq (pc := 31) (tgt := 37) dX12_prefix_31 (by decide) (r32 h31.1 rfl) (r32 (rR (x := (-99999999))) rfl) (fun h33 => ?_) (fun h33 => ?_)
    · have h34 : (-99999999) ≤ z32 ∧ z32 ≤ (-99999999) := (vc_X12_hear_u_60 h33 h31.2.1 h31.2.2.1 h27 h31.1)
      refine sv_aload_n (pc := 37) dX12_prefix_37 rfl rfl ?_
      refine gk_X12_2 (pc := 38) dX12_prefix_38 wF_X12_15 (A_106 hw) q26 ?_
      refine mr_bipush (pc := 41) (z := 10) dX12_prefix_41 (by decide) ?_
      refine mr_icmp_ne (pc := 43) (tgt := 49) dX12_prefix_43 (by decide) (r32 h27 rfl) (r32 (rR (x := 10)) rfl) (fun h35 => ?_) (fun h35 => ?_)
      · have h36 : 0 ≤ z25 ∧ z25 ≤ 9 := (vc_X12_prefix_u_8 h35 h31.2.2.1 h27 h34 h31.2.1)
        refine sv_aload_n (pc := 49) dX12_prefix_49 rfl rfl ?_
        refine gf_X12_3 (pc := 50) dX12_prefix_50 wF_X12_22 (A_106 hw) hT ?_
        refine sv_aload_n (pc := 53) dX12_prefix_53 rfl rfl ?_
        refine gk_X12_2 (pc := 54) dX12_prefix_54 wF_X12_15 (A_106 hw) q26 ?_
        refine mr_iload_n (pc := 57) (z := p1) dX12_prefix_57 rfl rfl ?_
        refine ss_108 (pc := 58) dX12_prefix_58 (A_108 hw) hT (rIx (n := 10) h36 rfl) hp1 fun μ37 u38 T39 => ?_
        refine sv_aload_n (pc := 59) dX12_prefix_59 rfl rfl ?_
        refine gf_X12_4 (pc := 60) dX12_prefix_60 wF_X12_26 (A_106 hw) T39 ?_
        refine sv_aload_n (pc := 63) dX12_prefix_63 rfl rfl ?_
        refine gk_X12_2 (pc := 64) dX12_prefix_64 wF_X12_15 (A_106 hw) (u38.f (Or.inl (mAt.ne (A_108 hw) (A_106 hw) rfl)) q26) ?_
        refine mr_iload_n (pc := 67) (z := p2) dX12_prefix_67 rfl rfl ?_
        refine ss_109 (pc := 68) dX12_prefix_68 (A_109 hw) T39 (rIx (n := 10) h36 rfl) h11 fun μ40 u41 T42 => ?_
        refine sv_aload_n (pc := 69) dX12_prefix_69 rfl rfl ?_
        refine sv_dup (pc := 70) dX12_prefix_70 rfl ?_
        refine gk_X12_2 (pc := 71) dX12_prefix_71 wF_X12_15 (A_106 hw) (u41.f (Or.inl (mAt.ne (A_109 hw) (A_106 hw) rfl)) (u38.f (Or.inl (mAt.ne (A_108 hw) (A_106 hw) rfl)) q26)) ?_
        refine mr_iconst (pc := 74) (z := 1) dX12_prefix_74 ?_
        refine mr_iadd (pc := 75) (x := z25) (y := 1) dX12_prefix_75 ?_
        refine pf_X12_2 (pc := 76) dX12_prefix_76 wF_X12_15 (A_106 hw) T42 (rW (c := 0) (d := 10) (rAdd (e := 1) (f := 10) h36 (rR (x := 1)) rfl) rfl) fun μ43 u44 T45 => ?_
        have I46 : RP μ43 := RP.grow (RP.keep hIRP hw ((mF.up (mF.up mF.refl (A_108 hw) u38 rfl) (A_109 hw) u41 rfl) : mF [108999, 109999] w μ μ40) rfl ((mG.upO (mG.upO mG.refl u38 rfl) u41 rfl) : mG [] μ μ40) (fun _ h => absurd h List.not_mem_nil)) (u41.f (Or.inl (mAt.ne (A_109 hw) (A_106 hw) rfl)) (u38.f (Or.inl (mAt.ne (A_108 hw) (A_106 hw) rfl)) q26)) u44 (vc_X12_prefix_u_9 h31.2.2.1 h35 h31.2.1 h33 h36 h34)
        have I47 : EP μ43 := EP.grow (EP.keep hIEP hw ((mF.up (mF.up mF.refl (A_108 hw) u38 rfl) (A_109 hw) u41 rfl) : mF [108999, 109999] w μ μ40) rfl) (u41.f (Or.inl (mAt.ne (A_109 hw) (A_106 hw) rfl)) (u38.f (Or.inl (mAt.ne (A_108 hw) (A_106 hw) rfl)) q26)) u44 (vc_X12_prefix_u_9 h31.2.2.1 h35 h31.2.1 h33 h36 h34)
        have I48 : HP μ43 := HP.grow2 (HP.keep hIHP hw ((mF.up (mF.up mF.refl (A_108 hw) u38 rfl) (A_109 hw) u41 rfl) : mF [108999, 109999] w μ μ40) rfl ((mG.upO (mG.upO mG.refl u38 rfl) u41 rfl) : mG [] μ μ40) (fun _ h => absurd h List.not_mem_nil)) (u41.f (Or.inl (mAt.ne (A_109 hw) (A_106 hw) rfl)) (u38.f (Or.inl (mAt.ne (A_108 hw) (A_106 hw) rfl)) q26)) u44 (vc_X12_prefix_u_9 h31.2.2.1 h35 h31.2.1 h33 h36 h34)
        have I49 : RR μ43 := RR.grow (RR.keep hIRR hw ((mF.up (mF.up mF.refl (A_108 hw) u38 rfl) (A_109 hw) u41 rfl) : mF [108999, 109999] w μ μ40) rfl rfl rfl) (u41.f (Or.inl (mAt.ne (A_109 hw) (A_106 hw) rfl)) (u38.f (Or.inl (mAt.ne (A_108 hw) (A_106 hw) rfl)) q26)) u44 (vc_X12_prefix_u_9 h31.2.2.1 h35 h31.2.1 h33 h36 h34)
        have I50 : JC l D c H0 sa μ43 := PX.jc hIJC hIRR hw hT q26 u38 u41 u44 (vc_X12_prefix_u_9 h31.2.2.1 h35 h31.2.1 h33 h36 h34)
        have I51 : UP l D c H0 sa μ43 := PX.up hIUP hIHP hIRP hIRR hw hT T45 (PK.keep hIPK hw ((mF.up (mF.up (mF.up mF.refl (A_108 hw) u38 rfl) (A_109 hw) u41 rfl) (A_106 hw) u44 rfl) : mF [106002, 108999, 109999] w μ μ43) rfl) q26 u38 u41 u44 (vc_X12_prefix_u_10 h31.2.2.1 h35 h31.2.1 h33 h36 h34)
        refine sv_aload_n (pc := 79) dX12_prefix_79 rfl rfl ?_
        refine gk_X12_2 (pc := 80) dX12_prefix_80 wF_X12_15 (A_106 hw) u44.1 ?_
        refine mr_iconst (pc := 83) (z := 1) dX12_prefix_83 ?_
        refine mr_isub (pc := 84) (x := (z25 + 1)) (y := 1) dX12_prefix_84 ?_
        exact mr_iret dX12_prefix_85 rfl (le_t rfl) (le_t rfl) T45 (mF.up (mF.up (mF.up mF.refl (A_108 hw) u38 rfl) (A_109 hw) u41 rfl) (A_106 hw) u44 rfl) ⟨(rW (c := (-2147483648)) (d := 2147483647) (rSub (e := 0) (f := 9) (rAdd (e := 1) (f := 10) h36 (rR (x := 1)) rfl) (rR (x := 1)) rfl) rfl), I50, I46, I47, I48, I51, I49, (G1.keep hIG1 hw ((mF.up (mF.up (mF.up mF.refl (A_108 hw) u38 rfl) (A_109 hw) u41 rfl) (A_106 hw) u44 rfl) : mF [106002, 108999, 109999] w μ μ43) rfl rfl ((mG.upO (mG.upO (mG.upO mG.refl u38 rfl) u41 rfl) u44 rfl) : mG [] μ μ43) (fun _ h => absurd h List.not_mem_nil)), (EV.keep hIEV hw ((mF.up (mF.up (mF.up mF.refl (A_108 hw) u38 rfl) (A_109 hw) u41 rfl) (A_106 hw) u44 rfl) : mF [106002, 108999, 109999] w μ μ43) rfl), (PK.keep hIPK hw ((mF.up (mF.up (mF.up mF.refl (A_108 hw) u38 rfl) (A_109 hw) u41 rfl) (A_106 hw) u44 rfl) : mF [106002, 108999, 109999] w μ μ43) rfl), trivial⟩
      have h52 : 10 ≤ z25 ∧ z25 ≤ 10 := (vc_X12_prefix_u_11 h35 h31.2.2.1 h27 h34 h31.2.1)
      refine mr_bipush (pc := 46) (z := (-3)) dX12_prefix_46 (by decide) ?_
      exact mr_iret dX12_prefix_48 rfl (le_t rfl) (le_t rfl) hT mF.refl ⟨(rW (c := (-2147483648)) (d := 2147483647) (rR (x := (-3))) rfl), hIJC, hIRP, hIEP, hIHP, hIUP, hIRR, hIG1, hIEV, hIPK, trivial⟩
    have h53 : 0 ≤ z32 ∧ z32 ≤ 9 := (vc_X12_hear_u_18 h33 h31.2.1 h31.2.2.1 h27 h31.1)
    refine mr_bipush (pc := 34) (z := (-2)) dX12_prefix_34 (by decide) ?_
    exact mr_iret dX12_prefix_36 rfl (le_t rfl) (le_t rfl) hT mF.refl ⟨(rW (c := (-2147483648)) (d := 2147483647) (rR (x := (-2))) rfl), hIJC, hIRP, hIEP, hIHP, hIUP, hIRR, hIG1, hIEV, hIPK, trivial⟩
  refine mr_iconst (pc := 21) (z := (-1)) dX12_prefix_21 ?_
  exact mr_iret dX12_prefix_22 rfl (le_t rfl) (le_t rfl) hT mF.refl ⟨(rW (c := (-2147483648)) (d := 2147483647) (rR (x := (-1))) rfl), hIJC, hIRP, hIEP, hIHP, hIUP, hIRR, hIG1, hIEV, hIPK, trivial⟩
theorem vc_X12_follows_u_1 {z552 : Int} (h0 : (42 - z552) < ((0 : Nat) : Int)) (h1 : 0 ≤ z552 ∧ z552 ≤ 41) : False := by omega
theorem vc_X12_follows_u_2 {z552 : Int} (h0 : 41 ≤ z552) (h1 : 0 ≤ z552 ∧ z552 ≤ 41) : 41 ≤ z552 ∧ z552 ≤ 41 := by omega
theorem vc_X12_follows_u_3 {z552 : Int} (h0 : z552 < 41) (h1 : 0 ≤ z552 ∧ z552 ≤ 41) : 0 ≤ z552 ∧ z552 ≤ 40 := by omega
theorem vc_X12_follows_u_4 {N z552 : Int} (h0 : (42 - z552) < N + 1) (h1 : z552 < 41) (h2 : 0 ≤ z552 ∧ z552 ≤ 40) : (42 - (z552 + 1)) < N := by omega
theorem vc_X12_follows_u_6 {f_draft f_pol z552 : Int} (h0 : f_pol ≤ f_draft) (h1 : z552 < 41) (h2 : 0 ≤ f_draft ∧ f_draft ≤ 12) (h3 : 0 ≤ f_pol ∧ f_pol ≤ 12) (h4 : 0 ≤ z552 ∧ z552 ≤ 40) : 41 * f_pol ≤ ((41 * f_draft) + z552) := by omega
theorem vc_X12_follows_u_7 {f_draft f_pol z552 : Int} (h0 : f_pol ≤ f_draft) (h1 : z552 < 41) (h2 : 0 ≤ f_draft ∧ f_draft ≤ 12) (h3 : 0 ≤ f_pol ∧ f_pol ≤ 12) (h4 : 0 ≤ z552 ∧ z552 ≤ 40) : 0 ≤ ((41 * f_draft) + z552) := by omega
theorem vc_X12_follows_u_8  : (42 - 0) < ((43 : Nat) : Int) := by omega
set_option maxRecDepth 4000 in
set_option maxHeartbeats 4000000 in
theorem c_X12_follows_u {l : Launch} {D : va_G} {c : Nat → ClassId} {H0 : Heap} {sa : Nat × Nat × (Nat → Int32)} {w : mW} {μ : mM} (hw : mWF w) (hT : mT w μ) {p1 : Int} (hp1 : (-9223372036854775808) ≤ p1 ∧ p1 ≤ 9223372036854775807) {p2 : Int} (hp2 : (-9223372036854775808) ≤ p2 ∧ p2 ≤ 9223372036854775807) {f_pol : Int} (q_f_pol : μ 106 39 = f_pol) {f_draft : Int} (q_f_draft : μ 106 58 = f_draft) (hq0 : f_pol ≤ f_draft) (hIUP : UP l D c H0 sa μ) : sC (gG l D c H0 sa) mX12_follows 1 0 0 [.ref 106, jv p1, jv p2] (mk w μ) (qV w [144999] μ (fun μ1 => UP l D c H0 sa μ1 ∧ True)) := by
  refine sC.of rfl (by decide) (le_t rfl) ?_
  have ht_f_pol : (0 ≤ f_pol ∧ f_pol ≤ 12) := by rw [← q_f_pol]; exact hT 106 106 (A_106 hw) 39
  have ht_f_draft : (0 ≤ f_draft ∧ f_draft ≤ 12) := by rw [← q_f_draft]; exact hT 106 106 (A_106 hw) 58
  refine mr_lvE (lv' := [(0, .ref 106), (1, jv p1), (3, jv p2)]) rfl ?_
  refine mr_iconst (pc := 0) (z := 0) dX12_follows_0 ?_
  refine mr_istore (pc := 1) (lv' := [(5, iv 0), (0, .ref 106), (1, jv p1), (3, jv p2)]) dX12_follows_1 (by decide) rfl ?_
  have L554 : ∀ (nL554 : Nat) (z552 : Int) (μ553 : mM), mT w μ553 → mF [144999] w μ μ553 → (0 ≤ z552 ∧ z552 ≤ 41) → UP l D c H0 sa μ553 → (42 - z552) < (nL554 : Int) → sV (gG l D c H0 sa) mX12_follows (sRm 1 0 0) (sZ (gG l D c H0 sa) 0 0 (qV w [144999] μ (fun μ1 => UP l D c H0 sa μ1 ∧ True))) 3 [(0, .ref 106), (1, jv p1), (3, jv p2), (5, iv z552)] [] (mk w μ553) 0 0 := by
    intro nL554
    induction nL554 with
    | zero => intro z552 μ553 T556 F557 h555 I559 h560; exact ((vc_X12_follows_u_1 h560 h555)).elim
    | succ nL554 ih561 =>
      intro z552 μ553 T556 F557 h555 I559 h560
      refine mr_iload (pc := 3) (z := z552) dX12_follows_3 rfl ?_
      refine mr_bipush (pc := 5) (z := 41) dX12_follows_5 (by decide) ?_
      refine mr_icmp_ge (pc := 7) (tgt := 46) dX12_follows_7 (by decide) (r32 h555 rfl) (r32 (rR (x := 41)) rfl) (fun h583 => ?_) (fun h583 => ?_)
      · have h584 : 41 ≤ z552 ∧ z552 ≤ 41 := (vc_X12_follows_u_2 h583 h555)
        exact mr_vret dX12_follows_46 rfl (le_t rfl) (le_t rfl) T556 (mF.call mF.refl F557 rfl) ⟨I559, trivial⟩
      have h585 : 0 ≤ z552 ∧ z552 ≤ 40 := (vc_X12_follows_u_3 h583 h555)
      refine mr_lload_n (pc := 10) (z := p1) dX12_follows_10 rfl rfl ?_
      refine mr_iload (pc := 11) (z := z552) dX12_follows_11 rfl ?_
      refine mr_lshr (pc := 13) dX12_follows_13 ?_
      refine mr_genL (r64i _) fun z586 q587 h588 => ?_
      refine mr_lconst (pc := 14) (z := 1) dX12_follows_14 (by decide) ?_
      refine mr_land (pc := 15) dX12_follows_15 ?_
      refine mr_genL (r64i _) fun z589 q590 h591 => ?_
      refine mr_lconst (pc := 16) (z := 1) dX12_follows_16 (by decide) ?_
      refine mr_lcmp (pc := 17) dX12_follows_17 ?_
      refine mr_gen (P := fun z => (-1) ≤ z ∧ z ≤ 1) (lg_cmp_r _ _) fun z592 q593 h594 => ?_
      refine mr_if_ne (pc := 18) (tgt := 40) dX12_follows_18 (by decide) (r32 h594 rfl) (fun h605 => ?_) (fun h605 => ?_)
      · refine mr_iinc (pc := 40) (lv' := [(5, iv (z552 + 1)), (0, .ref 106), (1, jv p1), (3, jv p2)]) dX12_follows_40 rfl (by decide) rfl ?_
        refine sv_goto (pc := 43) (tgt := 3) dX12_follows_43 (by decide) ?_
        refine mr_lvS (lv' := [(0, .ref 106), (1, jv p1), (3, jv p2), (5, iv (z552 + 1))]) (List.forall_mem_cons.mpr ⟨rfl, List.forall_mem_cons.mpr ⟨rfl, List.forall_mem_cons.mpr ⟨rfl, List.forall_mem_cons.mpr ⟨rfl, fun _ h => absurd h List.not_mem_nil⟩⟩⟩⟩) ?_
        exact ih561 (z552 + 1) μ553 T556 (mF.call mF.refl F557 rfl) (rW (c := 0) (d := 41) (rAdd (e := 1) (f := 41) h585 (rR (x := 1)) rfl) rfl) I559 (vc_X12_follows_u_4 (nS h560) h583 h585)
      have h606 : 0 ≤ z592 ∧ z592 ≤ 0 := (vc_X12_waysMatch_5 h605 h594)
      refine sv_aload_n (pc := 21) dX12_follows_21 rfl rfl ?_
      refine gf_X12_57 (pc := 22) dX12_follows_22 wF_X12_275 (A_106 hw) T556 ?_
      refine mr_bipush (pc := 25) (z := 41) dX12_follows_25 (by decide) ?_
      refine sv_aload_n (pc := 27) dX12_follows_27 rfl rfl ?_
      refine gk_X12_58 (pc := 28) dX12_follows_28 wF_X12_278 (A_106 hw) (F557.f (A_106 hw) rfl q_f_draft) ?_
      refine mr_imul (pc := 31) (x := 41) (y := f_draft) dX12_follows_31 ?_
      refine mr_iload (pc := 32) (z := z552) dX12_follows_32 rfl ?_
      refine mr_iadd (pc := 34) (x := (41 * f_draft)) (y := z552) dX12_follows_34 ?_
      refine sv_dup2 (pc := 35) dX12_follows_35 rfl rfl ?_
      refine la_144 (pc := 36) dX12_follows_36 (A_144 hw) T556 (rIx (n := 533) (rAdd (e := 0) (f := 532) (rMulL (n := 41) (e := 0) (f := 492) ht_f_draft rfl) h585 rfl) rfl) fun z607 q608 h609 => ?_
      refine mr_lload_n (pc := 37) (z := p2) dX12_follows_37 rfl rfl ?_
      refine mr_lor (pc := 38) dX12_follows_38 ?_
      refine mr_genL (r64i _) fun z610 q611 h612 => ?_
      refine ss_144 (pc := 39) dX12_follows_39 (A_144 hw) T556 (rIx (n := 533) (rAdd (e := 0) (f := 532) (rMulL (n := 41) (e := 0) (f := 492) ht_f_draft rfl) h585 rfl) rfl) h612 fun μ613 u614 T615 => ?_
      have I616 : UP l D c H0 sa μ613 := UP.tabE I559 u614 (u614.f (Or.inl (mAt.ne (A_144 hw) (A_106 hw) rfl)) (F557.f (A_106 hw) rfl q_f_pol)) (by decide) (vc_X12_follows_u_7 hq0 h583 ht_f_draft ht_f_pol h585) ⟨(fun h => absurd h (by decide)), (fun h => absurd h (by decide)), (fun h => absurd h (by decide)), (fun _ => (vc_X12_follows_u_6 hq0 h583 ht_f_draft ht_f_pol h585))⟩
      refine mr_iinc (pc := 40) (lv' := [(5, iv (z552 + 1)), (0, .ref 106), (1, jv p1), (3, jv p2)]) dX12_follows_40 rfl (by decide) rfl ?_
      refine sv_goto (pc := 43) (tgt := 3) dX12_follows_43 (by decide) ?_
      refine mr_lvS (lv' := [(0, .ref 106), (1, jv p1), (3, jv p2), (5, iv (z552 + 1))]) (List.forall_mem_cons.mpr ⟨rfl, List.forall_mem_cons.mpr ⟨rfl, List.forall_mem_cons.mpr ⟨rfl, List.forall_mem_cons.mpr ⟨rfl, fun _ h => absurd h List.not_mem_nil⟩⟩⟩⟩) ?_
      exact ih561 (z552 + 1) μ613 T615 (mF.up (mF.call mF.refl F557 rfl) (A_144 hw) u614 rfl) (rW (c := 0) (d := 41) (rAdd (e := 1) (f := 41) h585 (rR (x := 1)) rfl) rfl) I616 (vc_X12_follows_u_4 (nS h560) h583 h585)
  refine mr_lvS (lv' := [(0, .ref 106), (1, jv p1), (3, jv p2), (5, iv 0)]) (List.forall_mem_cons.mpr ⟨rfl, List.forall_mem_cons.mpr ⟨rfl, List.forall_mem_cons.mpr ⟨rfl, List.forall_mem_cons.mpr ⟨rfl, fun _ h => absurd h List.not_mem_nil⟩⟩⟩⟩) ?_
  exact L554 43 0 μ hT mF.refl (rW (c := 0) (d := 41) (rR (x := 0)) rfl) hIUP vc_X12_follows_u_8
end
section
/-! no rows -/
end
section
/-! no rows -/
end
section
/-! no rows -/
end
