theorem vc_X12_rethink_u_2 {z2469 z2485 : Int} (h0 : z2485 ≤ z2469) (h1 : 0 ≤ z2469 ∧ z2469 ≤ 10) (h2 : 0 ≤ z2485 ∧ z2485 ≤ 10) : z2485 ≤ z2469 := by omega
theorem vc_X12_rethink_u_5  : (80 : Int) ≤ (80 : Int) ∧ (5200 : Int) ≤ (5200 : Int) := by omega
theorem vc_X12_rethink_u_7 {z2469 z2485 z2832 : Int} (h0 : z2832 < z2485) (h1 : z2485 ≤ z2469) (h2 : 0 ≤ z2469 ∧ z2469 ≤ 10) (h3 : 0 ≤ z2485 ∧ z2485 ≤ 10) (h4 : 0 ≤ z2832 ∧ z2832 ≤ 10) : 0 ≤ z2832 ∧ z2832 ≤ 9 := by omega
theorem vc_X12_rethink_u_8 {z2469 z2485 z2832 : Int} (h0 : z2832 < z2485) (h1 : z2485 ≤ z2469) (h2 : 0 ≤ z2469 ∧ z2469 ≤ 10) (h3 : 0 ≤ z2485 ∧ z2485 ≤ 10) (h4 : 0 ≤ z2832 ∧ z2832 ≤ 9) : 1 ≤ z2485 ∧ z2485 ≤ 10 := by omega
theorem vc_X12_rethink_u_10 {N z2469 z2485 z2832 : Int} (h0 : (11 - z2832) < N + 1) (h1 : z2832 < z2485) (h2 : z2485 ≤ z2469) (h3 : 0 ≤ z2469 ∧ z2469 ≤ 10) (h4 : 1 ≤ z2485 ∧ z2485 ≤ 10) (h5 : 0 ≤ z2832 ∧ z2832 ≤ 9) : (11 - (z2832 + 1)) < N := by omega
theorem vc_X12_rethink_u_14 {z2485 z2832 z3156 z3159 z3166 : Int} (h0 : (z3166 = 1 → z3156 = z2832 ∨ z3159 = z2832)) (h1 : (z3166 = 0 → ¬ z3156 = z2832 ∧ ¬ z3159 = z2832)) (h2 : z3166 = 0) (h3 : z2832 < z2485) (h4 : 1 ≤ z2485 ∧ z2485 ≤ 10) (h5 : 0 ≤ z2832 ∧ z2832 ≤ 9) (h6 : 0 ≤ z3156 ∧ z3156 ≤ 9) (h7 : 0 ≤ z3159 ∧ z3159 ≤ 9) (h8 : 0 ≤ z3166 ∧ z3166 ≤ 0) : z3166 = 0 := by omega
theorem vc_X12_rethink_u_17 {z2485 z2832 z3156 z3159 z3166 : Int} (h0 : (z3166 = 1 → z3156 = z2832 ∨ z3159 = z2832)) (h1 : (z3166 = 0 → ¬ z3156 = z2832 ∧ ¬ z3159 = z2832)) (h2 : ¬ z3166 = 0) (h3 : z2832 < z2485) (h4 : 1 ≤ z2485 ∧ z2485 ≤ 10) (h5 : 0 ≤ z2832 ∧ z2832 ≤ 9) (h6 : 0 ≤ z3156 ∧ z3156 ≤ 9) (h7 : 0 ≤ z3159 ∧ z3159 ≤ 9) (h8 : 1 ≤ z3166 ∧ z3166 ≤ 1) : z3166 = 1 := by omega
theorem vc_X12_rethink_u_19 {z2469 z2485 z2832 z3156 z3159 z3166 : Int} (h0 : z2832 < z2485) (h1 : (z3166 = 1 → z3156 = z2832 ∨ z3159 = z2832)) (h2 : (z3166 = 0 → ¬ z3156 = z2832 ∧ ¬ z3159 = z2832)) (h3 : z3156 = z2832 ∨ z3159 = z2832) (h4 : z2485 ≤ z2469) (h5 : ¬ z3166 = 0) (h6 : 0 ≤ z2469 ∧ z2469 ≤ 10) (h7 : 1 ≤ z2485 ∧ z2485 ≤ 10) (h8 : 0 ≤ z2832 ∧ z2832 ≤ 9) (h9 : 0 ≤ z3156 ∧ z3156 ≤ 9) (h10 : 0 ≤ z3159 ∧ z3159 ≤ 9) (h11 : 1 ≤ z3166 ∧ z3166 ≤ 1) : z3156 = z2832 ∨ z3159 = z2832 := by omega
theorem vc_X12_rethink_u_20  : (80 : Int) ≤ (80 : Int) ∧ (120 : Int) ≤ (5200 : Int) := by omega
theorem vc_X12_rethink_u_29  : (80 : Int) ≤ (80 : Int) ∧ (960 : Int) ≤ (5200 : Int) := by omega
theorem vc_X12_rethink_u_30 {z2469 z2485 : Int} (h0 : z2469 < z2485) (h1 : 0 ≤ z2469 ∧ z2469 ≤ 9) (h2 : 1 ≤ z2485 ∧ z2485 ≤ 10) : 80 ≤ ((400 * z2469) + 1200) ∧ ((400 * z2469) + 1600) ≤ 5200 := by omega
theorem vc_X12_rethink_u_31 {f_pre : Int} (h0 : 0 ≤ f_pre ∧ f_pre ≤ 10) : f_pre ≤ 10 := by omega
theorem vc_X12_rethink_u_32 {z2469 z2485 : Int} (h0 : z2469 < z2485) (h1 : 0 ≤ z2469 ∧ z2469 ≤ 9) (h2 : 1 ≤ z2485 ∧ z2485 ≤ 10) : 0 ≤ z2469 := by omega
theorem vc_X12_rethink_u_34 {z2469 z2485 : Int} (h0 : z2469 < z2485) (h1 : 0 ≤ z2469 ∧ z2469 ≤ 9) (h2 : 1 ≤ z2485 ∧ z2485 ≤ 10) : ((400 * z2469) + 1200) ≤ ((400 * z2469) + 1200) ∧ ((400 * z2469) + 1600) ≤ ((400 * z2469) + 1600) := by omega
theorem vc_X12_rethink_u_35 {z2469 z2485 : Int} (h0 : z2469 < z2485) (h1 : 0 ≤ z2469 ∧ z2469 ≤ 9) (h2 : 1 ≤ z2485 ∧ z2485 ≤ 10) : ((400 * z2469) + 1600) ≤ 5200 ∨ 21200 ≤ ((400 * z2469) + 1200) := by omega
set_option maxRecDepth 4000 in
set_option maxHeartbeats 4000000 in
theorem c_X12_rethink_u {l : Launch} {D : va_G} {c : Nat → ClassId} {H0 : Heap} {sa : Nat × Nat × (Nat → Int32)} {w : mW} {μ : mM} (hw : mWF w) (hT : mT w μ) {f_pre : Int} (q_f_pre : μ 106 2 = f_pre) (hIJC : JC l D c H0 sa μ) (hIRP : RP μ) (hIEP : EP μ) (hIG1 : G1 μ) (hIEV : EV μ) (hIPK : PK μ) : sC (gG l D c H0 sa) mX12_rethink 12 0 0 [.ref 106] (mk w μ) (qV w [106026, 106027, 106028, 106029, 106030, 106031, 106072, 126999, 151999, 152999, 153999, 155999, 156999, 157999, 158999, 159999, 160999, 161999, 165999] μ (fun μ1 => mG [(80, 5200), (21200, 53200)] μ μ1 ∧ JC l D c H0 sa μ1 ∧ RP μ1 ∧ EP μ1 ∧ G1 μ1 ∧ EV μ1 ∧ (UP l D c H0 sa μ1) ∧ True)) := by
  refine sC.of rfl (by decide) (le_t rfl) ?_
  have ht_f_pre : (0 ≤ f_pre ∧ f_pre ≤ 10) := by rw [← q_f_pre]; exact hT 106 106 (A_106 hw) 2
  refine mr_lvE (lv' := [(0, .ref 106)]) rfl ?_
  refine mr_iconst (pc := 0) (z := 0) dX12_rethink_0 ?_
  refine mr_istore_n (pc := 1) (lv' := [(1, iv 0), (0, .ref 106)]) dX12_rethink_1 rfl (by decide) rfl ?_
  have L2471 : ∀ (nL2471 : Nat) (z2469 : Int) (μ2470 : mM), mT w μ2470 → mF [106026, 106027, 106028, 106029, 106030, 106031, 106072, 126999, 151999, 152999, 153999, 155999, 156999, 157999, 158999, 159999, 160999, 161999, 165999] w μ μ2470 → mG [(80, 5200), (21200, 53200)] μ μ2470 → (0 ≤ z2469 ∧ z2469 ≤ 10) → JC l D c H0 sa μ2470 → RP μ2470 → EP μ2470 → G1 μ2470 → EV μ2470 → PK μ2470 → UPn l D c H0 sa μ2470 z2469 f_pre → (11 - z2469) < (nL2471 : Int) → sV (gG l D c H0 sa) mX12_rethink (sRm 12 0 0) (sZ (gG l D c H0 sa) 0 0 (qV w [106026, 106027, 106028, 106029, 106030, 106031, 106072, 126999, 151999, 152999, 153999, 155999, 156999, 157999, 158999, 159999, 160999, 161999, 165999] μ (fun μ1 => mG [(80, 5200), (21200, 53200)] μ μ1 ∧ JC l D c H0 sa μ1 ∧ RP μ1 ∧ EP μ1 ∧ G1 μ1 ∧ EV μ1 ∧ (UP l D c H0 sa μ1) ∧ True))) 2 [(0, .ref 106), (1, iv z2469)] [] (mk w μ2470) 0 0 := by
    intro nL2471
    induction nL2471 with
    | zero => intro z2469 μ2470 T2473 F2474 G2475 h2472 I2476 I2477 I2478 I2479 I2480 I2481 R2482 h2483; exact ((vc_X12_ring_2 h2483 h2472)).elim
    | succ nL2471 ih2484 =>
      intro z2469 μ2470 T2473 F2474 G2475 h2472 I2476 I2477 I2478 I2479 I2480 I2481 R2482 h2483
      refine mr_iload_n (pc := 2) (z := z2469) dX12_rethink_2 rfl rfl ?_
      refine sv_aload_n (pc := 3) dX12_rethink_3 rfl rfl ?_
      refine gf_X12_5 (pc := 4) dX12_rethink_4 wF_X12_34 (A_106 hw) T2473 fun z2485 q2486 h2487 => ?_
      refine mr_icmp_ge (pc := 7) (tgt := 21) dX12_rethink_7 (by decide) (r32 h2472 rfl) (r32 h2487 rfl) (fun h2494 => ?_) (fun h2494 => ?_)
      · have I2495 : UP l D c H0 sa μ2470 := UPn.up R2482 (by rw [q2486]; exact (vc_X12_rethink_u_2 h2494 h2472 h2487)) (by rw [(F2474.f (A_106 hw) rfl q_f_pre)]; exact (vc_X12_cone_36 ht_f_pre))
        refine mr_iconst (pc := 21) (z := 0) dX12_rethink_21 ?_
        refine mr_istore_n (pc := 22) (lv' := [(1, iv 0), (0, .ref 106)]) dX12_rethink_22 rfl (by decide) rfl ?_
        have L2834 : ∀ (nL2834 : Nat) (z2832 : Int) (μ2833 : mM), mT w μ2833 → mF [106026, 106027, 106028, 106029, 106030, 106031, 106072, 126999, 151999, 152999, 153999, 155999, 156999, 157999, 158999, 159999, 160999] w μ2470 μ2833 → mG [(80, 5200), (21200, 53200)] μ2470 μ2833 → (0 ≤ z2832 ∧ z2832 ≤ 10) → JC l D c H0 sa μ2833 → RP μ2833 → EP μ2833 → G1 μ2833 → EV μ2833 → PK μ2833 → UP l D c H0 sa μ2833 → (11 - z2832) < (nL2834 : Int) → sV (gG l D c H0 sa) mX12_rethink (sRm 12 0 0) (sZ (gG l D c H0 sa) 0 0 (qV w [106026, 106027, 106028, 106029, 106030, 106031, 106072, 126999, 151999, 152999, 153999, 155999, 156999, 157999, 158999, 159999, 160999, 161999, 165999] μ (fun μ1 => mG [(80, 5200), (21200, 53200)] μ μ1 ∧ JC l D c H0 sa μ1 ∧ RP μ1 ∧ EP μ1 ∧ G1 μ1 ∧ EV μ1 ∧ (UP l D c H0 sa μ1) ∧ True))) 23 [(0, .ref 106), (1, iv z2832)] [] (mk w μ2833) 0 0 := by
          intro nL2834
          induction nL2834 with
          | zero => intro z2832 μ2833 T2836 F2837 G2838 h2835 I2839 I2840 I2841 I2842 I2843 I2844 I2845 h2846; exact ((vc_X12_ring_2 h2846 h2835)).elim
          | succ nL2834 ih2847 =>
            intro z2832 μ2833 T2836 F2837 G2838 h2835 I2839 I2840 I2841 I2842 I2843 I2844 I2845 h2846
            refine mr_iload_n (pc := 23) (z := z2832) dX12_rethink_23 rfl rfl ?_
            refine sv_aload_n (pc := 24) dX12_rethink_24 rfl rfl ?_
            refine gk_X12_5 (pc := 25) dX12_rethink_25 wF_X12_34 (A_106 hw) (F2837.f (A_106 hw) rfl q2486) ?_
            refine mr_icmp_ge (pc := 28) (tgt := 68) dX12_rethink_28 (by decide) (r32 h2835 rfl) (r32 h2487 rfl) (fun h2902 => ?_) (fun h2902 => ?_)
            · exact mr_vret dX12_rethink_68 rfl (le_t rfl) (le_t rfl) T2836 (mF.call (mF.call mF.refl F2474 rfl) F2837 rfl) ⟨(mG.call (mG.call mG.refl G2475 (List.forall_mem_cons.mpr ⟨⟨_, List.mem_cons_self, vc_X12_rethink_u_5⟩, (List.forall_mem_cons.mpr ⟨⟨_, (List.mem_cons_of_mem _ List.mem_cons_self), vc_X12_say_u_34⟩, (fun _ h => absurd h List.not_mem_nil)⟩)⟩)) G2838 (List.forall_mem_cons.mpr ⟨⟨_, List.mem_cons_self, vc_X12_rethink_u_5⟩, (List.forall_mem_cons.mpr ⟨⟨_, (List.mem_cons_of_mem _ List.mem_cons_self), vc_X12_say_u_34⟩, (fun _ h => absurd h List.not_mem_nil)⟩)⟩)), I2839, I2840, I2841, I2842, I2843, I2845, trivial⟩
            have h2903 : 0 ≤ z2832 ∧ z2832 ≤ 9 := (vc_X12_rethink_u_7 h2902 h2494 h2472 h2487 h2835)
            have h2904 : 1 ≤ z2485 ∧ z2485 ≤ 10 := (vc_X12_rethink_u_8 h2902 h2494 h2472 h2487 h2903)
            refine mr_iconst (pc := 31) (z := 0) dX12_rethink_31 ?_
            refine mr_istore_n (pc := 32) (lv' := [(2, iv 0), (0, .ref 106), (1, iv z2832)]) dX12_rethink_32 rfl (by decide) rfl ?_
            have L3115 : ∀ (nL3115 : Nat) (z3113 : Int) (μ3114 : mM), mT w μ3114 → mF [106026, 106027, 106028, 106029, 106030, 106031, 106072, 126999, 151999, 152999, 153999, 155999, 156999, 157999, 158999, 159999, 160999] w μ2833 μ3114 → mG [(80, 5200), (21200, 53200)] μ2833 μ3114 → (0 ≤ z3113 ∧ z3113 ≤ 20) → JC l D c H0 sa μ3114 → RP μ3114 → EP μ3114 → G1 μ3114 → EV μ3114 → PK μ3114 → UP l D c H0 sa μ3114 → (21 - z3113) < (nL3115 : Int) → sV (gG l D c H0 sa) mX12_rethink (sRm 12 0 0) (sZ (gG l D c H0 sa) 0 0 (qV w [106026, 106027, 106028, 106029, 106030, 106031, 106072, 126999, 151999, 152999, 153999, 155999, 156999, 157999, 158999, 159999, 160999, 161999, 165999] μ (fun μ1 => mG [(80, 5200), (21200, 53200)] μ μ1 ∧ JC l D c H0 sa μ1 ∧ RP μ1 ∧ EP μ1 ∧ G1 μ1 ∧ EV μ1 ∧ (UP l D c H0 sa μ1) ∧ True))) 33 [(0, .ref 106), (1, iv z2832), (2, iv z3113)] [] (mk w μ3114) 0 0 := by
              intro nL3115
              induction nL3115 with
              | zero => intro z3113 μ3114 T3117 F3118 G3119 h3116 I3120 I3121 I3122 I3123 I3124 I3125 I3126 h3127; exact ((vc_X12_tieOf_1 h3127 h3116)).elim
              | succ nL3115 ih3128 =>
                intro z3113 μ3114 T3117 F3118 G3119 h3116 I3120 I3121 I3122 I3123 I3124 I3125 I3126 h3127
                refine mr_iload_n (pc := 33) (z := z3113) dX12_rethink_33 rfl rfl ?_
                refine sv_aload_n (pc := 34) dX12_rethink_34 rfl rfl ?_
                refine gf_X12_6 (pc := 35) dX12_rethink_35 wF_X12_37 (A_106 hw) T3117 fun z3129 q3130 h3131 => ?_
                refine mr_icmp_ge (pc := 38) (tgt := 62) dX12_rethink_38 (by decide) (r32 h3116 rfl) (r32 h3131 rfl) (fun h3153 => ?_) (fun h3153 => ?_)
                · refine mr_iinc (pc := 62) (lv' := [(1, iv (z2832 + 1)), (0, .ref 106), (2, iv z3113)]) dX12_rethink_62 rfl (by decide) rfl ?_
                  refine sv_goto (pc := 65) (tgt := 23) dX12_rethink_65 (by decide) ?_
                  refine mr_lvS (lv' := [(0, .ref 106), (1, iv (z2832 + 1))]) (List.forall_mem_cons.mpr ⟨rfl, List.forall_mem_cons.mpr ⟨rfl, fun _ h => absurd h List.not_mem_nil⟩⟩) ?_
                  exact ih2847 (z2832 + 1) μ3114 T3117 (mF.call (mF.call mF.refl F2837 rfl) F3118 rfl) (mG.call (mG.call mG.refl G2838 (List.forall_mem_cons.mpr ⟨⟨_, List.mem_cons_self, vc_X12_rethink_u_5⟩, (List.forall_mem_cons.mpr ⟨⟨_, (List.mem_cons_of_mem _ List.mem_cons_self), vc_X12_say_u_34⟩, (fun _ h => absurd h List.not_mem_nil)⟩)⟩)) G3119 (List.forall_mem_cons.mpr ⟨⟨_, List.mem_cons_self, vc_X12_rethink_u_5⟩, (List.forall_mem_cons.mpr ⟨⟨_, (List.mem_cons_of_mem _ List.mem_cons_self), vc_X12_say_u_34⟩, (fun _ h => absurd h List.not_mem_nil)⟩)⟩)) (rW (c := 0) (d := 10) (rAdd (e := 1) (f := 10) h2903 (rR (x := 1)) rfl) rfl) I3120 I3121 I3122 I3123 I3124 I3125 I3126 (vc_X12_rethink_u_10 (nS h2846) h2902 h2494 h2472 h2904 h2903)
                have h3154 : 0 ≤ z3113 ∧ z3113 ≤ 19 := (vc_X12_tieOf_3 h3153 h3116 h3131)
                have h3155 : 1 ≤ z3129 ∧ z3129 ≤ 20 := (vc_X12_tieOf_4 h3153 h3154 h3131)
                refine sv_aload_n (pc := 41) dX12_rethink_41 rfl rfl ?_
                refine mr_iload_n (pc := 42) (z := z3113) dX12_rethink_42 rfl rfl ?_
                refine mr_iload_n (pc := 43) (z := z2832) dX12_rethink_43 rfl rfl ?_
                obtain ⟨z3156, q3157⟩ : ∃ z, μ3114 110 ((2 * z3113).toNat) = z := ⟨_, rfl⟩
                have h3158 : (0 ≤ z3156 ∧ z3156 ≤ 9) := by rw [← q3157]; exact T3117 110 110 (A_110 hw) ((2 * z3113).toNat)
                obtain ⟨z3159, q3160⟩ : ∃ z, μ3114 110 (((2 * z3113) + 1).toNat) = z := ⟨_, rfl⟩
                have h3161 : (0 ≤ z3159 ∧ z3159 ≤ 9) := by rw [← q3160]; exact T3117 110 110 (A_110 hw) (((2 * z3113) + 1).toNat)
                refine mr_cVP (pc := 44) (c_X12_isAt hw T3117 h3154 (rW (c := (-2147483648)) (d := 2147483647) h2903 rfl) q3157 q3160) (gOk _ _ _ _ _) dX12_rethink_44 (tX12_isAt _ _ _ _ _) ⟨wV_X12_isAt, wL_X12_isAt⟩ wM_X12_562 (gCX12 _ _ _ _ _) rfl (A_106 hw) rfl ⟨le_t rfl, le_t rfl⟩ ⟨le_t rfl, le_t rfl⟩ rfl (le_t rfl) fun z3166 h3165 => ?_
                refine mr_if_eq (pc := 47) (tgt := 56) dX12_rethink_47 (by decide) (r32 h3165.1 rfl) (fun h3175 => ?_) (fun h3175 => ?_)
                · have h3176 : 0 ≤ z3166 ∧ z3166 ≤ 0 := (vc_X12_candidates_5 h3175 h3165.2.1 h3165.2.2.1 h2903 h3158 h3161 h3165.1)
                  have h3177 : ¬ z3156 = z2832 ∧ ¬ z3159 = z2832 := (h3165.2.2.1 (vc_X12_rethink_u_14 h3165.2.1 h3165.2.2.1 h3175 h2902 h2904 h2903 h3158 h3161 h3176))
                  refine mr_iinc (pc := 56) (lv' := [(2, iv (z3113 + 1)), (0, .ref 106), (1, iv z2832)]) dX12_rethink_56 rfl (by decide) rfl ?_
                  refine sv_goto (pc := 59) (tgt := 33) dX12_rethink_59 (by decide) ?_
                  refine mr_lvS (lv' := [(0, .ref 106), (1, iv z2832), (2, iv (z3113 + 1))]) (List.forall_mem_cons.mpr ⟨rfl, List.forall_mem_cons.mpr ⟨rfl, List.forall_mem_cons.mpr ⟨rfl, fun _ h => absurd h List.not_mem_nil⟩⟩⟩) ?_
                  exact ih3128 (z3113 + 1) μ3114 T3117 (mF.call mF.refl F3118 rfl) (mG.call mG.refl G3119 (List.forall_mem_cons.mpr ⟨⟨_, List.mem_cons_self, vc_X12_rethink_u_5⟩, (List.forall_mem_cons.mpr ⟨⟨_, (List.mem_cons_of_mem _ List.mem_cons_self), vc_X12_say_u_34⟩, (fun _ h => absurd h List.not_mem_nil)⟩)⟩)) (rW (c := 0) (d := 20) (rAdd (e := 1) (f := 20) h3154 (rR (x := 1)) rfl) rfl) I3120 I3121 I3122 I3123 I3124 I3125 I3126 (vc_X12_tieOf_5 (nS h3127) h3153 h3154 h3155)
                have h3178 : 1 ≤ z3166 ∧ z3166 ≤ 1 := (vc_X12_candidates_12 h3175 h3165.2.1 h3165.2.2.1 h2903 h3158 h3161 h3165.1)
                have h3179 : z3156 = z2832 ∨ z3159 = z2832 := (h3165.2.1 (vc_X12_rethink_u_17 h3165.2.1 h3165.2.2.1 h3175 h2902 h2904 h2903 h3158 h3161 h3178))
                refine sv_aload_n (pc := 50) dX12_rethink_50 rfl rfl ?_
                refine mr_iload_n (pc := 51) (z := z2832) dX12_rethink_51 rfl rfl ?_
                refine mr_iload_n (pc := 52) (z := z3113) dX12_rethink_52 rfl rfl ?_
                refine mr_cVV (pc := 53) (c_X12_sayAll_u hw T3117 h2903 h3154 q3157 q3160 q3130 (vc_X12_candidates_14 h3153 h3154 h3155) (vc_X12_rethink_u_19 h2902 h3165.2.1 h3165.2.2.1 h3179 h2494 h3175 h2472 h2904 h2903 h3158 h3161 h3178) I3120 I3121 I3122 I3123 I3124 I3125) (gOk _ _ _ _ _) dX12_rethink_53 (tX12_sayAll _ _ _ _ _) ⟨wV_X12_sayAll, wL_X12_sayAll⟩ wM_X12_603 (gCX12 _ _ _ _ _) rfl (A_106 hw) rfl ⟨le_t rfl, le_t rfl⟩ ⟨le_t rfl, le_t rfl⟩ rfl (le_t rfl) fun μ3180 T3181 F3182 h3183 => ?_
                refine mr_iinc (pc := 56) (lv' := [(2, iv (z3113 + 1)), (0, .ref 106), (1, iv z2832)]) dX12_rethink_56 rfl (by decide) rfl ?_
                refine sv_goto (pc := 59) (tgt := 33) dX12_rethink_59 (by decide) ?_
                refine mr_lvS (lv' := [(0, .ref 106), (1, iv z2832), (2, iv (z3113 + 1))]) (List.forall_mem_cons.mpr ⟨rfl, List.forall_mem_cons.mpr ⟨rfl, List.forall_mem_cons.mpr ⟨rfl, fun _ h => absurd h List.not_mem_nil⟩⟩⟩) ?_
                exact ih3128 (z3113 + 1) μ3180 T3181 (mF.call (mF.call mF.refl F3118 rfl) F3182 rfl) (mG.call (mG.call mG.refl G3119 (List.forall_mem_cons.mpr ⟨⟨_, List.mem_cons_self, vc_X12_rethink_u_5⟩, (List.forall_mem_cons.mpr ⟨⟨_, (List.mem_cons_of_mem _ List.mem_cons_self), vc_X12_say_u_34⟩, (fun _ h => absurd h List.not_mem_nil)⟩)⟩)) h3183.1 (List.forall_mem_cons.mpr ⟨⟨_, List.mem_cons_self, vc_X12_rethink_u_20⟩, (List.forall_mem_cons.mpr ⟨⟨_, (List.mem_cons_of_mem _ List.mem_cons_self), vc_X12_say_u_34⟩, (fun _ h => absurd h List.not_mem_nil)⟩)⟩)) (rW (c := 0) (d := 20) (rAdd (e := 1) (f := 20) h3154 (rR (x := 1)) rfl) rfl) h3183.2.1 h3183.2.2.1 h3183.2.2.2.1 h3183.2.2.2.2.1 h3183.2.2.2.2.2.1 (PK.keep I3125 hw ((mF.call mF.refl F3182 rfl) : mF [106026, 106027, 106028, 106029, 106030, 106031, 106072, 126999, 151999, 152999, 153999, 155999, 156999, 157999, 158999, 159999, 160999] w μ3114 μ3180) rfl) (UPg.fr I3126 hw T3181 rfl ((mF.call mF.refl F3182 rfl) : mF [106026, 106027, 106028, 106029, 106030, 106031, 106072, 126999, 151999, 152999, 153999, 155999, 156999, 157999, 158999, 159999, 160999] w μ3114 μ3180) rfl rfl rfl ((mG.call mG.refl h3183.1 (List.forall_mem_cons.mpr ⟨⟨_, List.mem_cons_self, vc_X12_say_u_33⟩, (List.forall_mem_cons.mpr ⟨⟨_, (List.mem_cons_of_mem _ List.mem_cons_self), vc_X12_say_u_34⟩, (fun _ h => absurd h List.not_mem_nil)⟩)⟩)) : mG [(80, 120), (21200, 53200)] μ3114 μ3180) (List.forall_mem_cons.mpr ⟨vc_X12_look_u_56, (List.forall_mem_cons.mpr ⟨vc_X12_look_u_55, (fun _ h => absurd h List.not_mem_nil)⟩)⟩)) (vc_X12_tieOf_5 (nS h3127) h3153 h3154 h3155)
            refine mr_lvS (lv' := [(0, .ref 106), (1, iv z2832), (2, iv 0)]) (List.forall_mem_cons.mpr ⟨rfl, List.forall_mem_cons.mpr ⟨rfl, List.forall_mem_cons.mpr ⟨rfl, fun _ h => absurd h List.not_mem_nil⟩⟩⟩) ?_
            exact L3115 22 0 μ2833 T2836 mF.refl mG.refl (rW (c := 0) (d := 20) (rR (x := 0)) rfl) I2839 I2840 I2841 I2842 I2843 I2844 I2845 vc_X12_tieOf_12
        refine mr_lvS (lv' := [(0, .ref 106), (1, iv 0)]) (List.forall_mem_cons.mpr ⟨rfl, List.forall_mem_cons.mpr ⟨rfl, fun _ h => absurd h List.not_mem_nil⟩⟩) ?_
        exact L2834 12 0 μ2470 T2473 mF.refl mG.refl (rW (c := 0) (d := 10) (rR (x := 0)) rfl) I2476 I2477 I2478 I2479 I2480 I2481 I2495 vc_X12_ring_27
      have h3184 : 0 ≤ z2469 ∧ z2469 ≤ 9 := (vc_X12_ring_3 h2494 h2472 h2487)
      have h3185 : 1 ≤ z2485 ∧ z2485 ≤ 10 := (vc_X12_ring_4 h2494 h3184 h2487)
      refine sv_aload_n (pc := 10) dX12_rethink_10 rfl rfl ?_
      refine mr_iload_n (pc := 11) (z := z2469) dX12_rethink_11 rfl rfl ?_
      refine mr_cVV (pc := 12) (c_X12_lookAll_u hw T2473 h3184 (F2474.f (A_106 hw) rfl q_f_pre) I2476 I2477 I2478 I2479 I2480 I2481) (gOk _ _ _ _ _) dX12_rethink_12 (tX12_lookAll _ _ _ _ _) ⟨wV_X12_lookAll, wL_X12_lookAll⟩ wM_X12_600 (gCX12 _ _ _ _ _) rfl (A_106 hw) rfl ⟨le_t rfl, le_t rfl⟩ ⟨le_t rfl, le_t rfl⟩ rfl (le_t rfl) fun μ3186 T3187 F3188 h3189 => ?_
      refine mr_iinc (pc := 15) (lv' := [(1, iv (z2469 + 1)), (0, .ref 106)]) dX12_rethink_15 rfl (by decide) rfl ?_
      refine sv_goto (pc := 18) (tgt := 2) dX12_rethink_18 (by decide) ?_
      refine mr_lvS (lv' := [(0, .ref 106), (1, iv (z2469 + 1))]) (List.forall_mem_cons.mpr ⟨rfl, List.forall_mem_cons.mpr ⟨rfl, fun _ h => absurd h List.not_mem_nil⟩⟩) ?_
      exact ih2484 (z2469 + 1) μ3186 T3187 (mF.call (mF.call mF.refl F2474 rfl) F3188 rfl) (mG.call (mG.call mG.refl G2475 (List.forall_mem_cons.mpr ⟨⟨_, List.mem_cons_self, vc_X12_rethink_u_5⟩, (List.forall_mem_cons.mpr ⟨⟨_, (List.mem_cons_of_mem _ List.mem_cons_self), vc_X12_say_u_34⟩, (fun _ h => absurd h List.not_mem_nil)⟩)⟩)) h3189.1 (List.forall_mem_cons.mpr ⟨⟨_, List.mem_cons_self, vc_X12_rethink_u_29⟩, (List.forall_mem_cons.mpr ⟨⟨_, List.mem_cons_self, (vc_X12_rethink_u_30 h2494 h3184 h3185)⟩, (List.forall_mem_cons.mpr ⟨⟨_, (List.mem_cons_of_mem _ List.mem_cons_self), vc_X12_say_u_34⟩, (fun _ h => absurd h List.not_mem_nil)⟩)⟩)⟩)) (rW (c := 0) (d := 10) (rAdd (e := 1) (f := 10) h3184 (rR (x := 1)) rfl) rfl) h3189.2.1 h3189.2.2.1 h3189.2.2.2.1 h3189.2.2.2.2.1 h3189.2.2.2.2.2.1 (PK.keep I2481 hw ((mF.call mF.refl F3188 rfl) : mF [106026, 106027, 106028, 106029, 106030, 106031, 106072, 126999, 151999, 152999, 153999, 155999, 156999, 157999, 158999, 159999, 160999, 161999, 165999] w μ2470 μ3186) rfl) (UPn.step R2482 (vc_X12_rethink_u_31 ht_f_pre) (vc_X12_rethink_u_32 h2494 h3184 h3185) hw T2473 ((mF.call mF.refl F3188 rfl) : mF [106026, 106027, 106028, 106029, 106030, 106031, 106072, 126999, 151999, 152999, 153999, 155999, 156999, 157999, 158999, 159999, 160999, 161999, 165999] w μ2470 μ3186) rfl rfl rfl ((mG.call mG.refl h3189.1 (List.forall_mem_cons.mpr ⟨⟨_, List.mem_cons_self, vc_X12_look_u_35⟩, (List.forall_mem_cons.mpr ⟨⟨_, (List.mem_cons_of_mem _ List.mem_cons_self), (vc_X12_rethink_u_34 h2494 h3184 h3185)⟩, (List.forall_mem_cons.mpr ⟨⟨_, (List.mem_cons_of_mem _ (List.mem_cons_of_mem _ List.mem_cons_self)), vc_X12_say_u_34⟩, (fun _ h => absurd h List.not_mem_nil)⟩)⟩)⟩)) : mG [(80, 960), (((400 * z2469) + 1200), ((400 * z2469) + 1600)), (21200, 53200)] μ2470 μ3186) (List.forall_mem_cons.mpr ⟨vc_X12_lookAll_u_14, (List.forall_mem_cons.mpr ⟨(vc_X12_rethink_u_35 h2494 h3184 h3185), (List.forall_mem_cons.mpr ⟨vc_X12_look_u_55, (fun _ h => absurd h List.not_mem_nil)⟩)⟩)⟩) h3189.2.2.2.2.2.2.2.1 h3189.2.2.2.2.2.2.1) (vc_X12_sends_11 (nS h2483) h2494 h3184 h3185)
  refine mr_lvS (lv' := [(0, .ref 106), (1, iv 0)]) (List.forall_mem_cons.mpr ⟨rfl, List.forall_mem_cons.mpr ⟨rfl, fun _ h => absurd h List.not_mem_nil⟩⟩) ?_
  exact L2471 12 0 μ hT mF.refl mG.refl (rW (c := 0) (d := 10) (rR (x := 0)) rfl) hIJC hIRP hIEP hIG1 hIEV hIPK UPn.zero vc_X12_ring_27
theorem vc_X12_today_u_5  : ((5200 : Int) : Int) ≤ (5200 : Int) ∨ (21200 : Int) ≤ ((80 : Int) : Int) := by omega
set_option maxRecDepth 4000 in
set_option maxHeartbeats 4000000 in
theorem c_X12_today_u {l : Launch} {D : va_G} {c : Nat → ClassId} {H0 : Heap} {sa : Nat × Nat × (Nat → Int32)} {w : mW} {μ : mM} (hw : mWF w) (hT : mT w μ) {p1 : Int} (hp1 : (-2147483648) ≤ p1 ∧ p1 ≤ 2147483647) (hIJC : JC l D c H0 sa μ) (hIRP : RP μ) (hIEP : EP μ) (hIHP : HP μ) (hIUP : UP l D c H0 sa μ) (hIG1 : G1 μ) (hIEV : EV μ) (hIPK : PK μ) : sC (gG l D c H0 sa) mX12_today 13 0 0 [.ref 106, iv p1] (mk w μ) (qI w [106017, 106026, 106027, 106028, 106029, 106030, 106031, 106072, 126999, 151999, 152999, 153999, 155999, 156999, 157999, 158999, 159999, 160999, 161999, 165999] μ (fun z μ1 => ((-2147483648) ≤ z ∧ z ≤ 2147483647) ∧ JC l D c H0 sa μ1 ∧ RP μ1 ∧ EP μ1 ∧ HP μ1 ∧ UP l D c H0 sa μ1 ∧ G1 μ1 ∧ EV μ1 ∧ True)) := by
  refine sC.of rfl (by decide) (le_t rfl) ?_
  refine mr_lvE (lv' := [(0, .ref 106), (1, iv p1)]) rfl ?_
  refine mr_iload_n (pc := 0) (z := p1) dX12_today_0 rfl rfl ?_
  refine mr_if_ge (pc := 1) (tgt := 6) dX12_today_1 (by decide) hp1 (fun h1 => ?_) (fun h1 => ?_)
  · have h2 : 0 ≤ p1 ∧ p1 ≤ 2147483647 := (vc_X12_ring_1 h1 hp1)
    refine sv_aload_n (pc := 6) dX12_today_6 rfl rfl ?_
    refine gf_X12_17 (pc := 7) dX12_today_7 wF_X12_85 (A_106 hw) hT fun z3 q4 h5 => ?_
    refine mr_istore_n (pc := 10) (lv' := [(2, iv z3), (0, .ref 106), (1, iv p1)]) dX12_today_10 rfl (by decide) rfl ?_
    refine sv_aload_n (pc := 11) dX12_today_11 rfl rfl ?_
    refine mr_iload_n (pc := 12) (z := p1) dX12_today_12 rfl rfl ?_
    refine pf_X12_17 (pc := 13) dX12_today_13 wF_X12_85 (A_106 hw) hT h2 fun μ6 u7 T8 => ?_
    refine sv_aload_n (pc := 16) dX12_today_16 rfl rfl ?_
    obtain ⟨z9, q10⟩ : ∃ z, μ6 106 2 = z := ⟨_, rfl⟩
    have h11 : (0 ≤ z9 ∧ z9 ≤ 10) := by rw [← q10]; exact T8 106 106 (A_106 hw) 2
    refine mr_cVV (pc := 17) (c_X12_rethink_u hw T8 q10 (JC.keepJ hIJC hw ((mF.up mF.refl (A_106 hw) u7 rfl) : mF [106017] w μ μ6) rfl) (RP.keep hIRP hw ((mF.up mF.refl (A_106 hw) u7 rfl) : mF [106017] w μ μ6) rfl ((mG.upO mG.refl u7 rfl) : mG [] μ μ6) (fun _ h => absurd h List.not_mem_nil)) (EP.keep hIEP hw ((mF.up mF.refl (A_106 hw) u7 rfl) : mF [106017] w μ μ6) rfl) (G1.keep hIG1 hw ((mF.up mF.refl (A_106 hw) u7 rfl) : mF [106017] w μ μ6) rfl rfl ((mG.upO mG.refl u7 rfl) : mG [] μ μ6) (fun _ h => absurd h List.not_mem_nil)) (EV.keep hIEV hw ((mF.up mF.refl (A_106 hw) u7 rfl) : mF [106017] w μ μ6) rfl) (PK.keep hIPK hw ((mF.up mF.refl (A_106 hw) u7 rfl) : mF [106017] w μ μ6) rfl)) (gOk _ _ _ _ _) dX12_today_17 (tX12_rethink _ _ _ _ _) ⟨wV_X12_rethink, wL_X12_rethink⟩ wM_X12_88 (gCX12 _ _ _ _ _) rfl (A_106 hw) rfl ⟨le_t rfl, le_t rfl⟩ ⟨le_t rfl, le_t rfl⟩ rfl (le_t rfl) fun μ12 T13 F14 h15 => ?_
    refine mr_iload_n (pc := 20) (z := z3) dX12_today_20 rfl rfl ?_
    exact mr_iret dX12_today_21 rfl (le_t rfl) (le_t rfl) T13 (mF.call (mF.up mF.refl (A_106 hw) u7 rfl) F14 rfl) ⟨(rW (c := (-2147483648)) (d := 2147483647) h5 rfl), h15.2.1, h15.2.2.1, h15.2.2.2.1, (HP.keep hIHP hw ((mF.call (mF.up mF.refl (A_106 hw) u7 rfl) F14 rfl) : mF [106017, 106026, 106027, 106028, 106029, 106030, 106031, 106072, 126999, 151999, 152999, 153999, 155999, 156999, 157999, 158999, 159999, 160999, 161999, 165999] w μ μ12) rfl ((mG.call (mG.upO mG.refl u7 rfl) h15.1 (List.forall_mem_cons.mpr ⟨⟨_, List.mem_cons_self, vc_X12_rethink_u_5⟩, (List.forall_mem_cons.mpr ⟨⟨_, (List.mem_cons_of_mem _ List.mem_cons_self), vc_X12_say_u_34⟩, (fun _ h => absurd h List.not_mem_nil)⟩)⟩)) : mG [(80, 5200), (21200, 53200)] μ μ12) (List.forall_mem_cons.mpr ⟨vc_X12_today_u_5, (List.forall_mem_cons.mpr ⟨vc_X12_look_u_55, (fun _ h => absurd h List.not_mem_nil)⟩)⟩)), h15.2.2.2.2.2.2.1, h15.2.2.2.2.1, h15.2.2.2.2.2.1, trivial⟩
  have h16 : (-2147483648) ≤ p1 ∧ p1 ≤ (-1) := (vc_X12_ring_60 h1 hp1)
  refine mr_iconst (pc := 4) (z := (-1)) dX12_today_4 ?_
  exact mr_iret dX12_today_5 rfl (le_t rfl) (le_t rfl) hT mF.refl ⟨(rW (c := (-2147483648)) (d := 2147483647) (rR (x := (-1))) rfl), hIJC, hIRP, hIEP, hIHP, hIUP, hIG1, hIEV, trivial⟩
theorem vc_X12_strike_u_1 {p1 z1 z8 : Int} (h0 : z8 = 0) (h1 : (z8 = 1 → (0 : Int) ≤ p1 ∧ p1 ≤ (z1 - 1))) (h2 : (z8 = 0 → p1 < (0 : Int) ∨ (z1 - 1) < p1)) (h3 : (-2147483648) ≤ p1 ∧ p1 ≤ 2147483647) (h4 : 0 ≤ z1 ∧ z1 ≤ 30) (h5 : 0 ≤ z8 ∧ z8 ≤ 1) : 0 ≤ z8 ∧ z8 ≤ 0 := by omega
theorem vc_X12_strike_u_2 {p1 z1 z8 : Int} (h0 : (z8 = 1 → (0 : Int) ≤ p1 ∧ p1 ≤ (z1 - 1))) (h1 : (z8 = 0 → p1 < (0 : Int) ∨ (z1 - 1) < p1)) (h2 : z8 = 0) (h3 : (-2147483648) ≤ p1 ∧ p1 ≤ 2147483647) (h4 : 0 ≤ z1 ∧ z1 ≤ 30) (h5 : 0 ≤ z8 ∧ z8 ≤ 0) : z8 = 0 := by omega
theorem vc_X12_strike_u_3 {p1 z1 z8 : Int} (h0 : ¬ z8 = 0) (h1 : (z8 = 1 → (0 : Int) ≤ p1 ∧ p1 ≤ (z1 - 1))) (h2 : (z8 = 0 → p1 < (0 : Int) ∨ (z1 - 1) < p1)) (h3 : (-2147483648) ≤ p1 ∧ p1 ≤ 2147483647) (h4 : 0 ≤ z1 ∧ z1 ≤ 30) (h5 : 0 ≤ z8 ∧ z8 ≤ 1) : 1 ≤ z8 ∧ z8 ≤ 1 := by omega
theorem vc_X12_strike_u_4 {p1 z1 z8 : Int} (h0 : (z8 = 1 → (0 : Int) ≤ p1 ∧ p1 ≤ (z1 - 1))) (h1 : (z8 = 0 → p1 < (0 : Int) ∨ (z1 - 1) < p1)) (h2 : ¬ z8 = 0) (h3 : (-2147483648) ≤ p1 ∧ p1 ≤ 2147483647) (h4 : 0 ≤ z1 ∧ z1 ≤ 30) (h5 : 1 ≤ z8 ∧ z8 ≤ 1) : z8 = 1 := by omega
theorem vc_X12_strike_u_5 {p1 z1 z8 : Int} (h0 : (0 : Int) ≤ p1 ∧ p1 ≤ (z1 - 1)) (h1 : (z8 = 1 → (0 : Int) ≤ p1 ∧ p1 ≤ (z1 - 1))) (h2 : (z8 = 0 → p1 < (0 : Int) ∨ (z1 - 1) < p1)) (h3 : (-2147483648) ≤ p1 ∧ p1 ≤ 2147483647) (h4 : 0 ≤ z1 ∧ z1 ≤ 30) (h5 : 1 ≤ z8 ∧ z8 ≤ 1) : 0 ≤ p1 ∧ p1 ≤ 2147483647 := by omega
theorem vc_X12_strike_u_6 {p1 z1 z8 : Int} (h0 : (z8 = 1 → (0 : Int) ≤ p1 ∧ p1 ≤ (z1 - 1))) (h1 : (z8 = 0 → p1 < (0 : Int) ∨ (z1 - 1) < p1)) (h2 : (0 : Int) ≤ p1 ∧ p1 ≤ (z1 - 1)) (h3 : ¬ z8 = 0) (h4 : 0 ≤ p1 ∧ p1 ≤ 2147483647) (h5 : 0 ≤ z1 ∧ z1 ≤ 30) (h6 : 1 ≤ z8 ∧ z8 ≤ 1) : 0 ≤ p1 ∧ p1 < 30 := by omega
set_option maxRecDepth 4000 in
set_option maxHeartbeats 4000000 in
theorem c_X12_strike_u {l : Launch} {D : va_G} {c : Nat → ClassId} {H0 : Heap} {sa : Nat × Nat × (Nat → Int32)} {w : mW} {μ : mM} (hw : mWF w) (hT : mT w μ) {p1 : Int} (hp1 : (-2147483648) ≤ p1 ∧ p1 ≤ 2147483647) {p2 : Int} (hp2 : (-2147483648) ≤ p2 ∧ p2 ≤ 2147483647) (hIJC : JC l D c H0 sa μ) (hIRP : RP μ) (hIEP : EP μ) (hIHP : HP μ) (hIUP : UP l D c H0 sa μ) (hIG1 : G1 μ) (hIEV : EV μ) (hIPK : PK μ) : sC (gG l D c H0 sa) mX12_strike 13 0 0 [.ref 106, iv p1, iv p2] (mk w μ) (qI w [106026, 106027, 106028, 106029, 106030, 106031, 106072, 125999, 126999, 151999, 152999, 153999, 155999, 156999, 157999, 158999, 159999, 160999, 161999, 165999] μ (fun z μ1 => ((-2147483648) ≤ z ∧ z ≤ 2147483647) ∧ JC l D c H0 sa μ1 ∧ RP μ1 ∧ EP μ1 ∧ HP μ1 ∧ UP l D c H0 sa μ1 ∧ G1 μ1 ∧ EV μ1 ∧ True)) := by
  refine sC.of rfl (by decide) (le_t rfl) ?_
  refine mr_lvE (lv' := [(0, .ref 106), (1, iv p1), (2, iv p2)]) rfl ?_
  refine mr_iload_n (pc := 0) (z := p1) dX12_strike_0 rfl rfl ?_
  refine mr_iconst (pc := 1) (z := 0) dX12_strike_1 ?_
  refine sv_aload_n (pc := 2) dX12_strike_2 rfl rfl ?_
  refine gf_X12_18 (pc := 3) dX12_strike_3 wF_X12_95 (A_106 hw) hT fun z1 q2 h3 => ?_
  refine mr_iconst (pc := 6) (z := 1) dX12_strike_6 ?_
  refine mr_isub (pc := 7) (x := z1) (y := 1) dX12_strike_7 ?_
  refine mr_cSP (pc := 8) (c_X12_in hw hT hp1 (rW (c := (-2147483648)) (d := 2147483647) (rR (x := 0)) rfl) (rW (c := (-2147483648)) (d := 2147483647) (rSub (e := (-1)) (f := 29) h3 (rR (x := 1)) rfl) rfl)) (gOk _ _ _ _ _) dX12_strike_8 (tX12_in _ _ _ _ _) wS_X12_in wM_X12_18 ⟨le_t rfl, le_t rfl⟩ ⟨le_t rfl, le_t rfl⟩ rfl (le_t rfl) fun z8 h7 => ?_
  refine mr_if_eq (pc := 11) (tgt := 24) dX12_strike_11 (by decide) (r32 h7.1 rfl) (fun h9 => ?_) (fun h9 => ?_)
  · have h10 : 0 ≤ z8 ∧ z8 ≤ 0 := (vc_X12_strike_u_1 h9 h7.2.1 h7.2.2.1 hp1 h3 h7.1)
    have h11 : p1 < (0 : Int) ∨ (z1 - 1) < p1 := (h7.2.2.1 (vc_X12_strike_u_2 h7.2.1 h7.2.2.1 h9 hp1 h3 h10))
    refine mr_iconst (pc := 24) (z := (-1)) dX12_strike_24 ?_
    exact mr_iret dX12_strike_25 rfl (le_t rfl) (le_t rfl) hT mF.refl ⟨(rW (c := (-2147483648)) (d := 2147483647) (rR (x := (-1))) rfl), hIJC, hIRP, hIEP, hIHP, hIUP, hIG1, hIEV, trivial⟩
  have h12 : 1 ≤ z8 ∧ z8 ≤ 1 := (vc_X12_strike_u_3 h9 h7.2.1 h7.2.2.1 hp1 h3 h7.1)
  have h13 : (0 : Int) ≤ p1 ∧ p1 ≤ (z1 - 1) := (h7.2.1 (vc_X12_strike_u_4 h7.2.1 h7.2.2.1 h9 hp1 h3 h12))
  have h14 : 0 ≤ p1 ∧ p1 ≤ 2147483647 := (vc_X12_strike_u_5 h13 h7.2.1 h7.2.2.1 hp1 h3 h12)
  refine mr_iload_n (pc := 14) (z := p2) dX12_strike_14 rfl rfl ?_
  refine sv_aload_n (pc := 15) dX12_strike_15 rfl rfl ?_
  refine gf_X12_24 (pc := 16) dX12_strike_16 wF_X12_113 (A_106 hw) hT ?_
  refine mr_iload_n (pc := 19) (z := p1) dX12_strike_19 rfl rfl ?_
  refine la_124 (pc := 20) dX12_strike_20 (A_124 hw) hT (vc_X12_strike_u_6 h7.2.1 h7.2.2.1 h13 h9 h14 h3 h12) fun z15 q16 h17 => ?_
  refine mr_icmp_ge (pc := 21) (tgt := 26) dX12_strike_21 (by decide) hp2 h17 (fun h18 => ?_) (fun h18 => ?_)
  · refine sv_aload_n (pc := 26) dX12_strike_26 rfl rfl ?_
    refine gf_X12_25 (pc := 27) dX12_strike_27 wF_X12_116 (A_106 hw) hT ?_
    refine mr_iload_n (pc := 30) (z := p1) dX12_strike_30 rfl rfl ?_
    refine la_125 (pc := 31) dX12_strike_31 (A_125 hw) hT (vc_X12_strike_u_6 h7.2.1 h7.2.2.1 h13 h9 h14 h3 h12) fun z19 q20 h21 => ?_
    refine mr_ldc (pc := 32) (z := (-99999999)) dX12_strike_32 wG_X12_29 (by decide) ?_
    refine mr_icmp_eq (pc := 34) (tgt := 40) dX12_strike_34 (by decide) h21 (r32 (rR (x := (-99999999))) rfl) (fun h22 => ?_) (fun h22 => ?_)
    · have h23 : (-99999999) ≤ z19 ∧ z19 ≤ (-99999999) := (vc_X12_judgedAnew_21 h22 h21)
      refine sv_aload_n (pc := 40) dX12_strike_40 rfl rfl ?_
      refine gf_X12_25 (pc := 41) dX12_strike_41 wF_X12_116 (A_106 hw) hT ?_
      refine mr_iload_n (pc := 44) (z := p1) dX12_strike_44 rfl rfl ?_
      refine mr_iload_n (pc := 45) (z := p2) dX12_strike_45 rfl rfl ?_
      refine ss_125 (pc := 46) dX12_strike_46 (A_125 hw) hT (vc_X12_strike_u_6 h7.2.1 h7.2.2.1 h13 h9 h14 h3 h12) hp2 fun μ24 u25 T26 => ?_
      refine sv_aload_n (pc := 47) dX12_strike_47 rfl rfl ?_
      refine mr_iconst (pc := 48) (z := 0) dX12_strike_48 ?_
      refine pf_X12_26 (pc := 49) dX12_strike_49 wF_X12_119 (A_106 hw) T26 (rW (c := 0) (d := 1) (rR (x := 0)) rfl) fun μ27 u28 T29 => ?_
      have I30 : JC l D c H0 sa μ27 := JC.zero u28.1
      refine sv_aload_n (pc := 52) dX12_strike_52 rfl rfl ?_
      obtain ⟨z31, q32⟩ : ∃ z, μ27 106 2 = z := ⟨_, rfl⟩
      have h33 : (0 ≤ z31 ∧ z31 ≤ 10) := by rw [← q32]; exact T29 106 106 (A_106 hw) 2
      refine mr_cVV (pc := 53) (c_X12_rethink_u hw T29 q32 I30 (RP.keep hIRP hw ((mF.up (mF.up mF.refl (A_125 hw) u25 rfl) (A_106 hw) u28 rfl) : mF [106026, 125999] w μ μ27) rfl ((mG.upO (mG.upO mG.refl u25 rfl) u28 rfl) : mG [] μ μ27) (fun _ h => absurd h List.not_mem_nil)) (EP.keep hIEP hw ((mF.up (mF.up mF.refl (A_125 hw) u25 rfl) (A_106 hw) u28 rfl) : mF [106026, 125999] w μ μ27) rfl) (G1.keep hIG1 hw ((mF.up (mF.up mF.refl (A_125 hw) u25 rfl) (A_106 hw) u28 rfl) : mF [106026, 125999] w μ μ27) rfl rfl ((mG.upO (mG.upO mG.refl u25 rfl) u28 rfl) : mG [] μ μ27) (fun _ h => absurd h List.not_mem_nil)) (EV.keep hIEV hw ((mF.up (mF.up mF.refl (A_125 hw) u25 rfl) (A_106 hw) u28 rfl) : mF [106026, 125999] w μ μ27) rfl) (PK.keep hIPK hw ((mF.up (mF.up mF.refl (A_125 hw) u25 rfl) (A_106 hw) u28 rfl) : mF [106026, 125999] w μ μ27) rfl)) (gOk _ _ _ _ _) dX12_strike_53 (tX12_rethink _ _ _ _ _) ⟨wV_X12_rethink, wL_X12_rethink⟩ wM_X12_88 (gCX12 _ _ _ _ _) rfl (A_106 hw) rfl ⟨le_t rfl, le_t rfl⟩ ⟨le_t rfl, le_t rfl⟩ rfl (le_t rfl) fun μ34 T35 F36 h37 => ?_
      refine mr_iconst (pc := 56) (z := 0) dX12_strike_56 ?_
      exact mr_iret dX12_strike_57 rfl (le_t rfl) (le_t rfl) T35 (mF.call (mF.up (mF.up mF.refl (A_125 hw) u25 rfl) (A_106 hw) u28 rfl) F36 rfl) ⟨(rW (c := (-2147483648)) (d := 2147483647) (rR (x := 0)) rfl), h37.2.1, h37.2.2.1, h37.2.2.2.1, (HP.keep hIHP hw ((mF.call (mF.up (mF.up mF.refl (A_125 hw) u25 rfl) (A_106 hw) u28 rfl) F36 rfl) : mF [106026, 106027, 106028, 106029, 106030, 106031, 106072, 125999, 126999, 151999, 152999, 153999, 155999, 156999, 157999, 158999, 159999, 160999, 161999, 165999] w μ μ34) rfl ((mG.call (mG.upO (mG.upO mG.refl u25 rfl) u28 rfl) h37.1 (List.forall_mem_cons.mpr ⟨⟨_, List.mem_cons_self, vc_X12_rethink_u_5⟩, (List.forall_mem_cons.mpr ⟨⟨_, (List.mem_cons_of_mem _ List.mem_cons_self), vc_X12_say_u_34⟩, (fun _ h => absurd h List.not_mem_nil)⟩)⟩)) : mG [(80, 5200), (21200, 53200)] μ μ34) (List.forall_mem_cons.mpr ⟨vc_X12_today_u_5, (List.forall_mem_cons.mpr ⟨vc_X12_look_u_55, (fun _ h => absurd h List.not_mem_nil)⟩)⟩)), h37.2.2.2.2.2.2.1, h37.2.2.2.2.1, h37.2.2.2.2.2.1, trivial⟩
    refine mr_bipush (pc := 37) (z := (-2)) dX12_strike_37 (by decide) ?_
    exact mr_iret dX12_strike_39 rfl (le_t rfl) (le_t rfl) hT mF.refl ⟨(rW (c := (-2147483648)) (d := 2147483647) (rR (x := (-2))) rfl), hIJC, hIRP, hIEP, hIHP, hIUP, hIG1, hIEV, trivial⟩
  have h38 : (-2147483648) ≤ p2 ∧ p2 ≤ 2147483646 := (vc_X12_in_1 h18 hp2 h17)
  have h39 : (-2147483647) ≤ z15 ∧ z15 ≤ 2147483647 := (vc_X12_in_2 h18 h38 h17)
  refine mr_iconst (pc := 24) (z := (-1)) dX12_strike_24 ?_
  exact mr_iret dX12_strike_25 rfl (le_t rfl) (le_t rfl) hT mF.refl ⟨(rW (c := (-2147483648)) (d := 2147483647) (rR (x := (-1))) rfl), hIJC, hIRP, hIEP, hIHP, hIUP, hIG1, hIEV, trivial⟩
theorem vc_X12_announce_u_15 {p2 z16 z23 : Int} (h0 : (z23 = 1 → 0 ≤ p2 ∧ p2 < z16)) (h1 : (z23 = 0 → p2 < 0 ∨ z16 ≤ p2)) (h2 : 0 ≤ p2 ∧ p2 < z16) (h3 : ¬ z23 = 0) (h4 : 0 ≤ p2 ∧ p2 ≤ 9) (h5 : 0 ≤ z16 ∧ z16 ≤ 10) (h6 : 1 ≤ z23 ∧ z23 ≤ 1) : p2 < z16 := by omega
theorem vc_X12_announce_u_17 {p1 p2 z1 z16 z23 z8 : Int} (h0 : (z8 = 1 → 0 ≤ p1 ∧ p1 < z1)) (h1 : (z8 = 0 → p1 < 0 ∨ z1 ≤ p1)) (h2 : 0 ≤ p1 ∧ p1 < z1) (h3 : (z23 = 1 → 0 ≤ p2 ∧ p2 < z16)) (h4 : (z23 = 0 → p2 < 0 ∨ z16 ≤ p2)) (h5 : 0 ≤ p2 ∧ p2 < z16) (h6 : ¬ z8 = 0) (h7 : ¬ z23 = 0) (h8 : 0 ≤ p1 ∧ p1 ≤ 9) (h9 : 0 ≤ p2 ∧ p2 ≤ 9) (h10 : 1 ≤ z1 ∧ z1 ≤ 10) (h11 : 0 ≤ z16 ∧ z16 ≤ 10) (h12 : 1 ≤ z23 ∧ z23 ≤ 1) (h13 : 1 ≤ z8 ∧ z8 ≤ 1) : (40 * (30 + ((10 * p1) + p2))) ≤ (40 * (30 + ((10 * p1) + p2))) ∧ ((40 * (30 + ((10 * p1) + p2))) + 40) ≤ ((40 * (30 + ((10 * p1) + p2))) + 40) := by omega
theorem vc_X12_announce_u_20 {p1 p2 z1 z16 z23 z8 : Int} (h0 : (z8 = 1 → 0 ≤ p1 ∧ p1 < z1)) (h1 : (z8 = 0 → p1 < 0 ∨ z1 ≤ p1)) (h2 : 0 ≤ p1 ∧ p1 < z1) (h3 : (z23 = 1 → 0 ≤ p2 ∧ p2 < z16)) (h4 : (z23 = 0 → p2 < 0 ∨ z16 ≤ p2)) (h5 : 0 ≤ p2 ∧ p2 < z16) (h6 : ¬ z8 = 0) (h7 : ¬ z23 = 0) (h8 : 0 ≤ p1 ∧ p1 ≤ 9) (h9 : 0 ≤ p2 ∧ p2 ≤ 9) (h10 : 1 ≤ z1 ∧ z1 ≤ 10) (h11 : 0 ≤ z16 ∧ z16 ≤ 10) (h12 : 1 ≤ z23 ∧ z23 ≤ 1) (h13 : 1 ≤ z8 ∧ z8 ≤ 1) : ((40 * (30 + ((10 * p1) + p2))) + 40) ≤ 5200 ∨ 21200 ≤ (40 * (30 + ((10 * p1) + p2))) := by omega
theorem vc_X12_announce_u_22 {p3 z34 z39 : Int} (h0 : z39 = p3) (h1 : (z34 = 1 → (0 : Int) ≤ p3 ∧ p3 ≤ (2 : Int))) (h2 : (z34 = 0 → p3 < (0 : Int) ∨ (2 : Int) < p3)) (h3 : (0 : Int) ≤ p3 ∧ p3 ≤ (2 : Int)) (h4 : 0 ≤ p3 ∧ p3 ≤ 2) (h5 : 1 ≤ z34 ∧ z34 ≤ 1) (h6 : (-1) ≤ z39 ∧ z39 ≤ 2) : 0 ≤ z39 ∧ z39 ≤ 2 := by omega
set_option maxRecDepth 4000 in
set_option maxHeartbeats 4000000 in
theorem c_X12_announce_u {l : Launch} {D : va_G} {c : Nat → ClassId} {H0 : Heap} {sa : Nat × Nat × (Nat → Int32)} {w : mW} {μ : mM} (hw : mWF w) (hT : mT w μ) {p1 : Int} (hp1 : (-2147483648) ≤ p1 ∧ p1 ≤ 2147483647) {p2 : Int} (hp2 : (-2147483648) ≤ p2 ∧ p2 ≤ 2147483647) {p3 : Int} (hp3 : (-2147483648) ≤ p3 ∧ p3 ≤ 2147483647) (hIJC : JC l D c H0 sa μ) (hIRP : RP μ) (hIEP : EP μ) (hIHP : HP μ) (hIUP : UP l D c H0 sa μ) (hIG1 : G1 μ) (hIEV : EV μ) (hIPK : PK μ) : sC (gG l D c H0 sa) mX12_announce 11 0 0 [.ref 106, iv p1, iv p2, iv p3] (mk w μ) (qI w [106026, 106027, 106028, 106029, 106030, 106031, 106072, 126999, 151999, 152999, 153999, 155999, 156999, 157999, 158999, 159999, 160999, 161999, 162999, 165999] μ (fun z μ1 => ((-2147483648) ≤ z ∧ z ≤ 2147483647) ∧ JC l D c H0 sa μ1 ∧ RP μ1 ∧ EP μ1 ∧ HP μ1 ∧ UP l D c H0 sa μ1 ∧ G1 μ1 ∧ EV μ1 ∧ True)) := by
  refine sC.of rfl (by decide) (le_t rfl) ?_
  refine mr_lvE (lv' := [(0, .ref 106), (1, iv p1), (2, iv p2), (3, iv p3)]) rfl ?_
  refine sv_aload_n (pc := 0) dX12_announce_0 rfl rfl ?_
  refine mr_iload_n (pc := 1) (z := p1) dX12_announce_1 rfl rfl ?_
  obtain ⟨z1, q2⟩ : ∃ z, μ 106 5 = z := ⟨_, rfl⟩
  have h3 : (0 ≤ z1 ∧ z1 ≤ 10) := by rw [← q2]; exact hT 106 106 (A_106 hw) 5
  refine mr_cVP (pc := 2) (c_X12_isDomain hw hT hp1 q2) (gOk _ _ _ _ _) dX12_announce_2 (tX12_isDomain _ _ _ _ _) ⟨wV_X12_isDomain, wL_X12_isDomain⟩ wM_X12_49 (gCX12 _ _ _ _ _) rfl (A_106 hw) rfl ⟨le_t rfl, le_t rfl⟩ ⟨le_t rfl, le_t rfl⟩ rfl (le_t rfl) fun z8 h7 => ?_
  refine mr_if_eq (pc := 5) (tgt := 25) dX12_announce_5 (by decide) (r32 h7.1 rfl) (fun h9 => ?_) (fun h9 => ?_)
  · have h10 : 0 ≤ z8 ∧ z8 ≤ 0 := (vc_X12_write_78 h9 h7.2.1 h7.2.2.1 hp1 h3 h7.1)
    have h11 : p1 < 0 ∨ z1 ≤ p1 := (h7.2.2.1 (vc_X12_write_79 h7.2.1 h7.2.2.1 h9 hp1 h3 h10))
    refine mr_iconst (pc := 25) (z := (-1)) dX12_announce_25 ?_
    exact mr_iret dX12_announce_26 rfl (le_t rfl) (le_t rfl) hT mF.refl ⟨(rW (c := (-2147483648)) (d := 2147483647) (rR (x := (-1))) rfl), hIJC, hIRP, hIEP, hIHP, hIUP, hIG1, hIEV, trivial⟩
  have h12 : 1 ≤ z8 ∧ z8 ≤ 1 := (vc_X12_write_12 h9 h7.2.1 h7.2.2.1 hp1 h3 h7.1)
  have h13 : 0 ≤ p1 ∧ p1 < z1 := (h7.2.1 (vc_X12_write_13 h7.2.1 h7.2.2.1 h9 hp1 h3 h12))
  have h14 : 0 ≤ p1 ∧ p1 ≤ 9 := (vc_X12_write_14 h13 h7.2.1 h7.2.2.1 hp1 h3 h12)
  have h15 : 1 ≤ z1 ∧ z1 ≤ 10 := (vc_X12_write_15 h13 h7.2.1 h7.2.2.1 h14 h3 h12)
  refine sv_aload_n (pc := 8) dX12_announce_8 rfl rfl ?_
  refine mr_iload_n (pc := 9) (z := p2) dX12_announce_9 rfl rfl ?_
  obtain ⟨z16, q17⟩ : ∃ z, μ 106 2 = z := ⟨_, rfl⟩
  have h18 : (0 ≤ z16 ∧ z16 ≤ 10) := by rw [← q17]; exact hT 106 106 (A_106 hw) 2
  refine mr_cVP (pc := 10) (c_X12_isPrefix hw hT hp2 q17) (gOk _ _ _ _ _) dX12_announce_10 (tX12_isPrefix _ _ _ _ _) ⟨wV_X12_isPrefix, wL_X12_isPrefix⟩ wM_X12_92 (gCX12 _ _ _ _ _) rfl (A_106 hw) rfl ⟨le_t rfl, le_t rfl⟩ ⟨le_t rfl, le_t rfl⟩ rfl (le_t rfl) fun z23 h22 => ?_
  refine mr_if_eq (pc := 13) (tgt := 25) dX12_announce_13 (by decide) (r32 h22.1 rfl) (fun h24 => ?_) (fun h24 => ?_)
  · have h25 : 0 ≤ z23 ∧ z23 ≤ 0 := (vc_X12_write_78 h24 h22.2.1 h22.2.2.1 hp2 h18 h22.1)
    have h26 : p2 < 0 ∨ z16 ≤ p2 := (h22.2.2.1 (vc_X12_write_79 h22.2.1 h22.2.2.1 h24 hp2 h18 h25))
    refine mr_iconst (pc := 25) (z := (-1)) dX12_announce_25 ?_
    exact mr_iret dX12_announce_26 rfl (le_t rfl) (le_t rfl) hT mF.refl ⟨(rW (c := (-2147483648)) (d := 2147483647) (rR (x := (-1))) rfl), hIJC, hIRP, hIEP, hIHP, hIUP, hIG1, hIEV, trivial⟩
  have h27 : 1 ≤ z23 ∧ z23 ≤ 1 := (vc_X12_write_12 h24 h22.2.1 h22.2.2.1 hp2 h18 h22.1)
  have h28 : 0 ≤ p2 ∧ p2 < z16 := (h22.2.1 (vc_X12_write_13 h22.2.1 h22.2.2.1 h24 hp2 h18 h27))
  have h29 : 0 ≤ p2 ∧ p2 ≤ 9 := (vc_X12_write_14 h28 h22.2.1 h22.2.2.1 hp2 h18 h27)
  refine mr_iload_n (pc := 16) (z := p3) dX12_announce_16 rfl rfl ?_
  refine mr_iconst (pc := 17) (z := 0) dX12_announce_17 ?_
  refine mr_iconst (pc := 18) (z := 2) dX12_announce_18 ?_
  refine mr_cSP (pc := 19) (c_X12_in hw hT hp3 (rW (c := (-2147483648)) (d := 2147483647) (rR (x := 0)) rfl) (rW (c := (-2147483648)) (d := 2147483647) (rR (x := 2)) rfl)) (gOk _ _ _ _ _) dX12_announce_19 (tX12_in _ _ _ _ _) wS_X12_in wM_X12_18 ⟨le_t rfl, le_t rfl⟩ ⟨le_t rfl, le_t rfl⟩ rfl (le_t rfl) fun z34 h33 => ?_
  refine mr_if_ne (pc := 22) (tgt := 27) dX12_announce_22 (by decide) (r32 h33.1 rfl) (fun h35 => ?_) (fun h35 => ?_)
  · have h36 : 1 ≤ z34 ∧ z34 ≤ 1 := (vc_X12_units_1 h35 h33.2.1 h33.2.2.1 hp3 h33.1)
    have h37 : (0 : Int) ≤ p3 ∧ p3 ≤ (2 : Int) := (h33.2.1 (vc_X12_units_2 h33.2.1 h33.2.2.1 h35 hp3 h36))
    have h38 : 0 ≤ p3 ∧ p3 ≤ 2 := (vc_X12_units_3 h37 h33.2.1 h33.2.2.1 hp3 h36)
    refine mr_bipush (pc := 27) (z := 10) dX12_announce_27 (by decide) ?_
    refine mr_iload_n (pc := 29) (z := p1) dX12_announce_29 rfl rfl ?_
    refine mr_imul (pc := 30) (x := 10) (y := p1) dX12_announce_30 ?_
    refine mr_iload_n (pc := 31) (z := p2) dX12_announce_31 rfl rfl ?_
    refine mr_iadd (pc := 32) (x := (10 * p1)) (y := p2) dX12_announce_32 ?_
    refine mr_istore (pc := 33) (lv' := [(4, iv ((10 * p1) + p2)), (0, .ref 106), (1, iv p1), (2, iv p2), (3, iv p3)]) dX12_announce_33 (by decide) rfl ?_
    refine sv_aload_n (pc := 35) dX12_announce_35 rfl rfl ?_
    refine gf_X12_82 (pc := 36) dX12_announce_36 wF_X12_448 (A_106 hw) hT ?_
    refine mr_iload (pc := 39) (z := ((10 * p1) + p2)) dX12_announce_39 rfl ?_
    refine la_162 (pc := 41) dX12_announce_41 (A_162 hw) hT (rIx (n := 100) (rAdd (e := 0) (f := 99) (rMulL (n := 10) (e := 0) (f := 90) h14 rfl) h29 rfl) rfl) fun z39 q40 h41 => ?_
    refine mr_iload_n (pc := 42) (z := p3) dX12_announce_42 rfl rfl ?_
    refine mr_icmp_ne (pc := 43) (tgt := 49) dX12_announce_43 (by decide) (r32 h41 rfl) (r32 h38 rfl) (fun h42 => ?_) (fun h42 => ?_)
    · refine sv_aload_n (pc := 49) dX12_announce_49 rfl rfl ?_
      refine gf_X12_82 (pc := 50) dX12_announce_50 wF_X12_448 (A_106 hw) hT ?_
      refine mr_iload (pc := 53) (z := ((10 * p1) + p2)) dX12_announce_53 rfl ?_
      refine mr_iload_n (pc := 55) (z := p3) dX12_announce_55 rfl rfl ?_
      refine ss_162 (pc := 56) dX12_announce_56 (A_162 hw) hT (rIx (n := 100) (rAdd (e := 0) (f := 99) (rMulL (n := 10) (e := 0) (f := 90) h14 rfl) h29 rfl) rfl) (rW (c := (-1)) (d := 2) h38 rfl) fun μ43 u44 T45 => ?_
      refine sv_aload_n (pc := 57) dX12_announce_57 rfl rfl ?_
      refine mr_iload_n (pc := 58) (z := p1) dX12_announce_58 rfl rfl ?_
      refine mr_iload_n (pc := 59) (z := p2) dX12_announce_59 rfl rfl ?_
      refine mr_cVV (pc := 60) (c_X12_look_u hw T45 h14 h29 (u44.f (Or.inl (mAt.ne (A_162 hw) (A_106 hw) rfl)) q17) (vc_X12_announce_u_15 h22.2.1 h22.2.2.1 h28 h24 h29 h18 h27) (JC.keepJ hIJC hw ((mF.up mF.refl (A_162 hw) u44 rfl) : mF [162999] w μ μ43) rfl) (RP.keep hIRP hw ((mF.up mF.refl (A_162 hw) u44 rfl) : mF [162999] w μ μ43) rfl ((mG.upO mG.refl u44 rfl) : mG [] μ μ43) (fun _ h => absurd h List.not_mem_nil)) (EP.keep hIEP hw ((mF.up mF.refl (A_162 hw) u44 rfl) : mF [162999] w μ μ43) rfl) (G1.keep hIG1 hw ((mF.up mF.refl (A_162 hw) u44 rfl) : mF [162999] w μ μ43) rfl rfl ((mG.upO mG.refl u44 rfl) : mG [] μ μ43) (fun _ h => absurd h List.not_mem_nil)) (EV.keep hIEV hw ((mF.up mF.refl (A_162 hw) u44 rfl) : mF [162999] w μ μ43) rfl) (PK.keep hIPK hw ((mF.up mF.refl (A_162 hw) u44 rfl) : mF [162999] w μ μ43) rfl)) (gOk _ _ _ _ _) dX12_announce_60 (tX12_look _ _ _ _ _) ⟨wV_X12_look, wL_X12_look⟩ wM_X12_597 (gCX12 _ _ _ _ _) rfl (A_106 hw) rfl ⟨le_t rfl, le_t rfl⟩ ⟨le_t rfl, le_t rfl⟩ rfl (le_t rfl) fun μ46 T47 F48 h49 => ?_
      have I50 : UP l D c H0 sa μ46 := UPg.look (UPg.fr hIUP hw T45 rfl ((mF.up mF.refl (A_162 hw) u44 rfl) : mF [162999] w μ μ43) rfl rfl rfl ((mG.upO mG.refl u44 rfl) : mG [] μ μ43) (fun _ h => absurd h List.not_mem_nil)) (fun _ _ h => h.elim) h14 h29 hw T45 rfl rfl ((mF.call mF.refl F48 rfl) : mF [106026, 106027, 106028, 106029, 106030, 106031, 106072, 126999, 151999, 152999, 153999, 155999, 156999, 157999, 158999, 159999, 160999, 161999, 165999] w μ43 μ46) rfl rfl rfl ((mG.call mG.refl h49.1 (List.forall_mem_cons.mpr ⟨⟨_, List.mem_cons_self, vc_X12_look_u_35⟩, (List.forall_mem_cons.mpr ⟨⟨_, (List.mem_cons_of_mem _ List.mem_cons_self), (vc_X12_announce_u_17 h7.2.1 h7.2.2.1 h13 h22.2.1 h22.2.2.1 h28 h9 h24 h14 h29 h15 h18 h27 h12)⟩, (List.forall_mem_cons.mpr ⟨⟨_, (List.mem_cons_of_mem _ (List.mem_cons_of_mem _ List.mem_cons_self)), vc_X12_say_u_34⟩, (fun _ h => absurd h List.not_mem_nil)⟩)⟩)⟩)) : mG [(80, 960), ((40 * (30 + ((10 * p1) + p2))), ((40 * (30 + ((10 * p1) + p2))) + 40)), (21200, 53200)] μ43 μ46) (List.forall_mem_cons.mpr ⟨vc_X12_lookAll_u_14, (List.forall_mem_cons.mpr ⟨(vc_X12_announce_u_20 h7.2.1 h7.2.2.1 h13 h22.2.1 h22.2.2.1 h28 h9 h24 h14 h29 h15 h18 h27 h12), (List.forall_mem_cons.mpr ⟨vc_X12_look_u_55, (fun _ h => absurd h List.not_mem_nil)⟩)⟩)⟩) h49.2.2.2.2.2.2.2.1 h49.2.2.2.2.2.2.1
      refine mr_iconst (pc := 63) (z := 0) dX12_announce_63 ?_
      exact mr_iret dX12_announce_64 rfl (le_t rfl) (le_t rfl) T47 (mF.call (mF.up mF.refl (A_162 hw) u44 rfl) F48 rfl) ⟨(rW (c := (-2147483648)) (d := 2147483647) (rR (x := 0)) rfl), h49.2.1, h49.2.2.1, h49.2.2.2.1, (HP.keep hIHP hw ((mF.call (mF.up mF.refl (A_162 hw) u44 rfl) F48 rfl) : mF [106026, 106027, 106028, 106029, 106030, 106031, 106072, 126999, 151999, 152999, 153999, 155999, 156999, 157999, 158999, 159999, 160999, 161999, 162999, 165999] w μ μ46) rfl ((mG.call (mG.upO mG.refl u44 rfl) h49.1 (List.forall_mem_cons.mpr ⟨⟨_, List.mem_cons_self, vc_X12_look_u_35⟩, (List.forall_mem_cons.mpr ⟨⟨_, (List.mem_cons_of_mem _ List.mem_cons_self), (vc_X12_announce_u_17 h7.2.1 h7.2.2.1 h13 h22.2.1 h22.2.2.1 h28 h9 h24 h14 h29 h15 h18 h27 h12)⟩, (List.forall_mem_cons.mpr ⟨⟨_, (List.mem_cons_of_mem _ (List.mem_cons_of_mem _ List.mem_cons_self)), vc_X12_say_u_34⟩, (fun _ h => absurd h List.not_mem_nil)⟩)⟩)⟩)) : mG [(80, 960), ((40 * (30 + ((10 * p1) + p2))), ((40 * (30 + ((10 * p1) + p2))) + 40)), (21200, 53200)] μ μ46) (List.forall_mem_cons.mpr ⟨vc_X12_lookAll_u_14, (List.forall_mem_cons.mpr ⟨(vc_X12_announce_u_20 h7.2.1 h7.2.2.1 h13 h22.2.1 h22.2.2.1 h28 h9 h24 h14 h29 h15 h18 h27 h12), (List.forall_mem_cons.mpr ⟨vc_X12_look_u_55, (fun _ h => absurd h List.not_mem_nil)⟩)⟩)⟩)), I50, h49.2.2.2.2.1, h49.2.2.2.2.2.1, trivial⟩
    have h51 : 0 ≤ z39 ∧ z39 ≤ 2 := (vc_X12_announce_u_22 h42 h33.2.1 h33.2.2.1 h37 h38 h36 h41)
    refine mr_bipush (pc := 46) (z := (-2)) dX12_announce_46 (by decide) ?_
    exact mr_iret dX12_announce_48 rfl (le_t rfl) (le_t rfl) hT mF.refl ⟨(rW (c := (-2147483648)) (d := 2147483647) (rR (x := (-2))) rfl), hIJC, hIRP, hIEP, hIHP, hIUP, hIG1, hIEV, trivial⟩
  have h52 : 0 ≤ z34 ∧ z34 ≤ 0 := (vc_X12_units_9 h35 h33.2.1 h33.2.2.1 hp3 h33.1)
  have h53 : p3 < (0 : Int) ∨ (2 : Int) < p3 := (h33.2.2.1 (vc_X12_units_10 h33.2.1 h33.2.2.1 h35 hp3 h52))
  refine mr_iconst (pc := 25) (z := (-1)) dX12_announce_25 ?_
  exact mr_iret dX12_announce_26 rfl (le_t rfl) (le_t rfl) hT mF.refl ⟨(rW (c := (-2147483648)) (d := 2147483647) (rR (x := (-1))) rfl), hIJC, hIRP, hIEP, hIHP, hIUP, hIG1, hIEV, trivial⟩
set_option maxRecDepth 4000 in
set_option maxHeartbeats 4000000 in
theorem c_X12_withdraw_u {l : Launch} {D : va_G} {c : Nat → ClassId} {H0 : Heap} {sa : Nat × Nat × (Nat → Int32)} {w : mW} {μ : mM} (hw : mWF w) (hT : mT w μ) {p1 : Int} (hp1 : (-2147483648) ≤ p1 ∧ p1 ≤ 2147483647) {p2 : Int} (hp2 : (-2147483648) ≤ p2 ∧ p2 ≤ 2147483647) (hIJC : JC l D c H0 sa μ) (hIRP : RP μ) (hIEP : EP μ) (hIHP : HP μ) (hIUP : UP l D c H0 sa μ) (hIG1 : G1 μ) (hIEV : EV μ) (hIPK : PK μ) : sC (gG l D c H0 sa) mX12_withdraw 11 0 0 [.ref 106, iv p1, iv p2] (mk w μ) (qI w [106026, 106027, 106028, 106029, 106030, 106031, 106072, 126999, 151999, 152999, 153999, 155999, 156999, 157999, 158999, 159999, 160999, 161999, 162999, 165999] μ (fun z μ1 => ((-2147483648) ≤ z ∧ z ≤ 2147483647) ∧ JC l D c H0 sa μ1 ∧ RP μ1 ∧ EP μ1 ∧ HP μ1 ∧ UP l D c H0 sa μ1 ∧ G1 μ1 ∧ EV μ1 ∧ True)) := by
  refine sC.of rfl (by decide) (le_t rfl) ?_
  refine mr_lvE (lv' := [(0, .ref 106), (1, iv p1), (2, iv p2)]) rfl ?_
  refine sv_aload_n (pc := 0) dX12_withdraw_0 rfl rfl ?_
  refine mr_iload_n (pc := 1) (z := p1) dX12_withdraw_1 rfl rfl ?_
  obtain ⟨z1, q2⟩ : ∃ z, μ 106 5 = z := ⟨_, rfl⟩
  have h3 : (0 ≤ z1 ∧ z1 ≤ 10) := by rw [← q2]; exact hT 106 106 (A_106 hw) 5
  refine mr_cVP (pc := 2) (c_X12_isDomain hw hT hp1 q2) (gOk _ _ _ _ _) dX12_withdraw_2 (tX12_isDomain _ _ _ _ _) ⟨wV_X12_isDomain, wL_X12_isDomain⟩ wM_X12_49 (gCX12 _ _ _ _ _) rfl (A_106 hw) rfl ⟨le_t rfl, le_t rfl⟩ ⟨le_t rfl, le_t rfl⟩ rfl (le_t rfl) fun z8 h7 => ?_
  refine mr_if_eq (pc := 5) (tgt := 16) dX12_withdraw_5 (by decide) (r32 h7.1 rfl) (fun h9 => ?_) (fun h9 => ?_)
  · have h10 : 0 ≤ z8 ∧ z8 ≤ 0 := (vc_X12_write_78 h9 h7.2.1 h7.2.2.1 hp1 h3 h7.1)
    have h11 : p1 < 0 ∨ z1 ≤ p1 := (h7.2.2.1 (vc_X12_write_79 h7.2.1 h7.2.2.1 h9 hp1 h3 h10))
    refine mr_iconst (pc := 16) (z := (-1)) dX12_withdraw_16 ?_
    exact mr_iret dX12_withdraw_17 rfl (le_t rfl) (le_t rfl) hT mF.refl ⟨(rW (c := (-2147483648)) (d := 2147483647) (rR (x := (-1))) rfl), hIJC, hIRP, hIEP, hIHP, hIUP, hIG1, hIEV, trivial⟩
  have h12 : 1 ≤ z8 ∧ z8 ≤ 1 := (vc_X12_write_12 h9 h7.2.1 h7.2.2.1 hp1 h3 h7.1)
  have h13 : 0 ≤ p1 ∧ p1 < z1 := (h7.2.1 (vc_X12_write_13 h7.2.1 h7.2.2.1 h9 hp1 h3 h12))
  have h14 : 0 ≤ p1 ∧ p1 ≤ 9 := (vc_X12_write_14 h13 h7.2.1 h7.2.2.1 hp1 h3 h12)
  have h15 : 1 ≤ z1 ∧ z1 ≤ 10 := (vc_X12_write_15 h13 h7.2.1 h7.2.2.1 h14 h3 h12)
  refine sv_aload_n (pc := 8) dX12_withdraw_8 rfl rfl ?_
  refine mr_iload_n (pc := 9) (z := p2) dX12_withdraw_9 rfl rfl ?_
  obtain ⟨z16, q17⟩ : ∃ z, μ 106 2 = z := ⟨_, rfl⟩
  have h18 : (0 ≤ z16 ∧ z16 ≤ 10) := by rw [← q17]; exact hT 106 106 (A_106 hw) 2
  refine mr_cVP (pc := 10) (c_X12_isPrefix hw hT hp2 q17) (gOk _ _ _ _ _) dX12_withdraw_10 (tX12_isPrefix _ _ _ _ _) ⟨wV_X12_isPrefix, wL_X12_isPrefix⟩ wM_X12_92 (gCX12 _ _ _ _ _) rfl (A_106 hw) rfl ⟨le_t rfl, le_t rfl⟩ ⟨le_t rfl, le_t rfl⟩ rfl (le_t rfl) fun z23 h22 => ?_
  refine mr_if_ne (pc := 13) (tgt := 18) dX12_withdraw_13 (by decide) (r32 h22.1 rfl) (fun h24 => ?_) (fun h24 => ?_)
  · have h25 : 1 ≤ z23 ∧ z23 ≤ 1 := (vc_X12_write_12 h24 h22.2.1 h22.2.2.1 hp2 h18 h22.1)
    have h26 : 0 ≤ p2 ∧ p2 < z16 := (h22.2.1 (vc_X12_write_13 h22.2.1 h22.2.2.1 h24 hp2 h18 h25))
    have h27 : 0 ≤ p2 ∧ p2 ≤ 9 := (vc_X12_write_14 h26 h22.2.1 h22.2.2.1 hp2 h18 h25)
    refine sv_aload_n (pc := 18) dX12_withdraw_18 rfl rfl ?_
    refine gf_X12_82 (pc := 19) dX12_withdraw_19 wF_X12_448 (A_106 hw) hT ?_
    refine mr_bipush (pc := 22) (z := 10) dX12_withdraw_22 (by decide) ?_
    refine mr_iload_n (pc := 24) (z := p1) dX12_withdraw_24 rfl rfl ?_
    refine mr_imul (pc := 25) (x := 10) (y := p1) dX12_withdraw_25 ?_
    refine mr_iload_n (pc := 26) (z := p2) dX12_withdraw_26 rfl rfl ?_
    refine mr_iadd (pc := 27) (x := (10 * p1)) (y := p2) dX12_withdraw_27 ?_
    refine la_162 (pc := 28) dX12_withdraw_28 (A_162 hw) hT (rIx (n := 100) (rAdd (e := 0) (f := 99) (rMulL (n := 10) (e := 0) (f := 90) h14 rfl) h27 rfl) rfl) fun z28 q29 h30 => ?_
    refine mr_if_ge (pc := 29) (tgt := 35) dX12_withdraw_29 (by decide) (r32 h30 rfl) (fun h31 => ?_) (fun h31 => ?_)
    · have h32 : 0 ≤ z28 ∧ z28 ≤ 2 := (vc_X12_look_u_133 h31 h30)
      refine sv_aload_n (pc := 35) dX12_withdraw_35 rfl rfl ?_
      refine gf_X12_82 (pc := 36) dX12_withdraw_36 wF_X12_448 (A_106 hw) hT ?_
      refine mr_bipush (pc := 39) (z := 10) dX12_withdraw_39 (by decide) ?_
      refine mr_iload_n (pc := 41) (z := p1) dX12_withdraw_41 rfl rfl ?_
      refine mr_imul (pc := 42) (x := 10) (y := p1) dX12_withdraw_42 ?_
      refine mr_iload_n (pc := 43) (z := p2) dX12_withdraw_43 rfl rfl ?_
      refine mr_iadd (pc := 44) (x := (10 * p1)) (y := p2) dX12_withdraw_44 ?_
      refine mr_iconst (pc := 45) (z := (-1)) dX12_withdraw_45 ?_
      refine ss_162 (pc := 46) dX12_withdraw_46 (A_162 hw) hT (rIx (n := 100) (rAdd (e := 0) (f := 99) (rMulL (n := 10) (e := 0) (f := 90) h14 rfl) h27 rfl) rfl) (rW (c := (-1)) (d := 2) (rR (x := (-1))) rfl) fun μ33 u34 T35 => ?_
      refine sv_aload_n (pc := 47) dX12_withdraw_47 rfl rfl ?_
      refine mr_iload_n (pc := 48) (z := p1) dX12_withdraw_48 rfl rfl ?_
      refine mr_iload_n (pc := 49) (z := p2) dX12_withdraw_49 rfl rfl ?_
      refine mr_cVV (pc := 50) (c_X12_look_u hw T35 h14 h27 (u34.f (Or.inl (mAt.ne (A_162 hw) (A_106 hw) rfl)) q17) (vc_X12_announce_u_15 h22.2.1 h22.2.2.1 h26 h24 h27 h18 h25) (JC.keepJ hIJC hw ((mF.up mF.refl (A_162 hw) u34 rfl) : mF [162999] w μ μ33) rfl) (RP.keep hIRP hw ((mF.up mF.refl (A_162 hw) u34 rfl) : mF [162999] w μ μ33) rfl ((mG.upO mG.refl u34 rfl) : mG [] μ μ33) (fun _ h => absurd h List.not_mem_nil)) (EP.keep hIEP hw ((mF.up mF.refl (A_162 hw) u34 rfl) : mF [162999] w μ μ33) rfl) (G1.keep hIG1 hw ((mF.up mF.refl (A_162 hw) u34 rfl) : mF [162999] w μ μ33) rfl rfl ((mG.upO mG.refl u34 rfl) : mG [] μ μ33) (fun _ h => absurd h List.not_mem_nil)) (EV.keep hIEV hw ((mF.up mF.refl (A_162 hw) u34 rfl) : mF [162999] w μ μ33) rfl) (PK.keep hIPK hw ((mF.up mF.refl (A_162 hw) u34 rfl) : mF [162999] w μ μ33) rfl)) (gOk _ _ _ _ _) dX12_withdraw_50 (tX12_look _ _ _ _ _) ⟨wV_X12_look, wL_X12_look⟩ wM_X12_597 (gCX12 _ _ _ _ _) rfl (A_106 hw) rfl ⟨le_t rfl, le_t rfl⟩ ⟨le_t rfl, le_t rfl⟩ rfl (le_t rfl) fun μ36 T37 F38 h39 => ?_
      have I40 : UP l D c H0 sa μ36 := UPg.look (UPg.fr hIUP hw T35 rfl ((mF.up mF.refl (A_162 hw) u34 rfl) : mF [162999] w μ μ33) rfl rfl rfl ((mG.upO mG.refl u34 rfl) : mG [] μ μ33) (fun _ h => absurd h List.not_mem_nil)) (fun _ _ h => h.elim) h14 h27 hw T35 rfl rfl ((mF.call mF.refl F38 rfl) : mF [106026, 106027, 106028, 106029, 106030, 106031, 106072, 126999, 151999, 152999, 153999, 155999, 156999, 157999, 158999, 159999, 160999, 161999, 165999] w μ33 μ36) rfl rfl rfl ((mG.call mG.refl h39.1 (List.forall_mem_cons.mpr ⟨⟨_, List.mem_cons_self, vc_X12_look_u_35⟩, (List.forall_mem_cons.mpr ⟨⟨_, (List.mem_cons_of_mem _ List.mem_cons_self), (vc_X12_announce_u_17 h7.2.1 h7.2.2.1 h13 h22.2.1 h22.2.2.1 h26 h9 h24 h14 h27 h15 h18 h25 h12)⟩, (List.forall_mem_cons.mpr ⟨⟨_, (List.mem_cons_of_mem _ (List.mem_cons_of_mem _ List.mem_cons_self)), vc_X12_say_u_34⟩, (fun _ h => absurd h List.not_mem_nil)⟩)⟩)⟩)) : mG [(80, 960), ((40 * (30 + ((10 * p1) + p2))), ((40 * (30 + ((10 * p1) + p2))) + 40)), (21200, 53200)] μ33 μ36) (List.forall_mem_cons.mpr ⟨vc_X12_lookAll_u_14, (List.forall_mem_cons.mpr ⟨(vc_X12_announce_u_20 h7.2.1 h7.2.2.1 h13 h22.2.1 h22.2.2.1 h26 h9 h24 h14 h27 h15 h18 h25 h12), (List.forall_mem_cons.mpr ⟨vc_X12_look_u_55, (fun _ h => absurd h List.not_mem_nil)⟩)⟩)⟩) h39.2.2.2.2.2.2.2.1 h39.2.2.2.2.2.2.1
      refine mr_iconst (pc := 53) (z := 0) dX12_withdraw_53 ?_
      exact mr_iret dX12_withdraw_54 rfl (le_t rfl) (le_t rfl) T37 (mF.call (mF.up mF.refl (A_162 hw) u34 rfl) F38 rfl) ⟨(rW (c := (-2147483648)) (d := 2147483647) (rR (x := 0)) rfl), h39.2.1, h39.2.2.1, h39.2.2.2.1, (HP.keep hIHP hw ((mF.call (mF.up mF.refl (A_162 hw) u34 rfl) F38 rfl) : mF [106026, 106027, 106028, 106029, 106030, 106031, 106072, 126999, 151999, 152999, 153999, 155999, 156999, 157999, 158999, 159999, 160999, 161999, 162999, 165999] w μ μ36) rfl ((mG.call (mG.upO mG.refl u34 rfl) h39.1 (List.forall_mem_cons.mpr ⟨⟨_, List.mem_cons_self, vc_X12_look_u_35⟩, (List.forall_mem_cons.mpr ⟨⟨_, (List.mem_cons_of_mem _ List.mem_cons_self), (vc_X12_announce_u_17 h7.2.1 h7.2.2.1 h13 h22.2.1 h22.2.2.1 h26 h9 h24 h14 h27 h15 h18 h25 h12)⟩, (List.forall_mem_cons.mpr ⟨⟨_, (List.mem_cons_of_mem _ (List.mem_cons_of_mem _ List.mem_cons_self)), vc_X12_say_u_34⟩, (fun _ h => absurd h List.not_mem_nil)⟩)⟩)⟩)) : mG [(80, 960), ((40 * (30 + ((10 * p1) + p2))), ((40 * (30 + ((10 * p1) + p2))) + 40)), (21200, 53200)] μ μ36) (List.forall_mem_cons.mpr ⟨vc_X12_lookAll_u_14, (List.forall_mem_cons.mpr ⟨(vc_X12_announce_u_20 h7.2.1 h7.2.2.1 h13 h22.2.1 h22.2.2.1 h26 h9 h24 h14 h27 h15 h18 h25 h12), (List.forall_mem_cons.mpr ⟨vc_X12_look_u_55, (fun _ h => absurd h List.not_mem_nil)⟩)⟩)⟩)), I40, h39.2.2.2.2.1, h39.2.2.2.2.2.1, trivial⟩
    have h41 : (-1) ≤ z28 ∧ z28 ≤ (-1) := (vc_X12_look_u_2 h31 h30)
    refine mr_bipush (pc := 32) (z := (-2)) dX12_withdraw_32 (by decide) ?_
    exact mr_iret dX12_withdraw_34 rfl (le_t rfl) (le_t rfl) hT mF.refl ⟨(rW (c := (-2147483648)) (d := 2147483647) (rR (x := (-2))) rfl), hIJC, hIRP, hIEP, hIHP, hIUP, hIG1, hIEV, trivial⟩
  have h42 : 0 ≤ z23 ∧ z23 ≤ 0 := (vc_X12_write_78 h24 h22.2.1 h22.2.2.1 hp2 h18 h22.1)
  have h43 : p2 < 0 ∨ z16 ≤ p2 := (h22.2.2.1 (vc_X12_write_79 h22.2.1 h22.2.2.1 h24 hp2 h18 h42))
  refine mr_iconst (pc := 16) (z := (-1)) dX12_withdraw_16 ?_
  exact mr_iret dX12_withdraw_17 rfl (le_t rfl) (le_t rfl) hT mF.refl ⟨(rW (c := (-2147483648)) (d := 2147483647) (rR (x := (-1))) rfl), hIJC, hIRP, hIEP, hIHP, hIUP, hIG1, hIEV, trivial⟩
theorem vc_X12_rule_u_15 {p1 z1 z8 : Int} (h0 : (z8 = 1 → 0 ≤ p1 ∧ p1 < z1)) (h1 : (z8 = 0 → p1 < 0 ∨ z1 ≤ p1)) (h2 : 0 ≤ p1 ∧ p1 < z1) (h3 : ¬ z8 = 0) (h4 : 0 ≤ p1 ∧ p1 ≤ 9) (h5 : 1 ≤ z1 ∧ z1 ≤ 10) (h6 : 1 ≤ z8 ∧ z8 ≤ 1) : ((400 * p1) + 1200) ≤ ((400 * p1) + 1200) ∧ ((400 * p1) + 1600) ≤ ((400 * p1) + 1600) := by omega
theorem vc_X12_rule_u_18 {p1 z1 z8 : Int} (h0 : (z8 = 1 → 0 ≤ p1 ∧ p1 < z1)) (h1 : (z8 = 0 → p1 < 0 ∨ z1 ≤ p1)) (h2 : 0 ≤ p1 ∧ p1 < z1) (h3 : ¬ z8 = 0) (h4 : 0 ≤ p1 ∧ p1 ≤ 9) (h5 : 1 ≤ z1 ∧ z1 ≤ 10) (h6 : 1 ≤ z8 ∧ z8 ≤ 1) : ((400 * p1) + 1600) ≤ 5200 ∨ 21200 ≤ ((400 * p1) + 1200) := by omega
theorem vc_X12_rule_u_23 {z891 : Int} (h0 : 0 ≤ z891 ∧ z891 ≤ 6) : ((z891 - 1) - (-2)) < ((8 : Nat) : Int) := by omega
theorem vc_X12_rule_u_28 {z1165 z1172 : Int} (h0 : z1172 = 0) (h1 : (z1172 = 1 → (1 : Int) ≤ z1165 ∧ z1165 ≤ (6 : Int))) (h2 : (z1172 = 0 → z1165 < (1 : Int) ∨ (6 : Int) < z1165)) (h3 : 0 ≤ z1165 ∧ z1165 ≤ 9) (h4 : 0 ≤ z1172 ∧ z1172 ≤ 1) : 0 ≤ z1172 ∧ z1172 ≤ 0 := by omega
theorem vc_X12_rule_u_29 {z1165 z1172 z890 : Int} (h0 : (z1172 = 1 → (1 : Int) ≤ z1165 ∧ z1165 ≤ (6 : Int))) (h1 : (z1172 = 0 → z1165 < (1 : Int) ∨ (6 : Int) < z1165)) (h2 : z1172 = 0) (h3 : z890 % 10 = z1165) (h4 : 0 ≤ z1165 ∧ z1165 ≤ 9) (h5 : 0 ≤ z1172 ∧ z1172 ≤ 0) (h6 : 1 ≤ z890 ∧ z890 ≤ 2147483647) : z1172 = 0 := by omega
theorem vc_X12_rule_u_30 {z1165 z1172 : Int} (h0 : ¬ z1172 = 0) (h1 : (z1172 = 1 → (1 : Int) ≤ z1165 ∧ z1165 ≤ (6 : Int))) (h2 : (z1172 = 0 → z1165 < (1 : Int) ∨ (6 : Int) < z1165)) (h3 : 0 ≤ z1165 ∧ z1165 ≤ 9) (h4 : 0 ≤ z1172 ∧ z1172 ≤ 1) : 1 ≤ z1172 ∧ z1172 ≤ 1 := by omega
theorem vc_X12_rule_u_31 {z1165 z1172 z890 : Int} (h0 : (z1172 = 1 → (1 : Int) ≤ z1165 ∧ z1165 ≤ (6 : Int))) (h1 : (z1172 = 0 → z1165 < (1 : Int) ∨ (6 : Int) < z1165)) (h2 : ¬ z1172 = 0) (h3 : z890 % 10 = z1165) (h4 : 0 ≤ z1165 ∧ z1165 ≤ 9) (h5 : 1 ≤ z1172 ∧ z1172 ≤ 1) (h6 : 1 ≤ z890 ∧ z890 ≤ 2147483647) : z1172 = 1 := by omega
theorem vc_X12_rule_u_32 {z1165 z1172 z890 : Int} (h0 : (1 : Int) ≤ z1165 ∧ z1165 ≤ (6 : Int)) (h1 : z890 % 10 = z1165) (h2 : (z1172 = 1 → (1 : Int) ≤ z1165 ∧ z1165 ≤ (6 : Int))) (h3 : (z1172 = 0 → z1165 < (1 : Int) ∨ (6 : Int) < z1165)) (h4 : 0 ≤ z1165 ∧ z1165 ≤ 9) (h5 : 1 ≤ z1172 ∧ z1172 ≤ 1) (h6 : 1 ≤ z890 ∧ z890 ≤ 2147483647) : 1 ≤ z1165 ∧ z1165 ≤ 6 := by omega
theorem vc_X12_rule_u_34 {z1182 : Int} (h0 : ¬ z1182 = 1) (h1 : 0 ≤ z1182 ∧ z1182 ≤ 0) : ¬ z1182 = 1 := by omega
theorem vc_X12_rule_u_35 {z1165 z1172 z890 : Int} (h0 : z890 % 10 = z1165) (h1 : (z1172 = 1 → (1 : Int) ≤ z1165 ∧ z1165 ≤ (6 : Int))) (h2 : (z1172 = 0 → z1165 < (1 : Int) ∨ (6 : Int) < z1165)) (h3 : (1 : Int) ≤ z1165 ∧ z1165 ≤ (6 : Int)) (h4 : 0 < z890) (h5 : ¬ z1172 = 0) (h6 : 1 ≤ z1165 ∧ z1165 ≤ 6) (h7 : 1 ≤ z1172 ∧ z1172 ≤ 1) (h8 : 1 ≤ z890 ∧ z890 ≤ 2147483647) : 1 ≤ z1165 ∧ z1165 ≤ 6 := by omega
theorem vc_X12_rule_u_37 {N z1165 z1172 z1197 z890 : Int} (h0 : z890 < N + 1) (h1 : 0 < z890) (h2 : z890 % 10 = z1165) (h3 : z890 / 10 = z1197) (h4 : (z1172 = 1 → (1 : Int) ≤ z1165 ∧ z1165 ≤ (6 : Int))) (h5 : (z1172 = 0 → z1165 < (1 : Int) ∨ (6 : Int) < z1165)) (h6 : (1 : Int) ≤ z1165 ∧ z1165 ≤ (6 : Int)) (h7 : 1 ≤ z1165 ∧ z1165 ≤ 6) (h8 : 1 ≤ z1172 ∧ z1172 ≤ 1) (h9 : 0 ≤ z1197 ∧ z1197 ≤ 214748364) (h10 : 1 ≤ z890 ∧ z890 ≤ 2147483647) : z1197 < N := by omega
set_option maxRecDepth 4000 in
set_option maxHeartbeats 4000000 in
theorem c_X12_rule_u {l : Launch} {D : va_G} {c : Nat → ClassId} {H0 : Heap} {sa : Nat × Nat × (Nat → Int32)} {w : mW} {μ : mM} (hw : mWF w) (hT : mT w μ) {p1 : Int} (hp1 : (-2147483648) ≤ p1 ∧ p1 ≤ 2147483647) {p2 : Int} (hp2 : (-2147483648) ≤ p2 ∧ p2 ≤ 2147483647) {p3 : Int} (hp3 : 0 ≤ p3 ∧ p3 ≤ 1) (hIJC : JC l D c H0 sa μ) (hIRP : RP μ) (hIEP : EP μ) (hIHP : HP μ) (hIUP : UP l D c H0 sa μ) (hIG1 : G1 μ) (hIEV : EV μ) (hIPK : PK μ) : sC (gG l D c H0 sa) mX12_rule 12 0 0 [.ref 106, iv p1, iv p2, iv p3] (mk w μ) (qI w [106026, 106027, 106028, 106029, 106030, 106031, 106072, 126999, 151999, 152999, 153999, 155999, 156999, 157999, 158999, 159999, 160999, 161999, 163999, 164999, 165999] μ (fun z μ1 => ((-2147483648) ≤ z ∧ z ≤ 2147483647) ∧ JC l D c H0 sa μ1 ∧ RP μ1 ∧ EP μ1 ∧ HP μ1 ∧ UP l D c H0 sa μ1 ∧ G1 μ1 ∧ EV μ1 ∧ True)) := by
  refine sC.of rfl (by decide) (le_t rfl) ?_
  refine mr_lvE (lv' := [(0, .ref 106), (1, iv p1), (2, iv p2), (3, iv p3)]) rfl ?_
  refine sv_aload_n (pc := 0) dX12_rule_0 rfl rfl ?_
  refine mr_iload_n (pc := 1) (z := p1) dX12_rule_1 rfl rfl ?_
  obtain ⟨z1, q2⟩ : ∃ z, μ 106 5 = z := ⟨_, rfl⟩
  have h3 : (0 ≤ z1 ∧ z1 ≤ 10) := by rw [← q2]; exact hT 106 106 (A_106 hw) 5
  refine mr_cVP (pc := 2) (c_X12_isDomain hw hT hp1 q2) (gOk _ _ _ _ _) dX12_rule_2 (tX12_isDomain _ _ _ _ _) ⟨wV_X12_isDomain, wL_X12_isDomain⟩ wM_X12_49 (gCX12 _ _ _ _ _) rfl (A_106 hw) rfl ⟨le_t rfl, le_t rfl⟩ ⟨le_t rfl, le_t rfl⟩ rfl (le_t rfl) fun z8 h7 => ?_
  refine mr_if_eq (pc := 5) (tgt := 12) dX12_rule_5 (by decide) (r32 h7.1 rfl) (fun h9 => ?_) (fun h9 => ?_)
  · have h10 : 0 ≤ z8 ∧ z8 ≤ 0 := (vc_X12_write_78 h9 h7.2.1 h7.2.2.1 hp1 h3 h7.1)
    have h11 : p1 < 0 ∨ z1 ≤ p1 := (h7.2.2.1 (vc_X12_write_79 h7.2.1 h7.2.2.1 h9 hp1 h3 h10))
    refine mr_iconst (pc := 12) (z := (-1)) dX12_rule_12 ?_
    exact mr_iret dX12_rule_13 rfl (le_t rfl) (le_t rfl) hT mF.refl ⟨(rW (c := (-2147483648)) (d := 2147483647) (rR (x := (-1))) rfl), hIJC, hIRP, hIEP, hIHP, hIUP, hIG1, hIEV, trivial⟩
  have h12 : 1 ≤ z8 ∧ z8 ≤ 1 := (vc_X12_write_12 h9 h7.2.1 h7.2.2.1 hp1 h3 h7.1)
  have h13 : 0 ≤ p1 ∧ p1 < z1 := (h7.2.1 (vc_X12_write_13 h7.2.1 h7.2.2.1 h9 hp1 h3 h12))
  have h14 : 0 ≤ p1 ∧ p1 ≤ 9 := (vc_X12_write_14 h13 h7.2.1 h7.2.2.1 hp1 h3 h12)
  have h15 : 1 ≤ z1 ∧ z1 ≤ 10 := (vc_X12_write_15 h13 h7.2.1 h7.2.2.1 h14 h3 h12)
  refine mr_iload_n (pc := 8) (z := p2) dX12_rule_8 rfl rfl ?_
  refine mr_if_ge (pc := 9) (tgt := 14) dX12_rule_9 (by decide) hp2 (fun h16 => ?_) (fun h16 => ?_)
  · have h17 : 0 ≤ p2 ∧ p2 ≤ 2147483647 := (vc_X12_ring_1 h16 hp2)
    refine mr_iconst (pc := 14) (z := 0) dX12_rule_14 ?_
    refine mr_istore (pc := 15) (lv' := [(4, iv 0), (0, .ref 106), (1, iv p1), (2, iv p2), (3, iv p3)]) dX12_rule_15 (by decide) rfl ?_
    refine mr_iconst (pc := 17) (z := 0) dX12_rule_17 ?_
    refine mr_istore (pc := 18) (lv' := [(5, iv 0), (4, iv 0), (0, .ref 106), (1, iv p1), (2, iv p2), (3, iv p3)]) dX12_rule_18 (by decide) rfl ?_
    refine mr_iload_n (pc := 20) (z := p2) dX12_rule_20 rfl rfl ?_
    refine mr_istore (pc := 21) (lv' := [(6, iv p2), (5, iv 0), (4, iv 0), (0, .ref 106), (1, iv p1), (2, iv p2), (3, iv p3)]) dX12_rule_21 (by decide) rfl ?_
    have L893 : ∀ (nL893 : Nat) (z892 z891 z890 : Int), True → (0 ≤ z892 ∧ z892 ≤ 126) → (0 ≤ z891 ∧ z891 ≤ 6) → (0 ≤ z890 ∧ z890 ≤ 2147483647) → sOK z892 z891 → z890 < (nL893 : Int) → sV (gG l D c H0 sa) mX12_rule (sRm 12 0 0) (sZ (gG l D c H0 sa) 0 0 (qI w [106026, 106027, 106028, 106029, 106030, 106031, 106072, 126999, 151999, 152999, 153999, 155999, 156999, 157999, 158999, 159999, 160999, 161999, 163999, 164999, 165999] μ (fun z μ1 => ((-2147483648) ≤ z ∧ z ≤ 2147483647) ∧ JC l D c H0 sa μ1 ∧ RP μ1 ∧ EP μ1 ∧ HP μ1 ∧ UP l D c H0 sa μ1 ∧ G1 μ1 ∧ EV μ1 ∧ True))) 23 [(0, .ref 106), (1, iv p1), (2, iv p2), (3, iv p3), (4, iv z892), (5, iv z891), (6, iv z890)] [] (mk w μ) 0 0 := by
      intro nL893
      induction nL893 with
      | zero => intro z892 z891 z890 _ h894 h895 h896 R900 h901; exact ((vc_X11_isRule_2 h901 h896)).elim
      | succ nL893 ih902 =>
        intro z892 z891 z890 _ h894 h895 h896 R900 h901
        refine mr_iload (pc := 23) (z := z890) dX12_rule_23 rfl ?_
        refine mr_if_le (pc := 25) (tgt := 81) dX12_rule_25 (by decide) (r32 h896 rfl) (fun h903 => ?_) (fun h903 => ?_)
        · have h904 : 0 ≤ z890 ∧ z890 ≤ 0 := (vc_X11_isRule_3 h903 h896)
          refine mr_iconst (pc := 81) (z := 0) dX12_rule_81 ?_
          refine mr_istore (pc := 82) (lv' := [(6, iv 0), (0, .ref 106), (1, iv p1), (2, iv p2), (3, iv p3), (4, iv z892), (5, iv z891)]) dX12_rule_82 (by decide) rfl ?_
          have L1037 : ∀ (nL1037 : Nat) (z1035 : Int) (μ1036 : mM), mT w μ1036 → mF [163999] w μ μ1036 → (0 ≤ z1035 ∧ z1035 ≤ 6) → JC l D c H0 sa μ1036 → RP μ1036 → EP μ1036 → HP μ1036 → UP l D c H0 sa μ1036 → G1 μ1036 → EV μ1036 → PK μ1036 → (7 - z1035) < (nL1037 : Int) → sV (gG l D c H0 sa) mX12_rule (sRm 12 0 0) (sZ (gG l D c H0 sa) 0 0 (qI w [106026, 106027, 106028, 106029, 106030, 106031, 106072, 126999, 151999, 152999, 153999, 155999, 156999, 157999, 158999, 159999, 160999, 161999, 163999, 164999, 165999] μ (fun z μ1 => ((-2147483648) ≤ z ∧ z ≤ 2147483647) ∧ JC l D c H0 sa μ1 ∧ RP μ1 ∧ EP μ1 ∧ HP μ1 ∧ UP l D c H0 sa μ1 ∧ G1 μ1 ∧ EV μ1 ∧ True))) 84 [(0, .ref 106), (1, iv p1), (2, iv p2), (3, iv p3), (5, iv z891), (6, iv z1035)] [] (mk w μ1036) 0 0 := by
            intro nL1037
            induction nL1037 with
            | zero => intro z1035 μ1036 T1039 F1040 h1038 I1042 I1043 I1044 I1045 I1046 I1047 I1048 I1049 h1050; exact ((vc_X12_same_14 h1050 h1038)).elim
            | succ nL1037 ih1051 =>
              intro z1035 μ1036 T1039 F1040 h1038 I1042 I1043 I1044 I1045 I1046 I1047 I1048 I1049 h1050
              refine mr_iload (pc := 84) (z := z1035) dX12_rule_84 rfl ?_
              refine mr_bipush (pc := 86) (z := 6) dX12_rule_86 (by decide) ?_
              refine mr_icmp_ge (pc := 88) (tgt := 110) dX12_rule_88 (by decide) (r32 h1038 rfl) (r32 (rR (x := 6)) rfl) (fun h1057 => ?_) (fun h1057 => ?_)
              · have h1058 : 6 ≤ z1035 ∧ z1035 ≤ 6 := (vc_X12_same_15 h1057 h1038)
                refine mr_iload_n (pc := 110) (z := p2) dX12_rule_110 rfl rfl ?_
                refine mr_istore (pc := 111) (lv' := [(6, iv p2), (0, .ref 106), (1, iv p1), (2, iv p2), (3, iv p3), (5, iv z891)]) dX12_rule_111 (by decide) rfl ?_
                refine mr_iload (pc := 113) (z := z891) dX12_rule_113 rfl ?_
                refine mr_iconst (pc := 115) (z := 1) dX12_rule_115 ?_
                refine mr_isub (pc := 116) (x := z891) (y := 1) dX12_rule_116 ?_
                refine mr_istore (pc := 117) (lv' := [(7, iv (z891 - 1)), (6, iv p2), (0, .ref 106), (1, iv p1), (2, iv p2), (3, iv p3), (5, iv z891)]) dX12_rule_117 (by decide) rfl ?_
                have L1110 : ∀ (nL1110 : Nat) (z1108 z1107 : Int) (μ1109 : mM), mT w μ1109 → mF [163999] w μ1036 μ1109 → (0 ≤ z1108 ∧ z1108 ≤ 2147483647) → ((-1) ≤ z1107 ∧ z1107 ≤ 5) → JC l D c H0 sa μ1109 → RP μ1109 → EP μ1109 → HP μ1109 → UP l D c H0 sa μ1109 → G1 μ1109 → EV μ1109 → PK μ1109 → (z1107 - (-2)) < (nL1110 : Int) → sV (gG l D c H0 sa) mX12_rule (sRm 12 0 0) (sZ (gG l D c H0 sa) 0 0 (qI w [106026, 106027, 106028, 106029, 106030, 106031, 106072, 126999, 151999, 152999, 153999, 155999, 156999, 157999, 158999, 159999, 160999, 161999, 163999, 164999, 165999] μ (fun z μ1 => ((-2147483648) ≤ z ∧ z ≤ 2147483647) ∧ JC l D c H0 sa μ1 ∧ RP μ1 ∧ EP μ1 ∧ HP μ1 ∧ UP l D c H0 sa μ1 ∧ G1 μ1 ∧ EV μ1 ∧ True))) 119 [(0, .ref 106), (1, iv p1), (3, iv p3), (6, iv z1108), (7, iv z1107)] [] (mk w μ1109) 0 0 := by
                  intro nL1110
                  induction nL1110 with
                  | zero => intro z1108 z1107 μ1109 T1113 F1114 h1111 h1112 I1116 I1117 I1118 I1119 I1120 I1121 I1122 I1123 h1124; exact ((vc_X0_goBy_3 h1124 h1112)).elim
                  | succ nL1110 ih1125 =>
                    intro z1108 z1107 μ1109 T1113 F1114 h1111 h1112 I1116 I1117 I1118 I1119 I1120 I1121 I1122 I1123 h1124
                    refine mr_iload (pc := 119) (z := z1107) dX12_rule_119 rfl ?_
                    refine mr_if_lt (pc := 121) (tgt := 154) dX12_rule_121 (by decide) (r32 h1112 rfl) (fun h1137 => ?_) (fun h1137 => ?_)
                    · have h1138 : (-1) ≤ z1107 ∧ z1107 ≤ (-1) := (vc_X0_goBy_4 h1137 h1112)
                      refine sv_aload_n (pc := 154) dX12_rule_154 rfl rfl ?_
                      refine gf_X12_84 (pc := 155) dX12_rule_155 wF_X12_454 (A_106 hw) T1113 ?_
                      refine mr_iload_n (pc := 158) (z := p1) dX12_rule_158 rfl rfl ?_
                      refine mr_iload_n (pc := 159) (z := p3) dX12_rule_159 rfl rfl ?_
                      refine ss_164 (pc := 160) dX12_rule_160 (A_164 hw) T1113 (rIx (n := 10) h14 rfl) hp3 fun μ1139 u1140 T1141 => ?_
                      refine sv_aload_n (pc := 161) dX12_rule_161 rfl rfl ?_
                      refine mr_iload_n (pc := 162) (z := p1) dX12_rule_162 rfl rfl ?_
                      obtain ⟨z1142, q1143⟩ : ∃ z, μ1139 106 2 = z := ⟨_, rfl⟩
                      have h1144 : (0 ≤ z1142 ∧ z1142 ≤ 10) := by rw [← q1143]; exact T1141 106 106 (A_106 hw) 2
                      refine mr_cVV (pc := 163) (c_X12_lookAll_u hw T1141 h14 q1143 (JC.keepJ I1116 hw ((mF.up mF.refl (A_164 hw) u1140 rfl) : mF [164999] w μ1109 μ1139) rfl) (RP.keep I1117 hw ((mF.up mF.refl (A_164 hw) u1140 rfl) : mF [164999] w μ1109 μ1139) rfl ((mG.upO mG.refl u1140 rfl) : mG [] μ1109 μ1139) (fun _ h => absurd h List.not_mem_nil)) (EP.keep I1118 hw ((mF.up mF.refl (A_164 hw) u1140 rfl) : mF [164999] w μ1109 μ1139) rfl) (G1.keep I1121 hw ((mF.up mF.refl (A_164 hw) u1140 rfl) : mF [164999] w μ1109 μ1139) rfl rfl ((mG.upO mG.refl u1140 rfl) : mG [] μ1109 μ1139) (fun _ h => absurd h List.not_mem_nil)) (EV.keep I1122 hw ((mF.up mF.refl (A_164 hw) u1140 rfl) : mF [164999] w μ1109 μ1139) rfl) (PK.keep I1123 hw ((mF.up mF.refl (A_164 hw) u1140 rfl) : mF [164999] w μ1109 μ1139) rfl)) (gOk _ _ _ _ _) dX12_rule_163 (tX12_lookAll _ _ _ _ _) ⟨wV_X12_lookAll, wL_X12_lookAll⟩ wM_X12_600 (gCX12 _ _ _ _ _) rfl (A_106 hw) rfl ⟨le_t rfl, le_t rfl⟩ ⟨le_t rfl, le_t rfl⟩ rfl (le_t rfl) fun μ1145 T1146 F1147 h1148 => ?_
                      have I1149 : UP l D c H0 sa μ1145 := UPg.lookAll (UPg.fr I1120 hw T1141 rfl ((mF.up mF.refl (A_164 hw) u1140 rfl) : mF [164999] w μ1109 μ1139) rfl rfl rfl ((mG.upO mG.refl u1140 rfl) : mG [] μ1109 μ1139) (fun _ h => absurd h List.not_mem_nil)) (fun _ _ h => h.elim) h14 q1143 hw T1141 rfl rfl ((mF.call mF.refl F1147 rfl) : mF [106026, 106027, 106028, 106029, 106030, 106031, 106072, 126999, 151999, 152999, 153999, 155999, 156999, 157999, 158999, 159999, 160999, 161999, 165999] w μ1139 μ1145) rfl rfl rfl ((mG.call mG.refl h1148.1 (List.forall_mem_cons.mpr ⟨⟨_, List.mem_cons_self, vc_X12_look_u_35⟩, (List.forall_mem_cons.mpr ⟨⟨_, (List.mem_cons_of_mem _ List.mem_cons_self), (vc_X12_rule_u_15 h7.2.1 h7.2.2.1 h13 h9 h14 h15 h12)⟩, (List.forall_mem_cons.mpr ⟨⟨_, (List.mem_cons_of_mem _ (List.mem_cons_of_mem _ List.mem_cons_self)), vc_X12_say_u_34⟩, (fun _ h => absurd h List.not_mem_nil)⟩)⟩)⟩)) : mG [(80, 960), (((400 * p1) + 1200), ((400 * p1) + 1600)), (21200, 53200)] μ1139 μ1145) (List.forall_mem_cons.mpr ⟨vc_X12_lookAll_u_14, (List.forall_mem_cons.mpr ⟨(vc_X12_rule_u_18 h7.2.1 h7.2.2.1 h13 h9 h14 h15 h12), (List.forall_mem_cons.mpr ⟨vc_X12_look_u_55, (fun _ h => absurd h List.not_mem_nil)⟩)⟩)⟩) h1148.2.2.2.2.2.2.2.1 h1148.2.2.2.2.2.2.1
                      refine mr_iconst (pc := 166) (z := 0) dX12_rule_166 ?_
                      exact mr_iret dX12_rule_167 rfl (le_t rfl) (le_t rfl) T1146 (mF.call (mF.up (mF.call (mF.call mF.refl F1040 rfl) F1114 rfl) (A_164 hw) u1140 rfl) F1147 rfl) ⟨(rW (c := (-2147483648)) (d := 2147483647) (rR (x := 0)) rfl), h1148.2.1, h1148.2.2.1, h1148.2.2.2.1, (HP.keep I1119 hw ((mF.call (mF.up mF.refl (A_164 hw) u1140 rfl) F1147 rfl) : mF [106026, 106027, 106028, 106029, 106030, 106031, 106072, 126999, 151999, 152999, 153999, 155999, 156999, 157999, 158999, 159999, 160999, 161999, 164999, 165999] w μ1109 μ1145) rfl ((mG.call (mG.upO mG.refl u1140 rfl) h1148.1 (List.forall_mem_cons.mpr ⟨⟨_, List.mem_cons_self, vc_X12_look_u_35⟩, (List.forall_mem_cons.mpr ⟨⟨_, (List.mem_cons_of_mem _ List.mem_cons_self), (vc_X12_rule_u_15 h7.2.1 h7.2.2.1 h13 h9 h14 h15 h12)⟩, (List.forall_mem_cons.mpr ⟨⟨_, (List.mem_cons_of_mem _ (List.mem_cons_of_mem _ List.mem_cons_self)), vc_X12_say_u_34⟩, (fun _ h => absurd h List.not_mem_nil)⟩)⟩)⟩)) : mG [(80, 960), (((400 * p1) + 1200), ((400 * p1) + 1600)), (21200, 53200)] μ1109 μ1145) (List.forall_mem_cons.mpr ⟨vc_X12_lookAll_u_14, (List.forall_mem_cons.mpr ⟨(vc_X12_rule_u_18 h7.2.1 h7.2.2.1 h13 h9 h14 h15 h12), (List.forall_mem_cons.mpr ⟨vc_X12_look_u_55, (fun _ h => absurd h List.not_mem_nil)⟩)⟩)⟩)), I1149, h1148.2.2.2.2.1, h1148.2.2.2.2.2.1, trivial⟩
                    have h1150 : 0 ≤ z1107 ∧ z1107 ≤ 5 := (vc_X0_goBy_5 h1137 h1112)
                    refine sv_aload_n (pc := 124) dX12_rule_124 rfl rfl ?_
                    refine gf_X12_83 (pc := 125) dX12_rule_125 wF_X12_451 (A_106 hw) T1113 ?_
                    refine mr_bipush (pc := 128) (z := 6) dX12_rule_128 (by decide) ?_
                    refine mr_iload_n (pc := 130) (z := p1) dX12_rule_130 rfl rfl ?_
                    refine mr_imul (pc := 131) (x := 6) (y := p1) dX12_rule_131 ?_
                    refine mr_iload (pc := 132) (z := z1107) dX12_rule_132 rfl ?_
                    refine mr_iadd (pc := 134) (x := (6 * p1)) (y := z1107) dX12_rule_134 ?_
                    refine mr_iload (pc := 135) (z := z1108) dX12_rule_135 rfl ?_
                    refine mr_bipush (pc := 137) (z := 10) dX12_rule_137 (by decide) ?_
                    refine mr_irem (pc := 139) (x := z1108) (y := 10) dX12_rule_139 h1111 vc_X11_isRule_6 ?_
                    refine mr_gen (P := fun z => 0 ≤ z ∧ z ≤ 9) (rMod h1111 rfl) fun z1151 q1152 h1153 => ?_
                    refine ss_163 (pc := 140) dX12_rule_140 (A_163 hw) T1113 (rIx (n := 60) (rAdd (e := 0) (f := 59) (rMulL (n := 6) (e := 0) (f := 54) h14 rfl) h1150 rfl) rfl) h1153 fun μ1154 u1155 T1156 => ?_
                    refine mr_iload (pc := 141) (z := z1108) dX12_rule_141 rfl ?_
                    refine mr_bipush (pc := 143) (z := 10) dX12_rule_143 (by decide) ?_
                    refine mr_idiv (pc := 145) (x := z1108) (y := 10) dX12_rule_145 h1111 vc_X11_isRule_6 ?_
                    refine mr_gen (P := fun z => 0 ≤ z ∧ z ≤ 214748364) (rDiv h1111 rfl) fun z1157 q1158 h1159 => ?_
                    refine mr_istore (pc := 146) (lv' := [(6, iv z1157), (0, .ref 106), (1, iv p1), (3, iv p3), (7, iv z1107)]) dX12_rule_146 (by decide) rfl ?_
                    refine mr_iinc (pc := 148) (lv' := [(7, iv (z1107 + (-1))), (6, iv z1157), (0, .ref 106), (1, iv p1), (3, iv p3)]) dX12_rule_148 rfl (by decide) rfl ?_
                    refine sv_goto (pc := 151) (tgt := 119) dX12_rule_151 (by decide) ?_
                    refine mr_lvS (lv' := [(0, .ref 106), (1, iv p1), (3, iv p3), (6, iv z1157), (7, iv (z1107 + (-1)))]) (List.forall_mem_cons.mpr ⟨rfl, List.forall_mem_cons.mpr ⟨rfl, List.forall_mem_cons.mpr ⟨rfl, List.forall_mem_cons.mpr ⟨rfl, List.forall_mem_cons.mpr ⟨rfl, fun _ h => absurd h List.not_mem_nil⟩⟩⟩⟩⟩) ?_
                    exact ih1125 z1157 (z1107 + (-1)) μ1154 T1156 (mF.up (mF.call mF.refl F1114 rfl) (A_163 hw) u1155 rfl) (rW (c := 0) (d := 2147483647) h1159 rfl) (rW (c := (-1)) (d := 5) (rAdd (e := (-1)) (f := 4) h1150 (rR (x := (-1))) rfl) rfl) (JC.keepJ I1116 hw ((mF.up mF.refl (A_163 hw) u1155 rfl) : mF [163999] w μ1109 μ1154) rfl) (RP.keep I1117 hw ((mF.up mF.refl (A_163 hw) u1155 rfl) : mF [163999] w μ1109 μ1154) rfl ((mG.upO mG.refl u1155 rfl) : mG [] μ1109 μ1154) (fun _ h => absurd h List.not_mem_nil)) (EP.keep I1118 hw ((mF.up mF.refl (A_163 hw) u1155 rfl) : mF [163999] w μ1109 μ1154) rfl) (HP.keep I1119 hw ((mF.up mF.refl (A_163 hw) u1155 rfl) : mF [163999] w μ1109 μ1154) rfl ((mG.upO mG.refl u1155 rfl) : mG [] μ1109 μ1154) (fun _ h => absurd h List.not_mem_nil)) (UPg.fr I1120 hw T1156 rfl ((mF.up mF.refl (A_163 hw) u1155 rfl) : mF [163999] w μ1109 μ1154) rfl rfl rfl ((mG.upO mG.refl u1155 rfl) : mG [] μ1109 μ1154) (fun _ h => absurd h List.not_mem_nil)) (G1.keep I1121 hw ((mF.up mF.refl (A_163 hw) u1155 rfl) : mF [163999] w μ1109 μ1154) rfl rfl ((mG.upO mG.refl u1155 rfl) : mG [] μ1109 μ1154) (fun _ h => absurd h List.not_mem_nil)) (EV.keep I1122 hw ((mF.up mF.refl (A_163 hw) u1155 rfl) : mF [163999] w μ1109 μ1154) rfl) (PK.keep I1123 hw ((mF.up mF.refl (A_163 hw) u1155 rfl) : mF [163999] w μ1109 μ1154) rfl) (vc_X0_goBy_7 (nS h1124) h1137 h1150)
                refine mr_lvS (lv' := [(0, .ref 106), (1, iv p1), (3, iv p3), (6, iv p2), (7, iv (z891 - 1))]) (List.forall_mem_cons.mpr ⟨rfl, List.forall_mem_cons.mpr ⟨rfl, List.forall_mem_cons.mpr ⟨rfl, List.forall_mem_cons.mpr ⟨rfl, List.forall_mem_cons.mpr ⟨rfl, fun _ h => absurd h List.not_mem_nil⟩⟩⟩⟩⟩) ?_
                exact L1110 8 p2 (z891 - 1) μ1036 T1039 mF.refl h17 (rSub (e := (-1)) (f := 5) h895 (rR (x := 1)) rfl) I1042 I1043 I1044 I1045 I1046 I1047 I1048 I1049 (vc_X12_rule_u_23 h895)
              have h1160 : 0 ≤ z1035 ∧ z1035 ≤ 5 := (vc_X12_same_40 h1057 h1038)
              refine sv_aload_n (pc := 91) dX12_rule_91 rfl rfl ?_
              refine gf_X12_83 (pc := 92) dX12_rule_92 wF_X12_451 (A_106 hw) T1039 ?_
              refine mr_bipush (pc := 95) (z := 6) dX12_rule_95 (by decide) ?_
              refine mr_iload_n (pc := 97) (z := p1) dX12_rule_97 rfl rfl ?_
              refine mr_imul (pc := 98) (x := 6) (y := p1) dX12_rule_98 ?_
              refine mr_iload (pc := 99) (z := z1035) dX12_rule_99 rfl ?_
              refine mr_iadd (pc := 101) (x := (6 * p1)) (y := z1035) dX12_rule_101 ?_
              refine mr_iconst (pc := 102) (z := 0) dX12_rule_102 ?_
              refine ss_163 (pc := 103) dX12_rule_103 (A_163 hw) T1039 (rIx (n := 60) (rAdd (e := 0) (f := 59) (rMulL (n := 6) (e := 0) (f := 54) h14 rfl) h1160 rfl) rfl) (rW (c := 0) (d := 9) (rR (x := 0)) rfl) fun μ1161 u1162 T1163 => ?_
              refine mr_iinc (pc := 104) (lv' := [(6, iv (z1035 + 1)), (0, .ref 106), (1, iv p1), (2, iv p2), (3, iv p3), (5, iv z891)]) dX12_rule_104 rfl (by decide) rfl ?_
              refine sv_goto (pc := 107) (tgt := 84) dX12_rule_107 (by decide) ?_
              refine mr_lvS (lv' := [(0, .ref 106), (1, iv p1), (2, iv p2), (3, iv p3), (5, iv z891), (6, iv (z1035 + 1))]) (List.forall_mem_cons.mpr ⟨rfl, List.forall_mem_cons.mpr ⟨rfl, List.forall_mem_cons.mpr ⟨rfl, List.forall_mem_cons.mpr ⟨rfl, List.forall_mem_cons.mpr ⟨rfl, List.forall_mem_cons.mpr ⟨rfl, fun _ h => absurd h List.not_mem_nil⟩⟩⟩⟩⟩⟩) ?_
              exact ih1051 (z1035 + 1) μ1161 T1163 (mF.up (mF.call mF.refl F1040 rfl) (A_163 hw) u1162 rfl) (rW (c := 0) (d := 6) (rAdd (e := 1) (f := 6) h1160 (rR (x := 1)) rfl) rfl) (JC.keepJ I1042 hw ((mF.up mF.refl (A_163 hw) u1162 rfl) : mF [163999] w μ1036 μ1161) rfl) (RP.keep I1043 hw ((mF.up mF.refl (A_163 hw) u1162 rfl) : mF [163999] w μ1036 μ1161) rfl ((mG.upO mG.refl u1162 rfl) : mG [] μ1036 μ1161) (fun _ h => absurd h List.not_mem_nil)) (EP.keep I1044 hw ((mF.up mF.refl (A_163 hw) u1162 rfl) : mF [163999] w μ1036 μ1161) rfl) (HP.keep I1045 hw ((mF.up mF.refl (A_163 hw) u1162 rfl) : mF [163999] w μ1036 μ1161) rfl ((mG.upO mG.refl u1162 rfl) : mG [] μ1036 μ1161) (fun _ h => absurd h List.not_mem_nil)) (UPg.fr I1046 hw T1163 rfl ((mF.up mF.refl (A_163 hw) u1162 rfl) : mF [163999] w μ1036 μ1161) rfl rfl rfl ((mG.upO mG.refl u1162 rfl) : mG [] μ1036 μ1161) (fun _ h => absurd h List.not_mem_nil)) (G1.keep I1047 hw ((mF.up mF.refl (A_163 hw) u1162 rfl) : mF [163999] w μ1036 μ1161) rfl rfl ((mG.upO mG.refl u1162 rfl) : mG [] μ1036 μ1161) (fun _ h => absurd h List.not_mem_nil)) (EV.keep I1048 hw ((mF.up mF.refl (A_163 hw) u1162 rfl) : mF [163999] w μ1036 μ1161) rfl) (PK.keep I1049 hw ((mF.up mF.refl (A_163 hw) u1162 rfl) : mF [163999] w μ1036 μ1161) rfl) (vc_X12_same_42 (nS h1050) h1057 h1160)
          refine mr_lvS (lv' := [(0, .ref 106), (1, iv p1), (2, iv p2), (3, iv p3), (5, iv z891), (6, iv 0)]) (List.forall_mem_cons.mpr ⟨rfl, List.forall_mem_cons.mpr ⟨rfl, List.forall_mem_cons.mpr ⟨rfl, List.forall_mem_cons.mpr ⟨rfl, List.forall_mem_cons.mpr ⟨rfl, List.forall_mem_cons.mpr ⟨rfl, fun _ h => absurd h List.not_mem_nil⟩⟩⟩⟩⟩⟩) ?_
          exact L1037 8 0 μ hT mF.refl (rW (c := 0) (d := 6) (rR (x := 0)) rfl) hIJC hIRP hIEP hIHP hIUP hIG1 hIEV hIPK vc_X12_same_46
        have h1164 : 1 ≤ z890 ∧ z890 ≤ 2147483647 := (vc_X11_isRule_5 h903 h896)
        refine mr_iload (pc := 28) (z := z890) dX12_rule_28 rfl ?_
        refine mr_bipush (pc := 30) (z := 10) dX12_rule_30 (by decide) ?_
        refine mr_irem (pc := 32) (x := z890) (y := 10) dX12_rule_32 (rW (c := 0) (d := 2147483647) h1164 rfl) vc_X11_isRule_6 ?_
        refine mr_gen (P := fun z => 0 ≤ z ∧ z ≤ 9) (rMod h1164 rfl) fun z1165 q1166 h1167 => ?_
        refine mr_istore (pc := 33) (lv' := [(7, iv z1165), (0, .ref 106), (1, iv p1), (2, iv p2), (3, iv p3), (4, iv z892), (5, iv z891), (6, iv z890)]) dX12_rule_33 (by decide) rfl ?_
        refine mr_iload (pc := 35) (z := z1165) dX12_rule_35 rfl ?_
        refine mr_iconst (pc := 37) (z := 1) dX12_rule_37 ?_
        refine mr_bipush (pc := 38) (z := 6) dX12_rule_38 (by decide) ?_
        refine mr_cSP (pc := 40) (c_X12_in hw hT (rW (c := (-2147483648)) (d := 2147483647) h1167 rfl) (rW (c := (-2147483648)) (d := 2147483647) (rR (x := 1)) rfl) (rW (c := (-2147483648)) (d := 2147483647) (rR (x := 6)) rfl)) (gOk _ _ _ _ _) dX12_rule_40 (tX12_in _ _ _ _ _) wS_X12_in wM_X12_18 ⟨le_t rfl, le_t rfl⟩ ⟨le_t rfl, le_t rfl⟩ rfl (le_t rfl) fun z1172 h1171 => ?_
        refine mr_if_eq (pc := 43) (tgt := 57) dX12_rule_43 (by decide) (r32 h1171.1 rfl) (fun h1173 => ?_) (fun h1173 => ?_)
        · have h1174 : 0 ≤ z1172 ∧ z1172 ≤ 0 := (vc_X12_rule_u_28 h1173 h1171.2.1 h1171.2.2.1 h1167 h1171.1)
          have h1175 : z1165 < (1 : Int) ∨ (6 : Int) < z1165 := (h1171.2.2.1 (vc_X12_rule_u_29 h1171.2.1 h1171.2.2.1 h1173 q1166 h1167 h1174 h1164))
          refine mr_iconst (pc := 57) (z := (-1)) dX12_rule_57 ?_
          exact mr_iret dX12_rule_58 rfl (le_t rfl) (le_t rfl) hT mF.refl ⟨(rW (c := (-2147483648)) (d := 2147483647) (rR (x := (-1))) rfl), hIJC, hIRP, hIEP, hIHP, hIUP, hIG1, hIEV, trivial⟩
        have h1176 : 1 ≤ z1172 ∧ z1172 ≤ 1 := (vc_X12_rule_u_30 h1173 h1171.2.1 h1171.2.2.1 h1167 h1171.1)
        have h1177 : (1 : Int) ≤ z1165 ∧ z1165 ≤ (6 : Int) := (h1171.2.1 (vc_X12_rule_u_31 h1171.2.1 h1171.2.2.1 h1173 q1166 h1167 h1176 h1164))
        have h1178 : 1 ≤ z1165 ∧ z1165 ≤ 6 := (vc_X12_rule_u_32 h1177 q1166 h1171.2.1 h1171.2.2.1 h1167 h1176 h1164)
        refine mr_iload (pc := 46) (z := z892) dX12_rule_46 rfl ?_
        refine mr_iload (pc := 48) (z := z1165) dX12_rule_48 rfl ?_
        refine mr_ishr (pc := 50) (x := z892) (y := z1165) dX12_rule_50 ?_
        refine mr_gen (P := fun z => (-2147483648) ≤ z ∧ z ≤ 2147483647) (r32i _) fun z1179 q1180 h1181 => ?_
        refine mr_iconst (pc := 51) (z := 1) dX12_rule_51 ?_
        refine mr_iand (pc := 52) (x := z1179) (y := 1) dX12_rule_52 ?_
        refine mr_gen (P := fun z => 0 ≤ z ∧ z ≤ 1) (rAndR (rR (x := 1)) rfl) fun z1182 q1183 h1184 => ?_
        refine mr_iconst (pc := 53) (z := 1) dX12_rule_53 ?_
        refine mr_icmp_ne (pc := 54) (tgt := 59) dX12_rule_54 (by decide) (r32 h1184 rfl) (r32 (rR (x := 1)) rfl) (fun h1185 => ?_) (fun h1185 => ?_)
        · have h1186 : 0 ≤ z1182 ∧ z1182 ≤ 0 := (vc_X1_goThrough_12_38 h1185 h1184)
          refine mr_iload (pc := 59) (z := z892) dX12_rule_59 rfl ?_
          refine mr_iconst (pc := 61) (z := 1) dX12_rule_61 ?_
          refine mr_iload (pc := 62) (z := z1165) dX12_rule_62 rfl ?_
          refine mr_ishl (pc := 64) (x := 1) (y := z1165) dX12_rule_64 ?_
          refine mr_gen (P := fun z => (-2147483648) ≤ z ∧ z ≤ 2147483647) (r32i _) fun z1187 q1188 h1189 => ?_
          refine mr_ior (pc := 65) (x := z892) (y := z1187) dX12_rule_65 ?_
          refine mr_gen (P := fun z => (-2147483648) ≤ z ∧ z ≤ 2147483647) (r32i _) fun z1190 q1191 h1192 => ?_
          have I1193 := (sOK.add R900 (vc_X12_rule_u_35 q1166 h1171.2.1 h1171.2.2.1 h1177 h903 h1173 h1178 h1176 h1164) q1180 q1183 (vc_X12_rule_u_34 h1185 h1186) q1188 q1191)
          have h1194 : 0 ≤ z1190 ∧ z1190 ≤ 126 := ⟨I1193.1, I1193.2.1⟩
          have h1195 : z891 ≤ 5 := by have h := I1193.le; omega
          have h1196 : 0 ≤ z891 ∧ z891 ≤ 5 := (vc_X12_openLevel_1 h1195 h895)
          refine mr_istore (pc := 66) (lv' := [(4, iv z1190), (7, iv z1165), (0, .ref 106), (1, iv p1), (2, iv p2), (3, iv p3), (5, iv z891), (6, iv z890)]) dX12_rule_66 (by decide) rfl ?_
          refine mr_iinc (pc := 68) (lv' := [(5, iv (z891 + 1)), (4, iv z1190), (7, iv z1165), (0, .ref 106), (1, iv p1), (2, iv p2), (3, iv p3), (6, iv z890)]) dX12_rule_68 rfl (by decide) rfl ?_
          refine mr_iload (pc := 71) (z := z890) dX12_rule_71 rfl ?_
          refine mr_bipush (pc := 73) (z := 10) dX12_rule_73 (by decide) ?_
          refine mr_idiv (pc := 75) (x := z890) (y := 10) dX12_rule_75 (rW (c := 0) (d := 2147483647) h1164 rfl) vc_X11_isRule_6 ?_
          refine mr_gen (P := fun z => 0 ≤ z ∧ z ≤ 214748364) (rDiv h1164 rfl) fun z1197 q1198 h1199 => ?_
          refine mr_istore (pc := 76) (lv' := [(6, iv z1197), (5, iv (z891 + 1)), (4, iv z1190), (7, iv z1165), (0, .ref 106), (1, iv p1), (2, iv p2), (3, iv p3)]) dX12_rule_76 (by decide) rfl ?_
          refine sv_goto (pc := 78) (tgt := 23) dX12_rule_78 (by decide) ?_
          refine mr_lvS (lv' := [(0, .ref 106), (1, iv p1), (2, iv p2), (3, iv p3), (4, iv z1190), (5, iv (z891 + 1)), (6, iv z1197)]) (List.forall_mem_cons.mpr ⟨rfl, List.forall_mem_cons.mpr ⟨rfl, List.forall_mem_cons.mpr ⟨rfl, List.forall_mem_cons.mpr ⟨rfl, List.forall_mem_cons.mpr ⟨rfl, List.forall_mem_cons.mpr ⟨rfl, List.forall_mem_cons.mpr ⟨rfl, fun _ h => absurd h List.not_mem_nil⟩⟩⟩⟩⟩⟩⟩) ?_
          exact ih902 z1190 (z891 + 1) z1197 trivial h1194 (rW (c := 0) (d := 6) (rAdd (e := 1) (f := 6) h1196 (rR (x := 1)) rfl) rfl) (rW (c := 0) (d := 2147483647) h1199 rfl) I1193 (vc_X12_rule_u_37 (nS h901) h903 q1166 q1198 h1171.2.1 h1171.2.2.1 h1177 h1178 h1176 h1199 h1164)
        have h1200 : 1 ≤ z1182 ∧ z1182 ≤ 1 := (vc_X1_goThrough_12_37 h1185 h1184)
        refine mr_iconst (pc := 57) (z := (-1)) dX12_rule_57 ?_
        exact mr_iret dX12_rule_58 rfl (le_t rfl) (le_t rfl) hT mF.refl ⟨(rW (c := (-2147483648)) (d := 2147483647) (rR (x := (-1))) rfl), hIJC, hIRP, hIEP, hIHP, hIUP, hIG1, hIEV, trivial⟩
    refine mr_lvS (lv' := [(0, .ref 106), (1, iv p1), (2, iv p2), (3, iv p3), (4, iv 0), (5, iv 0), (6, iv p2)]) (List.forall_mem_cons.mpr ⟨rfl, List.forall_mem_cons.mpr ⟨rfl, List.forall_mem_cons.mpr ⟨rfl, List.forall_mem_cons.mpr ⟨rfl, List.forall_mem_cons.mpr ⟨rfl, List.forall_mem_cons.mpr ⟨rfl, List.forall_mem_cons.mpr ⟨rfl, fun _ h => absurd h List.not_mem_nil⟩⟩⟩⟩⟩⟩⟩) ?_
    exact L893 2147483648 0 0 p2 trivial (rW (c := 0) (d := 126) (rR (x := 0)) rfl) (rW (c := 0) (d := 6) (rR (x := 0)) rfl) h17 sOK.zero (vc_X11_isRule_16 h16 h17)
  have h1201 : (-2147483648) ≤ p2 ∧ p2 ≤ (-1) := (vc_X12_ring_60 h16 hp2)
  refine mr_iconst (pc := 12) (z := (-1)) dX12_rule_12 ?_
  exact mr_iret dX12_rule_13 rfl (le_t rfl) (le_t rfl) hT mF.refl ⟨(rW (c := (-2147483648)) (d := 2147483647) (rR (x := (-1))) rfl), hIJC, hIRP, hIEP, hIHP, hIUP, hIG1, hIEV, trivial⟩
theorem vc_X12_raise_u_7 {p2 : Int} (h0 : ¬ p2 = 0) (h1 : 1 ≤ p2 ∧ p2 ≤ 1) : ¬ p2 = 0 := by omega
theorem vc_X12_raise_u_8 {p2 z14 : Int} (h0 : ¬ p2 = 0) (h1 : 1 ≤ p2 ∧ p2 ≤ 1) (h2 : 0 ≤ z14 ∧ z14 ≤ 1) : z14 = 0 ∨ z14 = p2 := by omega
theorem vc_X12_raise_u_9 {p1 z1 z8 : Int} (h0 : (z8 = 1 → 0 ≤ p1 ∧ p1 < z1)) (h1 : (z8 = 0 → p1 < 0 ∨ z1 ≤ p1)) (h2 : 0 ≤ p1 ∧ p1 < z1) (h3 : ¬ z8 = 0) (h4 : 0 ≤ p1 ∧ p1 ≤ 19) (h5 : 1 ≤ z1 ∧ z1 ≤ 20) (h6 : 1 ≤ z8 ∧ z8 ≤ 1) : p1 < z1 := by omega
theorem vc_X12_raise_u_10 {z30 z33 : Int} (h0 : 0 ≤ z30 ∧ z30 ≤ 9) (h1 : 0 ≤ z33 ∧ z33 ≤ 9) : z30 = z30 ∨ z33 = z30 := by omega
theorem vc_X12_raise_u_11 {z30 z33 : Int} (h0 : 0 ≤ z30 ∧ z30 ≤ 9) (h1 : 0 ≤ z33 ∧ z33 ≤ 9) : z30 = z33 ∨ z33 = z33 := by omega
theorem vc_X12_raise_u_19 {p1 z1 z54 z8 : Int} (h0 : z54 = (((20 * p1) + (10 * 0)) + 0)) (h1 : (z8 = 1 → 0 ≤ p1 ∧ p1 < z1)) (h2 : (z8 = 0 → p1 < 0 ∨ z1 ≤ p1)) (h3 : 0 ≤ p1 ∧ p1 < z1) (h4 : 0 ≤ p1 ∧ p1 ≤ 19) (h5 : 1 ≤ z1 ∧ z1 ≤ 20) (h6 : 0 ≤ z54 ∧ z54 ≤ 449) (h7 : 1 ≤ z8 ∧ z8 ≤ 1) : 0 ≤ z54 ∧ z54 ≤ 380 := by omega
theorem vc_X12_raise_u_20 {p1 z1 z351 z54 z8 : Int} (h0 : (401 - z351) < ((0 : Nat) : Int)) (h1 : 20 * p1 ≤ z351) (h2 : (z8 = 1 → 0 ≤ p1 ∧ p1 < z1)) (h3 : (z8 = 0 → p1 < 0 ∨ z1 ≤ p1)) (h4 : 0 ≤ p1 ∧ p1 < z1) (h5 : z54 = (((20 * p1) + (10 * 0)) + 0)) (h6 : 0 ≤ p1 ∧ p1 ≤ 19) (h7 : 1 ≤ z1 ∧ z1 ≤ 20) (h8 : 0 ≤ z351 ∧ z351 ≤ 400) (h9 : 0 ≤ z54 ∧ z54 ≤ 380) (h10 : 1 ≤ z8 ∧ z8 ≤ 1) : False := by omega
theorem vc_X12_raise_u_21 {p1 z1 z351 z372 z54 z8 : Int} (h0 : z372 = (((20 * p1) + (10 * 2)) + 0)) (h1 : (z8 = 1 → 0 ≤ p1 ∧ p1 < z1)) (h2 : (z8 = 0 → p1 < 0 ∨ z1 ≤ p1)) (h3 : 0 ≤ p1 ∧ p1 < z1) (h4 : z54 = (((20 * p1) + (10 * 0)) + 0)) (h5 : 20 * p1 ≤ z351) (h6 : 0 ≤ p1 ∧ p1 ≤ 19) (h7 : 1 ≤ z1 ∧ z1 ≤ 20) (h8 : 0 ≤ z351 ∧ z351 ≤ 400) (h9 : 0 ≤ z372 ∧ z372 ≤ 449) (h10 : 0 ≤ z54 ∧ z54 ≤ 380) (h11 : 1 ≤ z8 ∧ z8 ≤ 1) : 20 ≤ z372 ∧ z372 ≤ 400 := by omega
theorem vc_X12_raise_u_22 {p1 z351 z372 : Int} (h0 : z372 ≤ z351) (h1 : 20 * p1 ≤ z351) (h2 : z372 = (((20 * p1) + (10 * 2)) + 0)) (h3 : 0 ≤ p1 ∧ p1 ≤ 19) (h4 : 0 ≤ z351 ∧ z351 ≤ 400) (h5 : 20 ≤ z372 ∧ z372 ≤ 400) : 20 ≤ z351 ∧ z351 ≤ 400 := by omega
theorem vc_X12_raise_u_23 {p1 z1 z351 z372 z54 z8 : Int} (h0 : (z8 = 1 → 0 ≤ p1 ∧ p1 < z1)) (h1 : (z8 = 0 → p1 < 0 ∨ z1 ≤ p1)) (h2 : 0 ≤ p1 ∧ p1 < z1) (h3 : z54 = (((20 * p1) + (10 * 0)) + 0)) (h4 : 20 * p1 ≤ z351) (h5 : z372 = (((20 * p1) + (10 * 2)) + 0)) (h6 : z372 ≤ z351) (h7 : ¬ z8 = 0) (h8 : 0 ≤ p1 ∧ p1 ≤ 19) (h9 : 1 ≤ z1 ∧ z1 ≤ 20) (h10 : 20 ≤ z351 ∧ z351 ≤ 400) (h11 : 20 ≤ z372 ∧ z372 ≤ 400) (h12 : 0 ≤ z54 ∧ z54 ≤ 380) (h13 : 1 ≤ z8 ∧ z8 ≤ 1) : 20 * p1 + 20 ≤ z351 := by omega
theorem vc_X12_raise_u_26 {z412 : Int} (h0 : 0 ≤ z412 ∧ z412 ≤ 9) : ((400 * z412) + 1600) ≤ 5200 ∨ 21200 ≤ ((400 * z412) + 1200) := by omega
theorem vc_X12_raise_u_30 {p1 z351 z372 : Int} (h0 : z351 < z372) (h1 : 20 * p1 ≤ z351) (h2 : z372 = (((20 * p1) + (10 * 2)) + 0)) (h3 : 0 ≤ p1 ∧ p1 ≤ 19) (h4 : 0 ≤ z351 ∧ z351 ≤ 400) (h5 : 20 ≤ z372 ∧ z372 ≤ 400) : 0 ≤ z351 ∧ z351 ≤ 399 := by omega
theorem vc_X12_raise_u_31 {p1 z1 z351 z372 z54 z8 : Int} (h0 : 20 * p1 ≤ z351) (h1 : z351 < z372) (h2 : (z8 = 1 → 0 ≤ p1 ∧ p1 < z1)) (h3 : (z8 = 0 → p1 < 0 ∨ z1 ≤ p1)) (h4 : 0 ≤ p1 ∧ p1 < z1) (h5 : z54 = (((20 * p1) + (10 * 0)) + 0)) (h6 : z372 = (((20 * p1) + (10 * 2)) + 0)) (h7 : 0 ≤ p1 ∧ p1 ≤ 19) (h8 : 1 ≤ z1 ∧ z1 ≤ 20) (h9 : 0 ≤ z351 ∧ z351 ≤ 399) (h10 : 20 ≤ z372 ∧ z372 ≤ 400) (h11 : 0 ≤ z54 ∧ z54 ≤ 380) (h12 : 1 ≤ z8 ∧ z8 ≤ 1) : 0 ≤ (40 * (130 + z351)) := by omega
theorem vc_X12_raise_u_32 {p1 z1 z351 z372 z54 z8 : Int} (h0 : 20 * p1 ≤ z351) (h1 : z351 < z372) (h2 : (z8 = 1 → 0 ≤ p1 ∧ p1 < z1)) (h3 : (z8 = 0 → p1 < 0 ∨ z1 ≤ p1)) (h4 : 0 ≤ p1 ∧ p1 < z1) (h5 : z54 = (((20 * p1) + (10 * 0)) + 0)) (h6 : z372 = (((20 * p1) + (10 * 2)) + 0)) (h7 : 0 ≤ p1 ∧ p1 ≤ 19) (h8 : 1 ≤ z1 ∧ z1 ≤ 20) (h9 : 0 ≤ z351 ∧ z351 ≤ 399) (h10 : 20 ≤ z372 ∧ z372 ≤ 400) (h11 : 0 ≤ z54 ∧ z54 ≤ 380) (h12 : 1 ≤ z8 ∧ z8 ≤ 1) : (40 * (130 + z351)) % 40 = 0 := by omega
theorem vc_X12_raise_u_34 {p1 z1 z351 z372 z54 z8 : Int} (h0 : 20 * p1 ≤ z351) (h1 : z351 < z372) (h2 : (z8 = 1 → 0 ≤ p1 ∧ p1 < z1)) (h3 : (z8 = 0 → p1 < 0 ∨ z1 ≤ p1)) (h4 : 0 ≤ p1 ∧ p1 < z1) (h5 : z54 = (((20 * p1) + (10 * 0)) + 0)) (h6 : z372 = (((20 * p1) + (10 * 2)) + 0)) (h7 : 0 ≤ p1 ∧ p1 ≤ 19) (h8 : 1 ≤ z1 ∧ z1 ≤ 20) (h9 : 0 ≤ z351 ∧ z351 ≤ 399) (h10 : 20 ≤ z372 ∧ z372 ≤ 400) (h11 : 0 ≤ z54 ∧ z54 ≤ 380) (h12 : 1 ≤ z8 ∧ z8 ≤ 1) : 0 ≤ (40 * (530 + z351)) := by omega
theorem vc_X12_raise_u_35 {p1 z1 z351 z372 z54 z8 : Int} (h0 : 20 * p1 ≤ z351) (h1 : z351 < z372) (h2 : (z8 = 1 → 0 ≤ p1 ∧ p1 < z1)) (h3 : (z8 = 0 → p1 < 0 ∨ z1 ≤ p1)) (h4 : 0 ≤ p1 ∧ p1 < z1) (h5 : z54 = (((20 * p1) + (10 * 0)) + 0)) (h6 : z372 = (((20 * p1) + (10 * 2)) + 0)) (h7 : 0 ≤ p1 ∧ p1 ≤ 19) (h8 : 1 ≤ z1 ∧ z1 ≤ 20) (h9 : 0 ≤ z351 ∧ z351 ≤ 399) (h10 : 20 ≤ z372 ∧ z372 ≤ 400) (h11 : 0 ≤ z54 ∧ z54 ≤ 380) (h12 : 1 ≤ z8 ∧ z8 ≤ 1) : (40 * (530 + z351)) % 40 = 0 := by omega
theorem vc_X12_raise_u_37 {p1 z1 z351 z372 z54 z8 : Int} (h0 : 20 * p1 ≤ z351) (h1 : z351 < z372) (h2 : (z8 = 1 → 0 ≤ p1 ∧ p1 < z1)) (h3 : (z8 = 0 → p1 < 0 ∨ z1 ≤ p1)) (h4 : 0 ≤ p1 ∧ p1 < z1) (h5 : z54 = (((20 * p1) + (10 * 0)) + 0)) (h6 : z372 = (((20 * p1) + (10 * 2)) + 0)) (h7 : 0 ≤ p1 ∧ p1 ≤ 19) (h8 : 1 ≤ z1 ∧ z1 ≤ 20) (h9 : 0 ≤ z351 ∧ z351 ≤ 399) (h10 : 20 ≤ z372 ∧ z372 ≤ 400) (h11 : 0 ≤ z54 ∧ z54 ≤ 380) (h12 : 1 ≤ z8 ∧ z8 ≤ 1) : 0 ≤ z351 := by omega
theorem vc_X12_raise_u_38 {p1 z1 z351 z372 z54 z8 : Int} (h0 : (z8 = 1 → 0 ≤ p1 ∧ p1 < z1)) (h1 : (z8 = 0 → p1 < 0 ∨ z1 ≤ p1)) (h2 : 0 ≤ p1 ∧ p1 < z1) (h3 : 20 * p1 ≤ z351) (h4 : z351 < z372) (h5 : ¬ z8 = 0) (h6 : z54 = (((20 * p1) + (10 * 0)) + 0)) (h7 : z372 = (((20 * p1) + (10 * 2)) + 0)) (h8 : 0 ≤ p1 ∧ p1 ≤ 19) (h9 : 1 ≤ z1 ∧ z1 ≤ 20) (h10 : 0 ≤ z351 ∧ z351 ≤ 399) (h11 : 20 ≤ z372 ∧ z372 ≤ 400) (h12 : 0 ≤ z54 ∧ z54 ≤ 380) (h13 : 1 ≤ z8 ∧ z8 ≤ 1) : ((-1) : Int) < 0 ∨ z351 < 20 * z1 := by omega
theorem vc_X12_raise_u_39 {p1 z1 z351 z372 z54 z8 : Int} (h0 : (z8 = 1 → 0 ≤ p1 ∧ p1 < z1)) (h1 : (z8 = 0 → p1 < 0 ∨ z1 ≤ p1)) (h2 : 0 ≤ p1 ∧ p1 < z1) (h3 : z54 = (((20 * p1) + (10 * 0)) + 0)) (h4 : 20 * p1 ≤ z351) (h5 : z372 = (((20 * p1) + (10 * 2)) + 0)) (h6 : z351 < z372) (h7 : ¬ z8 = 0) (h8 : 0 ≤ p1 ∧ p1 ≤ 19) (h9 : 1 ≤ z1 ∧ z1 ≤ 20) (h10 : 0 ≤ z351 ∧ z351 ≤ 399) (h11 : 20 ≤ z372 ∧ z372 ≤ 400) (h12 : 0 ≤ z54 ∧ z54 ≤ 380) (h13 : 1 ≤ z8 ∧ z8 ≤ 1) : 20 * p1 ≤ (z351 + 1) := by omega
theorem vc_X12_raise_u_40 {N p1 z1 z351 z372 z54 z8 : Int} (h0 : (401 - z351) < N + 1) (h1 : 20 * p1 ≤ z351) (h2 : z351 < z372) (h3 : (z8 = 1 → 0 ≤ p1 ∧ p1 < z1)) (h4 : (z8 = 0 → p1 < 0 ∨ z1 ≤ p1)) (h5 : 0 ≤ p1 ∧ p1 < z1) (h6 : z54 = (((20 * p1) + (10 * 0)) + 0)) (h7 : z372 = (((20 * p1) + (10 * 2)) + 0)) (h8 : 0 ≤ p1 ∧ p1 ≤ 19) (h9 : 1 ≤ z1 ∧ z1 ≤ 20) (h10 : 0 ≤ z351 ∧ z351 ≤ 399) (h11 : 20 ≤ z372 ∧ z372 ≤ 400) (h12 : 0 ≤ z54 ∧ z54 ≤ 380) (h13 : 1 ≤ z8 ∧ z8 ≤ 1) : (401 - (z351 + 1)) < N := by omega
theorem vc_X12_raise_u_41 {p1 z1 z351 z372 z54 z8 : Int} (h0 : 20 * p1 ≤ z351) (h1 : z351 < z372) (h2 : (z8 = 1 → 0 ≤ p1 ∧ p1 < z1)) (h3 : (z8 = 0 → p1 < 0 ∨ z1 ≤ p1)) (h4 : 0 ≤ p1 ∧ p1 < z1) (h5 : z54 = (((20 * p1) + (10 * 0)) + 0)) (h6 : z372 = (((20 * p1) + (10 * 2)) + 0)) (h7 : 0 ≤ p1 ∧ p1 ≤ 19) (h8 : 1 ≤ z1 ∧ z1 ≤ 20) (h9 : 0 ≤ z351 ∧ z351 ≤ 399) (h10 : 20 ≤ z372 ∧ z372 ≤ 400) (h11 : 0 ≤ z54 ∧ z54 ≤ 380) (h12 : 1 ≤ z8 ∧ z8 ≤ 1) : (40 * (130 + z351)) ≤ (40 * (130 + z351)) ∧ ((40 * (130 + z351)) + 1) ≤ ((40 * (130 + z351)) + 1) := by omega
theorem vc_X12_raise_u_42 {p1 z1 z351 z372 z54 z8 : Int} (h0 : 20 * p1 ≤ z351) (h1 : z351 < z372) (h2 : (z8 = 1 → 0 ≤ p1 ∧ p1 < z1)) (h3 : (z8 = 0 → p1 < 0 ∨ z1 ≤ p1)) (h4 : 0 ≤ p1 ∧ p1 < z1) (h5 : z54 = (((20 * p1) + (10 * 0)) + 0)) (h6 : z372 = (((20 * p1) + (10 * 2)) + 0)) (h7 : 0 ≤ p1 ∧ p1 ≤ 19) (h8 : 1 ≤ z1 ∧ z1 ≤ 20) (h9 : 0 ≤ z351 ∧ z351 ≤ 399) (h10 : 20 ≤ z372 ∧ z372 ≤ 400) (h11 : 0 ≤ z54 ∧ z54 ≤ 380) (h12 : 1 ≤ z8 ∧ z8 ≤ 1) : (40 * (530 + z351)) ≤ (40 * (530 + z351)) ∧ ((40 * (530 + z351)) + 1) ≤ ((40 * (530 + z351)) + 1) := by omega
theorem vc_X12_raise_u_43 {p1 z1 z351 z372 z54 z8 : Int} (h0 : 20 * p1 ≤ z351) (h1 : z351 < z372) (h2 : (z8 = 1 → 0 ≤ p1 ∧ p1 < z1)) (h3 : (z8 = 0 → p1 < 0 ∨ z1 ≤ p1)) (h4 : 0 ≤ p1 ∧ p1 < z1) (h5 : z54 = (((20 * p1) + (10 * 0)) + 0)) (h6 : z372 = (((20 * p1) + (10 * 2)) + 0)) (h7 : 0 ≤ p1 ∧ p1 ≤ 19) (h8 : 1 ≤ z1 ∧ z1 ≤ 20) (h9 : 0 ≤ z351 ∧ z351 ≤ 399) (h10 : 20 ≤ z372 ∧ z372 ≤ 400) (h11 : 0 ≤ z54 ∧ z54 ≤ 380) (h12 : 1 ≤ z8 ∧ z8 ≤ 1) : (1 ≤ (40 * (530 + z351)) ∧ ((40 * (530 + z351)) + 1) ≤ 1200) ∨ 5200 ≤ (40 * (530 + z351)) := by omega
theorem vc_X12_raise_u_44 {p1 z1 z351 z372 z54 z8 : Int} (h0 : 20 * p1 ≤ z351) (h1 : z351 < z372) (h2 : (z8 = 1 → 0 ≤ p1 ∧ p1 < z1)) (h3 : (z8 = 0 → p1 < 0 ∨ z1 ≤ p1)) (h4 : 0 ≤ p1 ∧ p1 < z1) (h5 : z54 = (((20 * p1) + (10 * 0)) + 0)) (h6 : z372 = (((20 * p1) + (10 * 2)) + 0)) (h7 : 0 ≤ p1 ∧ p1 ≤ 19) (h8 : 1 ≤ z1 ∧ z1 ≤ 20) (h9 : 0 ≤ z351 ∧ z351 ≤ 399) (h10 : 20 ≤ z372 ∧ z372 ≤ 400) (h11 : 0 ≤ z54 ∧ z54 ≤ 380) (h12 : 1 ≤ z8 ∧ z8 ≤ 1) : (1 ≤ (40 * (130 + z351)) ∧ ((40 * (130 + z351)) + 1) ≤ 1200) ∨ 5200 ≤ (40 * (130 + z351)) := by omega
theorem vc_X12_raise_u_45 {p1 z1 z351 z372 z54 z8 : Int} (h0 : 20 * p1 ≤ z351) (h1 : z351 < z372) (h2 : (z8 = 1 → 0 ≤ p1 ∧ p1 < z1)) (h3 : (z8 = 0 → p1 < 0 ∨ z1 ≤ p1)) (h4 : 0 ≤ p1 ∧ p1 < z1) (h5 : z54 = (((20 * p1) + (10 * 0)) + 0)) (h6 : z372 = (((20 * p1) + (10 * 2)) + 0)) (h7 : 0 ≤ p1 ∧ p1 ≤ 19) (h8 : 1 ≤ z1 ∧ z1 ≤ 20) (h9 : 0 ≤ z351 ∧ z351 ≤ 399) (h10 : 20 ≤ z372 ∧ z372 ≤ 400) (h11 : 0 ≤ z54 ∧ z54 ≤ 380) (h12 : 1 ≤ z8 ∧ z8 ≤ 1) : (40 * (130 + z351)) < (40 * (530 + z351)) ∨ ((40 * (530 + z351)) + 1) ≤ (40 * (130 + z351)) := by omega
theorem vc_X12_raise_u_46 {p1 z1 z351 z372 z54 z8 : Int} (h0 : 20 * p1 ≤ z351) (h1 : z351 < z372) (h2 : (z8 = 1 → 0 ≤ p1 ∧ p1 < z1)) (h3 : (z8 = 0 → p1 < 0 ∨ z1 ≤ p1)) (h4 : 0 ≤ p1 ∧ p1 < z1) (h5 : z54 = (((20 * p1) + (10 * 0)) + 0)) (h6 : z372 = (((20 * p1) + (10 * 2)) + 0)) (h7 : 0 ≤ p1 ∧ p1 ≤ 19) (h8 : 1 ≤ z1 ∧ z1 ≤ 20) (h9 : 0 ≤ z351 ∧ z351 ≤ 399) (h10 : 20 ≤ z372 ∧ z372 ≤ 400) (h11 : 0 ≤ z54 ∧ z54 ≤ 380) (h12 : 1 ≤ z8 ∧ z8 ≤ 1) : ((40 * (530 + z351)) + 1) ≤ 5200 ∨ 21200 ≤ (40 * (530 + z351)) ∨ (40 * (130 + z351) ≤ (40 * (530 + z351)) ∧ ((40 * (530 + z351)) + 1) ≤ 40 * (130 + z351) + 40) := by omega
theorem vc_X12_raise_u_47 {p1 z1 z351 z372 z54 z8 : Int} (h0 : 20 * p1 ≤ z351) (h1 : z351 < z372) (h2 : (z8 = 1 → 0 ≤ p1 ∧ p1 < z1)) (h3 : (z8 = 0 → p1 < 0 ∨ z1 ≤ p1)) (h4 : 0 ≤ p1 ∧ p1 < z1) (h5 : z54 = (((20 * p1) + (10 * 0)) + 0)) (h6 : z372 = (((20 * p1) + (10 * 2)) + 0)) (h7 : 0 ≤ p1 ∧ p1 ≤ 19) (h8 : 1 ≤ z1 ∧ z1 ≤ 20) (h9 : 0 ≤ z351 ∧ z351 ≤ 399) (h10 : 20 ≤ z372 ∧ z372 ≤ 400) (h11 : 0 ≤ z54 ∧ z54 ≤ 380) (h12 : 1 ≤ z8 ∧ z8 ≤ 1) : ((40 * (130 + z351)) + 1) ≤ 5200 ∨ 21200 ≤ (40 * (130 + z351)) ∨ (40 * (130 + z351) ≤ (40 * (130 + z351)) ∧ ((40 * (130 + z351)) + 1) ≤ 40 * (130 + z351) + 40) := by omega
theorem vc_X12_raise_u_48 {p1 z1 z351 z372 z54 z8 : Int} (h0 : (z8 = 1 → 0 ≤ p1 ∧ p1 < z1)) (h1 : (z8 = 0 → p1 < 0 ∨ z1 ≤ p1)) (h2 : 0 ≤ p1 ∧ p1 < z1) (h3 : z54 = (((20 * p1) + (10 * 0)) + 0)) (h4 : 20 * p1 ≤ z351) (h5 : z372 = (((20 * p1) + (10 * 2)) + 0)) (h6 : z351 < z372) (h7 : ¬ z8 = 0) (h8 : 0 ≤ p1 ∧ p1 ≤ 19) (h9 : 1 ≤ z1 ∧ z1 ≤ 20) (h10 : 0 ≤ z351 ∧ z351 ≤ 399) (h11 : 20 ≤ z372 ∧ z372 ≤ 400) (h12 : 0 ≤ z54 ∧ z54 ≤ 380) (h13 : 1 ≤ z8 ∧ z8 ≤ 1) : 20 * p1 ≤ z351 ∧ z351 < 20 * p1 + 20 := by omega
theorem vc_X12_raise_u_49  : (((-1) : Int) : Int) < (0 : Int) := by omega
theorem vc_X12_raise_u_50 {p1 z1 z351 z372 z54 z8 : Int} (h0 : (z8 = 1 → 0 ≤ p1 ∧ p1 < z1)) (h1 : (z8 = 0 → p1 < 0 ∨ z1 ≤ p1)) (h2 : 0 ≤ p1 ∧ p1 < z1) (h3 : z54 = (((20 * p1) + (10 * 0)) + 0)) (h4 : 20 * p1 ≤ z351) (h5 : z372 = (((20 * p1) + (10 * 2)) + 0)) (h6 : z351 < z372) (h7 : ¬ z8 = 0) (h8 : 0 ≤ p1 ∧ p1 ≤ 19) (h9 : 1 ≤ z1 ∧ z1 ≤ 20) (h10 : 0 ≤ z351 ∧ z351 ≤ 399) (h11 : 20 ≤ z372 ∧ z372 ≤ 400) (h12 : 0 ≤ z54 ∧ z54 ≤ 380) (h13 : 1 ≤ z8 ∧ z8 ≤ 1) : ((40 * (530 + z351)) + 1) ≤ 5200 ∨ 21200 ≤ (40 * (530 + z351)) ∨ (40 * (130 + 20 * p1) ≤ (40 * (530 + z351)) ∧ ((40 * (530 + z351)) + 1) ≤ 40 * (130 + 20 * p1) + 800) := by omega
theorem vc_X12_raise_u_51 {p1 z1 z351 z372 z54 z8 : Int} (h0 : (z8 = 1 → 0 ≤ p1 ∧ p1 < z1)) (h1 : (z8 = 0 → p1 < 0 ∨ z1 ≤ p1)) (h2 : 0 ≤ p1 ∧ p1 < z1) (h3 : z54 = (((20 * p1) + (10 * 0)) + 0)) (h4 : 20 * p1 ≤ z351) (h5 : z372 = (((20 * p1) + (10 * 2)) + 0)) (h6 : z351 < z372) (h7 : ¬ z8 = 0) (h8 : 0 ≤ p1 ∧ p1 ≤ 19) (h9 : 1 ≤ z1 ∧ z1 ≤ 20) (h10 : 0 ≤ z351 ∧ z351 ≤ 399) (h11 : 20 ≤ z372 ∧ z372 ≤ 400) (h12 : 0 ≤ z54 ∧ z54 ≤ 380) (h13 : 1 ≤ z8 ∧ z8 ≤ 1) : ((40 * (130 + z351)) + 1) ≤ 5200 ∨ 21200 ≤ (40 * (130 + z351)) ∨ (40 * (130 + 20 * p1) ≤ (40 * (130 + z351)) ∧ ((40 * (130 + z351)) + 1) ≤ 40 * (130 + 20 * p1) + 800) := by omega
theorem vc_X12_raise_u_52 {p1 z1 z351 z372 z54 z8 : Int} (h0 : (z8 = 1 → 0 ≤ p1 ∧ p1 < z1)) (h1 : (z8 = 0 → p1 < 0 ∨ z1 ≤ p1)) (h2 : 0 ≤ p1 ∧ p1 < z1) (h3 : z54 = (((20 * p1) + (10 * 0)) + 0)) (h4 : 20 * p1 ≤ z351) (h5 : z372 = (((20 * p1) + (10 * 2)) + 0)) (h6 : ¬ z8 = 0) (h7 : z351 < z372) (h8 : 0 ≤ p1 ∧ p1 ≤ 19) (h9 : 1 ≤ z1 ∧ z1 ≤ 20) (h10 : 0 ≤ z351 ∧ z351 ≤ 399) (h11 : 20 ≤ z372 ∧ z372 ≤ 400) (h12 : 0 ≤ z54 ∧ z54 ≤ 380) (h13 : 1 ≤ z8 ∧ z8 ≤ 1) : 0 ≤ p1 := by omega
theorem vc_X12_raise_u_53 {p1 z1 z54 z8 : Int} (h0 : (z8 = 1 → 0 ≤ p1 ∧ p1 < z1)) (h1 : (z8 = 0 → p1 < 0 ∨ z1 ≤ p1)) (h2 : 0 ≤ p1 ∧ p1 < z1) (h3 : z54 = (((20 * p1) + (10 * 0)) + 0)) (h4 : ¬ z8 = 0) (h5 : 0 ≤ p1 ∧ p1 ≤ 19) (h6 : 1 ≤ z1 ∧ z1 ≤ 20) (h7 : 0 ≤ z54 ∧ z54 ≤ 380) (h8 : 1 ≤ z8 ∧ z8 ≤ 1) : 20 * p1 ≤ z54 := by omega
theorem vc_X12_raise_u_54 {p1 z1 z54 z8 : Int} (h0 : z54 = (((20 * p1) + (10 * 0)) + 0)) (h1 : (z8 = 1 → 0 ≤ p1 ∧ p1 < z1)) (h2 : (z8 = 0 → p1 < 0 ∨ z1 ≤ p1)) (h3 : 0 ≤ p1 ∧ p1 < z1) (h4 : 0 ≤ p1 ∧ p1 ≤ 19) (h5 : 1 ≤ z1 ∧ z1 ≤ 20) (h6 : 0 ≤ z54 ∧ z54 ≤ 380) (h7 : 1 ≤ z8 ∧ z8 ≤ 1) : (401 - z54) < ((402 : Nat) : Int) := by omega
theorem vc_X12_raise_u_55 {p1 z1 z54 z8 : Int} (h0 : (z8 = 1 → 0 ≤ p1 ∧ p1 < z1)) (h1 : (z8 = 0 → p1 < 0 ∨ z1 ≤ p1)) (h2 : 0 ≤ p1 ∧ p1 < z1) (h3 : z54 = (((20 * p1) + (10 * 0)) + 0)) (h4 : ¬ z8 = 0) (h5 : 0 ≤ p1 ∧ p1 ≤ 19) (h6 : 1 ≤ z1 ∧ z1 ≤ 20) (h7 : 0 ≤ z54 ∧ z54 ≤ 380) (h8 : 1 ≤ z8 ∧ z8 ≤ 1) : 20 * p1 = z54 := by omega
theorem vc_X12_raise_u_56 {p1 z1 z54 z8 : Int} (h0 : (z8 = 1 → 0 ≤ p1 ∧ p1 < z1)) (h1 : (z8 = 0 → p1 < 0 ∨ z1 ≤ p1)) (h2 : 0 ≤ p1 ∧ p1 < z1) (h3 : z54 = (((20 * p1) + (10 * 0)) + 0)) (h4 : ¬ z8 = 0) (h5 : 0 ≤ p1 ∧ p1 ≤ 19) (h6 : 1 ≤ z1 ∧ z1 ≤ 20) (h7 : 0 ≤ z54 ∧ z54 ≤ 380) (h8 : 1 ≤ z8 ∧ z8 ≤ 1) : 0 ≤ p1 := by omega
set_option maxRecDepth 4000 in
set_option maxHeartbeats 4000000 in
theorem c_X12_raise_u {l : Launch} {D : va_G} {c : Nat → ClassId} {H0 : Heap} {sa : Nat × Nat × (Nat → Int32)} {w : mW} {μ : mM} (hw : mWF w) (hT : mT w μ) {p1 : Int} (hp1 : (-2147483648) ≤ p1 ∧ p1 ≤ 2147483647) {p2 : Int} (hp2 : 0 ≤ p2 ∧ p2 ≤ 1) (hIJC : JC l D c H0 sa μ) (hIRP : RP μ) (hIEP : EP μ) (hIHP : HP μ) (hIUP : UP l D c H0 sa μ) (hIG1 : G1 μ) (hIEV : EV μ) (hIPK : PK μ) : sC (gG l D c H0 sa) mX12_raise 12 0 0 [.ref 106, iv p1, iv p2] (mk w μ) (qI w [106026, 106027, 106028, 106029, 106030, 106031, 106072, 112999, 126999, 151999, 152999, 153999, 155999, 156999, 157999, 158999, 159999, 160999, 161999, 165999] μ (fun z μ1 => ((-2147483648) ≤ z ∧ z ≤ 2147483647) ∧ JC l D c H0 sa μ1 ∧ RP μ1 ∧ EP μ1 ∧ HP μ1 ∧ UP l D c H0 sa μ1 ∧ G1 μ1 ∧ EV μ1 ∧ True)) := by
  refine sC.of rfl (by decide) (le_t rfl) ?_
  refine mr_lvE (lv' := [(0, .ref 106), (1, iv p1), (2, iv p2)]) rfl ?_
  refine sv_aload_n (pc := 0) dX12_raise_0 rfl rfl ?_
  refine mr_iload_n (pc := 1) (z := p1) dX12_raise_1 rfl rfl ?_
  obtain ⟨z1, q2⟩ : ∃ z, μ 106 6 = z := ⟨_, rfl⟩
  have h3 : (0 ≤ z1 ∧ z1 ≤ 20) := by rw [← q2]; exact hT 106 106 (A_106 hw) 6
  refine mr_cVP (pc := 2) (c_X12_isTie hw hT hp1 q2) (gOk _ _ _ _ _) dX12_raise_2 (tX12_isTie _ _ _ _ _) ⟨wV_X12_isTie, wL_X12_isTie⟩ wM_X12_66 (gCX12 _ _ _ _ _) rfl (A_106 hw) rfl ⟨le_t rfl, le_t rfl⟩ ⟨le_t rfl, le_t rfl⟩ rfl (le_t rfl) fun z8 h7 => ?_
  refine mr_if_ne (pc := 5) (tgt := 10) dX12_raise_5 (by decide) (r32 h7.1 rfl) (fun h9 => ?_) (fun h9 => ?_)
  · have h10 : 1 ≤ z8 ∧ z8 ≤ 1 := (vc_X12_pace_3 h9 h7.2.1 h7.2.2.1 hp1 h3 h7.1)
    have h11 : 0 ≤ p1 ∧ p1 < z1 := (h7.2.1 (vc_X12_pace_4 h7.2.1 h7.2.2.1 h9 hp1 h3 h10))
    have h12 : 0 ≤ p1 ∧ p1 ≤ 19 := (vc_X12_pace_5 h11 h7.2.1 h7.2.2.1 hp1 h3 h10)
    have h13 : 1 ≤ z1 ∧ z1 ≤ 20 := (vc_X12_pace_6 h11 h7.2.1 h7.2.2.1 h12 h3 h10)
    refine sv_aload_n (pc := 10) dX12_raise_10 rfl rfl ?_
    refine gf_X12_9 (pc := 11) dX12_raise_11 wF_X12_53 (A_106 hw) hT ?_
    refine mr_iload_n (pc := 14) (z := p1) dX12_raise_14 rfl rfl ?_
    refine la_112 (pc := 15) dX12_raise_15 (A_112 hw) hT (rIx (n := 20) h12 rfl) fun z14 q15 h16 => ?_
    have J21 : ∀ (z19 : Int), ((0 ≤ z19 ∧ z19 ≤ 1)) → sV (gG l D c H0 sa) mX12_raise (sRm 12 0 0) (sZ (gG l D c H0 sa) 0 0 (qI w [106026, 106027, 106028, 106029, 106030, 106031, 106072, 112999, 126999, 151999, 152999, 153999, 155999, 156999, 157999, 158999, 159999, 160999, 161999, 165999] μ (fun z μ1 => ((-2147483648) ≤ z ∧ z ≤ 2147483647) ∧ JC l D c H0 sa μ1 ∧ RP μ1 ∧ EP μ1 ∧ HP μ1 ∧ UP l D c H0 sa μ1 ∧ G1 μ1 ∧ EV μ1 ∧ True))) 24 [(0, .ref 106), (1, iv p1), (2, iv p2)] [iv z19] (mk w μ) 0 0 := by
      intro z19 h20
      refine mr_istore_n (pc := 24) (lv' := [(3, iv z19), (0, .ref 106), (1, iv p1), (2, iv p2)]) dX12_raise_24 rfl (by decide) rfl ?_
      refine mr_iload_n (pc := 25) (z := p2) dX12_raise_25 rfl rfl ?_
      refine mr_if_ne (pc := 26) (tgt := 35) dX12_raise_26 (by decide) (r32 hp2 rfl) (fun h22 => ?_) (fun h22 => ?_)
      · have h23 : 1 ≤ p2 ∧ p2 ≤ 1 := (vc_X12_ring_24 h22 hp2)
        refine sv_aload_n (pc := 35) dX12_raise_35 rfl rfl ?_
        refine gf_X12_9 (pc := 36) dX12_raise_36 wF_X12_53 (A_106 hw) hT ?_
        refine mr_iload_n (pc := 39) (z := p1) dX12_raise_39 rfl rfl ?_
        refine mr_iload_n (pc := 40) (z := p2) dX12_raise_40 rfl rfl ?_
        refine ss_112 (pc := 41) dX12_raise_41 (A_112 hw) hT (rIx (n := 20) h12 rfl) (rW (c := 0) (d := 1) h23 rfl) fun μ24 u25 T26 => ?_
        refine mr_iload_n (pc := 42) (z := p2) dX12_raise_42 rfl rfl ?_
        refine mr_if_eq (pc := 43) (tgt := 76) dX12_raise_43 (by decide) (r32 h23 rfl) (fun h => ((vc_X12_letWay_13 h h23)).elim) (fun _ => ?_)
        have I27 : UP l D c H0 sa μ24 := UP.rise hIUP hIHP hw T26 (PK.keep hIPK hw ((mF.up mF.refl (A_112 hw) u25 rfl) : mF [112999] w μ μ24) rfl) h12 u25 (by rw [q15]; exact (vc_X12_raise_u_8 h22 h23 h16))
        have I28 : EP μ24 := EP.tie hIEP u25 (vc_X12_raise_u_7 h22 h23)
        have I29 : HP μ24 := HP.tie hIHP u25 (vc_X12_raise_u_7 h22 h23)
        refine sv_aload_n (pc := 46) dX12_raise_46 rfl rfl ?_
        refine sv_aload_n (pc := 47) dX12_raise_47 rfl rfl ?_
        refine gf_X12_7 (pc := 48) dX12_raise_48 wF_X12_40 (A_106 hw) T26 ?_
        refine mr_iconst (pc := 51) (z := 2) dX12_raise_51 ?_
        refine mr_iload_n (pc := 52) (z := p1) dX12_raise_52 rfl rfl ?_
        refine mr_imul (pc := 53) (x := 2) (y := p1) dX12_raise_53 ?_
        refine la_110 (pc := 54) dX12_raise_54 (A_110 hw) T26 (rIx (n := 40) (rMulL (n := 2) (e := 0) (f := 38) h12 rfl) rfl) fun z30 q31 h32 => ?_
        refine mr_iload_n (pc := 55) (z := p1) dX12_raise_55 rfl rfl ?_
        obtain ⟨z33, q34⟩ : ∃ z, μ24 110 (((2 * p1) + 1).toNat) = z := ⟨_, rfl⟩
        have h35 : (0 ≤ z33 ∧ z33 ≤ 9) := by rw [← q34]; exact T26 110 110 (A_110 hw) (((2 * p1) + 1).toNat)
        refine mr_cVV (pc := 56) (c_X12_sayAll_u hw T26 h32 h12 q31 q34 (u25.f (Or.inl (mAt.ne (A_112 hw) (A_106 hw) rfl)) q2) (vc_X12_raise_u_9 h7.2.1 h7.2.2.1 h11 h9 h12 h13 h10) (vc_X12_raise_u_10 h32 h35) (JC.keepJ hIJC hw ((mF.up mF.refl (A_112 hw) u25 rfl) : mF [112999] w μ μ24) rfl) (RP.keep hIRP hw ((mF.up mF.refl (A_112 hw) u25 rfl) : mF [112999] w μ μ24) rfl ((mG.upO mG.refl u25 rfl) : mG [] μ μ24) (fun _ h => absurd h List.not_mem_nil)) I28 (G1.keep hIG1 hw ((mF.up mF.refl (A_112 hw) u25 rfl) : mF [112999] w μ μ24) rfl rfl ((mG.upO mG.refl u25 rfl) : mG [] μ μ24) (fun _ h => absurd h List.not_mem_nil)) (EV.keep hIEV hw ((mF.up mF.refl (A_112 hw) u25 rfl) : mF [112999] w μ μ24) rfl) (PK.keep hIPK hw ((mF.up mF.refl (A_112 hw) u25 rfl) : mF [112999] w μ μ24) rfl)) (gOk _ _ _ _ _) dX12_raise_56 (tX12_sayAll _ _ _ _ _) ⟨wV_X12_sayAll, wL_X12_sayAll⟩ wM_X12_603 (gCX12 _ _ _ _ _) rfl (A_106 hw) rfl ⟨le_t rfl, le_t rfl⟩ ⟨le_t rfl, le_t rfl⟩ rfl (le_t rfl) fun μ36 T37 F38 h39 => ?_
        refine sv_aload_n (pc := 59) dX12_raise_59 rfl rfl ?_
        refine sv_aload_n (pc := 60) dX12_raise_60 rfl rfl ?_
        refine gf_X12_7 (pc := 61) dX12_raise_61 wF_X12_40 (A_106 hw) T37 ?_
        refine mr_iconst (pc := 64) (z := 2) dX12_raise_64 ?_
        refine mr_iload_n (pc := 65) (z := p1) dX12_raise_65 rfl rfl ?_
        refine mr_imul (pc := 66) (x := 2) (y := p1) dX12_raise_66 ?_
        refine mr_iconst (pc := 67) (z := 1) dX12_raise_67 ?_
        refine mr_iadd (pc := 68) (x := (2 * p1)) (y := 1) dX12_raise_68 ?_
        refine lk_110 (pc := 69) dX12_raise_69 (A_110 hw) (rIx (n := 40) (rAdd (e := 1) (f := 39) (rMulL (n := 2) (e := 0) (f := 38) h12 rfl) (rR (x := 1)) rfl) rfl) (F38.f (A_110 hw) rfl q34) ?_
        refine mr_iload_n (pc := 70) (z := p1) dX12_raise_70 rfl rfl ?_
        refine mr_cVV (pc := 71) (c_X12_sayAll_u hw T37 h35 h12 (F38.f (A_110 hw) rfl q31) (F38.f (A_110 hw) rfl q34) (F38.f (A_106 hw) rfl (u25.f (Or.inl (mAt.ne (A_112 hw) (A_106 hw) rfl)) q2)) (vc_X12_raise_u_9 h7.2.1 h7.2.2.1 h11 h9 h12 h13 h10) (vc_X12_raise_u_11 h32 h35) h39.2.1 h39.2.2.1 h39.2.2.2.1 h39.2.2.2.2.1 h39.2.2.2.2.2.1 (PK.keep hIPK hw ((mF.call (mF.up mF.refl (A_112 hw) u25 rfl) F38 rfl) : mF [106026, 106027, 106028, 106029, 106030, 106031, 106072, 112999, 126999, 151999, 152999, 153999, 155999, 156999, 157999, 158999, 159999, 160999] w μ μ36) rfl)) (gOk _ _ _ _ _) dX12_raise_71 (tX12_sayAll _ _ _ _ _) ⟨wV_X12_sayAll, wL_X12_sayAll⟩ wM_X12_603 (gCX12 _ _ _ _ _) rfl (A_106 hw) rfl ⟨le_t rfl, le_t rfl⟩ ⟨le_t rfl, le_t rfl⟩ rfl (le_t rfl) fun μ40 T41 F42 h43 => ?_
        refine mr_iload_n (pc := 74) (z := z19) dX12_raise_74 rfl rfl ?_
        exact mr_iret dX12_raise_75 rfl (le_t rfl) (le_t rfl) T41 (mF.call (mF.call (mF.up mF.refl (A_112 hw) u25 rfl) F38 rfl) F42 rfl) ⟨(rW (c := (-2147483648)) (d := 2147483647) h20 rfl), h43.2.1, h43.2.2.1, h43.2.2.2.1, (HP.keep I29 hw ((mF.call (mF.call mF.refl F38 rfl) F42 rfl) : mF [106026, 106027, 106028, 106029, 106030, 106031, 106072, 126999, 151999, 152999, 153999, 155999, 156999, 157999, 158999, 159999, 160999] w μ24 μ40) rfl ((mG.call (mG.call mG.refl h39.1 (List.forall_mem_cons.mpr ⟨⟨_, List.mem_cons_self, vc_X12_say_u_33⟩, (List.forall_mem_cons.mpr ⟨⟨_, (List.mem_cons_of_mem _ List.mem_cons_self), vc_X12_say_u_34⟩, (fun _ h => absurd h List.not_mem_nil)⟩)⟩)) h43.1 (List.forall_mem_cons.mpr ⟨⟨_, List.mem_cons_self, vc_X12_say_u_33⟩, (List.forall_mem_cons.mpr ⟨⟨_, (List.mem_cons_of_mem _ List.mem_cons_self), vc_X12_say_u_34⟩, (fun _ h => absurd h List.not_mem_nil)⟩)⟩)) : mG [(80, 120), (21200, 53200)] μ24 μ40) (List.forall_mem_cons.mpr ⟨vc_X12_look_u_56, (List.forall_mem_cons.mpr ⟨vc_X12_look_u_55, (fun _ h => absurd h List.not_mem_nil)⟩)⟩)), (UPg.fr I27 hw T41 rfl ((mF.call (mF.call mF.refl F38 rfl) F42 rfl) : mF [106026, 106027, 106028, 106029, 106030, 106031, 106072, 126999, 151999, 152999, 153999, 155999, 156999, 157999, 158999, 159999, 160999] w μ24 μ40) rfl rfl rfl ((mG.call (mG.call mG.refl h39.1 (List.forall_mem_cons.mpr ⟨⟨_, List.mem_cons_self, vc_X12_say_u_33⟩, (List.forall_mem_cons.mpr ⟨⟨_, (List.mem_cons_of_mem _ List.mem_cons_self), vc_X12_say_u_34⟩, (fun _ h => absurd h List.not_mem_nil)⟩)⟩)) h43.1 (List.forall_mem_cons.mpr ⟨⟨_, List.mem_cons_self, vc_X12_say_u_33⟩, (List.forall_mem_cons.mpr ⟨⟨_, (List.mem_cons_of_mem _ List.mem_cons_self), vc_X12_say_u_34⟩, (fun _ h => absurd h List.not_mem_nil)⟩)⟩)) : mG [(80, 120), (21200, 53200)] μ24 μ40) (List.forall_mem_cons.mpr ⟨vc_X12_look_u_56, (List.forall_mem_cons.mpr ⟨vc_X12_look_u_55, (fun _ h => absurd h List.not_mem_nil)⟩)⟩)), h43.2.2.2.2.1, h43.2.2.2.2.2.1, trivial⟩
      have h44 : 0 ≤ p2 ∧ p2 ≤ 0 := (vc_X12_ring_22 h22 hp2)
      refine mr_iload_n (pc := 29) (z := z19) dX12_raise_29 rfl rfl ?_
      refine mr_if_ne (pc := 30) (tgt := 35) dX12_raise_30 (by decide) (r32 h20 rfl) (fun h45 => ?_) (fun h45 => ?_)
      · have h46 : 1 ≤ z19 ∧ z19 ≤ 1 := (vc_X12_ring_24 h45 h20)
        refine sv_aload_n (pc := 35) dX12_raise_35 rfl rfl ?_
        refine gf_X12_9 (pc := 36) dX12_raise_36 wF_X12_53 (A_106 hw) hT ?_
        refine mr_iload_n (pc := 39) (z := p1) dX12_raise_39 rfl rfl ?_
        refine mr_iload_n (pc := 40) (z := p2) dX12_raise_40 rfl rfl ?_
        refine ss_112 (pc := 41) dX12_raise_41 (A_112 hw) hT (rIx (n := 20) h12 rfl) (rW (c := 0) (d := 1) h44 rfl) fun μ47 u48 T49 => ?_
        refine mr_iload_n (pc := 42) (z := p2) dX12_raise_42 rfl rfl ?_
        refine mr_if_eq (pc := 43) (tgt := 76) dX12_raise_43 (by decide) (r32 h44 rfl) (fun _ => ?_) (fun h => ((vc_X10_firstWrongStep_7 h h44)).elim)
        refine mr_iload_n (pc := 76) (z := p1) dX12_raise_76 rfl rfl ?_
        refine mr_iconst (pc := 77) (z := 0) dX12_raise_77 ?_
        refine mr_iconst (pc := 78) (z := 0) dX12_raise_78 ?_
        refine mr_cSP (pc := 79) (c_X12_slot hw T49 (rW (c := 0) (d := 20) h12 rfl) (rW (c := 0) (d := 2) (rR (x := 0)) rfl) (rW (c := 0) (d := 9) (rR (x := 0)) rfl)) (gOk _ _ _ _ _) dX12_raise_79 (tX12_slot _ _ _ _ _) wS_X12_slot wM_X12_545 ⟨le_t rfl, le_t rfl⟩ ⟨le_t rfl, le_t rfl⟩ rfl (le_t rfl) fun z54 h53 => ?_
        have h55 : 0 ≤ z54 ∧ z54 ≤ 380 := (vc_X12_raise_u_19 h53.2.1 h7.2.1 h7.2.2.1 h11 h12 h13 h53.1 h10)
        refine mr_istore (pc := 82) (lv' := [(4, iv z54), (3, iv z19), (0, .ref 106), (1, iv p1), (2, iv p2)]) dX12_raise_82 (by decide) rfl ?_
        have L353 : ∀ (nL353 : Nat) (z351 : Int) (μ352 : mM), mT w μ352 → mF [126999, 155999, 157999, 159999] w μ47 μ352 → (0 ≤ z351 ∧ z351 ≤ 400) → (20 * p1 ≤ z351) → JC l D c H0 sa μ352 → RP μ352 → G1 μ352 → EV μ352 → PK μ352 → RD μ352 p1 z351 → UPx l D c H0 sa μ352 p1 → (401 - z351) < (nL353 : Int) → sV (gG l D c H0 sa) mX12_raise (sRm 12 0 0) (sZ (gG l D c H0 sa) 0 0 (qI w [106026, 106027, 106028, 106029, 106030, 106031, 106072, 112999, 126999, 151999, 152999, 153999, 155999, 156999, 157999, 158999, 159999, 160999, 161999, 165999] μ (fun z μ1 => ((-2147483648) ≤ z ∧ z ≤ 2147483647) ∧ JC l D c H0 sa μ1 ∧ RP μ1 ∧ EP μ1 ∧ HP μ1 ∧ UP l D c H0 sa μ1 ∧ G1 μ1 ∧ EV μ1 ∧ True))) 84 [(0, .ref 106), (1, iv p1), (3, iv z19), (4, iv z351)] [] (mk w μ352) 0 0 := by
          intro nL353
          induction nL353 with
          | zero => intro z351 μ352 T355 F356 h354 h358 I359 I360 I361 I362 I363 R364 R365 h366; exact ((vc_X12_raise_u_20 h366 h358 h7.2.1 h7.2.2.1 h11 h53.2.1 h12 h13 h354 h55 h10)).elim
          | succ nL353 ih367 =>
            intro z351 μ352 T355 F356 h354 h358 I359 I360 I361 I362 I363 R364 R365 h366
            refine mr_iload (pc := 84) (z := z351) dX12_raise_84 rfl ?_
            refine mr_iload_n (pc := 86) (z := p1) dX12_raise_86 rfl rfl ?_
            refine mr_iconst (pc := 87) (z := 2) dX12_raise_87 ?_
            refine mr_iconst (pc := 88) (z := 0) dX12_raise_88 ?_
            refine mr_cSP (pc := 89) (c_X12_slot hw T355 (rW (c := 0) (d := 20) h12 rfl) (rW (c := 0) (d := 2) (rR (x := 2)) rfl) (rW (c := 0) (d := 9) (rR (x := 0)) rfl)) (gOk _ _ _ _ _) dX12_raise_89 (tX12_slot _ _ _ _ _) wS_X12_slot wM_X12_545 ⟨le_t rfl, le_t rfl⟩ ⟨le_t rfl, le_t rfl⟩ rfl (le_t rfl) fun z372 h371 => ?_
            have h373 : 20 ≤ z372 ∧ z372 ≤ 400 := (vc_X12_raise_u_21 h371.2.1 h7.2.1 h7.2.2.1 h11 h53.2.1 h358 h12 h13 h354 h371.1 h55 h10)
            refine mr_icmp_ge (pc := 92) (tgt := 145) dX12_raise_92 (by decide) (r32 h354 rfl) (r32 h373 rfl) (fun h407 => ?_) (fun h407 => ?_)
            · have h408 : 20 ≤ z351 ∧ z351 ≤ 400 := (vc_X12_raise_u_22 h407 h358 h371.2.1 h12 h354 h373)
              have I409 : UP l D c H0 sa μ352 := UPx.all R365 hw T355 I363 (RD.no R364 (vc_X12_raise_u_23 h7.2.1 h7.2.2.1 h11 h53.2.1 h358 h371.2.1 h407 h9 h12 h13 h408 h373 h55 h10))
              have I410 : EP μ352 := RD.ep R364 (vc_X12_raise_u_23 h7.2.1 h7.2.2.1 h11 h53.2.1 h358 h371.2.1 h407 h9 h12 h13 h408 h373 h55 h10)
              have I411 : HP μ352 := RD.hp R364 (vc_X12_raise_u_23 h7.2.1 h7.2.2.1 h11 h53.2.1 h358 h371.2.1 h407 h9 h12 h13 h408 h373 h55 h10)
              refine sv_aload_n (pc := 145) dX12_raise_145 rfl rfl ?_
              refine sv_aload_n (pc := 146) dX12_raise_146 rfl rfl ?_
              refine gf_X12_7 (pc := 147) dX12_raise_147 wF_X12_40 (A_106 hw) T355 ?_
              refine mr_iconst (pc := 150) (z := 2) dX12_raise_150 ?_
              refine mr_iload_n (pc := 151) (z := p1) dX12_raise_151 rfl rfl ?_
              refine mr_imul (pc := 152) (x := 2) (y := p1) dX12_raise_152 ?_
              refine la_110 (pc := 153) dX12_raise_153 (A_110 hw) T355 (rIx (n := 40) (rMulL (n := 2) (e := 0) (f := 38) h12 rfl) rfl) fun z412 q413 h414 => ?_
              obtain ⟨z415, q416⟩ : ∃ z, μ352 106 2 = z := ⟨_, rfl⟩
              have h417 : (0 ≤ z415 ∧ z415 ≤ 10) := by rw [← q416]; exact T355 106 106 (A_106 hw) 2
              refine mr_cVV (pc := 154) (c_X12_lookAll_u hw T355 h414 q416 I359 I360 I410 I361 I362 I363) (gOk _ _ _ _ _) dX12_raise_154 (tX12_lookAll _ _ _ _ _) ⟨wV_X12_lookAll, wL_X12_lookAll⟩ wM_X12_600 (gCX12 _ _ _ _ _) rfl (A_106 hw) rfl ⟨le_t rfl, le_t rfl⟩ ⟨le_t rfl, le_t rfl⟩ rfl (le_t rfl) fun μ418 T419 F420 h421 => ?_
              have I422 : UP l D c H0 sa μ418 := UPg.lookAll I409 (fun _ _ h => h.elim) h414 q416 hw T355 rfl rfl ((mF.call mF.refl F420 rfl) : mF [106026, 106027, 106028, 106029, 106030, 106031, 106072, 126999, 151999, 152999, 153999, 155999, 156999, 157999, 158999, 159999, 160999, 161999, 165999] w μ352 μ418) rfl rfl rfl ((mG.call mG.refl h421.1 (List.forall_mem_cons.mpr ⟨⟨_, List.mem_cons_self, vc_X12_look_u_35⟩, (List.forall_mem_cons.mpr ⟨⟨_, (List.mem_cons_of_mem _ List.mem_cons_self), (vc_X12_lookAll_u_3 h414)⟩, (List.forall_mem_cons.mpr ⟨⟨_, (List.mem_cons_of_mem _ (List.mem_cons_of_mem _ List.mem_cons_self)), vc_X12_say_u_34⟩, (fun _ h => absurd h List.not_mem_nil)⟩)⟩)⟩)) : mG [(80, 960), (((400 * z412) + 1200), ((400 * z412) + 1600)), (21200, 53200)] μ352 μ418) (List.forall_mem_cons.mpr ⟨vc_X12_lookAll_u_14, (List.forall_mem_cons.mpr ⟨(vc_X12_raise_u_26 h414), (List.forall_mem_cons.mpr ⟨vc_X12_look_u_55, (fun _ h => absurd h List.not_mem_nil)⟩)⟩)⟩) h421.2.2.2.2.2.2.2.1 h421.2.2.2.2.2.2.1
              refine sv_aload_n (pc := 157) dX12_raise_157 rfl rfl ?_
              refine sv_aload_n (pc := 158) dX12_raise_158 rfl rfl ?_
              refine gf_X12_7 (pc := 159) dX12_raise_159 wF_X12_40 (A_106 hw) T419 ?_
              refine mr_iconst (pc := 162) (z := 2) dX12_raise_162 ?_
              refine mr_iload_n (pc := 163) (z := p1) dX12_raise_163 rfl rfl ?_
              refine mr_imul (pc := 164) (x := 2) (y := p1) dX12_raise_164 ?_
              refine mr_iconst (pc := 165) (z := 1) dX12_raise_165 ?_
              refine mr_iadd (pc := 166) (x := (2 * p1)) (y := 1) dX12_raise_166 ?_
              refine la_110 (pc := 167) dX12_raise_167 (A_110 hw) T419 (rIx (n := 40) (rAdd (e := 1) (f := 39) (rMulL (n := 2) (e := 0) (f := 38) h12 rfl) (rR (x := 1)) rfl) rfl) fun z423 q424 h425 => ?_
              refine mr_cVV (pc := 168) (c_X12_lookAll_u hw T419 h425 (F420.f (A_106 hw) rfl q416) h421.2.1 h421.2.2.1 h421.2.2.2.1 h421.2.2.2.2.1 h421.2.2.2.2.2.1 (PK.keep I363 hw ((mF.call mF.refl F420 rfl) : mF [106026, 106027, 106028, 106029, 106030, 106031, 106072, 126999, 151999, 152999, 153999, 155999, 156999, 157999, 158999, 159999, 160999, 161999, 165999] w μ352 μ418) rfl)) (gOk _ _ _ _ _) dX12_raise_168 (tX12_lookAll _ _ _ _ _) ⟨wV_X12_lookAll, wL_X12_lookAll⟩ wM_X12_600 (gCX12 _ _ _ _ _) rfl (A_106 hw) rfl ⟨le_t rfl, le_t rfl⟩ ⟨le_t rfl, le_t rfl⟩ rfl (le_t rfl) fun μ426 T427 F428 h429 => ?_
              have I430 : UP l D c H0 sa μ426 := UPg.lookAll I422 (fun _ _ h => h.elim) h425 (F420.f (A_106 hw) rfl q416) hw T419 rfl rfl ((mF.call mF.refl F428 rfl) : mF [106026, 106027, 106028, 106029, 106030, 106031, 106072, 126999, 151999, 152999, 153999, 155999, 156999, 157999, 158999, 159999, 160999, 161999, 165999] w μ418 μ426) rfl rfl rfl ((mG.call mG.refl h429.1 (List.forall_mem_cons.mpr ⟨⟨_, List.mem_cons_self, vc_X12_look_u_35⟩, (List.forall_mem_cons.mpr ⟨⟨_, (List.mem_cons_of_mem _ List.mem_cons_self), (vc_X12_lookAll_u_3 h425)⟩, (List.forall_mem_cons.mpr ⟨⟨_, (List.mem_cons_of_mem _ (List.mem_cons_of_mem _ List.mem_cons_self)), vc_X12_say_u_34⟩, (fun _ h => absurd h List.not_mem_nil)⟩)⟩)⟩)) : mG [(80, 960), (((400 * z423) + 1200), ((400 * z423) + 1600)), (21200, 53200)] μ418 μ426) (List.forall_mem_cons.mpr ⟨vc_X12_lookAll_u_14, (List.forall_mem_cons.mpr ⟨(vc_X12_raise_u_26 h425), (List.forall_mem_cons.mpr ⟨vc_X12_look_u_55, (fun _ h => absurd h List.not_mem_nil)⟩)⟩)⟩) h429.2.2.2.2.2.2.2.1 h429.2.2.2.2.2.2.1
              refine mr_iload_n (pc := 171) (z := z19) dX12_raise_171 rfl rfl ?_
              exact mr_iret dX12_raise_172 rfl (le_t rfl) (le_t rfl) T427 (mF.call (mF.call (mF.call (mF.up mF.refl (A_112 hw) u48 rfl) F356 rfl) F420 rfl) F428 rfl) ⟨(rW (c := (-2147483648)) (d := 2147483647) h46 rfl), h429.2.1, h429.2.2.1, h429.2.2.2.1, (HP.keep I411 hw ((mF.call (mF.call mF.refl F420 rfl) F428 rfl) : mF [106026, 106027, 106028, 106029, 106030, 106031, 106072, 126999, 151999, 152999, 153999, 155999, 156999, 157999, 158999, 159999, 160999, 161999, 165999] w μ352 μ426) rfl ((mG.call (mG.call mG.refl h421.1 (List.forall_mem_cons.mpr ⟨⟨_, List.mem_cons_self, vc_X12_look_u_35⟩, (List.forall_mem_cons.mpr ⟨⟨_, (List.mem_cons_of_mem _ List.mem_cons_self), (vc_X12_lookAll_u_3 h414)⟩, (List.forall_mem_cons.mpr ⟨⟨_, (List.mem_cons_of_mem _ (List.mem_cons_of_mem _ List.mem_cons_self)), vc_X12_say_u_34⟩, (fun _ h => absurd h List.not_mem_nil)⟩)⟩)⟩)) h429.1 (List.forall_mem_cons.mpr ⟨⟨_, List.mem_cons_self, vc_X12_look_u_35⟩, (List.forall_mem_cons.mpr ⟨⟨_, (List.mem_cons_of_mem _ (List.mem_cons_of_mem _ (List.mem_cons_of_mem _ List.mem_cons_self))), (vc_X12_lookAll_u_3 h425)⟩, (List.forall_mem_cons.mpr ⟨⟨_, (List.mem_cons_of_mem _ (List.mem_cons_of_mem _ List.mem_cons_self)), vc_X12_say_u_34⟩, (fun _ h => absurd h List.not_mem_nil)⟩)⟩)⟩)) : mG [(80, 960), (((400 * z412) + 1200), ((400 * z412) + 1600)), (21200, 53200), (((400 * z423) + 1200), ((400 * z423) + 1600))] μ352 μ426) (List.forall_mem_cons.mpr ⟨vc_X12_lookAll_u_14, (List.forall_mem_cons.mpr ⟨(vc_X12_raise_u_26 h414), (List.forall_mem_cons.mpr ⟨vc_X12_look_u_55, (List.forall_mem_cons.mpr ⟨(vc_X12_raise_u_26 h425), (fun _ h => absurd h List.not_mem_nil)⟩)⟩)⟩)⟩)), I430, h429.2.2.2.2.1, h429.2.2.2.2.2.1, trivial⟩
            have h431 : 0 ≤ z351 ∧ z351 ≤ 399 := (vc_X12_raise_u_30 h407 h358 h371.2.1 h12 h354 h373)
            refine sv_aload_n (pc := 95) dX12_raise_95 rfl rfl ?_
            refine mr_sipush (pc := 96) (z := 130) dX12_raise_96 (by decide) ?_
            refine mr_iload (pc := 99) (z := z351) dX12_raise_99 rfl ?_
            refine mr_iadd (pc := 101) (x := 130) (y := z351) dX12_raise_101 ?_
            refine mr_cVV (pc := 102) (c_X12_nothing_u hw T355 (rW (c := 0) (d := 2099) (rAdd (e := 130) (f := 529) (rR (x := 130)) h431 rfl) rfl) I360) (gOk _ _ _ _ _) dX12_raise_102 (tX12_nothing _ _ _ _ _) ⟨wV_X12_nothing, wL_X12_nothing⟩ wM_X12_539 (gCX12 _ _ _ _ _) rfl (A_106 hw) rfl ⟨le_t rfl, le_t rfl⟩ ⟨le_t rfl, le_t rfl⟩ rfl (le_t rfl) fun μ432 T433 F434 h435 => ?_
            obtain ⟨z436, q437, h438⟩ := h435
            have h439 := rt7 T433 (A_126 hw) (vc_X12_raise_u_31 h358 h407 h7.2.1 h7.2.2.1 h11 h53.2.1 h371.2.1 h12 h13 h431 h373 h55 h10) q437
            have h440 : (-1) ≤ z436 ∧ z436 ≤ 9 := h439.2.1 (vc_X12_raise_u_32 h358 h407 h7.2.1 h7.2.2.1 h11 h53.2.1 h371.2.1 h12 h13 h431 h373 h55 h10)
            have q441 : μ432 126 ((40 * (130 + z351)).toNat) = (-1) := q437.trans h438.2.2.1
            have h442 : (-1) ≤ z436 ∧ z436 ≤ (-1) := (vc_X12_candidate_4 h438.2.2.1 h440)
            refine sv_aload_n (pc := 105) dX12_raise_105 rfl rfl ?_
            refine mr_sipush (pc := 106) (z := 530) dX12_raise_106 (by decide) ?_
            refine mr_iload (pc := 109) (z := z351) dX12_raise_109 rfl ?_
            refine mr_iadd (pc := 111) (x := 530) (y := z351) dX12_raise_111 ?_
            refine mr_cVV (pc := 112) (c_X12_nothing_u hw T433 (rW (c := 0) (d := 2099) (rAdd (e := 530) (f := 929) (rR (x := 530)) h431 rfl) rfl) h438.2.1) (gOk _ _ _ _ _) dX12_raise_112 (tX12_nothing _ _ _ _ _) ⟨wV_X12_nothing, wL_X12_nothing⟩ wM_X12_539 (gCX12 _ _ _ _ _) rfl (A_106 hw) rfl ⟨le_t rfl, le_t rfl⟩ ⟨le_t rfl, le_t rfl⟩ rfl (le_t rfl) fun μ443 T444 F445 h446 => ?_
            obtain ⟨z447, q448, h449⟩ := h446
            have h450 := rt7 T444 (A_126 hw) (vc_X12_raise_u_34 h358 h407 h7.2.1 h7.2.2.1 h11 h53.2.1 h371.2.1 h12 h13 h431 h373 h55 h10) q448
            have h451 : (-1) ≤ z447 ∧ z447 ≤ 9 := h450.2.1 (vc_X12_raise_u_35 h358 h407 h7.2.1 h7.2.2.1 h11 h53.2.1 h371.2.1 h12 h13 h431 h373 h55 h10)
            have q452 : μ443 126 ((40 * (530 + z351)).toNat) = (-1) := q448.trans h449.2.2.1
            have h453 : (-1) ≤ z447 ∧ z447 ≤ (-1) := (vc_X12_candidate_4 h449.2.2.1 h451)
            refine sv_aload_n (pc := 115) dX12_raise_115 rfl rfl ?_
            refine gf_X12_75 (pc := 116) dX12_raise_116 wF_X12_427 (A_106 hw) T444 ?_
            refine mr_iload (pc := 119) (z := z351) dX12_raise_119 rfl ?_
            refine mr_iconst (pc := 121) (z := 0) dX12_raise_121 ?_
            refine ss_155 (pc := 122) dX12_raise_122 (A_155 hw) T444 (rIx (n := 400) h431 rfl) (rW (c := 0) (d := 1) (rR (x := 0)) rfl) fun μ454 u455 T456 => ?_
            refine sv_aload_n (pc := 123) dX12_raise_123 rfl rfl ?_
            refine gf_X12_77 (pc := 124) dX12_raise_124 wF_X12_433 (A_106 hw) T456 ?_
            refine mr_iload (pc := 127) (z := z351) dX12_raise_127 rfl ?_
            refine mr_iconst (pc := 129) (z := (-1)) dX12_raise_129 ?_
            refine ss_157 (pc := 130) dX12_raise_130 (A_157 hw) T456 (rIx (n := 400) h431 rfl) (rW (c := (-1)) (d := 2000001000) (rR (x := (-1))) rfl) fun μ457 u458 T459 => ?_
            have I460 : EV μ457 := EV.up1 (EV.keep I362 hw ((mF.up (mF.call (mF.call mF.refl F434 rfl) F445 rfl) (A_155 hw) u455 rfl) : mF [126999, 155999] w μ352 μ454) rfl) u458 (u458.f (Or.inl (mAt.ne (A_157 hw) (A_106 hw) rfl)) (u455.f (Or.inl (mAt.ne (A_155 hw) (A_106 hw) rfl)) (F445.f (A_106 hw) rfl (F434.f (A_106 hw) rfl (F356.f (A_106 hw) rfl (u48.f (Or.inl (mAt.ne (A_112 hw) (A_106 hw) rfl)) q2)))))) (vc_X12_raise_u_37 h358 h407 h7.2.1 h7.2.2.1 h11 h53.2.1 h371.2.1 h12 h13 h431 h373 h55 h10) (vc_X12_raise_u_38 h7.2.1 h7.2.2.1 h11 h358 h407 h9 h53.2.1 h371.2.1 h12 h13 h431 h373 h55 h10)
            refine sv_aload_n (pc := 131) dX12_raise_131 rfl rfl ?_
            refine gf_X12_79 (pc := 132) dX12_raise_132 wF_X12_439 (A_106 hw) T459 ?_
            refine mr_iload (pc := 135) (z := z351) dX12_raise_135 rfl ?_
            refine mr_iconst (pc := 137) (z := (-1)) dX12_raise_137 ?_
            refine ss_159 (pc := 138) dX12_raise_138 (A_159 hw) T459 (rIx (n := 400) h431 rfl) (rW (c := (-1)) (d := 2000001000) (rR (x := (-1))) rfl) fun μ461 u462 T463 => ?_
            have I464 : EV μ461 := EV.up2 I460 u462 (u462.f (Or.inl (mAt.ne (A_159 hw) (A_106 hw) rfl)) (u458.f (Or.inl (mAt.ne (A_157 hw) (A_106 hw) rfl)) (u455.f (Or.inl (mAt.ne (A_155 hw) (A_106 hw) rfl)) (F445.f (A_106 hw) rfl (F434.f (A_106 hw) rfl (F356.f (A_106 hw) rfl (u48.f (Or.inl (mAt.ne (A_112 hw) (A_106 hw) rfl)) q2))))))) (vc_X12_raise_u_37 h358 h407 h7.2.1 h7.2.2.1 h11 h53.2.1 h371.2.1 h12 h13 h431 h373 h55 h10) (vc_X12_raise_u_38 h7.2.1 h7.2.2.1 h11 h358 h407 h9 h53.2.1 h371.2.1 h12 h13 h431 h373 h55 h10)
            refine mr_iinc (pc := 139) (lv' := [(4, iv (z351 + 1)), (0, .ref 106), (1, iv p1), (3, iv z19)]) dX12_raise_139 rfl (by decide) rfl ?_
            refine sv_goto (pc := 142) (tgt := 84) dX12_raise_142 (by decide) ?_
            refine mr_lvS (lv' := [(0, .ref 106), (1, iv p1), (3, iv z19), (4, iv (z351 + 1))]) (List.forall_mem_cons.mpr ⟨rfl, List.forall_mem_cons.mpr ⟨rfl, List.forall_mem_cons.mpr ⟨rfl, List.forall_mem_cons.mpr ⟨rfl, fun _ h => absurd h List.not_mem_nil⟩⟩⟩⟩) ?_
            exact ih367 (z351 + 1) μ461 T463 (mF.up (mF.up (mF.up (mF.call (mF.call (mF.call mF.refl F356 rfl) F434 rfl) F445 rfl) (A_155 hw) u455 rfl) (A_157 hw) u458 rfl) (A_159 hw) u462 rfl) (rW (c := 0) (d := 400) (rAdd (e := 1) (f := 400) h431 (rR (x := 1)) rfl) rfl) (vc_X12_raise_u_39 h7.2.1 h7.2.2.1 h11 h53.2.1 h358 h371.2.1 h407 h9 h12 h13 h431 h373 h55 h10) (JC.keepJ I359 hw ((mF.up (mF.up (mF.up (mF.call (mF.call mF.refl F434 rfl) F445 rfl) (A_155 hw) u455 rfl) (A_157 hw) u458 rfl) (A_159 hw) u462 rfl) : mF [126999, 155999, 157999, 159999] w μ352 μ461) rfl) (RP.keep h449.2.1 hw ((mF.up (mF.up (mF.up mF.refl (A_155 hw) u455 rfl) (A_157 hw) u458 rfl) (A_159 hw) u462 rfl) : mF [155999, 157999, 159999] w μ443 μ461) rfl ((mG.upO (mG.upO (mG.upO mG.refl u455 rfl) u458 rfl) u462 rfl) : mG [] μ443 μ461) (fun _ h => absurd h List.not_mem_nil)) (G1.keep I361 hw ((mF.up (mF.up (mF.up (mF.call (mF.call mF.refl F434 rfl) F445 rfl) (A_155 hw) u455 rfl) (A_157 hw) u458 rfl) (A_159 hw) u462 rfl) : mF [126999, 155999, 157999, 159999] w μ352 μ461) rfl rfl ((mG.upO (mG.upO (mG.upO (mG.call (mG.call mG.refl h438.1 (List.forall_mem_cons.mpr ⟨⟨_, List.mem_cons_self, (vc_X12_raise_u_41 h358 h407 h7.2.1 h7.2.2.1 h11 h53.2.1 h371.2.1 h12 h13 h431 h373 h55 h10)⟩, (fun _ h => absurd h List.not_mem_nil)⟩)) h449.1 (List.forall_mem_cons.mpr ⟨⟨_, (List.mem_cons_of_mem _ List.mem_cons_self), (vc_X12_raise_u_42 h358 h407 h7.2.1 h7.2.2.1 h11 h53.2.1 h371.2.1 h12 h13 h431 h373 h55 h10)⟩, (fun _ h => absurd h List.not_mem_nil)⟩)) u455 rfl) u458 rfl) u462 rfl) : mG [((40 * (130 + z351)), ((40 * (130 + z351)) + 1)), ((40 * (530 + z351)), ((40 * (530 + z351)) + 1))] μ352 μ461) (List.forall_mem_cons.mpr ⟨(vc_X12_raise_u_44 h358 h407 h7.2.1 h7.2.2.1 h11 h53.2.1 h371.2.1 h12 h13 h431 h373 h55 h10), (List.forall_mem_cons.mpr ⟨(vc_X12_raise_u_43 h358 h407 h7.2.1 h7.2.2.1 h11 h53.2.1 h371.2.1 h12 h13 h431 h373 h55 h10), (fun _ h => absurd h List.not_mem_nil)⟩)⟩)) I464 (PK.keep I363 hw ((mF.up (mF.up (mF.up (mF.call (mF.call mF.refl F434 rfl) F445 rfl) (A_155 hw) u455 rfl) (A_157 hw) u458 rfl) (A_159 hw) u462 rfl) : mF [126999, 155999, 157999, 159999] w μ352 μ461) rfl) (RD.step R364 hw ((mF.up (mF.up (mF.up (mF.call (mF.call mF.refl F434 rfl) F445 rfl) (A_155 hw) u455 rfl) (A_157 hw) u458 rfl) (A_159 hw) u462 rfl) : mF [126999, 155999, 157999, 159999] w μ352 μ461) rfl h12 (vc_X12_raise_u_48 h7.2.1 h7.2.2.1 h11 h53.2.1 h358 h371.2.1 h407 h9 h12 h13 h431 h373 h55 h10) ((mG.upO (mG.upO (mG.upO (mG.call (mG.call mG.refl h438.1 (List.forall_mem_cons.mpr ⟨⟨_, List.mem_cons_self, (vc_X12_raise_u_41 h358 h407 h7.2.1 h7.2.2.1 h11 h53.2.1 h371.2.1 h12 h13 h431 h373 h55 h10)⟩, (fun _ h => absurd h List.not_mem_nil)⟩)) h449.1 (List.forall_mem_cons.mpr ⟨⟨_, (List.mem_cons_of_mem _ List.mem_cons_self), (vc_X12_raise_u_42 h358 h407 h7.2.1 h7.2.2.1 h11 h53.2.1 h371.2.1 h12 h13 h431 h373 h55 h10)⟩, (fun _ h => absurd h List.not_mem_nil)⟩)) u455 rfl) u458 rfl) u462 rfl) : mG [((40 * (130 + z351)), ((40 * (130 + z351)) + 1)), ((40 * (530 + z351)), ((40 * (530 + z351)) + 1))] μ352 μ461) (List.forall_mem_cons.mpr ⟨(vc_X12_raise_u_47 h358 h407 h7.2.1 h7.2.2.1 h11 h53.2.1 h371.2.1 h12 h13 h431 h373 h55 h10), (List.forall_mem_cons.mpr ⟨(vc_X12_raise_u_46 h358 h407 h7.2.1 h7.2.2.1 h11 h53.2.1 h371.2.1 h12 h13 h431 h373 h55 h10), (fun _ h => absurd h List.not_mem_nil)⟩)⟩) (one.oth (one.up (one.oth (one.fr (one.fr one.refl F434 (A_157 hw) rfl rfl) F445 (A_157 hw) rfl rfl) u455 rfl) (vc_X12_raise_u_37 h358 h407 h7.2.1 h7.2.2.1 h11 h53.2.1 h371.2.1 h12 h13 h431 h373 h55 h10) u458) u462 rfl) (one.up (one.oth (one.oth (one.fr (one.fr one.refl F434 (A_159 hw) rfl rfl) F445 (A_159 hw) rfl rfl) u455 rfl) u458 rfl) (vc_X12_raise_u_37 h358 h407 h7.2.1 h7.2.2.1 h11 h53.2.1 h371.2.1 h12 h13 h431 h373 h55 h10) u462) (u462.f (Or.inl (mAt.ne (A_159 hw) (A_157 hw) rfl)) u458.1) vc_X12_raise_u_49 u462.1 vc_X12_raise_u_49 (u462.f (Or.inl (mAt.ne (A_159 hw) (A_126 hw) rfl)) (u458.f (Or.inl (mAt.ne (A_157 hw) (A_126 hw) rfl)) (u455.f (Or.inl (mAt.ne (A_155 hw) (A_126 hw) rfl)) (h449.1.f (vc_X12_raise_u_31 h358 h407 h7.2.1 h7.2.2.1 h11 h53.2.1 h371.2.1 h12 h13 h431 h373 h55 h10) (List.forall_mem_cons.mpr ⟨(vc_X12_raise_u_45 h358 h407 h7.2.1 h7.2.2.1 h11 h53.2.1 h371.2.1 h12 h13 h431 h373 h55 h10), (fun _ h => absurd h List.not_mem_nil)⟩) q441)))) vc_X12_raise_u_49) (UPx.fr R365 hw T463 (vc_X12_raise_u_52 h7.2.1 h7.2.2.1 h11 h53.2.1 h358 h371.2.1 h9 h407 h12 h13 h431 h373 h55 h10) rfl ((mF.up (mF.up (mF.up (mF.call (mF.call mF.refl F434 rfl) F445 rfl) (A_155 hw) u455 rfl) (A_157 hw) u458 rfl) (A_159 hw) u462 rfl) : mF [126999, 155999, 157999, 159999] w μ352 μ461) rfl rfl rfl ((mG.upO (mG.upO (mG.upO (mG.call (mG.call mG.refl h438.1 (List.forall_mem_cons.mpr ⟨⟨_, List.mem_cons_self, (vc_X12_raise_u_41 h358 h407 h7.2.1 h7.2.2.1 h11 h53.2.1 h371.2.1 h12 h13 h431 h373 h55 h10)⟩, (fun _ h => absurd h List.not_mem_nil)⟩)) h449.1 (List.forall_mem_cons.mpr ⟨⟨_, (List.mem_cons_of_mem _ List.mem_cons_self), (vc_X12_raise_u_42 h358 h407 h7.2.1 h7.2.2.1 h11 h53.2.1 h371.2.1 h12 h13 h431 h373 h55 h10)⟩, (fun _ h => absurd h List.not_mem_nil)⟩)) u455 rfl) u458 rfl) u462 rfl) : mG [((40 * (130 + z351)), ((40 * (130 + z351)) + 1)), ((40 * (530 + z351)), ((40 * (530 + z351)) + 1))] μ352 μ461) (List.forall_mem_cons.mpr ⟨(vc_X12_raise_u_51 h7.2.1 h7.2.2.1 h11 h53.2.1 h358 h371.2.1 h407 h9 h12 h13 h431 h373 h55 h10), (List.forall_mem_cons.mpr ⟨(vc_X12_raise_u_50 h7.2.1 h7.2.2.1 h11 h53.2.1 h358 h371.2.1 h407 h9 h12 h13 h431 h373 h55 h10), (fun _ h => absurd h List.not_mem_nil)⟩)⟩)) (vc_X12_raise_u_40 (nS h366) h358 h407 h7.2.1 h7.2.2.1 h11 h53.2.1 h371.2.1 h12 h13 h431 h373 h55 h10)
        refine mr_lvS (lv' := [(0, .ref 106), (1, iv p1), (3, iv z19), (4, iv z54)]) (List.forall_mem_cons.mpr ⟨rfl, List.forall_mem_cons.mpr ⟨rfl, List.forall_mem_cons.mpr ⟨rfl, List.forall_mem_cons.mpr ⟨rfl, fun _ h => absurd h List.not_mem_nil⟩⟩⟩⟩) ?_
        exact L353 402 z54 μ47 T49 mF.refl (rW (c := 0) (d := 400) h55 rfl) (vc_X12_raise_u_53 h7.2.1 h7.2.2.1 h11 h53.2.1 h9 h12 h13 h55 h10) (JC.keepJ hIJC hw ((mF.up mF.refl (A_112 hw) u48 rfl) : mF [112999] w μ μ47) rfl) (RP.keep hIRP hw ((mF.up mF.refl (A_112 hw) u48 rfl) : mF [112999] w μ μ47) rfl ((mG.upO mG.refl u48 rfl) : mG [] μ μ47) (fun _ h => absurd h List.not_mem_nil)) (G1.keep hIG1 hw ((mF.up mF.refl (A_112 hw) u48 rfl) : mF [112999] w μ μ47) rfl rfl ((mG.upO mG.refl u48 rfl) : mG [] μ μ47) (fun _ h => absurd h List.not_mem_nil)) (EV.keep hIEV hw ((mF.up mF.refl (A_112 hw) u48 rfl) : mF [112999] w μ μ47) rfl) (PK.keep hIPK hw ((mF.up mF.refl (A_112 hw) u48 rfl) : mF [112999] w μ μ47) rfl) (RD.eq (RD.begin hIEP hIHP (vc_X12_raise_u_56 h7.2.1 h7.2.2.1 h11 h53.2.1 h9 h12 h13 h55 h10) u48) (vc_X12_raise_u_55 h7.2.1 h7.2.2.1 h11 h53.2.1 h9 h12 h13 h55 h10)) (UPx.tie (UP.x hIUP) u48 (vc_X12_raise_u_56 h7.2.1 h7.2.2.1 h11 h53.2.1 h9 h12 h13 h55 h10)) (vc_X12_raise_u_54 h53.2.1 h7.2.1 h7.2.2.1 h11 h12 h13 h55 h10)
      have h465 : 0 ≤ z19 ∧ z19 ≤ 0 := (vc_X12_ring_22 h45 h20)
      refine mr_iconst (pc := 33) (z := 0) dX12_raise_33 ?_
      exact mr_iret dX12_raise_34 rfl (le_t rfl) (le_t rfl) hT mF.refl ⟨(rW (c := (-2147483648)) (d := 2147483647) (rR (x := 0)) rfl), hIJC, hIRP, hIEP, hIHP, hIUP, hIG1, hIEV, trivial⟩
    refine mr_if_eq (pc := 16) (tgt := 23) dX12_raise_16 (by decide) (r32 h16 rfl) (fun h466 => ?_) (fun h466 => ?_)
    · have h467 : 0 ≤ z14 ∧ z14 ≤ 0 := (vc_X12_ring_22 h466 h16)
      refine mr_iconst (pc := 23) (z := 0) dX12_raise_23 ?_
      exact J21 0 (rW (c := 0) (d := 1) (rR (x := 0)) rfl)
    have h468 : 1 ≤ z14 ∧ z14 ≤ 1 := (vc_X12_ring_24 h466 h16)
    refine mr_iconst (pc := 19) (z := 1) dX12_raise_19 ?_
    refine sv_goto (pc := 20) (tgt := 24) dX12_raise_20 (by decide) ?_
    exact J21 1 (rW (c := 0) (d := 1) (rR (x := 1)) rfl)
  have h469 : 0 ≤ z8 ∧ z8 ≤ 0 := (vc_X12_pace_1 h9 h7.2.1 h7.2.2.1 hp1 h3 h7.1)
  have h470 : p1 < 0 ∨ z1 ≤ p1 := (h7.2.2.1 (vc_X12_pace_2 h7.2.1 h7.2.2.1 h9 hp1 h3 h469))
  refine mr_iconst (pc := 8) (z := (-1)) dX12_raise_8 ?_
  exact mr_iret dX12_raise_9 rfl (le_t rfl) (le_t rfl) hT mF.refl ⟨(rW (c := (-2147483648)) (d := 2147483647) (rR (x := (-1))) rfl), hIJC, hIRP, hIEP, hIHP, hIUP, hIG1, hIEV, trivial⟩
theorem vc_X12_right_u_12 {p2 z30 z37 : Int} (h0 : z37 = 0) (h1 : (z37 = 1 → z30 ≤ p2 ∧ p2 ≤ (32 : Int))) (h2 : (z37 = 0 → p2 < z30 ∨ (32 : Int) < p2)) (h3 : (-2147483648) ≤ p2 ∧ p2 ≤ 2147483647) (h4 : 0 ≤ z30 ∧ z30 ≤ 32) (h5 : 0 ≤ z37 ∧ z37 ≤ 1) : 0 ≤ z37 ∧ z37 ≤ 0 := by omega
theorem vc_X12_right_u_13 {p2 z30 z37 : Int} (h0 : (z37 = 1 → z30 ≤ p2 ∧ p2 ≤ (32 : Int))) (h1 : (z37 = 0 → p2 < z30 ∨ (32 : Int) < p2)) (h2 : z37 = 0) (h3 : (-2147483648) ≤ p2 ∧ p2 ≤ 2147483647) (h4 : 0 ≤ z30 ∧ z30 ≤ 32) (h5 : 0 ≤ z37 ∧ z37 ≤ 0) : z37 = 0 := by omega
theorem vc_X12_right_u_14 {p2 z30 z37 : Int} (h0 : ¬ z37 = 0) (h1 : (z37 = 1 → z30 ≤ p2 ∧ p2 ≤ (32 : Int))) (h2 : (z37 = 0 → p2 < z30 ∨ (32 : Int) < p2)) (h3 : (-2147483648) ≤ p2 ∧ p2 ≤ 2147483647) (h4 : 0 ≤ z30 ∧ z30 ≤ 32) (h5 : 0 ≤ z37 ∧ z37 ≤ 1) : 1 ≤ z37 ∧ z37 ≤ 1 := by omega
theorem vc_X12_right_u_15 {p2 z30 z37 : Int} (h0 : (z37 = 1 → z30 ≤ p2 ∧ p2 ≤ (32 : Int))) (h1 : (z37 = 0 → p2 < z30 ∨ (32 : Int) < p2)) (h2 : ¬ z37 = 0) (h3 : (-2147483648) ≤ p2 ∧ p2 ≤ 2147483647) (h4 : 0 ≤ z30 ∧ z30 ≤ 32) (h5 : 1 ≤ z37 ∧ z37 ≤ 1) : z37 = 1 := by omega
theorem vc_X12_right_u_16 {p2 z30 z37 : Int} (h0 : z30 ≤ p2 ∧ p2 ≤ (32 : Int)) (h1 : (z37 = 1 → z30 ≤ p2 ∧ p2 ≤ (32 : Int))) (h2 : (z37 = 0 → p2 < z30 ∨ (32 : Int) < p2)) (h3 : (-2147483648) ≤ p2 ∧ p2 ≤ 2147483647) (h4 : 0 ≤ z30 ∧ z30 ≤ 32) (h5 : 1 ≤ z37 ∧ z37 ≤ 1) : 0 ≤ p2 ∧ p2 ≤ 32 := by omega
theorem vc_X12_right_u_22 {z52 : Int} (h0 : ¬ z52 = 30) (h1 : 0 ≤ z52 ∧ z52 ≤ 30) : 0 ≤ z52 ∧ z52 ≤ 29 := by omega
theorem vc_X12_right_u_23 {z52 : Int} (h0 : ¬ z52 = 30) (h1 : 0 ≤ z52 ∧ z52 ≤ 29) : z52 = z52 ∧ 0 ≤ z52 := by omega
theorem vc_X12_right_u_24 {p1 z1 z8 : Int} (h0 : (z8 = 1 → 0 ≤ p1 ∧ p1 < z1)) (h1 : (z8 = 0 → p1 < 0 ∨ z1 ≤ p1)) (h2 : 0 ≤ p1 ∧ p1 < z1) (h3 : ¬ z8 = 0) (h4 : 0 ≤ p1 ∧ p1 ≤ 9) (h5 : 1 ≤ z1 ∧ z1 ≤ 10) (h6 : 1 ≤ z8 ∧ z8 ≤ 1) : p1 < z1 := by omega
theorem vc_X12_right_u_25 {z52 : Int} (h0 : ¬ z52 = 30) (h1 : 0 ≤ z52 ∧ z52 ≤ 29) : (z52 + 1) ≤ z52 + 1 := by omega
theorem vc_X12_right_u_30 {z52 : Int} (h0 : z52 = 30) (h1 : 0 ≤ z52 ∧ z52 ≤ 30) : 30 ≤ z52 ∧ z52 ≤ 30 := by omega
set_option maxRecDepth 4000 in
set_option maxHeartbeats 4000000 in
theorem c_X12_right_u {l : Launch} {D : va_G} {c : Nat → ClassId} {H0 : Heap} {sa : Nat × Nat × (Nat → Int32)} {w : mW} {μ : mM} (hw : mWF w) (hT : mT w μ) {p1 : Int} (hp1 : (-2147483648) ≤ p1 ∧ p1 ≤ 2147483647) {p2 : Int} (hp2 : (-2147483648) ≤ p2 ∧ p2 ≤ 2147483647) {p3 : Int} (hp3 : (-2147483648) ≤ p3 ∧ p3 ≤ 2147483647) {p4 : Int} (hp4 : (-2147483648) ≤ p4 ∧ p4 ≤ 2147483647) {p5 : Int} (hp5 : (-2147483648) ≤ p5 ∧ p5 ≤ 2147483647) {p6 : Int} (hp6 : (-2147483648) ≤ p6 ∧ p6 ≤ 2147483647) (hIJC : JC l D c H0 sa μ) (hIRP : RP μ) (hIEP : EP μ) (hIHP : HP μ) (hIUP : UP l D c H0 sa μ) (hIRR : RR μ) (hIG1 : G1 μ) (hIEV : EV μ) (hIPK : PK μ) : sC (gG l D c H0 sa) mX12_right 13 0 0 [.ref 106, iv p1, iv p2, iv p3, iv p4, iv p5, iv p6] (mk w μ) (qI w [106018, 106026, 106027, 106028, 106029, 106030, 106031, 106072, 119999, 120999, 121999, 122999, 123999, 124999, 125999, 126999, 151999, 152999, 153999, 155999, 156999, 157999, 158999, 159999, 160999, 161999, 165999] μ (fun z μ1 => ((-2147483648) ≤ z ∧ z ≤ 2147483647) ∧ JC l D c H0 sa μ1 ∧ RP μ1 ∧ EP μ1 ∧ HP μ1 ∧ UP l D c H0 sa μ1 ∧ RR μ1 ∧ G1 μ1 ∧ EV μ1 ∧ True)) := by
  refine sC.of rfl (by decide) (le_t rfl) ?_
  refine mr_lvE (lv' := [(0, .ref 106), (1, iv p1), (2, iv p2), (3, iv p3), (4, iv p4), (5, iv p5), (6, iv p6)]) rfl ?_
  refine sv_aload_n (pc := 0) dX12_right_0 rfl rfl ?_
  refine mr_iload_n (pc := 1) (z := p1) dX12_right_1 rfl rfl ?_
  obtain ⟨z1, q2⟩ : ∃ z, μ 106 2 = z := ⟨_, rfl⟩
  have h3 : (0 ≤ z1 ∧ z1 ≤ 10) := by rw [← q2]; exact hT 106 106 (A_106 hw) 2
  refine mr_cVP (pc := 2) (c_X12_isPrefix hw hT hp1 q2) (gOk _ _ _ _ _) dX12_right_2 (tX12_isPrefix _ _ _ _ _) ⟨wV_X12_isPrefix, wL_X12_isPrefix⟩ wM_X12_92 (gCX12 _ _ _ _ _) rfl (A_106 hw) rfl ⟨le_t rfl, le_t rfl⟩ ⟨le_t rfl, le_t rfl⟩ rfl (le_t rfl) fun z8 h7 => ?_
  refine mr_if_eq (pc := 5) (tgt := 48) dX12_right_5 (by decide) (r32 h7.1 rfl) (fun h9 => ?_) (fun h9 => ?_)
  · have h10 : 0 ≤ z8 ∧ z8 ≤ 0 := (vc_X12_write_78 h9 h7.2.1 h7.2.2.1 hp1 h3 h7.1)
    have h11 : p1 < 0 ∨ z1 ≤ p1 := (h7.2.2.1 (vc_X12_write_79 h7.2.1 h7.2.2.1 h9 hp1 h3 h10))
    refine mr_iconst (pc := 48) (z := (-1)) dX12_right_48 ?_
    exact mr_iret dX12_right_49 rfl (le_t rfl) (le_t rfl) hT mF.refl ⟨(rW (c := (-2147483648)) (d := 2147483647) (rR (x := (-1))) rfl), hIJC, hIRP, hIEP, hIHP, hIUP, hIRR, hIG1, hIEV, trivial⟩
  have h12 : 1 ≤ z8 ∧ z8 ≤ 1 := (vc_X12_write_12 h9 h7.2.1 h7.2.2.1 hp1 h3 h7.1)
  have h13 : 0 ≤ p1 ∧ p1 < z1 := (h7.2.1 (vc_X12_write_13 h7.2.1 h7.2.2.1 h9 hp1 h3 h12))
  have h14 : 0 ≤ p1 ∧ p1 ≤ 9 := (vc_X12_write_14 h13 h7.2.1 h7.2.2.1 hp1 h3 h12)
  have h15 : 1 ≤ z1 ∧ z1 ≤ 10 := (vc_X12_write_15 h13 h7.2.1 h7.2.2.1 h14 h3 h12)
  refine sv_aload_n (pc := 8) dX12_right_8 rfl rfl ?_
  refine mr_iload_n (pc := 9) (z := p3) dX12_right_9 rfl rfl ?_
  obtain ⟨z16, q17⟩ : ∃ z, μ 106 5 = z := ⟨_, rfl⟩
  have h18 : (0 ≤ z16 ∧ z16 ≤ 10) := by rw [← q17]; exact hT 106 106 (A_106 hw) 5
  refine mr_cVP (pc := 10) (c_X12_isDomain hw hT hp3 q17) (gOk _ _ _ _ _) dX12_right_10 (tX12_isDomain _ _ _ _ _) ⟨wV_X12_isDomain, wL_X12_isDomain⟩ wM_X12_49 (gCX12 _ _ _ _ _) rfl (A_106 hw) rfl ⟨le_t rfl, le_t rfl⟩ ⟨le_t rfl, le_t rfl⟩ rfl (le_t rfl) fun z23 h22 => ?_
  refine mr_if_eq (pc := 13) (tgt := 48) dX12_right_13 (by decide) (r32 h22.1 rfl) (fun h24 => ?_) (fun h24 => ?_)
  · have h25 : 0 ≤ z23 ∧ z23 ≤ 0 := (vc_X12_write_78 h24 h22.2.1 h22.2.2.1 hp3 h18 h22.1)
    have h26 : p3 < 0 ∨ z16 ≤ p3 := (h22.2.2.1 (vc_X12_write_79 h22.2.1 h22.2.2.1 h24 hp3 h18 h25))
    refine mr_iconst (pc := 48) (z := (-1)) dX12_right_48 ?_
    exact mr_iret dX12_right_49 rfl (le_t rfl) (le_t rfl) hT mF.refl ⟨(rW (c := (-2147483648)) (d := 2147483647) (rR (x := (-1))) rfl), hIJC, hIRP, hIEP, hIHP, hIUP, hIRR, hIG1, hIEV, trivial⟩
  have h27 : 1 ≤ z23 ∧ z23 ≤ 1 := (vc_X12_write_12 h24 h22.2.1 h22.2.2.1 hp3 h18 h22.1)
  have h28 : 0 ≤ p3 ∧ p3 < z16 := (h22.2.1 (vc_X12_write_13 h22.2.1 h22.2.2.1 h24 hp3 h18 h27))
  have h29 : 0 ≤ p3 ∧ p3 ≤ 9 := (vc_X12_write_14 h28 h22.2.1 h22.2.2.1 hp3 h18 h27)
  refine mr_iload_n (pc := 16) (z := p2) dX12_right_16 rfl rfl ?_
  refine sv_aload_n (pc := 17) dX12_right_17 rfl rfl ?_
  refine gf_X12_4 (pc := 18) dX12_right_18 wF_X12_26 (A_106 hw) hT ?_
  refine mr_iload_n (pc := 21) (z := p1) dX12_right_21 rfl rfl ?_
  refine la_109 (pc := 22) dX12_right_22 (A_109 hw) hT (rIx (n := 10) h14 rfl) fun z30 q31 h32 => ?_
  refine mr_bipush (pc := 23) (z := 32) dX12_right_23 (by decide) ?_
  refine mr_cSP (pc := 25) (c_X12_in hw hT hp2 (rW (c := (-2147483648)) (d := 2147483647) h32 rfl) (rW (c := (-2147483648)) (d := 2147483647) (rR (x := 32)) rfl)) (gOk _ _ _ _ _) dX12_right_25 (tX12_in _ _ _ _ _) wS_X12_in wM_X12_18 ⟨le_t rfl, le_t rfl⟩ ⟨le_t rfl, le_t rfl⟩ rfl (le_t rfl) fun z37 h36 => ?_
  refine mr_if_eq (pc := 28) (tgt := 48) dX12_right_28 (by decide) (r32 h36.1 rfl) (fun h38 => ?_) (fun h38 => ?_)
  · have h39 : 0 ≤ z37 ∧ z37 ≤ 0 := (vc_X12_right_u_12 h38 h36.2.1 h36.2.2.1 hp2 h32 h36.1)
    have h40 : p2 < z30 ∨ (32 : Int) < p2 := (h36.2.2.1 (vc_X12_right_u_13 h36.2.1 h36.2.2.1 h38 hp2 h32 h39))
    refine mr_iconst (pc := 48) (z := (-1)) dX12_right_48 ?_
    exact mr_iret dX12_right_49 rfl (le_t rfl) (le_t rfl) hT mF.refl ⟨(rW (c := (-2147483648)) (d := 2147483647) (rR (x := (-1))) rfl), hIJC, hIRP, hIEP, hIHP, hIUP, hIRR, hIG1, hIEV, trivial⟩
  have h41 : 1 ≤ z37 ∧ z37 ≤ 1 := (vc_X12_right_u_14 h38 h36.2.1 h36.2.2.1 hp2 h32 h36.1)
  have h42 : z30 ≤ p2 ∧ p2 ≤ (32 : Int) := (h36.2.1 (vc_X12_right_u_15 h36.2.1 h36.2.2.1 h38 hp2 h32 h41))
  have h43 : 0 ≤ p2 ∧ p2 ≤ 32 := (vc_X12_right_u_16 h42 h36.2.1 h36.2.2.1 hp2 h32 h41)
  refine mr_iload (pc := 31) (z := p4) dX12_right_31 rfl ?_
  refine mr_if_lt (pc := 33) (tgt := 48) dX12_right_33 (by decide) hp4 (fun h44 => ?_) (fun h44 => ?_)
  · have h45 : (-2147483648) ≤ p4 ∧ p4 ≤ (-1) := (vc_X12_ring_60 h44 hp4)
    refine mr_iconst (pc := 48) (z := (-1)) dX12_right_48 ?_
    exact mr_iret dX12_right_49 rfl (le_t rfl) (le_t rfl) hT mF.refl ⟨(rW (c := (-2147483648)) (d := 2147483647) (rR (x := (-1))) rfl), hIJC, hIRP, hIEP, hIHP, hIUP, hIRR, hIG1, hIEV, trivial⟩
  have h46 : 0 ≤ p4 ∧ p4 ≤ 2147483647 := (vc_X12_ring_1 h44 hp4)
  refine mr_iload (pc := 36) (z := p5) dX12_right_36 rfl ?_
  refine mr_iload (pc := 38) (z := p4) dX12_right_38 rfl ?_
  refine mr_icmp_le (pc := 40) (tgt := 48) dX12_right_40 (by decide) hp5 (r32 h46 rfl) (fun h47 => ?_) (fun h47 => ?_)
  · refine mr_iconst (pc := 48) (z := (-1)) dX12_right_48 ?_
    exact mr_iret dX12_right_49 rfl (le_t rfl) (le_t rfl) hT mF.refl ⟨(rW (c := (-2147483648)) (d := 2147483647) (rR (x := (-1))) rfl), hIJC, hIRP, hIEP, hIHP, hIUP, hIRR, hIG1, hIEV, trivial⟩
  have h48 : 1 ≤ p5 ∧ p5 ≤ 2147483647 := (vc_X11_right_17 h47 h44 h46 hp5)
  have h49 : 0 ≤ p4 ∧ p4 ≤ 2147483646 := (vc_X11_right_18 h47 h44 h46 h48)
  refine mr_iload (pc := 43) (z := p6) dX12_right_43 rfl ?_
  refine mr_if_ge (pc := 45) (tgt := 50) dX12_right_45 (by decide) hp6 (fun h50 => ?_) (fun h50 => ?_)
  · have h51 : 0 ≤ p6 ∧ p6 ≤ 2147483647 := (vc_X12_ring_1 h50 hp6)
    refine sv_aload_n (pc := 50) dX12_right_50 rfl rfl ?_
    refine gf_X12_18 (pc := 51) dX12_right_51 wF_X12_95 (A_106 hw) hT fun z52 q53 h54 => ?_
    refine mr_bipush (pc := 54) (z := 30) dX12_right_54 (by decide) ?_
    refine mr_icmp_ne (pc := 56) (tgt := 62) dX12_right_56 (by decide) (r32 h54 rfl) (r32 (rR (x := 30)) rfl) (fun h55 => ?_) (fun h55 => ?_)
    · have h56 : 0 ≤ z52 ∧ z52 ≤ 29 := (vc_X12_right_u_22 h55 h54)
      refine sv_aload_n (pc := 62) dX12_right_62 rfl rfl ?_
      refine gf_X12_19 (pc := 63) dX12_right_63 wF_X12_98 (A_106 hw) hT ?_
      refine sv_aload_n (pc := 66) dX12_right_66 rfl rfl ?_
      refine gk_X12_18 (pc := 67) dX12_right_67 wF_X12_95 (A_106 hw) q53 ?_
      refine mr_iload_n (pc := 70) (z := p1) dX12_right_70 rfl rfl ?_
      refine ss_119 (pc := 71) dX12_right_71 (A_119 hw) hT (rIx (n := 30) h56 rfl) h14 fun μ57 u58 T59 => ?_
      refine sv_aload_n (pc := 72) dX12_right_72 rfl rfl ?_
      refine gf_X12_20 (pc := 73) dX12_right_73 wF_X12_101 (A_106 hw) T59 ?_
      refine sv_aload_n (pc := 76) dX12_right_76 rfl rfl ?_
      refine gk_X12_18 (pc := 77) dX12_right_77 wF_X12_95 (A_106 hw) (u58.f (Or.inl (mAt.ne (A_119 hw) (A_106 hw) rfl)) q53) ?_
      refine mr_iload_n (pc := 80) (z := p2) dX12_right_80 rfl rfl ?_
      refine ss_120 (pc := 81) dX12_right_81 (A_120 hw) T59 (rIx (n := 30) h56 rfl) (rW (c := (-2147483648)) (d := 2147483647) h43 rfl) fun μ60 u61 T62 => ?_
      refine sv_aload_n (pc := 82) dX12_right_82 rfl rfl ?_
      refine gf_X12_21 (pc := 83) dX12_right_83 wF_X12_104 (A_106 hw) T62 ?_
      refine sv_aload_n (pc := 86) dX12_right_86 rfl rfl ?_
      refine gk_X12_18 (pc := 87) dX12_right_87 wF_X12_95 (A_106 hw) (u61.f (Or.inl (mAt.ne (A_120 hw) (A_106 hw) rfl)) (u58.f (Or.inl (mAt.ne (A_119 hw) (A_106 hw) rfl)) q53)) ?_
      refine mr_iload_n (pc := 90) (z := p3) dX12_right_90 rfl rfl ?_
      refine ss_121 (pc := 91) dX12_right_91 (A_121 hw) T62 (rIx (n := 30) h56 rfl) (rW (c := (-2147483648)) (d := 2147483647) h29 rfl) fun μ63 u64 T65 => ?_
      refine sv_aload_n (pc := 92) dX12_right_92 rfl rfl ?_
      refine gf_X12_22 (pc := 93) dX12_right_93 wF_X12_107 (A_106 hw) T65 ?_
      refine sv_aload_n (pc := 96) dX12_right_96 rfl rfl ?_
      refine gk_X12_18 (pc := 97) dX12_right_97 wF_X12_95 (A_106 hw) (u64.f (Or.inl (mAt.ne (A_121 hw) (A_106 hw) rfl)) (u61.f (Or.inl (mAt.ne (A_120 hw) (A_106 hw) rfl)) (u58.f (Or.inl (mAt.ne (A_119 hw) (A_106 hw) rfl)) q53))) ?_
      refine mr_iload (pc := 100) (z := p4) dX12_right_100 rfl ?_
      refine ss_122 (pc := 102) dX12_right_102 (A_122 hw) T65 (rIx (n := 30) h56 rfl) (rW (c := (-2147483648)) (d := 2147483647) h49 rfl) fun μ66 u67 T68 => ?_
      refine sv_aload_n (pc := 103) dX12_right_103 rfl rfl ?_
      refine gf_X12_23 (pc := 104) dX12_right_104 wF_X12_110 (A_106 hw) T68 ?_
      refine sv_aload_n (pc := 107) dX12_right_107 rfl rfl ?_
      refine gk_X12_18 (pc := 108) dX12_right_108 wF_X12_95 (A_106 hw) (u67.f (Or.inl (mAt.ne (A_122 hw) (A_106 hw) rfl)) (u64.f (Or.inl (mAt.ne (A_121 hw) (A_106 hw) rfl)) (u61.f (Or.inl (mAt.ne (A_120 hw) (A_106 hw) rfl)) (u58.f (Or.inl (mAt.ne (A_119 hw) (A_106 hw) rfl)) q53)))) ?_
      refine mr_iload (pc := 111) (z := p5) dX12_right_111 rfl ?_
      refine ss_123 (pc := 113) dX12_right_113 (A_123 hw) T68 (rIx (n := 30) h56 rfl) (rW (c := (-2147483648)) (d := 2147483647) h48 rfl) fun μ69 u70 T71 => ?_
      refine sv_aload_n (pc := 114) dX12_right_114 rfl rfl ?_
      refine gf_X12_24 (pc := 115) dX12_right_115 wF_X12_113 (A_106 hw) T71 ?_
      refine sv_aload_n (pc := 118) dX12_right_118 rfl rfl ?_
      refine gk_X12_18 (pc := 119) dX12_right_119 wF_X12_95 (A_106 hw) (u70.f (Or.inl (mAt.ne (A_123 hw) (A_106 hw) rfl)) (u67.f (Or.inl (mAt.ne (A_122 hw) (A_106 hw) rfl)) (u64.f (Or.inl (mAt.ne (A_121 hw) (A_106 hw) rfl)) (u61.f (Or.inl (mAt.ne (A_120 hw) (A_106 hw) rfl)) (u58.f (Or.inl (mAt.ne (A_119 hw) (A_106 hw) rfl)) q53))))) ?_
      refine mr_iload (pc := 122) (z := p6) dX12_right_122 rfl ?_
      refine ss_124 (pc := 124) dX12_right_124 (A_124 hw) T71 (rIx (n := 30) h56 rfl) (rW (c := (-2147483648)) (d := 2147483647) h51 rfl) fun μ72 u73 T74 => ?_
      refine sv_aload_n (pc := 125) dX12_right_125 rfl rfl ?_
      refine gf_X12_25 (pc := 126) dX12_right_126 wF_X12_116 (A_106 hw) T74 ?_
      refine sv_aload_n (pc := 129) dX12_right_129 rfl rfl ?_
      refine gk_X12_18 (pc := 130) dX12_right_130 wF_X12_95 (A_106 hw) (u73.f (Or.inl (mAt.ne (A_124 hw) (A_106 hw) rfl)) (u70.f (Or.inl (mAt.ne (A_123 hw) (A_106 hw) rfl)) (u67.f (Or.inl (mAt.ne (A_122 hw) (A_106 hw) rfl)) (u64.f (Or.inl (mAt.ne (A_121 hw) (A_106 hw) rfl)) (u61.f (Or.inl (mAt.ne (A_120 hw) (A_106 hw) rfl)) (u58.f (Or.inl (mAt.ne (A_119 hw) (A_106 hw) rfl)) q53)))))) ?_
      refine mr_ldc (pc := 133) (z := (-99999999)) dX12_right_133 wG_X12_29 (by decide) ?_
      refine ss_125 (pc := 135) dX12_right_135 (A_125 hw) T74 (rIx (n := 30) h56 rfl) (rW (c := (-2147483648)) (d := 2147483647) (rR (x := (-99999999))) rfl) fun μ75 u76 T77 => ?_
      refine sv_aload_n (pc := 136) dX12_right_136 rfl rfl ?_
      refine sv_dup (pc := 137) dX12_right_137 rfl ?_
      refine gk_X12_18 (pc := 138) dX12_right_138 wF_X12_95 (A_106 hw) (u76.f (Or.inl (mAt.ne (A_125 hw) (A_106 hw) rfl)) (u73.f (Or.inl (mAt.ne (A_124 hw) (A_106 hw) rfl)) (u70.f (Or.inl (mAt.ne (A_123 hw) (A_106 hw) rfl)) (u67.f (Or.inl (mAt.ne (A_122 hw) (A_106 hw) rfl)) (u64.f (Or.inl (mAt.ne (A_121 hw) (A_106 hw) rfl)) (u61.f (Or.inl (mAt.ne (A_120 hw) (A_106 hw) rfl)) (u58.f (Or.inl (mAt.ne (A_119 hw) (A_106 hw) rfl)) q53))))))) ?_
      refine mr_iconst (pc := 141) (z := 1) dX12_right_141 ?_
      refine mr_iadd (pc := 142) (x := z52) (y := 1) dX12_right_142 ?_
      refine pf_X12_18 (pc := 143) dX12_right_143 wF_X12_95 (A_106 hw) T77 (rW (c := 0) (d := 30) (rAdd (e := 1) (f := 30) h56 (rR (x := 1)) rfl) rfl) fun μ78 u79 T80 => ?_
      have I81 : RR μ78 := RRn.fin (RRn.put hIRR u58 (u58.f (Or.inl (mAt.ne (A_119 hw) (A_106 hw) rfl)) q53) (vc_X12_right_u_23 h55 h56) (u58.f (Or.inl (mAt.ne (A_119 hw) (A_106 hw) rfl)) q2) (vc_X12_right_u_24 h7.2.1 h7.2.2.1 h13 h9 h14 h15 h12)) hw ((mF.up (mF.up (mF.up (mF.up (mF.up (mF.up (mF.up mF.refl (A_120 hw) u61 rfl) (A_121 hw) u64 rfl) (A_122 hw) u67 rfl) (A_123 hw) u70 rfl) (A_124 hw) u73 rfl) (A_125 hw) u76 rfl) (A_106 hw) u79 rfl) : mF [106018, 120999, 121999, 122999, 123999, 124999, 125999] w μ57 μ78) rfl rfl (by rw [u79.1]; exact (vc_X12_right_u_25 h55 h56))
      refine sv_aload_n (pc := 146) dX12_right_146 rfl rfl ?_
      refine mr_iconst (pc := 147) (z := 0) dX12_right_147 ?_
      refine pf_X12_26 (pc := 148) dX12_right_148 wF_X12_119 (A_106 hw) T80 (rW (c := 0) (d := 1) (rR (x := 0)) rfl) fun μ82 u83 T84 => ?_
      have I85 : JC l D c H0 sa μ82 := JC.zero u83.1
      refine sv_aload_n (pc := 151) dX12_right_151 rfl rfl ?_
      refine mr_cVV (pc := 152) (c_X12_rethink_u hw T84 (u83.f (Or.inr (by decide)) (u79.f (Or.inr (by decide)) (u76.f (Or.inl (mAt.ne (A_125 hw) (A_106 hw) rfl)) (u73.f (Or.inl (mAt.ne (A_124 hw) (A_106 hw) rfl)) (u70.f (Or.inl (mAt.ne (A_123 hw) (A_106 hw) rfl)) (u67.f (Or.inl (mAt.ne (A_122 hw) (A_106 hw) rfl)) (u64.f (Or.inl (mAt.ne (A_121 hw) (A_106 hw) rfl)) (u61.f (Or.inl (mAt.ne (A_120 hw) (A_106 hw) rfl)) (u58.f (Or.inl (mAt.ne (A_119 hw) (A_106 hw) rfl)) q2))))))))) I85 (RP.keep hIRP hw ((mF.up (mF.up (mF.up (mF.up (mF.up (mF.up (mF.up (mF.up (mF.up mF.refl (A_119 hw) u58 rfl) (A_120 hw) u61 rfl) (A_121 hw) u64 rfl) (A_122 hw) u67 rfl) (A_123 hw) u70 rfl) (A_124 hw) u73 rfl) (A_125 hw) u76 rfl) (A_106 hw) u79 rfl) (A_106 hw) u83 rfl) : mF [106018, 106026, 119999, 120999, 121999, 122999, 123999, 124999, 125999] w μ μ82) rfl ((mG.upO (mG.upO (mG.upO (mG.upO (mG.upO (mG.upO (mG.upO (mG.upO (mG.upO mG.refl u58 rfl) u61 rfl) u64 rfl) u67 rfl) u70 rfl) u73 rfl) u76 rfl) u79 rfl) u83 rfl) : mG [] μ μ82) (fun _ h => absurd h List.not_mem_nil)) (EP.keep hIEP hw ((mF.up (mF.up (mF.up (mF.up (mF.up (mF.up (mF.up (mF.up (mF.up mF.refl (A_119 hw) u58 rfl) (A_120 hw) u61 rfl) (A_121 hw) u64 rfl) (A_122 hw) u67 rfl) (A_123 hw) u70 rfl) (A_124 hw) u73 rfl) (A_125 hw) u76 rfl) (A_106 hw) u79 rfl) (A_106 hw) u83 rfl) : mF [106018, 106026, 119999, 120999, 121999, 122999, 123999, 124999, 125999] w μ μ82) rfl) (G1.keep hIG1 hw ((mF.up (mF.up (mF.up (mF.up (mF.up (mF.up (mF.up (mF.up (mF.up mF.refl (A_119 hw) u58 rfl) (A_120 hw) u61 rfl) (A_121 hw) u64 rfl) (A_122 hw) u67 rfl) (A_123 hw) u70 rfl) (A_124 hw) u73 rfl) (A_125 hw) u76 rfl) (A_106 hw) u79 rfl) (A_106 hw) u83 rfl) : mF [106018, 106026, 119999, 120999, 121999, 122999, 123999, 124999, 125999] w μ μ82) rfl rfl ((mG.upO (mG.upO (mG.upO (mG.upO (mG.upO (mG.upO (mG.upO (mG.upO (mG.upO mG.refl u58 rfl) u61 rfl) u64 rfl) u67 rfl) u70 rfl) u73 rfl) u76 rfl) u79 rfl) u83 rfl) : mG [] μ μ82) (fun _ h => absurd h List.not_mem_nil)) (EV.keep hIEV hw ((mF.up (mF.up (mF.up (mF.up (mF.up (mF.up (mF.up (mF.up (mF.up mF.refl (A_119 hw) u58 rfl) (A_120 hw) u61 rfl) (A_121 hw) u64 rfl) (A_122 hw) u67 rfl) (A_123 hw) u70 rfl) (A_124 hw) u73 rfl) (A_125 hw) u76 rfl) (A_106 hw) u79 rfl) (A_106 hw) u83 rfl) : mF [106018, 106026, 119999, 120999, 121999, 122999, 123999, 124999, 125999] w μ μ82) rfl) (PK.keep hIPK hw ((mF.up (mF.up (mF.up (mF.up (mF.up (mF.up (mF.up (mF.up (mF.up mF.refl (A_119 hw) u58 rfl) (A_120 hw) u61 rfl) (A_121 hw) u64 rfl) (A_122 hw) u67 rfl) (A_123 hw) u70 rfl) (A_124 hw) u73 rfl) (A_125 hw) u76 rfl) (A_106 hw) u79 rfl) (A_106 hw) u83 rfl) : mF [106018, 106026, 119999, 120999, 121999, 122999, 123999, 124999, 125999] w μ μ82) rfl)) (gOk _ _ _ _ _) dX12_right_152 (tX12_rethink _ _ _ _ _) ⟨wV_X12_rethink, wL_X12_rethink⟩ wM_X12_88 (gCX12 _ _ _ _ _) rfl (A_106 hw) rfl ⟨le_t rfl, le_t rfl⟩ ⟨le_t rfl, le_t rfl⟩ rfl (le_t rfl) fun μ86 T87 F88 h89 => ?_
      refine sv_aload_n (pc := 155) dX12_right_155 rfl rfl ?_
      refine gk_X12_18 (pc := 156) dX12_right_156 wF_X12_95 (A_106 hw) (F88.f (A_106 hw) rfl (u83.f (Or.inr (by decide)) u79.1)) ?_
      refine mr_iconst (pc := 159) (z := 1) dX12_right_159 ?_
      refine mr_isub (pc := 160) (x := (z52 + 1)) (y := 1) dX12_right_160 ?_
      exact mr_iret dX12_right_161 rfl (le_t rfl) (le_t rfl) T87 (mF.call (mF.up (mF.up (mF.up (mF.up (mF.up (mF.up (mF.up (mF.up (mF.up mF.refl (A_119 hw) u58 rfl) (A_120 hw) u61 rfl) (A_121 hw) u64 rfl) (A_122 hw) u67 rfl) (A_123 hw) u70 rfl) (A_124 hw) u73 rfl) (A_125 hw) u76 rfl) (A_106 hw) u79 rfl) (A_106 hw) u83 rfl) F88 rfl) ⟨(rW (c := (-2147483648)) (d := 2147483647) (rSub (e := 0) (f := 29) (rAdd (e := 1) (f := 30) h56 (rR (x := 1)) rfl) (rR (x := 1)) rfl) rfl), h89.2.1, h89.2.2.1, h89.2.2.2.1, (HP.keep hIHP hw ((mF.call (mF.up (mF.up (mF.up (mF.up (mF.up (mF.up (mF.up (mF.up (mF.up mF.refl (A_119 hw) u58 rfl) (A_120 hw) u61 rfl) (A_121 hw) u64 rfl) (A_122 hw) u67 rfl) (A_123 hw) u70 rfl) (A_124 hw) u73 rfl) (A_125 hw) u76 rfl) (A_106 hw) u79 rfl) (A_106 hw) u83 rfl) F88 rfl) : mF [106018, 106026, 106027, 106028, 106029, 106030, 106031, 106072, 119999, 120999, 121999, 122999, 123999, 124999, 125999, 126999, 151999, 152999, 153999, 155999, 156999, 157999, 158999, 159999, 160999, 161999, 165999] w μ μ86) rfl ((mG.call (mG.upO (mG.upO (mG.upO (mG.upO (mG.upO (mG.upO (mG.upO (mG.upO (mG.upO mG.refl u58 rfl) u61 rfl) u64 rfl) u67 rfl) u70 rfl) u73 rfl) u76 rfl) u79 rfl) u83 rfl) h89.1 (List.forall_mem_cons.mpr ⟨⟨_, List.mem_cons_self, vc_X12_rethink_u_5⟩, (List.forall_mem_cons.mpr ⟨⟨_, (List.mem_cons_of_mem _ List.mem_cons_self), vc_X12_say_u_34⟩, (fun _ h => absurd h List.not_mem_nil)⟩)⟩)) : mG [(80, 5200), (21200, 53200)] μ μ86) (List.forall_mem_cons.mpr ⟨vc_X12_today_u_5, (List.forall_mem_cons.mpr ⟨vc_X12_look_u_55, (fun _ h => absurd h List.not_mem_nil)⟩)⟩)), h89.2.2.2.2.2.2.1, (RR.keep I81 hw ((mF.call (mF.up mF.refl (A_106 hw) u83 rfl) F88 rfl) : mF [106026, 106027, 106028, 106029, 106030, 106031, 106072, 126999, 151999, 152999, 153999, 155999, 156999, 157999, 158999, 159999, 160999, 161999, 165999] w μ78 μ86) rfl rfl rfl), h89.2.2.2.2.1, h89.2.2.2.2.2.1, trivial⟩
    have h90 : 30 ≤ z52 ∧ z52 ≤ 30 := (vc_X12_right_u_30 h55 h54)
    refine mr_bipush (pc := 59) (z := (-3)) dX12_right_59 (by decide) ?_
    exact mr_iret dX12_right_61 rfl (le_t rfl) (le_t rfl) hT mF.refl ⟨(rW (c := (-2147483648)) (d := 2147483647) (rR (x := (-3))) rfl), hIJC, hIRP, hIEP, hIHP, hIUP, hIRR, hIG1, hIEV, trivial⟩
  have h91 : (-2147483648) ≤ p6 ∧ p6 ≤ (-1) := (vc_X12_ring_60 h50 hp6)
  refine mr_iconst (pc := 48) (z := (-1)) dX12_right_48 ?_
  exact mr_iret dX12_right_49 rfl (le_t rfl) (le_t rfl) hT mF.refl ⟨(rW (c := (-2147483648)) (d := 2147483647) (rR (x := (-1))) rfl), hIJC, hIRP, hIEP, hIHP, hIUP, hIRR, hIG1, hIEV, trivial⟩
theorem vc_X12_doEvent_u_1  : (0 : Int) < (400 : Int) ∧ (400 : Int) ≤ (2147483647 : Int) := by omega
theorem vc_X12_doEvent_u_2  : (0 : Int) < (20 : Int) ∧ (20 : Int) ≤ (2147483647 : Int) := by omega
theorem vc_X12_doEvent_u_5 {f_ties p1 z288 z292 z295 z298 z301 : Int} (h0 : p1 % 400 = z288) (h1 : z288 < 20 * f_ties) (h2 : z288 / 20 = z292) (h3 : z288 / 10 = z295) (h4 : z288 % 10 = z301) (h5 : z295 % 2 = z298) (h6 : 0 ≤ f_ties ∧ f_ties ≤ 20) (h7 : 0 ≤ p1 ∧ p1 ≤ 799) (h8 : 0 ≤ z288 ∧ z288 ≤ 399) (h9 : 0 ≤ z292 ∧ z292 ≤ 19) (h10 : 0 ≤ z295 ∧ z295 ≤ 39) (h11 : 0 ≤ z298 ∧ z298 ≤ 1) (h12 : 0 ≤ z301 ∧ z301 ≤ 9) : z288 / 20 = z292 := by omega
theorem vc_X12_doEvent_u_6 {z304 : Int} (h0 : 0 ≤ z304 ∧ z304 ≤ 1) : 0 ≤ z304 := by omega
theorem vc_X12_doEvent_u_7 {f_ties p1 z288 z292 z295 z298 z301 : Int} (h0 : p1 % 400 = z288) (h1 : z288 < 20 * f_ties) (h2 : z288 / 20 = z292) (h3 : z288 / 10 = z295) (h4 : z288 % 10 = z301) (h5 : z295 % 2 = z298) (h6 : 0 ≤ f_ties ∧ f_ties ≤ 20) (h7 : 0 ≤ p1 ∧ p1 ≤ 799) (h8 : 0 ≤ z288 ∧ z288 ≤ 399) (h9 : 0 ≤ z292 ∧ z292 ≤ 19) (h10 : 0 ≤ z295 ∧ z295 ≤ 39) (h11 : 0 ≤ z298 ∧ z298 ≤ 1) (h12 : 0 ≤ z301 ∧ z301 ≤ 9) : z288 % 10 = z301 := by omega
theorem vc_X12_doEvent_u_8 {f_pre z288 z301 z304 : Int} (h0 : z301 < f_pre ∧ 0 < z304) (h1 : z288 % 10 = z301) (h2 : 0 ≤ f_pre ∧ f_pre ≤ 10) (h3 : 0 ≤ z288 ∧ z288 ≤ 399) (h4 : 0 ≤ z301 ∧ z301 ≤ 9) (h5 : 0 ≤ z304 ∧ z304 ≤ 1) : 1 ≤ z304 ∧ z304 ≤ 1 := by omega
theorem vc_X12_doEvent_u_9 {f_pre z288 z301 z304 : Int} (h0 : z301 < f_pre ∧ 0 < z304) (h1 : z288 % 10 = z301) (h2 : 0 ≤ f_pre ∧ f_pre ≤ 10) (h3 : 0 ≤ z288 ∧ z288 ≤ 399) (h4 : 0 ≤ z301 ∧ z301 ≤ 9) (h5 : 1 ≤ z304 ∧ z304 ≤ 1) : 1 ≤ f_pre ∧ f_pre ≤ 10 := by omega
theorem vc_X12_doEvent_u_10 {p1 z288 : Int} (h0 : p1 < 400) (h1 : p1 % 400 = z288) (h2 : 0 ≤ p1 ∧ p1 ≤ 799) (h3 : 0 ≤ z288 ∧ z288 ≤ 399) : 0 ≤ p1 ∧ p1 ≤ 399 := by omega
theorem vc_X12_doEvent_u_12 {f_pre f_ties p1 z288 z292 z295 z298 z301 z304 : Int} (h0 : p1 % 400 = z288) (h1 : z288 < 20 * f_ties) (h2 : z288 / 20 = z292) (h3 : z288 / 10 = z295) (h4 : z288 % 10 = z301) (h5 : z295 % 2 = z298) (h6 : z301 < f_pre ∧ 0 < z304) (h7 : p1 < 400) (h8 : 1 ≤ f_pre ∧ f_pre ≤ 10) (h9 : 0 ≤ f_ties ∧ f_ties ≤ 20) (h10 : 0 ≤ p1 ∧ p1 ≤ 399) (h11 : 0 ≤ z288 ∧ z288 ≤ 399) (h12 : 0 ≤ z292 ∧ z292 ≤ 19) (h13 : 0 ≤ z295 ∧ z295 ≤ 39) (h14 : 0 ≤ z298 ∧ z298 ≤ 1) (h15 : 0 ≤ z301 ∧ z301 ≤ 9) (h16 : 1 ≤ z304 ∧ z304 ≤ 1) : 0 ≤ z288 := by omega
theorem vc_X12_doEvent_u_13 {f_pre f_ties p1 z288 z292 z295 z298 z301 z304 : Int} (h0 : p1 % 400 = z288) (h1 : z288 < 20 * f_ties) (h2 : z288 / 20 = z292) (h3 : z288 / 10 = z295) (h4 : z288 % 10 = z301) (h5 : z295 % 2 = z298) (h6 : z301 < f_pre ∧ 0 < z304) (h7 : p1 < 400) (h8 : 1 ≤ f_pre ∧ f_pre ≤ 10) (h9 : 0 ≤ f_ties ∧ f_ties ≤ 20) (h10 : 0 ≤ p1 ∧ p1 ≤ 399) (h11 : 0 ≤ z288 ∧ z288 ≤ 399) (h12 : 0 ≤ z292 ∧ z292 ≤ 19) (h13 : 0 ≤ z295 ∧ z295 ≤ 39) (h14 : 0 ≤ z298 ∧ z298 ≤ 1) (h15 : 0 ≤ z301 ∧ z301 ≤ 9) (h16 : 1 ≤ z304 ∧ z304 ≤ 1) : ((-1) : Int) < 0 ∨ z288 < 20 * f_ties := by omega
theorem vc_X12_doEvent_u_14 {f_pre z288 z292 z295 z298 z301 z304 z321 : Int} (h0 : z321 = (((20 * z292) + (10 * (1 - z298))) + z301)) (h1 : z288 / 20 = z292) (h2 : z295 % 2 = z298) (h3 : z288 % 10 = z301) (h4 : z301 < f_pre ∧ 0 < z304) (h5 : 1 ≤ f_pre ∧ f_pre ≤ 10) (h6 : 0 ≤ z288 ∧ z288 ≤ 399) (h7 : 0 ≤ z292 ∧ z292 ≤ 19) (h8 : 0 ≤ z295 ∧ z295 ≤ 39) (h9 : 0 ≤ z298 ∧ z298 ≤ 1) (h10 : 0 ≤ z301 ∧ z301 ≤ 9) (h11 : 1 ≤ z304 ∧ z304 ≤ 1) (h12 : 0 ≤ z321 ∧ z321 ≤ 449) : 0 ≤ z321 ∧ z321 ≤ 399 := by omega
theorem vc_X12_doEvent_u_15 {f_pre f_ties p1 z288 z292 z295 z298 z301 z304 z321 : Int} (h0 : p1 % 400 = z288) (h1 : z288 < 20 * f_ties) (h2 : z288 / 20 = z292) (h3 : z288 / 10 = z295) (h4 : z288 % 10 = z301) (h5 : z295 % 2 = z298) (h6 : z301 < f_pre ∧ 0 < z304) (h7 : p1 < 400) (h8 : z321 = (((20 * z292) + (10 * (1 - z298))) + z301)) (h9 : 1 ≤ f_pre ∧ f_pre ≤ 10) (h10 : 0 ≤ f_ties ∧ f_ties ≤ 20) (h11 : 0 ≤ p1 ∧ p1 ≤ 399) (h12 : 0 ≤ z288 ∧ z288 ≤ 399) (h13 : 0 ≤ z292 ∧ z292 ≤ 19) (h14 : 0 ≤ z295 ∧ z295 ≤ 39) (h15 : 0 ≤ z298 ∧ z298 ≤ 1) (h16 : 0 ≤ z301 ∧ z301 ≤ 9) (h17 : 1 ≤ z304 ∧ z304 ≤ 1) (h18 : 0 ≤ z321 ∧ z321 ≤ 399) : 0 ≤ (40 * (930 + z288)) := by omega
theorem vc_X12_doEvent_u_16 {f_pre f_ties p1 z288 z292 z295 z298 z301 z304 z321 : Int} (h0 : p1 % 400 = z288) (h1 : z288 < 20 * f_ties) (h2 : z288 / 20 = z292) (h3 : z288 / 10 = z295) (h4 : z288 % 10 = z301) (h5 : z295 % 2 = z298) (h6 : z301 < f_pre ∧ 0 < z304) (h7 : p1 < 400) (h8 : z321 = (((20 * z292) + (10 * (1 - z298))) + z301)) (h9 : 1 ≤ f_pre ∧ f_pre ≤ 10) (h10 : 0 ≤ f_ties ∧ f_ties ≤ 20) (h11 : 0 ≤ p1 ∧ p1 ≤ 399) (h12 : 0 ≤ z288 ∧ z288 ≤ 399) (h13 : 0 ≤ z292 ∧ z292 ≤ 19) (h14 : 0 ≤ z295 ∧ z295 ≤ 39) (h15 : 0 ≤ z298 ∧ z298 ≤ 1) (h16 : 0 ≤ z301 ∧ z301 ≤ 9) (h17 : 1 ≤ z304 ∧ z304 ≤ 1) (h18 : 0 ≤ z321 ∧ z321 ≤ 399) : (40 * (930 + z288)) % 40 = 0 := by omega
theorem vc_X12_doEvent_u_17 {f_pre f_ties p1 z288 z292 z295 z298 z301 z304 z321 : Int} (h0 : p1 % 400 = z288) (h1 : z288 < 20 * f_ties) (h2 : z288 / 20 = z292) (h3 : z288 / 10 = z295) (h4 : z288 % 10 = z301) (h5 : z321 = (((20 * z292) + (10 * (1 - z298))) + z301)) (h6 : z295 % 2 = z298) (h7 : z301 < f_pre ∧ 0 < z304) (h8 : p1 < 400) (h9 : 1 ≤ f_pre ∧ f_pre ≤ 10) (h10 : 0 ≤ f_ties ∧ f_ties ≤ 20) (h11 : 0 ≤ p1 ∧ p1 ≤ 399) (h12 : 0 ≤ z288 ∧ z288 ≤ 399) (h13 : 0 ≤ z292 ∧ z292 ≤ 19) (h14 : 0 ≤ z295 ∧ z295 ≤ 39) (h15 : 0 ≤ z298 ∧ z298 ≤ 1) (h16 : 0 ≤ z301 ∧ z301 ≤ 9) (h17 : 1 ≤ z304 ∧ z304 ≤ 1) (h18 : 0 ≤ z321 ∧ z321 ≤ 399) : (930 + z288) < (130 + z321) ∨ (130 + z321) < (930 + z288) := by omega
theorem vc_X12_doEvent_u_18 {f_pre f_ties p1 z288 z292 z295 z298 z301 z304 z321 : Int} (h0 : p1 % 400 = z288) (h1 : z288 < 20 * f_ties) (h2 : z288 / 20 = z292) (h3 : z288 / 10 = z295) (h4 : z288 % 10 = z301) (h5 : z295 % 2 = z298) (h6 : z301 < f_pre ∧ 0 < z304) (h7 : p1 < 400) (h8 : z321 = (((20 * z292) + (10 * (1 - z298))) + z301)) (h9 : 1 ≤ f_pre ∧ f_pre ≤ 10) (h10 : 0 ≤ f_ties ∧ f_ties ≤ 20) (h11 : 0 ≤ p1 ∧ p1 ≤ 399) (h12 : 0 ≤ z288 ∧ z288 ≤ 399) (h13 : 0 ≤ z292 ∧ z292 ≤ 19) (h14 : 0 ≤ z295 ∧ z295 ≤ 39) (h15 : 0 ≤ z298 ∧ z298 ≤ 1) (h16 : 0 ≤ z301 ∧ z301 ≤ 9) (h17 : 1 ≤ z304 ∧ z304 ≤ 1) (h18 : 0 ≤ z321 ∧ z321 ≤ 399) : (930 + z288) ≤ 1399 := by omega
theorem vc_X12_doEvent_u_19 {f_pre z288 z292 z295 z298 z301 z304 z321 : Int} (h0 : z321 = (((20 * z292) + (10 * (1 - z298))) + z301)) (h1 : z288 / 20 = z292) (h2 : z295 % 2 = z298) (h3 : z288 % 10 = z301) (h4 : z301 < f_pre ∧ 0 < z304) (h5 : 1 ≤ f_pre ∧ f_pre ≤ 10) (h6 : 0 ≤ z288 ∧ z288 ≤ 399) (h7 : 0 ≤ z292 ∧ z292 ≤ 19) (h8 : 0 ≤ z295 ∧ z295 ≤ 39) (h9 : 0 ≤ z298 ∧ z298 ≤ 1) (h10 : 0 ≤ z301 ∧ z301 ≤ 9) (h11 : 1 ≤ z304 ∧ z304 ≤ 1) (h12 : 0 ≤ z321 ∧ z321 ≤ 399) : ¬ (130 + z321) = 24 := by omega
theorem vc_X12_doEvent_u_20 {f_pre f_ties p1 z288 z292 z295 z298 z301 z304 z321 : Int} (h0 : p1 % 400 = z288) (h1 : z288 < 20 * f_ties) (h2 : z288 / 20 = z292) (h3 : z288 / 10 = z295) (h4 : z288 % 10 = z301) (h5 : z301 < f_pre ∧ 0 < z304) (h6 : z295 % 2 = z298) (h7 : p1 < 400) (h8 : z321 = (((20 * z292) + (10 * (1 - z298))) + z301)) (h9 : 1 ≤ f_pre ∧ f_pre ≤ 10) (h10 : 0 ≤ f_ties ∧ f_ties ≤ 20) (h11 : 0 ≤ p1 ∧ p1 ≤ 399) (h12 : 0 ≤ z288 ∧ z288 ≤ 399) (h13 : 0 ≤ z292 ∧ z292 ≤ 19) (h14 : 0 ≤ z295 ∧ z295 ≤ 39) (h15 : 0 ≤ z298 ∧ z298 ≤ 1) (h16 : 0 ≤ z301 ∧ z301 ≤ 9) (h17 : 1 ≤ z304 ∧ z304 ≤ 1) (h18 : 0 ≤ z321 ∧ z321 ≤ 399) : ¬ (930 + z288) = 24 ∨ 0 < f_pre := by omega
theorem vc_X12_doEvent_u_21 {f_pre z288 z292 z295 z298 z301 z304 z321 : Int} (h0 : z321 = (((20 * z292) + (10 * (1 - z298))) + z301)) (h1 : z288 / 20 = z292) (h2 : z295 % 2 = z298) (h3 : z288 % 10 = z301) (h4 : z301 < f_pre ∧ 0 < z304) (h5 : 1 ≤ f_pre ∧ f_pre ≤ 10) (h6 : 0 ≤ z288 ∧ z288 ≤ 399) (h7 : 0 ≤ z292 ∧ z292 ≤ 19) (h8 : 0 ≤ z295 ∧ z295 ≤ 39) (h9 : 0 ≤ z298 ∧ z298 ≤ 1) (h10 : 0 ≤ z301 ∧ z301 ≤ 9) (h11 : 1 ≤ z304 ∧ z304 ≤ 1) (h12 : 0 ≤ z321 ∧ z321 ≤ 399) : 0 ≤ (40 * (130 + z321)) := by omega
theorem vc_X12_doEvent_u_22 {f_pre z288 z292 z295 z298 z301 z304 z321 : Int} (h0 : z321 = (((20 * z292) + (10 * (1 - z298))) + z301)) (h1 : z288 / 20 = z292) (h2 : z295 % 2 = z298) (h3 : z288 % 10 = z301) (h4 : z301 < f_pre ∧ 0 < z304) (h5 : 1 ≤ f_pre ∧ f_pre ≤ 10) (h6 : 0 ≤ z288 ∧ z288 ≤ 399) (h7 : 0 ≤ z292 ∧ z292 ≤ 19) (h8 : 0 ≤ z295 ∧ z295 ≤ 39) (h9 : 0 ≤ z298 ∧ z298 ≤ 1) (h10 : 0 ≤ z301 ∧ z301 ≤ 9) (h11 : 1 ≤ z304 ∧ z304 ≤ 1) (h12 : 0 ≤ z321 ∧ z321 ≤ 399) : (40 * (130 + z321)) % 40 = 0 := by omega
theorem vc_X12_doEvent_u_23 {f_pre z288 z292 z295 z298 z301 z304 z321 : Int} (h0 : z321 = (((20 * z292) + (10 * (1 - z298))) + z301)) (h1 : z288 / 20 = z292) (h2 : z295 % 2 = z298) (h3 : z288 % 10 = z301) (h4 : z301 < f_pre ∧ 0 < z304) (h5 : 1 ≤ f_pre ∧ f_pre ≤ 10) (h6 : 0 ≤ z288 ∧ z288 ≤ 399) (h7 : 0 ≤ z292 ∧ z292 ≤ 19) (h8 : 0 ≤ z295 ∧ z295 ≤ 39) (h9 : 0 ≤ z298 ∧ z298 ≤ 1) (h10 : 0 ≤ z301 ∧ z301 ≤ 9) (h11 : 1 ≤ z304 ∧ z304 ≤ 1) (h12 : 0 ≤ z321 ∧ z321 ≤ 399) : (40 * (130 + z321)) ≤ (40 * (130 + z321)) ∧ ((40 * (130 + z321)) + 40) ≤ ((40 * (130 + z321)) + 40) := by omega
theorem vc_X12_doEvent_u_24 {f_pre z288 z292 z295 z298 z301 z304 z321 : Int} (h0 : z321 = (((20 * z292) + (10 * (1 - z298))) + z301)) (h1 : z288 / 20 = z292) (h2 : z295 % 2 = z298) (h3 : z288 % 10 = z301) (h4 : z301 < f_pre ∧ 0 < z304) (h5 : 1 ≤ f_pre ∧ f_pre ≤ 10) (h6 : 0 ≤ z288 ∧ z288 ≤ 399) (h7 : 0 ≤ z292 ∧ z292 ≤ 19) (h8 : 0 ≤ z295 ∧ z295 ≤ 39) (h9 : 0 ≤ z298 ∧ z298 ≤ 1) (h10 : 0 ≤ z301 ∧ z301 ≤ 9) (h11 : 1 ≤ z304 ∧ z304 ≤ 1) (h12 : 0 ≤ z321 ∧ z321 ≤ 399) : 40 * (130 + z321) ≤ (40 * (130 + z321)) ∧ ((40 * (130 + z321)) + 40) ≤ 40 * (130 + z321) + 40 := by omega
theorem vc_X12_doEvent_u_25 {f_pre f_ties p1 z288 z292 z295 z298 z301 z304 z321 : Int} (h0 : z288 < 20 * f_ties) (h1 : z321 = (((20 * z292) + (10 * (1 - z298))) + z301)) (h2 : p1 % 400 = z288) (h3 : z288 / 20 = z292) (h4 : z288 / 10 = z295) (h5 : z295 % 2 = z298) (h6 : z288 % 10 = z301) (h7 : z301 < f_pre ∧ 0 < z304) (h8 : 1 ≤ f_pre ∧ f_pre ≤ 10) (h9 : 0 ≤ f_ties ∧ f_ties ≤ 20) (h10 : 0 ≤ p1 ∧ p1 ≤ 399) (h11 : 0 ≤ z288 ∧ z288 ≤ 399) (h12 : 0 ≤ z292 ∧ z292 ≤ 19) (h13 : 0 ≤ z295 ∧ z295 ≤ 39) (h14 : 0 ≤ z298 ∧ z298 ≤ 1) (h15 : 0 ≤ z301 ∧ z301 ≤ 9) (h16 : 1 ≤ z304 ∧ z304 ≤ 1) (h17 : 0 ≤ z321 ∧ z321 ≤ 399) : z321 < 20 * f_ties := by omega
theorem vc_X12_doEvent_u_26 {f_pre z288 z292 z295 z298 z301 z304 z321 : Int} (h0 : z301 < f_pre ∧ 0 < z304) (h1 : z321 = (((20 * z292) + (10 * (1 - z298))) + z301)) (h2 : z288 / 20 = z292) (h3 : z295 % 2 = z298) (h4 : z288 % 10 = z301) (h5 : 1 ≤ f_pre ∧ f_pre ≤ 10) (h6 : 0 ≤ z288 ∧ z288 ≤ 399) (h7 : 0 ≤ z292 ∧ z292 ≤ 19) (h8 : 0 ≤ z295 ∧ z295 ≤ 39) (h9 : 0 ≤ z298 ∧ z298 ≤ 1) (h10 : 0 ≤ z301 ∧ z301 ≤ 9) (h11 : 1 ≤ z304 ∧ z304 ≤ 1) (h12 : 0 ≤ z321 ∧ z321 ≤ 399) : z321 % 10 < f_pre := by omega
theorem vc_X12_doEvent_u_27 {f_pre f_ties p1 z288 z292 z295 z298 z301 z304 z321 : Int} (h0 : z288 / 20 = z292) (h1 : z321 = (((20 * z292) + (10 * (1 - z298))) + z301)) (h2 : p1 % 400 = z288) (h3 : z288 < 20 * f_ties) (h4 : z288 / 10 = z295) (h5 : z295 % 2 = z298) (h6 : z288 % 10 = z301) (h7 : z301 < f_pre ∧ 0 < z304) (h8 : 1 ≤ f_pre ∧ f_pre ≤ 10) (h9 : 0 ≤ f_ties ∧ f_ties ≤ 20) (h10 : 0 ≤ p1 ∧ p1 ≤ 399) (h11 : 0 ≤ z288 ∧ z288 ≤ 399) (h12 : 0 ≤ z292 ∧ z292 ≤ 19) (h13 : 0 ≤ z295 ∧ z295 ≤ 39) (h14 : 0 ≤ z298 ∧ z298 ≤ 1) (h15 : 0 ≤ z301 ∧ z301 ≤ 9) (h16 : 1 ≤ z304 ∧ z304 ≤ 1) (h17 : 0 ≤ z321 ∧ z321 ≤ 399) : z321 / 20 = z292 := by omega
theorem vc_X12_doEvent_u_28 {f_pre z288 z292 z298 z301 z304 z321 : Int} (h0 : z301 < f_pre ∧ 0 < z304) (h1 : z288 % 10 = z301) (h2 : z321 = (((20 * z292) + (10 * (1 - z298))) + z301)) (h3 : 1 ≤ f_pre ∧ f_pre ≤ 10) (h4 : 0 ≤ z288 ∧ z288 ≤ 399) (h5 : 0 ≤ z292 ∧ z292 ≤ 19) (h6 : 0 ≤ z298 ∧ z298 ≤ 1) (h7 : 0 ≤ z301 ∧ z301 ≤ 9) (h8 : 1 ≤ z304 ∧ z304 ≤ 1) (h9 : 0 ≤ z321 ∧ z321 ≤ 399) : ¬ z304 = 0 := by omega
theorem vc_X12_doEvent_u_29 {f_pre f_ties p1 z288 z292 z295 z298 z301 z304 z321 : Int} (h0 : z288 / 20 = z292) (h1 : z295 % 2 = z298) (h2 : z288 % 10 = z301) (h3 : z301 < f_pre ∧ 0 < z304) (h4 : z321 = (((20 * z292) + (10 * (1 - z298))) + z301)) (h5 : p1 % 400 = z288) (h6 : z288 < 20 * f_ties) (h7 : z288 / 10 = z295) (h8 : 1 ≤ f_pre ∧ f_pre ≤ 10) (h9 : 0 ≤ f_ties ∧ f_ties ≤ 20) (h10 : 0 ≤ p1 ∧ p1 ≤ 399) (h11 : 0 ≤ z288 ∧ z288 ≤ 399) (h12 : 0 ≤ z292 ∧ z292 ≤ 19) (h13 : 0 ≤ z295 ∧ z295 ≤ 39) (h14 : 0 ≤ z298 ∧ z298 ≤ 1) (h15 : 0 ≤ z301 ∧ z301 ≤ 9) (h16 : 1 ≤ z304 ∧ z304 ≤ 1) (h17 : 0 ≤ z321 ∧ z321 ≤ 399) : z321 = (2 * z292 + (1 - z298)) * 10 + z301 := by omega
theorem vc_X12_doEvent_u_30 {f_pre f_ties p1 z288 z292 z295 z298 z301 z304 z321 : Int} (h0 : z288 / 20 = z292) (h1 : z321 = (((20 * z292) + (10 * (1 - z298))) + z301)) (h2 : p1 % 400 = z288) (h3 : z288 < 20 * f_ties) (h4 : z288 / 10 = z295) (h5 : z295 % 2 = z298) (h6 : z288 % 10 = z301) (h7 : z301 < f_pre ∧ 0 < z304) (h8 : 1 ≤ f_pre ∧ f_pre ≤ 10) (h9 : 0 ≤ f_ties ∧ f_ties ≤ 20) (h10 : 0 ≤ p1 ∧ p1 ≤ 399) (h11 : 0 ≤ z288 ∧ z288 ≤ 399) (h12 : 0 ≤ z292 ∧ z292 ≤ 19) (h13 : 0 ≤ z295 ∧ z295 ≤ 39) (h14 : 0 ≤ z298 ∧ z298 ≤ 1) (h15 : 0 ≤ z301 ∧ z301 ≤ 9) (h16 : 1 ≤ z304 ∧ z304 ≤ 1) (h17 : 0 ≤ z321 ∧ z321 ≤ 399) : 0 ≤ z292 := by omega
theorem vc_X12_doEvent_u_31 {f_pre z288 z292 z295 z298 z301 z304 z321 : Int} (h0 : z295 % 2 = z298) (h1 : z321 = (((20 * z292) + (10 * (1 - z298))) + z301)) (h2 : z288 / 20 = z292) (h3 : z288 / 10 = z295) (h4 : z288 % 10 = z301) (h5 : z301 < f_pre ∧ 0 < z304) (h6 : 1 ≤ f_pre ∧ f_pre ≤ 10) (h7 : 0 ≤ z288 ∧ z288 ≤ 399) (h8 : 0 ≤ z292 ∧ z292 ≤ 19) (h9 : 0 ≤ z295 ∧ z295 ≤ 39) (h10 : 0 ≤ z298 ∧ z298 ≤ 1) (h11 : 0 ≤ z301 ∧ z301 ≤ 9) (h12 : 1 ≤ z304 ∧ z304 ≤ 1) (h13 : 0 ≤ z321 ∧ z321 ≤ 399) : (1 - z298) = 0 ∨ (1 - z298) = 1 := by omega
theorem vc_X12_doEvent_u_32 {z292 z298 : Int} (h0 : 0 ≤ z292 ∧ z292 ≤ 19) (h1 : 0 ≤ z298 ∧ z298 ≤ 1) : ((2 * z292) + (1 - z298)) = (((2 * z292) + 1) - z298) := by omega
theorem vc_X12_doEvent_u_33 {z342 : Int} (h0 : 0 ≤ z342 ∧ z342 ≤ 9) : z342 = z342 := by omega
theorem vc_X12_doEvent_u_34 {f_pre f_ties p1 z288 z292 z295 z298 z301 z304 z321 : Int} (h0 : z288 % 10 = z301) (h1 : z301 < f_pre ∧ 0 < z304) (h2 : z321 = (((20 * z292) + (10 * (1 - z298))) + z301)) (h3 : p1 % 400 = z288) (h4 : z288 < 20 * f_ties) (h5 : z288 / 20 = z292) (h6 : z288 / 10 = z295) (h7 : z295 % 2 = z298) (h8 : 1 ≤ f_pre ∧ f_pre ≤ 10) (h9 : 0 ≤ f_ties ∧ f_ties ≤ 20) (h10 : 0 ≤ p1 ∧ p1 ≤ 399) (h11 : 0 ≤ z288 ∧ z288 ≤ 399) (h12 : 0 ≤ z292 ∧ z292 ≤ 19) (h13 : 0 ≤ z295 ∧ z295 ≤ 39) (h14 : 0 ≤ z298 ∧ z298 ≤ 1) (h15 : 0 ≤ z301 ∧ z301 ≤ 9) (h16 : 1 ≤ z304 ∧ z304 ≤ 1) (h17 : 0 ≤ z321 ∧ z321 ≤ 399) : z301 < f_pre := by omega
theorem vc_X12_doEvent_u_35 {f_pre z288 z292 z295 z298 z301 z304 z321 : Int} (h0 : z321 = (((20 * z292) + (10 * (1 - z298))) + z301)) (h1 : z288 / 20 = z292) (h2 : z295 % 2 = z298) (h3 : z288 % 10 = z301) (h4 : z301 < f_pre ∧ 0 < z304) (h5 : 1 ≤ f_pre ∧ f_pre ≤ 10) (h6 : 0 ≤ z288 ∧ z288 ≤ 399) (h7 : 0 ≤ z292 ∧ z292 ≤ 19) (h8 : 0 ≤ z295 ∧ z295 ≤ 39) (h9 : 0 ≤ z298 ∧ z298 ≤ 1) (h10 : 0 ≤ z301 ∧ z301 ≤ 9) (h11 : 1 ≤ z304 ∧ z304 ≤ 1) (h12 : 0 ≤ z321 ∧ z321 ≤ 399) : (1 ≤ (40 * (130 + z321)) ∧ ((40 * (130 + z321)) + 40) ≤ 1200) ∨ 5200 ≤ (40 * (130 + z321)) := by omega
theorem vc_X12_doEvent_u_37 {f_pre f_ties p1 z288 z292 z295 z298 z301 z304 z321 z342 : Int} (h0 : z288 % 10 = z301) (h1 : z301 < f_pre ∧ 0 < z304) (h2 : z321 = (((20 * z292) + (10 * (1 - z298))) + z301)) (h3 : p1 % 400 = z288) (h4 : z288 < 20 * f_ties) (h5 : z288 / 20 = z292) (h6 : z288 / 10 = z295) (h7 : z295 % 2 = z298) (h8 : 1 ≤ f_pre ∧ f_pre ≤ 10) (h9 : 0 ≤ f_ties ∧ f_ties ≤ 20) (h10 : 0 ≤ p1 ∧ p1 ≤ 399) (h11 : 0 ≤ z288 ∧ z288 ≤ 399) (h12 : 0 ≤ z292 ∧ z292 ≤ 19) (h13 : 0 ≤ z295 ∧ z295 ≤ 39) (h14 : 0 ≤ z298 ∧ z298 ≤ 1) (h15 : 0 ≤ z301 ∧ z301 ≤ 9) (h16 : 1 ≤ z304 ∧ z304 ≤ 1) (h17 : 0 ≤ z321 ∧ z321 ≤ 399) (h18 : 0 ≤ z342 ∧ z342 ≤ 9) : (40 * (30 + ((10 * z342) + z301))) ≤ (40 * (30 + ((10 * z342) + z301))) ∧ ((40 * (30 + ((10 * z342) + z301))) + 40) ≤ ((40 * (30 + ((10 * z342) + z301))) + 40) := by omega
theorem vc_X12_doEvent_u_40 {f_pre f_ties p1 z288 z292 z295 z298 z301 z304 z321 z342 : Int} (h0 : z288 % 10 = z301) (h1 : z301 < f_pre ∧ 0 < z304) (h2 : z321 = (((20 * z292) + (10 * (1 - z298))) + z301)) (h3 : p1 % 400 = z288) (h4 : z288 < 20 * f_ties) (h5 : z288 / 20 = z292) (h6 : z288 / 10 = z295) (h7 : z295 % 2 = z298) (h8 : 1 ≤ f_pre ∧ f_pre ≤ 10) (h9 : 0 ≤ f_ties ∧ f_ties ≤ 20) (h10 : 0 ≤ p1 ∧ p1 ≤ 399) (h11 : 0 ≤ z288 ∧ z288 ≤ 399) (h12 : 0 ≤ z292 ∧ z292 ≤ 19) (h13 : 0 ≤ z295 ∧ z295 ≤ 39) (h14 : 0 ≤ z298 ∧ z298 ≤ 1) (h15 : 0 ≤ z301 ∧ z301 ≤ 9) (h16 : 1 ≤ z304 ∧ z304 ≤ 1) (h17 : 0 ≤ z321 ∧ z321 ≤ 399) (h18 : 0 ≤ z342 ∧ z342 ≤ 9) : ((40 * (30 + ((10 * z342) + z301))) + 40) ≤ 5200 ∨ 21200 ≤ (40 * (30 + ((10 * z342) + z301))) := by omega
theorem vc_X12_doEvent_u_42 {p1 z288 : Int} (h0 : 400 ≤ p1) (h1 : p1 % 400 = z288) (h2 : 0 ≤ p1 ∧ p1 ≤ 799) (h3 : 0 ≤ z288 ∧ z288 ≤ 399) : 400 ≤ p1 ∧ p1 ≤ 799 := by omega
theorem vc_X12_doEvent_u_43 {f_pre f_ties p1 z288 z292 z295 z298 z301 z304 : Int} (h0 : p1 % 400 = z288) (h1 : z288 < 20 * f_ties) (h2 : z288 / 20 = z292) (h3 : z288 / 10 = z295) (h4 : z288 % 10 = z301) (h5 : z295 % 2 = z298) (h6 : z301 < f_pre ∧ 0 < z304) (h7 : 400 ≤ p1) (h8 : 1 ≤ f_pre ∧ f_pre ≤ 10) (h9 : 0 ≤ f_ties ∧ f_ties ≤ 20) (h10 : 400 ≤ p1 ∧ p1 ≤ 799) (h11 : 0 ≤ z288 ∧ z288 ≤ 399) (h12 : 0 ≤ z292 ∧ z292 ≤ 19) (h13 : 0 ≤ z295 ∧ z295 ≤ 39) (h14 : 0 ≤ z298 ∧ z298 ≤ 1) (h15 : 0 ≤ z301 ∧ z301 ≤ 9) (h16 : 1 ≤ z304 ∧ z304 ≤ 1) : 0 ≤ z288 := by omega
theorem vc_X12_doEvent_u_44 {f_pre f_ties p1 z288 z292 z295 z298 z301 z304 : Int} (h0 : p1 % 400 = z288) (h1 : z288 < 20 * f_ties) (h2 : z288 / 20 = z292) (h3 : z288 / 10 = z295) (h4 : z288 % 10 = z301) (h5 : z295 % 2 = z298) (h6 : z301 < f_pre ∧ 0 < z304) (h7 : 400 ≤ p1) (h8 : 1 ≤ f_pre ∧ f_pre ≤ 10) (h9 : 0 ≤ f_ties ∧ f_ties ≤ 20) (h10 : 400 ≤ p1 ∧ p1 ≤ 799) (h11 : 0 ≤ z288 ∧ z288 ≤ 399) (h12 : 0 ≤ z292 ∧ z292 ≤ 19) (h13 : 0 ≤ z295 ∧ z295 ≤ 39) (h14 : 0 ≤ z298 ∧ z298 ≤ 1) (h15 : 0 ≤ z301 ∧ z301 ≤ 9) (h16 : 1 ≤ z304 ∧ z304 ≤ 1) : ((-1) : Int) < 0 ∨ z288 < 20 * f_ties := by omega
theorem vc_X12_doEvent_u_45 {z295 z298 : Int} (h0 : z298 = 0) (h1 : z295 % 2 = z298) (h2 : 0 ≤ z295 ∧ z295 ≤ 39) (h3 : 0 ≤ z298 ∧ z298 ≤ 1) : 0 ≤ z298 ∧ z298 ≤ 0 := by omega
theorem vc_X12_doEvent_u_46 {f_ties p1 z288 z292 z295 z298 z301 : Int} (h0 : z288 / 20 = z292) (h1 : z295 % 2 = z298) (h2 : z298 = 0) (h3 : p1 % 400 = z288) (h4 : z288 < 20 * f_ties) (h5 : z288 / 10 = z295) (h6 : z288 % 10 = z301) (h7 : 0 ≤ f_ties ∧ f_ties ≤ 20) (h8 : 400 ≤ p1 ∧ p1 ≤ 799) (h9 : 0 ≤ z288 ∧ z288 ≤ 399) (h10 : 0 ≤ z292 ∧ z292 ≤ 19) (h11 : 0 ≤ z295 ∧ z295 ≤ 39) (h12 : 0 ≤ z298 ∧ z298 ≤ 0) (h13 : 0 ≤ z301 ∧ z301 ≤ 9) : ((2 * z292) + z298) = (2 * z292) := by omega
theorem vc_X12_doEvent_u_47 {f_ties p1 z288 z292 z295 z301 : Int} (h0 : z288 < 20 * f_ties) (h1 : z288 / 20 = z292) (h2 : p1 % 400 = z288) (h3 : z288 / 10 = z295) (h4 : z288 % 10 = z301) (h5 : 0 ≤ f_ties ∧ f_ties ≤ 20) (h6 : 400 ≤ p1 ∧ p1 ≤ 799) (h7 : 0 ≤ z288 ∧ z288 ≤ 399) (h8 : 0 ≤ z292 ∧ z292 ≤ 19) (h9 : 0 ≤ z295 ∧ z295 ≤ 39) (h10 : 0 ≤ z301 ∧ z301 ≤ 9) : z292 < f_ties := by omega
theorem vc_X12_doEvent_u_49 {f_pre f_ties p1 z288 z292 z295 z301 z304 : Int} (h0 : z288 % 10 = z301) (h1 : z301 < f_pre ∧ 0 < z304) (h2 : p1 % 400 = z288) (h3 : z288 < 20 * f_ties) (h4 : z288 / 20 = z292) (h5 : z288 / 10 = z295) (h6 : 1 ≤ f_pre ∧ f_pre ≤ 10) (h7 : 0 ≤ f_ties ∧ f_ties ≤ 20) (h8 : 400 ≤ p1 ∧ p1 ≤ 799) (h9 : 0 ≤ z288 ∧ z288 ≤ 399) (h10 : 0 ≤ z292 ∧ z292 ≤ 19) (h11 : 0 ≤ z295 ∧ z295 ≤ 39) (h12 : 0 ≤ z301 ∧ z301 ≤ 9) (h13 : 1 ≤ z304 ∧ z304 ≤ 1) : z301 < f_pre := by omega
theorem vc_X12_doEvent_u_50 {f_pre z288 z301 z304 : Int} (h0 : z301 < f_pre ∧ 0 < z304) (h1 : z288 % 10 = z301) (h2 : 1 ≤ f_pre ∧ f_pre ≤ 10) (h3 : 0 ≤ z288 ∧ z288 ≤ 399) (h4 : 0 ≤ z301 ∧ z301 ≤ 9) (h5 : 1 ≤ z304 ∧ z304 ≤ 1) : 0 < z304 := by omega
theorem vc_X12_doEvent_u_53 {z295 z298 : Int} (h0 : ¬ z298 = 0) (h1 : z295 % 2 = z298) (h2 : 0 ≤ z295 ∧ z295 ≤ 39) (h3 : 0 ≤ z298 ∧ z298 ≤ 1) : 1 ≤ z298 ∧ z298 ≤ 1 := by omega
theorem vc_X12_doEvent_u_54 {f_ties p1 z288 z292 z295 z298 z301 : Int} (h0 : z288 / 20 = z292) (h1 : z295 % 2 = z298) (h2 : ¬ z298 = 0) (h3 : p1 % 400 = z288) (h4 : z288 < 20 * f_ties) (h5 : z288 / 10 = z295) (h6 : z288 % 10 = z301) (h7 : 0 ≤ f_ties ∧ f_ties ≤ 20) (h8 : 400 ≤ p1 ∧ p1 ≤ 799) (h9 : 0 ≤ z288 ∧ z288 ≤ 399) (h10 : 0 ≤ z292 ∧ z292 ≤ 19) (h11 : 0 ≤ z295 ∧ z295 ≤ 39) (h12 : 1 ≤ z298 ∧ z298 ≤ 1) (h13 : 0 ≤ z301 ∧ z301 ≤ 9) : ((2 * z292) + z298) = ((2 * z292) + 1) := by omega
set_option maxRecDepth 4000 in
set_option maxHeartbeats 4000000 in
theorem c_X12_doEvent_u {l : Launch} {D : va_G} {c : Nat → ClassId} {H0 : Heap} {sa : Nat × Nat × (Nat → Int32)} {w : mW} {μ : mM} (hw : mWF w) (hT : mT w μ) {p1 : Int} (hp1 : 0 ≤ p1 ∧ p1 ≤ 799) {f_ties : Int} (q_f_ties : μ 106 6 = f_ties) {f_pre : Int} (q_f_pre : μ 106 2 = f_pre) (hIJC : JC l D c H0 sa μ) (hIRP : RP μ) (hIEP : EP μ) (hIHP : HP μ) (hIUP : UP l D c H0 sa μ) (hIG1 : G1 μ) (hIEV : EV μ) (hIPK : PK μ) (hev : 0 ≤ evF μ p1 ∧ evF μ p1 ≤ 2000000000) : sC (gG l D c H0 sa) mX12_doEvent 11 0 0 [.ref 106, iv p1] (mk w μ) (qV w [106026, 106027, 106028, 106029, 106030, 106031, 106071, 106072, 106073, 126999, 151999, 152999, 153999, 154999, 155999, 156999, 157999, 158999, 159999, 160999, 161999, 165999] μ (fun μ1 => JC l D c H0 sa μ1 ∧ RP μ1 ∧ EP μ1 ∧ HP μ1 ∧ UP l D c H0 sa μ1 ∧ G1 μ1 ∧ EV μ1 ∧ True)) := by
  refine sC.of rfl (by decide) (le_t rfl) ?_
  have ht_f_ties : (0 ≤ f_ties ∧ f_ties ≤ 20) := by rw [← q_f_ties]; exact hT 106 106 (A_106 hw) 6
  have ht_f_pre : (0 ≤ f_pre ∧ f_pre ≤ 10) := by rw [← q_f_pre]; exact hT 106 106 (A_106 hw) 2
  refine mr_lvE (lv' := [(0, .ref 106), (1, iv p1)]) rfl ?_
  refine sv_aload_n (pc := 0) dX12_doEvent_0 rfl rfl ?_
  refine sv_aload_n (pc := 1) dX12_doEvent_1 rfl rfl ?_
  refine mr_iload_n (pc := 2) (z := p1) dX12_doEvent_2 rfl rfl ?_
  refine mr_cVP (pc := 3) (c_X12_eventAt_f hw hT hp1) (gOk _ _ _ _ _) dX12_doEvent_3 (tX12_eventAt _ _ _ _ _) ⟨wV_X12_eventAt, wL_X12_eventAt⟩ wM_X12_607 (gCX12 _ _ _ _ _) rfl (A_106 hw) rfl ⟨le_t rfl, le_t rfl⟩ ⟨le_t rfl, le_t rfl⟩ rfl (le_t rfl) fun z275 h274 => ?_
  have h276 : 0 ≤ z275 ∧ z275 ≤ 2000000000 := by have h := hev; rw [h274.2.1.symm] at h; exact h
  refine pf_X12_71 (pc := 6) dX12_doEvent_6 wF_X12_591 (A_106 hw) hT h276 fun μ277 u278 T279 => ?_
  refine sv_aload_n (pc := 9) dX12_doEvent_9 rfl rfl ?_
  refine sv_dup (pc := 10) dX12_doEvent_10 rfl ?_
  refine gf_X12_73 (pc := 11) dX12_doEvent_11 wF_X12_610 (A_106 hw) T279 fun z280 q281 h282 => ?_
  refine mr_iconst (pc := 14) (z := 1) dX12_doEvent_14 ?_
  refine mr_iadd (pc := 15) (x := z280) (y := 1) dX12_doEvent_15 ?_
  refine mr_wrap fun z283 h284 => ?_
  refine pf_X12_73 (pc := 16) dX12_doEvent_16 wF_X12_610 (A_106 hw) T279 h284 fun μ285 u286 T287 => ?_
  refine mr_iload_n (pc := 19) (z := p1) dX12_doEvent_19 rfl rfl ?_
  refine mr_sipush (pc := 20) (z := 400) dX12_doEvent_20 (by decide) ?_
  refine mr_irem (pc := 23) (x := p1) (y := 400) dX12_doEvent_23 (rW (c := 0) (d := 2147483647) hp1 rfl) vc_X12_doEvent_u_1 ?_
  refine mr_gen (P := fun z => 0 ≤ z ∧ z ≤ 399) (rMod hp1 rfl) fun z288 q289 h290 => ?_
  have h291 : z288 < 20 * f_ties := EV.at hIEV hp1 hev.1 q289 q_f_ties
  refine mr_istore_n (pc := 24) (lv' := [(2, iv z288), (0, .ref 106), (1, iv p1)]) dX12_doEvent_24 rfl (by decide) rfl ?_
  refine mr_iload_n (pc := 25) (z := z288) dX12_doEvent_25 rfl rfl ?_
  refine mr_bipush (pc := 26) (z := 20) dX12_doEvent_26 (by decide) ?_
  refine mr_idiv (pc := 28) (x := z288) (y := 20) dX12_doEvent_28 (rW (c := 0) (d := 2147483647) h290 rfl) vc_X12_doEvent_u_2 ?_
  refine mr_gen (P := fun z => 0 ≤ z ∧ z ≤ 19) (rDiv h290 rfl) fun z292 q293 h294 => ?_
  refine mr_istore_n (pc := 29) (lv' := [(3, iv z292), (2, iv z288), (0, .ref 106), (1, iv p1)]) dX12_doEvent_29 rfl (by decide) rfl ?_
  refine mr_iload_n (pc := 30) (z := z288) dX12_doEvent_30 rfl rfl ?_
  refine mr_bipush (pc := 31) (z := 10) dX12_doEvent_31 (by decide) ?_
  refine mr_idiv (pc := 33) (x := z288) (y := 10) dX12_doEvent_33 (rW (c := 0) (d := 2147483647) h290 rfl) vc_X11_isRule_6 ?_
  refine mr_gen (P := fun z => 0 ≤ z ∧ z ≤ 39) (rDiv h290 rfl) fun z295 q296 h297 => ?_
  refine mr_iconst (pc := 34) (z := 2) dX12_doEvent_34 ?_
  refine mr_irem (pc := 35) (x := z295) (y := 2) dX12_doEvent_35 (rW (c := 0) (d := 2147483647) h297 rfl) vc_X8_doNext_4 ?_
  refine mr_gen (P := fun z => 0 ≤ z ∧ z ≤ 1) (rMod h297 rfl) fun z298 q299 h300 => ?_
  refine mr_istore (pc := 36) (lv' := [(4, iv z298), (3, iv z292), (2, iv z288), (0, .ref 106), (1, iv p1)]) dX12_doEvent_36 (by decide) rfl ?_
  refine mr_iload_n (pc := 38) (z := z288) dX12_doEvent_38 rfl rfl ?_
  refine mr_bipush (pc := 39) (z := 10) dX12_doEvent_39 (by decide) ?_
  refine mr_irem (pc := 41) (x := z288) (y := 10) dX12_doEvent_41 (rW (c := 0) (d := 2147483647) h290 rfl) vc_X11_isRule_6 ?_
  refine mr_gen (P := fun z => 0 ≤ z ∧ z ≤ 9) (rMod h290 rfl) fun z301 q302 h303 => ?_
  refine mr_istore (pc := 42) (lv' := [(5, iv z301), (4, iv z298), (3, iv z292), (2, iv z288), (0, .ref 106), (1, iv p1)]) dX12_doEvent_42 (by decide) rfl ?_
  obtain ⟨z304, q305⟩ : ∃ z, μ285 112 (z292.toNat) = z := ⟨_, rfl⟩
  have h306 : (0 ≤ z304 ∧ z304 ≤ 1) := by rw [← q305]; exact T287 112 112 (A_112 hw) (z292.toNat)
  have h307 : z301 < f_pre ∧ 0 < z304 := by have h := EP.ev hIEP hp1 hev.1 q289 q_f_pre (vc_X12_doEvent_u_5 q289 h291 q293 q296 q302 q299 ht_f_ties hp1 h290 h294 h297 h300 h303) ((((mF.up (mF.up mF.refl (A_106 hw) u278 rfl) (A_106 hw) u286 rfl) : mF [106071, 106073] w μ μ285).f (A_112 hw) rfl rfl).symm.trans q305); have h2 : 0 ≤ z304 := (vc_X12_doEvent_u_6 h306); have h3 : z288 % 10 = z301 := (vc_X12_doEvent_u_7 q289 h291 q293 q296 q302 q299 ht_f_ties hp1 h290 h294 h297 h300 h303); omega
  have h308 : 1 ≤ z304 ∧ z304 ≤ 1 := (vc_X12_doEvent_u_8 h307 q302 ht_f_pre h290 h303 h306)
  have h309 : 1 ≤ f_pre ∧ f_pre ≤ 10 := (vc_X12_doEvent_u_9 h307 q302 ht_f_pre h290 h303 h308)
  refine mr_iload_n (pc := 44) (z := p1) dX12_doEvent_44 rfl rfl ?_
  refine mr_sipush (pc := 45) (z := 400) dX12_doEvent_45 (by decide) ?_
  refine mr_icmp_lt (pc := 48) (tgt := 77) dX12_doEvent_48 (by decide) (r32 hp1 rfl) (r32 (rR (x := 400)) rfl) (fun h310 => ?_) (fun h310 => ?_)
  · have h311 : 0 ≤ p1 ∧ p1 ≤ 399 := (vc_X12_doEvent_u_10 h310 q289 hp1 h290)
    refine sv_aload_n (pc := 77) dX12_doEvent_77 rfl rfl ?_
    refine gf_X12_77 (pc := 78) dX12_doEvent_78 wF_X12_433 (A_106 hw) T287 ?_
    refine mr_iload_n (pc := 81) (z := z288) dX12_doEvent_81 rfl rfl ?_
    refine mr_iconst (pc := 82) (z := (-1)) dX12_doEvent_82 ?_
    refine ss_157 (pc := 83) dX12_doEvent_83 (A_157 hw) T287 (rIx (n := 400) h290 rfl) (rW (c := (-1)) (d := 2000001000) (rR (x := (-1))) rfl) fun μ312 u313 T314 => ?_
    have I315 : EP μ312 := EP.neg1 (EP.keep hIEP hw ((mF.up (mF.up mF.refl (A_106 hw) u278 rfl) (A_106 hw) u286 rfl) : mF [106071, 106073] w μ μ285) rfl) u313 vc_X12_raise_u_49
    have I316 : EV μ312 := EV.up1 (EV.keep hIEV hw ((mF.up (mF.up mF.refl (A_106 hw) u278 rfl) (A_106 hw) u286 rfl) : mF [106071, 106073] w μ μ285) rfl) u313 (u313.f (Or.inl (mAt.ne (A_157 hw) (A_106 hw) rfl)) (u286.f (Or.inr (by decide)) (u278.f (Or.inr (by decide)) q_f_ties))) (vc_X12_doEvent_u_12 q289 h291 q293 q296 q302 q299 h307 h310 h309 ht_f_ties h311 h290 h294 h297 h300 h303 h308) (vc_X12_doEvent_u_13 q289 h291 q293 q296 q302 q299 h307 h310 h309 ht_f_ties h311 h290 h294 h297 h300 h303 h308)
    refine mr_iload_n (pc := 84) (z := z292) dX12_doEvent_84 rfl rfl ?_
    refine mr_iconst (pc := 85) (z := 1) dX12_doEvent_85 ?_
    refine mr_iload (pc := 86) (z := z298) dX12_doEvent_86 rfl ?_
    refine mr_isub (pc := 88) (x := 1) (y := z298) dX12_doEvent_88 ?_
    refine mr_iload (pc := 89) (z := z301) dX12_doEvent_89 rfl ?_
    refine mr_cSP (pc := 91) (c_X12_slot hw T314 (rW (c := 0) (d := 20) h294 rfl) (rW (c := 0) (d := 2) (rSub (e := 0) (f := 1) (rR (x := 1)) h300 rfl) rfl) h303) (gOk _ _ _ _ _) dX12_doEvent_91 (tX12_slot _ _ _ _ _) wS_X12_slot wM_X12_545 ⟨le_t rfl, le_t rfl⟩ ⟨le_t rfl, le_t rfl⟩ rfl (le_t rfl) fun z321 h320 => ?_
    have h322 : 0 ≤ z321 ∧ z321 ≤ 399 := (vc_X12_doEvent_u_14 h320.2.1 q293 q299 q302 h307 h309 h290 h294 h297 h300 h303 h308 h320.1)
    refine mr_istore (pc := 94) (lv' := [(6, iv z321), (5, iv z301), (4, iv z298), (3, iv z292), (2, iv z288), (0, .ref 106), (1, iv p1)]) dX12_doEvent_94 (by decide) rfl ?_
    refine sv_aload_n (pc := 96) dX12_doEvent_96 rfl rfl ?_
    refine mr_sipush (pc := 97) (z := 930) dX12_doEvent_97 (by decide) ?_
    refine mr_iload_n (pc := 100) (z := z288) dX12_doEvent_100 rfl rfl ?_
    refine mr_iadd (pc := 101) (x := 930) (y := z288) dX12_doEvent_101 ?_
    refine mr_sipush (pc := 102) (z := 130) dX12_doEvent_102 (by decide) ?_
    refine mr_iload (pc := 105) (z := z321) dX12_doEvent_105 rfl ?_
    refine mr_iadd (pc := 107) (x := 130) (y := z321) dX12_doEvent_107 ?_
    obtain ⟨z323, q324⟩ : ∃ z, μ312 126 ((40 * (930 + z288)).toNat) = z := ⟨_, rfl⟩
    have h325 := rt7 T314 (A_126 hw) (vc_X12_doEvent_u_15 q289 h291 q293 q296 q302 q299 h307 h310 h320.2.1 h309 ht_f_ties h311 h290 h294 h297 h300 h303 h308 h322) q324
    have h326 : (-1) ≤ z323 ∧ z323 ≤ 9 := h325.2.1 (vc_X12_doEvent_u_16 q289 h291 q293 q296 q302 q299 h307 h310 h320.2.1 h309 ht_f_ties h311 h290 h294 h297 h300 h303 h308 h322)
    refine mr_cVV (pc := 108) (c_X12_copy_u hw T314 (rW (c := 0) (d := 2099) (rAdd (e := 930) (f := 1329) (rR (x := 930)) h290 rfl) rfl) (rW (c := 0) (d := 2099) (rAdd (e := 130) (f := 529) (rR (x := 130)) h322 rfl) rfl) q324 (u313.f (Or.inl (mAt.ne (A_157 hw) (A_106 hw) rfl)) (u286.f (Or.inr (by decide)) (u278.f (Or.inr (by decide)) q_f_pre))) (vc_X12_doEvent_u_17 q289 h291 q293 q296 q302 h320.2.1 q299 h307 h310 h309 ht_f_ties h311 h290 h294 h297 h300 h303 h308 h322) (vc_X12_doEvent_u_18 q289 h291 q293 q296 q302 q299 h307 h310 h320.2.1 h309 ht_f_ties h311 h290 h294 h297 h300 h303 h308 h322) (vc_X12_doEvent_u_19 h320.2.1 q293 q299 q302 h307 h309 h290 h294 h297 h300 h303 h308 h322) (vc_X12_doEvent_u_20 q289 h291 q293 q296 q302 h307 q299 h310 h320.2.1 h309 ht_f_ties h311 h290 h294 h297 h300 h303 h308 h322) (RP.keep hIRP hw ((mF.up (mF.up (mF.up mF.refl (A_106 hw) u278 rfl) (A_106 hw) u286 rfl) (A_157 hw) u313 rfl) : mF [106071, 106073, 157999] w μ μ312) rfl ((mG.upO (mG.upO (mG.upO mG.refl u278 rfl) u286 rfl) u313 rfl) : mG [] μ μ312) (fun _ h => absurd h List.not_mem_nil))) (gOk _ _ _ _ _) dX12_doEvent_108 (tX12_copy _ _ _ _ _) ⟨wV_X12_copy, wL_X12_copy⟩ wM_X12_559 (gCX12 _ _ _ _ _) rfl (A_106 hw) rfl ⟨le_t rfl, le_t rfl⟩ ⟨le_t rfl, le_t rfl⟩ rfl (le_t rfl) fun μ327 T328 F329 h330 => ?_
    obtain ⟨z331, q332, h333⟩ := h330
    have h334 := rt7 T328 (A_126 hw) (vc_X12_doEvent_u_21 h320.2.1 q293 q299 q302 h307 h309 h290 h294 h297 h300 h303 h308 h322) q332
    have h335 : (-1) ≤ z331 ∧ z331 ≤ 9 := h334.2.1 (vc_X12_doEvent_u_22 h320.2.1 q293 q299 q302 h307 h309 h290 h294 h297 h300 h303 h308 h322)
    have q336 : μ327 126 ((40 * (130 + z321)).toNat) = z323 := q332.trans h333.2.2.1
    have I337 : HP μ327 := HP.row (HP.keep hIHP hw ((mF.up (mF.up (mF.up mF.refl (A_106 hw) u278 rfl) (A_106 hw) u286 rfl) (A_157 hw) u313 rfl) : mF [106071, 106073, 157999] w μ μ312) rfl ((mG.upO (mG.upO (mG.upO mG.refl u278 rfl) u286 rfl) u313 rfl) : mG [] μ μ312) (fun _ h => absurd h List.not_mem_nil)) hw ((mF.call mF.refl F329 rfl) : mF [126999] w μ312 μ327) rfl ((mG.call mG.refl h333.1 (List.forall_mem_cons.mpr ⟨⟨_, List.mem_cons_self, (vc_X12_doEvent_u_23 h320.2.1 q293 q299 q302 h307 h309 h290 h294 h297 h300 h303 h308 h322)⟩, (fun _ h => absurd h List.not_mem_nil)⟩)) : mG [((40 * (130 + z321)), ((40 * (130 + z321)) + 40))] μ312 μ327) (List.forall_mem_cons.mpr ⟨(vc_X12_doEvent_u_24 h320.2.1 q293 q299 q302 h307 h309 h290 h294 h297 h300 h303 h308 h322), (fun _ h => absurd h List.not_mem_nil)⟩) (((((mF.call mF.refl F329 rfl) : mF [126999] w μ312 μ327).f (A_106 hw) rfl rfl)).symm.trans (F329.f (A_106 hw) rfl (u313.f (Or.inl (mAt.ne (A_157 hw) (A_106 hw) rfl)) (u286.f (Or.inr (by decide)) (u278.f (Or.inr (by decide)) q_f_ties))))) (vc_X12_doEvent_u_25 h291 h320.2.1 q289 q293 q296 q299 q302 h307 h309 ht_f_ties h311 h290 h294 h297 h300 h303 h308 h322) (((((mF.call mF.refl F329 rfl) : mF [126999] w μ312 μ327).f (A_106 hw) rfl rfl)).symm.trans (F329.f (A_106 hw) rfl (u313.f (Or.inl (mAt.ne (A_157 hw) (A_106 hw) rfl)) (u286.f (Or.inr (by decide)) (u278.f (Or.inr (by decide)) q_f_pre))))) (vc_X12_doEvent_u_26 h307 h320.2.1 q293 q299 q302 h309 h290 h294 h297 h300 h303 h308 h322) (vc_X12_doEvent_u_27 q293 h320.2.1 q289 h291 q296 q299 q302 h307 h309 ht_f_ties h311 h290 h294 h297 h300 h303 h308 h322) (((((mF.call mF.refl F329 rfl) : mF [126999] w μ312 μ327).f (A_112 hw) rfl rfl)).symm.trans (F329.f (A_112 hw) rfl (u313.f (Or.inl (mAt.ne (A_157 hw) (A_112 hw) rfl)) q305))) (vc_X12_doEvent_u_28 h307 q302 h320.2.1 h309 h290 h294 h300 h303 h308 h322)
    have I338 : UPg l D c H0 sa μ327 (fun d' p' => d' = μ312 110 (2 * z292 + (1 - z298)).toNat ∧ p' = z301) := (UP.hear (UPg.fr hIUP hw T314 rfl ((mF.up (mF.up (mF.up mF.refl (A_106 hw) u278 rfl) (A_106 hw) u286 rfl) (A_157 hw) u313 rfl) : mF [106071, 106073, 157999] w μ μ312) rfl rfl rfl ((mG.upO (mG.upO (mG.upO mG.refl u278 rfl) u286 rfl) u313 rfl) : mG [] μ μ312) (fun _ h => absurd h List.not_mem_nil)) hw T314 rfl ((mF.call mF.refl F329 rfl) : mF [126999] w μ312 μ327) rfl rfl rfl ((mG.call mG.refl h333.1 (List.forall_mem_cons.mpr ⟨⟨_, List.mem_cons_self, (vc_X12_doEvent_u_23 h320.2.1 q293 q299 q302 h307 h309 h290 h294 h297 h300 h303 h308 h322)⟩, (fun _ h => absurd h List.not_mem_nil)⟩)) : mG [((40 * (130 + z321)), ((40 * (130 + z321)) + 40))] μ312 μ327) (List.forall_mem_cons.mpr ⟨(vc_X12_doEvent_u_24 h320.2.1 q293 q299 q302 h307 h309 h290 h294 h297 h300 h303 h308 h322), (fun _ h => absurd h List.not_mem_nil)⟩) (vc_X12_doEvent_u_29 q293 q299 q302 h307 h320.2.1 q289 h291 q296 h309 ht_f_ties h311 h290 h294 h297 h300 h303 h308 h322) (vc_X12_doEvent_u_30 q293 h320.2.1 q289 h291 q296 q299 q302 h307 h309 ht_f_ties h311 h290 h294 h297 h300 h303 h308 h322) h303 (vc_X12_doEvent_u_31 q299 h320.2.1 q293 q296 q302 h307 h309 h290 h294 h297 h300 h303 h308 h322))
    refine sv_aload_n (pc := 111) dX12_doEvent_111 rfl rfl ?_
    refine gf_X12_74 (pc := 112) dX12_doEvent_112 wF_X12_424 (A_106 hw) T328 ?_
    refine mr_iload (pc := 115) (z := z321) dX12_doEvent_115 rfl ?_
    refine sv_aload_n (pc := 117) dX12_doEvent_117 rfl rfl ?_
    refine gk_X12_71 (pc := 118) dX12_doEvent_118 wF_X12_591 (A_106 hw) (F329.f (A_106 hw) rfl (u313.f (Or.inl (mAt.ne (A_157 hw) (A_106 hw) rfl)) (u286.f (Or.inr (by decide)) u278.1))) ?_
    refine ss_154 (pc := 121) dX12_doEvent_121 (A_154 hw) T328 (rIx (n := 400) h322 rfl) h276 fun μ339 u340 T341 => ?_
    refine sv_aload_n (pc := 122) dX12_doEvent_122 rfl rfl ?_
    refine sv_aload_n (pc := 123) dX12_doEvent_123 rfl rfl ?_
    refine gf_X12_7 (pc := 124) dX12_doEvent_124 wF_X12_40 (A_106 hw) T341 ?_
    refine mr_iconst (pc := 127) (z := 2) dX12_doEvent_127 ?_
    refine mr_iload_n (pc := 128) (z := z292) dX12_doEvent_128 rfl rfl ?_
    refine mr_imul (pc := 129) (x := 2) (y := z292) dX12_doEvent_129 ?_
    refine mr_iconst (pc := 130) (z := 1) dX12_doEvent_130 ?_
    refine mr_iadd (pc := 131) (x := (2 * z292)) (y := 1) dX12_doEvent_131 ?_
    refine mr_iload (pc := 132) (z := z298) dX12_doEvent_132 rfl ?_
    refine mr_isub (pc := 134) (x := ((2 * z292) + 1)) (y := z298) dX12_doEvent_134 ?_
    refine la_110 (pc := 135) dX12_doEvent_135 (A_110 hw) T341 (rIx (n := 40) (rSub (e := 0) (f := 39) (rAdd (e := 1) (f := 39) (rMulL (n := 2) (e := 0) (f := 38) h294 rfl) (rR (x := 1)) rfl) h300 rfl) rfl) fun z342 q343 h344 => ?_
    refine mr_iload (pc := 136) (z := z301) dX12_doEvent_136 rfl ?_
    refine mr_cVV (pc := 138) (c_X12_look_u hw T341 h344 h303 (u340.f (Or.inl (mAt.ne (A_154 hw) (A_106 hw) rfl)) (F329.f (A_106 hw) rfl (u313.f (Or.inl (mAt.ne (A_157 hw) (A_106 hw) rfl)) (u286.f (Or.inr (by decide)) (u278.f (Or.inr (by decide)) q_f_pre))))) (vc_X12_doEvent_u_34 q302 h307 h320.2.1 q289 h291 q293 q296 q299 h309 ht_f_ties h311 h290 h294 h297 h300 h303 h308 h322) (JC.keepJ hIJC hw ((mF.up (mF.call (mF.up (mF.up (mF.up mF.refl (A_106 hw) u278 rfl) (A_106 hw) u286 rfl) (A_157 hw) u313 rfl) F329 rfl) (A_154 hw) u340 rfl) : mF [106071, 106073, 126999, 154999, 157999] w μ μ339) rfl) (RP.keep h333.2.1 hw ((mF.up mF.refl (A_154 hw) u340 rfl) : mF [154999] w μ327 μ339) rfl ((mG.upO mG.refl u340 rfl) : mG [] μ327 μ339) (fun _ h => absurd h List.not_mem_nil)) (EP.keep I315 hw ((mF.up (mF.call mF.refl F329 rfl) (A_154 hw) u340 rfl) : mF [126999, 154999] w μ312 μ339) rfl) (G1.keep hIG1 hw ((mF.up (mF.call (mF.up (mF.up (mF.up mF.refl (A_106 hw) u278 rfl) (A_106 hw) u286 rfl) (A_157 hw) u313 rfl) F329 rfl) (A_154 hw) u340 rfl) : mF [106071, 106073, 126999, 154999, 157999] w μ μ339) rfl rfl ((mG.upO (mG.call (mG.upO (mG.upO (mG.upO mG.refl u278 rfl) u286 rfl) u313 rfl) h333.1 (List.forall_mem_cons.mpr ⟨⟨_, List.mem_cons_self, (vc_X12_doEvent_u_23 h320.2.1 q293 q299 q302 h307 h309 h290 h294 h297 h300 h303 h308 h322)⟩, (fun _ h => absurd h List.not_mem_nil)⟩)) u340 rfl) : mG [((40 * (130 + z321)), ((40 * (130 + z321)) + 40))] μ μ339) (List.forall_mem_cons.mpr ⟨(vc_X12_doEvent_u_35 h320.2.1 q293 q299 q302 h307 h309 h290 h294 h297 h300 h303 h308 h322), (fun _ h => absurd h List.not_mem_nil)⟩)) (EV.keep I316 hw ((mF.up (mF.call mF.refl F329 rfl) (A_154 hw) u340 rfl) : mF [126999, 154999] w μ312 μ339) rfl) (PK.keep hIPK hw ((mF.up (mF.call (mF.up (mF.up (mF.up mF.refl (A_106 hw) u278 rfl) (A_106 hw) u286 rfl) (A_157 hw) u313 rfl) F329 rfl) (A_154 hw) u340 rfl) : mF [106071, 106073, 126999, 154999, 157999] w μ μ339) rfl)) (gOk _ _ _ _ _) dX12_doEvent_138 (tX12_look _ _ _ _ _) ⟨wV_X12_look, wL_X12_look⟩ wM_X12_597 (gCX12 _ _ _ _ _) rfl (A_106 hw) rfl ⟨le_t rfl, le_t rfl⟩ ⟨le_t rfl, le_t rfl⟩ rfl (le_t rfl) fun μ345 T346 F347 h348 => ?_
    have I349 : UP l D c H0 sa μ345 := UPg.look (UPg.fr I338 hw T341 rfl ((mF.up mF.refl (A_154 hw) u340 rfl) : mF [154999] w μ327 μ339) rfl rfl rfl ((mG.upO mG.refl u340 rfl) : mG [] μ327 μ339) (fun _ h => absurd h List.not_mem_nil)) (fun _ _ h => ⟨h.1.trans ((((((mF.up (mF.call mF.refl F329 rfl) (A_154 hw) u340 rfl) : mF [126999, 154999] w μ312 μ339).f (A_110 hw) rfl rfl)).symm.trans (eqIx (vc_X12_doEvent_u_32 h294 h300) q343)).trans (vc_X12_doEvent_u_33 h344)), h.2⟩) h344 h303 hw T341 rfl rfl ((mF.call mF.refl F347 rfl) : mF [106026, 106027, 106028, 106029, 106030, 106031, 106072, 126999, 151999, 152999, 153999, 155999, 156999, 157999, 158999, 159999, 160999, 161999, 165999] w μ339 μ345) rfl rfl rfl ((mG.call mG.refl h348.1 (List.forall_mem_cons.mpr ⟨⟨_, List.mem_cons_self, vc_X12_look_u_35⟩, (List.forall_mem_cons.mpr ⟨⟨_, (List.mem_cons_of_mem _ List.mem_cons_self), (vc_X12_doEvent_u_37 q302 h307 h320.2.1 q289 h291 q293 q296 q299 h309 ht_f_ties h311 h290 h294 h297 h300 h303 h308 h322 h344)⟩, (List.forall_mem_cons.mpr ⟨⟨_, (List.mem_cons_of_mem _ (List.mem_cons_of_mem _ List.mem_cons_self)), vc_X12_say_u_34⟩, (fun _ h => absurd h List.not_mem_nil)⟩)⟩)⟩)) : mG [(80, 960), ((40 * (30 + ((10 * z342) + z301))), ((40 * (30 + ((10 * z342) + z301))) + 40)), (21200, 53200)] μ339 μ345) (List.forall_mem_cons.mpr ⟨vc_X12_lookAll_u_14, (List.forall_mem_cons.mpr ⟨(vc_X12_doEvent_u_40 q302 h307 h320.2.1 q289 h291 q293 q296 q299 h309 ht_f_ties h311 h290 h294 h297 h300 h303 h308 h322 h344), (List.forall_mem_cons.mpr ⟨vc_X12_look_u_55, (fun _ h => absurd h List.not_mem_nil)⟩)⟩)⟩) h348.2.2.2.2.2.2.2.1 h348.2.2.2.2.2.2.1
    exact mr_vret dX12_doEvent_141 rfl (le_t rfl) (le_t rfl) T346 (mF.call (mF.up (mF.call (mF.up (mF.up (mF.up mF.refl (A_106 hw) u278 rfl) (A_106 hw) u286 rfl) (A_157 hw) u313 rfl) F329 rfl) (A_154 hw) u340 rfl) F347 rfl) ⟨h348.2.1, h348.2.2.1, h348.2.2.2.1, (HP.keep I337 hw ((mF.call (mF.up mF.refl (A_154 hw) u340 rfl) F347 rfl) : mF [106026, 106027, 106028, 106029, 106030, 106031, 106072, 126999, 151999, 152999, 153999, 154999, 155999, 156999, 157999, 158999, 159999, 160999, 161999, 165999] w μ327 μ345) rfl ((mG.call (mG.upO mG.refl u340 rfl) h348.1 (List.forall_mem_cons.mpr ⟨⟨_, List.mem_cons_self, vc_X12_look_u_35⟩, (List.forall_mem_cons.mpr ⟨⟨_, (List.mem_cons_of_mem _ List.mem_cons_self), (vc_X12_doEvent_u_37 q302 h307 h320.2.1 q289 h291 q293 q296 q299 h309 ht_f_ties h311 h290 h294 h297 h300 h303 h308 h322 h344)⟩, (List.forall_mem_cons.mpr ⟨⟨_, (List.mem_cons_of_mem _ (List.mem_cons_of_mem _ List.mem_cons_self)), vc_X12_say_u_34⟩, (fun _ h => absurd h List.not_mem_nil)⟩)⟩)⟩)) : mG [(80, 960), ((40 * (30 + ((10 * z342) + z301))), ((40 * (30 + ((10 * z342) + z301))) + 40)), (21200, 53200)] μ327 μ345) (List.forall_mem_cons.mpr ⟨vc_X12_lookAll_u_14, (List.forall_mem_cons.mpr ⟨(vc_X12_doEvent_u_40 q302 h307 h320.2.1 q289 h291 q293 q296 q299 h309 ht_f_ties h311 h290 h294 h297 h300 h303 h308 h322 h344), (List.forall_mem_cons.mpr ⟨vc_X12_look_u_55, (fun _ h => absurd h List.not_mem_nil)⟩)⟩)⟩)), I349, h348.2.2.2.2.1, h348.2.2.2.2.2.1, trivial⟩
  have h350 : 400 ≤ p1 ∧ p1 ≤ 799 := (vc_X12_doEvent_u_42 h310 q289 hp1 h290)
  refine sv_aload_n (pc := 51) dX12_doEvent_51 rfl rfl ?_
  refine gf_X12_79 (pc := 52) dX12_doEvent_52 wF_X12_439 (A_106 hw) T287 ?_
  refine mr_iload_n (pc := 55) (z := z288) dX12_doEvent_55 rfl rfl ?_
  refine mr_iconst (pc := 56) (z := (-1)) dX12_doEvent_56 ?_
  refine ss_159 (pc := 57) dX12_doEvent_57 (A_159 hw) T287 (rIx (n := 400) h290 rfl) (rW (c := (-1)) (d := 2000001000) (rR (x := (-1))) rfl) fun μ351 u352 T353 => ?_
  have I354 : EP μ351 := EP.neg2 (EP.keep hIEP hw ((mF.up (mF.up mF.refl (A_106 hw) u278 rfl) (A_106 hw) u286 rfl) : mF [106071, 106073] w μ μ285) rfl) u352 vc_X12_raise_u_49
  have I355 : EV μ351 := EV.up2 (EV.keep hIEV hw ((mF.up (mF.up mF.refl (A_106 hw) u278 rfl) (A_106 hw) u286 rfl) : mF [106071, 106073] w μ μ285) rfl) u352 (u352.f (Or.inl (mAt.ne (A_159 hw) (A_106 hw) rfl)) (u286.f (Or.inr (by decide)) (u278.f (Or.inr (by decide)) q_f_ties))) (vc_X12_doEvent_u_43 q289 h291 q293 q296 q302 q299 h307 h310 h309 ht_f_ties h350 h290 h294 h297 h300 h303 h308) (vc_X12_doEvent_u_44 q289 h291 q293 q296 q302 q299 h307 h310 h309 ht_f_ties h350 h290 h294 h297 h300 h303 h308)
  refine sv_aload_n (pc := 58) dX12_doEvent_58 rfl rfl ?_
  refine sv_aload_n (pc := 59) dX12_doEvent_59 rfl rfl ?_
  refine gf_X12_7 (pc := 60) dX12_doEvent_60 wF_X12_40 (A_106 hw) T353 ?_
  refine mr_iconst (pc := 63) (z := 2) dX12_doEvent_63 ?_
  refine mr_iload_n (pc := 64) (z := z292) dX12_doEvent_64 rfl rfl ?_
  refine mr_imul (pc := 65) (x := 2) (y := z292) dX12_doEvent_65 ?_
  refine mr_iload (pc := 66) (z := z298) dX12_doEvent_66 rfl ?_
  refine mr_iadd (pc := 68) (x := (2 * z292)) (y := z298) dX12_doEvent_68 ?_
  obtain ⟨z356, q357⟩ : ∃ z, μ351 110 ((2 * z292).toNat) = z := ⟨_, rfl⟩
  have h358 : (0 ≤ z356 ∧ z356 ≤ 9) := by rw [← q357]; exact T353 110 110 (A_110 hw) ((2 * z292).toNat)
  obtain ⟨z359, q360⟩ : ∃ z, μ351 110 (((2 * z292) + 1).toNat) = z := ⟨_, rfl⟩
  have h361 : (0 ≤ z359 ∧ z359 ≤ 9) := by rw [← q360]; exact T353 110 110 (A_110 hw) (((2 * z292) + 1).toNat)
  by_cases h362 : z298 = 0
  · have h363 : 0 ≤ z298 ∧ z298 ≤ 0 := (vc_X12_doEvent_u_45 h362 q299 h297 h300)
    refine lk_110 (pc := 69) dX12_doEvent_69 (A_110 hw) (rIx (n := 40) (rAdd (e := 0) (f := 38) (rMulL (n := 2) (e := 0) (f := 38) h294 rfl) h363 rfl) rfl) (ixE q357 (vc_X12_doEvent_u_46 q293 q299 h362 q289 h291 q296 q302 ht_f_ties h350 h290 h294 h297 h363 h303)) ?_
    refine mr_iload_n (pc := 70) (z := z292) dX12_doEvent_70 rfl rfl ?_
    refine mr_iload (pc := 71) (z := z301) dX12_doEvent_71 rfl ?_
    refine mr_cVV (pc := 73) (c_X12_say_u hw T353 h358 h294 h303 q357 q360 (u352.f (Or.inl (mAt.ne (A_159 hw) (A_106 hw) rfl)) (u286.f (Or.inr (by decide)) (u278.f (Or.inr (by decide)) q_f_ties))) (u352.f (Or.inl (mAt.ne (A_159 hw) (A_106 hw) rfl)) (u286.f (Or.inr (by decide)) (u278.f (Or.inr (by decide)) q_f_pre))) (u352.f (Or.inl (mAt.ne (A_159 hw) (A_112 hw) rfl)) q305) (vc_X12_doEvent_u_47 h291 q293 q289 q296 q302 ht_f_ties h350 h290 h294 h297 h303) (vc_X12_raise_u_10 h358 h361) (vc_X12_doEvent_u_49 q302 h307 q289 h291 q293 q296 h309 ht_f_ties h350 h290 h294 h297 h303 h308) (vc_X12_doEvent_u_50 h307 q302 h309 h290 h303 h308) (JC.keepJ hIJC hw ((mF.up (mF.up (mF.up mF.refl (A_106 hw) u278 rfl) (A_106 hw) u286 rfl) (A_159 hw) u352 rfl) : mF [106071, 106073, 159999] w μ μ351) rfl) (RP.keep hIRP hw ((mF.up (mF.up (mF.up mF.refl (A_106 hw) u278 rfl) (A_106 hw) u286 rfl) (A_159 hw) u352 rfl) : mF [106071, 106073, 159999] w μ μ351) rfl ((mG.upO (mG.upO (mG.upO mG.refl u278 rfl) u286 rfl) u352 rfl) : mG [] μ μ351) (fun _ h => absurd h List.not_mem_nil)) I354 (G1.keep hIG1 hw ((mF.up (mF.up (mF.up mF.refl (A_106 hw) u278 rfl) (A_106 hw) u286 rfl) (A_159 hw) u352 rfl) : mF [106071, 106073, 159999] w μ μ351) rfl rfl ((mG.upO (mG.upO (mG.upO mG.refl u278 rfl) u286 rfl) u352 rfl) : mG [] μ μ351) (fun _ h => absurd h List.not_mem_nil)) I355 (PK.keep hIPK hw ((mF.up (mF.up (mF.up mF.refl (A_106 hw) u278 rfl) (A_106 hw) u286 rfl) (A_159 hw) u352 rfl) : mF [106071, 106073, 159999] w μ μ351) rfl)) (gOk _ _ _ _ _) dX12_doEvent_73 (tX12_say _ _ _ _ _) ⟨wV_X12_say, wL_X12_say⟩ wM_X12_587 (gCX12 _ _ _ _ _) rfl (A_106 hw) rfl ⟨le_t rfl, le_t rfl⟩ ⟨le_t rfl, le_t rfl⟩ rfl (le_t rfl) fun μ364 T365 F366 h367 => ?_
    exact mr_vret dX12_doEvent_76 rfl (le_t rfl) (le_t rfl) T365 (mF.call (mF.up (mF.up (mF.up mF.refl (A_106 hw) u278 rfl) (A_106 hw) u286 rfl) (A_159 hw) u352 rfl) F366 rfl) ⟨h367.2.1, h367.2.2.1, h367.2.2.2.1, (HP.keep hIHP hw ((mF.call (mF.up (mF.up (mF.up mF.refl (A_106 hw) u278 rfl) (A_106 hw) u286 rfl) (A_159 hw) u352 rfl) F366 rfl) : mF [106026, 106027, 106028, 106029, 106030, 106031, 106071, 106072, 106073, 126999, 151999, 152999, 153999, 155999, 156999, 157999, 158999, 159999, 160999] w μ μ364) rfl ((mG.call (mG.upO (mG.upO (mG.upO mG.refl u278 rfl) u286 rfl) u352 rfl) h367.1 (List.forall_mem_cons.mpr ⟨⟨_, List.mem_cons_self, vc_X12_say_u_33⟩, (List.forall_mem_cons.mpr ⟨⟨_, (List.mem_cons_of_mem _ List.mem_cons_self), vc_X12_say_u_34⟩, (fun _ h => absurd h List.not_mem_nil)⟩)⟩)) : mG [(80, 120), (21200, 53200)] μ μ364) (List.forall_mem_cons.mpr ⟨vc_X12_look_u_56, (List.forall_mem_cons.mpr ⟨vc_X12_look_u_55, (fun _ h => absurd h List.not_mem_nil)⟩)⟩)), (UPg.fr hIUP hw T365 rfl ((mF.call (mF.up (mF.up (mF.up mF.refl (A_106 hw) u278 rfl) (A_106 hw) u286 rfl) (A_159 hw) u352 rfl) F366 rfl) : mF [106026, 106027, 106028, 106029, 106030, 106031, 106071, 106072, 106073, 126999, 151999, 152999, 153999, 155999, 156999, 157999, 158999, 159999, 160999] w μ μ364) rfl rfl rfl ((mG.call (mG.upO (mG.upO (mG.upO mG.refl u278 rfl) u286 rfl) u352 rfl) h367.1 (List.forall_mem_cons.mpr ⟨⟨_, List.mem_cons_self, vc_X12_say_u_33⟩, (List.forall_mem_cons.mpr ⟨⟨_, (List.mem_cons_of_mem _ List.mem_cons_self), vc_X12_say_u_34⟩, (fun _ h => absurd h List.not_mem_nil)⟩)⟩)) : mG [(80, 120), (21200, 53200)] μ μ364) (List.forall_mem_cons.mpr ⟨vc_X12_look_u_56, (List.forall_mem_cons.mpr ⟨vc_X12_look_u_55, (fun _ h => absurd h List.not_mem_nil)⟩)⟩)), h367.2.2.2.2.1, h367.2.2.2.2.2.1, trivial⟩
  have h368 : 1 ≤ z298 ∧ z298 ≤ 1 := (vc_X12_doEvent_u_53 h362 q299 h297 h300)
  refine lk_110 (pc := 69) dX12_doEvent_69 (A_110 hw) (rIx (n := 40) (rAdd (e := 1) (f := 39) (rMulL (n := 2) (e := 0) (f := 38) h294 rfl) h368 rfl) rfl) (ixE q360 (vc_X12_doEvent_u_54 q293 q299 h362 q289 h291 q296 q302 ht_f_ties h350 h290 h294 h297 h368 h303)) ?_
  refine mr_iload_n (pc := 70) (z := z292) dX12_doEvent_70 rfl rfl ?_
  refine mr_iload (pc := 71) (z := z301) dX12_doEvent_71 rfl ?_
  refine mr_cVV (pc := 73) (c_X12_say_u hw T353 h361 h294 h303 q357 q360 (u352.f (Or.inl (mAt.ne (A_159 hw) (A_106 hw) rfl)) (u286.f (Or.inr (by decide)) (u278.f (Or.inr (by decide)) q_f_ties))) (u352.f (Or.inl (mAt.ne (A_159 hw) (A_106 hw) rfl)) (u286.f (Or.inr (by decide)) (u278.f (Or.inr (by decide)) q_f_pre))) (u352.f (Or.inl (mAt.ne (A_159 hw) (A_112 hw) rfl)) q305) (vc_X12_doEvent_u_47 h291 q293 q289 q296 q302 ht_f_ties h350 h290 h294 h297 h303) (vc_X12_raise_u_11 h358 h361) (vc_X12_doEvent_u_49 q302 h307 q289 h291 q293 q296 h309 ht_f_ties h350 h290 h294 h297 h303 h308) (vc_X12_doEvent_u_50 h307 q302 h309 h290 h303 h308) (JC.keepJ hIJC hw ((mF.up (mF.up (mF.up mF.refl (A_106 hw) u278 rfl) (A_106 hw) u286 rfl) (A_159 hw) u352 rfl) : mF [106071, 106073, 159999] w μ μ351) rfl) (RP.keep hIRP hw ((mF.up (mF.up (mF.up mF.refl (A_106 hw) u278 rfl) (A_106 hw) u286 rfl) (A_159 hw) u352 rfl) : mF [106071, 106073, 159999] w μ μ351) rfl ((mG.upO (mG.upO (mG.upO mG.refl u278 rfl) u286 rfl) u352 rfl) : mG [] μ μ351) (fun _ h => absurd h List.not_mem_nil)) I354 (G1.keep hIG1 hw ((mF.up (mF.up (mF.up mF.refl (A_106 hw) u278 rfl) (A_106 hw) u286 rfl) (A_159 hw) u352 rfl) : mF [106071, 106073, 159999] w μ μ351) rfl rfl ((mG.upO (mG.upO (mG.upO mG.refl u278 rfl) u286 rfl) u352 rfl) : mG [] μ μ351) (fun _ h => absurd h List.not_mem_nil)) I355 (PK.keep hIPK hw ((mF.up (mF.up (mF.up mF.refl (A_106 hw) u278 rfl) (A_106 hw) u286 rfl) (A_159 hw) u352 rfl) : mF [106071, 106073, 159999] w μ μ351) rfl)) (gOk _ _ _ _ _) dX12_doEvent_73 (tX12_say _ _ _ _ _) ⟨wV_X12_say, wL_X12_say⟩ wM_X12_587 (gCX12 _ _ _ _ _) rfl (A_106 hw) rfl ⟨le_t rfl, le_t rfl⟩ ⟨le_t rfl, le_t rfl⟩ rfl (le_t rfl) fun μ369 T370 F371 h372 => ?_
  exact mr_vret dX12_doEvent_76 rfl (le_t rfl) (le_t rfl) T370 (mF.call (mF.up (mF.up (mF.up mF.refl (A_106 hw) u278 rfl) (A_106 hw) u286 rfl) (A_159 hw) u352 rfl) F371 rfl) ⟨h372.2.1, h372.2.2.1, h372.2.2.2.1, (HP.keep hIHP hw ((mF.call (mF.up (mF.up (mF.up mF.refl (A_106 hw) u278 rfl) (A_106 hw) u286 rfl) (A_159 hw) u352 rfl) F371 rfl) : mF [106026, 106027, 106028, 106029, 106030, 106031, 106071, 106072, 106073, 126999, 151999, 152999, 153999, 155999, 156999, 157999, 158999, 159999, 160999] w μ μ369) rfl ((mG.call (mG.upO (mG.upO (mG.upO mG.refl u278 rfl) u286 rfl) u352 rfl) h372.1 (List.forall_mem_cons.mpr ⟨⟨_, List.mem_cons_self, vc_X12_say_u_33⟩, (List.forall_mem_cons.mpr ⟨⟨_, (List.mem_cons_of_mem _ List.mem_cons_self), vc_X12_say_u_34⟩, (fun _ h => absurd h List.not_mem_nil)⟩)⟩)) : mG [(80, 120), (21200, 53200)] μ μ369) (List.forall_mem_cons.mpr ⟨vc_X12_look_u_56, (List.forall_mem_cons.mpr ⟨vc_X12_look_u_55, (fun _ h => absurd h List.not_mem_nil)⟩)⟩)), (UPg.fr hIUP hw T370 rfl ((mF.call (mF.up (mF.up (mF.up mF.refl (A_106 hw) u278 rfl) (A_106 hw) u286 rfl) (A_159 hw) u352 rfl) F371 rfl) : mF [106026, 106027, 106028, 106029, 106030, 106031, 106071, 106072, 106073, 126999, 151999, 152999, 153999, 155999, 156999, 157999, 158999, 159999, 160999] w μ μ369) rfl rfl rfl ((mG.call (mG.upO (mG.upO (mG.upO mG.refl u278 rfl) u286 rfl) u352 rfl) h372.1 (List.forall_mem_cons.mpr ⟨⟨_, List.mem_cons_self, vc_X12_say_u_33⟩, (List.forall_mem_cons.mpr ⟨⟨_, (List.mem_cons_of_mem _ List.mem_cons_self), vc_X12_say_u_34⟩, (fun _ h => absurd h List.not_mem_nil)⟩)⟩)) : mG [(80, 120), (21200, 53200)] μ μ369) (List.forall_mem_cons.mpr ⟨vc_X12_look_u_56, (List.forall_mem_cons.mpr ⟨vc_X12_look_u_55, (fun _ h => absurd h List.not_mem_nil)⟩)⟩)), h372.2.2.2.2.1, h372.2.2.2.2.2.1, trivial⟩
theorem vc_X12_go_u_1 {p1 z5 : Int} (h0 : ¬ z5 = 0) (h1 : (z5 = 1 → (1 : Int) ≤ p1 ∧ p1 ≤ (500 : Int))) (h2 : (z5 = 0 → p1 < (1 : Int) ∨ (500 : Int) < p1)) (h3 : (-2147483648) ≤ p1 ∧ p1 ≤ 2147483647) (h4 : 0 ≤ z5 ∧ z5 ≤ 1) : 1 ≤ z5 ∧ z5 ≤ 1 := by omega
theorem vc_X12_go_u_2 {p1 z5 : Int} (h0 : (z5 = 1 → (1 : Int) ≤ p1 ∧ p1 ≤ (500 : Int))) (h1 : (z5 = 0 → p1 < (1 : Int) ∨ (500 : Int) < p1)) (h2 : ¬ z5 = 0) (h3 : (-2147483648) ≤ p1 ∧ p1 ≤ 2147483647) (h4 : 1 ≤ z5 ∧ z5 ≤ 1) : z5 = 1 := by omega
theorem vc_X12_go_u_3 {p1 z5 : Int} (h0 : (1 : Int) ≤ p1 ∧ p1 ≤ (500 : Int)) (h1 : (z5 = 1 → (1 : Int) ≤ p1 ∧ p1 ≤ (500 : Int))) (h2 : (z5 = 0 → p1 < (1 : Int) ∨ (500 : Int) < p1)) (h3 : (-2147483648) ≤ p1 ∧ p1 ≤ 2147483647) (h4 : 1 ≤ z5 ∧ z5 ≤ 1) : 1 ≤ p1 ∧ p1 ≤ 500 := by omega
theorem vc_X12_go_u_5 {p1 z332 z5 : Int} (h0 : p1 ≤ z332) (h1 : (z5 = 1 → (1 : Int) ≤ p1 ∧ p1 ≤ (500 : Int))) (h2 : (z5 = 0 → p1 < (1 : Int) ∨ (500 : Int) < p1)) (h3 : (1 : Int) ≤ p1 ∧ p1 ≤ (500 : Int)) (h4 : 1 ≤ p1 ∧ p1 ≤ 500) (h5 : 0 ≤ z332 ∧ z332 ≤ 500) (h6 : 1 ≤ z5 ∧ z5 ≤ 1) : 1 ≤ z332 ∧ z332 ≤ 500 := by omega
theorem vc_X12_go_u_6 {p1 z332 z5 : Int} (h0 : z332 < p1) (h1 : (z5 = 1 → (1 : Int) ≤ p1 ∧ p1 ≤ (500 : Int))) (h2 : (z5 = 0 → p1 < (1 : Int) ∨ (500 : Int) < p1)) (h3 : (1 : Int) ≤ p1 ∧ p1 ≤ (500 : Int)) (h4 : 1 ≤ p1 ∧ p1 ≤ 500) (h5 : 0 ≤ z332 ∧ z332 ≤ 500) (h6 : 1 ≤ z5 ∧ z5 ≤ 1) : 0 ≤ z332 ∧ z332 ≤ 499 := by omega
theorem vc_X12_go_u_7 {z381 : Int} (h0 : z381 = (-99999999)) (h1 : z381 = -99999999 ∨ (0 ≤ z381 ∧ z381 ≤ 799)) (h2 : (-99999999) ≤ z381 ∧ z381 ≤ 799) : (-99999999) ≤ z381 ∧ z381 ≤ (-99999999) := by omega
theorem vc_X12_go_u_8 {z381 : Int} (h0 : ¬ z381 = (-99999999)) (h1 : z381 = -99999999 ∨ (0 ≤ z381 ∧ z381 ≤ 799)) (h2 : (-99999999) ≤ z381 ∧ z381 ≤ 799) : 0 ≤ z381 ∧ z381 ≤ 799 := by omega
theorem vc_X12_go_u_9 {z381 z407 : Int} (h0 : z407 = z381) (h1 : z381 = -99999999 ∨ (0 ≤ z381 ∧ z381 ≤ 799)) (h2 : ¬ z381 = (-99999999)) (h3 : 0 ≤ z381 ∧ z381 ≤ 799) (h4 : (-99999999) ≤ z407 ∧ z407 ≤ 799) : 0 ≤ z407 ∧ z407 ≤ 799 := by omega
theorem vc_X12_go_u_10 {z381 z407 : Int} (h0 : z381 = -99999999 ∨ (0 ≤ z381 ∧ z381 ≤ 799)) (h1 : ¬ z381 = (-99999999)) (h2 : z407 = z381) (h3 : 0 ≤ z381 ∧ z381 ≤ 799) (h4 : 0 ≤ z407 ∧ z407 ≤ 799) : z407 = z381 := by omega
theorem vc_X12_go_u_11 {z381 z407 : Int} (h0 : z407 = z381) (h1 : z381 = -99999999 ∨ (0 ≤ z381 ∧ z381 ≤ 799)) (h2 : ¬ z381 = (-99999999)) (h3 : 0 ≤ z381 ∧ z381 ≤ 799) (h4 : 0 ≤ z407 ∧ z407 ≤ 799) : ¬ z407 = -99999999 := by omega
theorem vc_X12_go_u_12 {N p1 z332 z5 : Int} (h0 : (501 - z332) < N + 1) (h1 : z332 < p1) (h2 : (z5 = 1 → (1 : Int) ≤ p1 ∧ p1 ≤ (500 : Int))) (h3 : (z5 = 0 → p1 < (1 : Int) ∨ (500 : Int) < p1)) (h4 : (1 : Int) ≤ p1 ∧ p1 ≤ (500 : Int)) (h5 : 1 ≤ p1 ∧ p1 ≤ 500) (h6 : 0 ≤ z332 ∧ z332 ≤ 499) (h7 : 1 ≤ z5 ∧ z5 ≤ 1) : (501 - (z332 + 1)) < N := by omega
theorem vc_X12_go_u_14 {p1 z5 : Int} (h0 : z5 = 0) (h1 : (z5 = 1 → (1 : Int) ≤ p1 ∧ p1 ≤ (500 : Int))) (h2 : (z5 = 0 → p1 < (1 : Int) ∨ (500 : Int) < p1)) (h3 : (-2147483648) ≤ p1 ∧ p1 ≤ 2147483647) (h4 : 0 ≤ z5 ∧ z5 ≤ 1) : 0 ≤ z5 ∧ z5 ≤ 0 := by omega
theorem vc_X12_go_u_15 {p1 z5 : Int} (h0 : (z5 = 1 → (1 : Int) ≤ p1 ∧ p1 ≤ (500 : Int))) (h1 : (z5 = 0 → p1 < (1 : Int) ∨ (500 : Int) < p1)) (h2 : z5 = 0) (h3 : (-2147483648) ≤ p1 ∧ p1 ≤ 2147483647) (h4 : 0 ≤ z5 ∧ z5 ≤ 0) : z5 = 0 := by omega
set_option maxRecDepth 4000 in
set_option maxHeartbeats 4000000 in
theorem c_X12_go_u {l : Launch} {D : va_G} {c : Nat → ClassId} {H0 : Heap} {sa : Nat × Nat × (Nat → Int32)} {w : mW} {μ : mM} (hw : mWF w) (hT : mT w μ) {p1 : Int} (hp1 : (-2147483648) ≤ p1 ∧ p1 ≤ 2147483647) (hIJC : JC l D c H0 sa μ) (hIRP : RP μ) (hIEP : EP μ) (hIHP : HP μ) (hIUP : UP l D c H0 sa μ) (hIG1 : G1 μ) (hIEV : EV μ) (hIPK : PK μ) : sC (gG l D c H0 sa) mX12_go 12 0 0 [.ref 106, iv p1] (mk w μ) (qI w [106026, 106027, 106028, 106029, 106030, 106031, 106071, 106072, 106073, 126999, 151999, 152999, 153999, 154999, 155999, 156999, 157999, 158999, 159999, 160999, 161999, 165999] μ (fun z μ1 => ((-2147483648) ≤ z ∧ z ≤ 2147483647) ∧ JC l D c H0 sa μ1 ∧ RP μ1 ∧ EP μ1 ∧ HP μ1 ∧ UP l D c H0 sa μ1 ∧ G1 μ1 ∧ EV μ1 ∧ True)) := by
  refine sC.of rfl (by decide) (le_t rfl) ?_
  refine mr_lvE (lv' := [(0, .ref 106), (1, iv p1)]) rfl ?_
  refine mr_iload_n (pc := 0) (z := p1) dX12_go_0 rfl rfl ?_
  refine mr_iconst (pc := 1) (z := 1) dX12_go_1 ?_
  refine mr_sipush (pc := 2) (z := 500) dX12_go_2 (by decide) ?_
  refine mr_cSP (pc := 5) (c_X12_in hw hT hp1 (rW (c := (-2147483648)) (d := 2147483647) (rR (x := 1)) rfl) (rW (c := (-2147483648)) (d := 2147483647) (rR (x := 500)) rfl)) (gOk _ _ _ _ _) dX12_go_5 (tX12_in _ _ _ _ _) wS_X12_in wM_X12_18 ⟨le_t rfl, le_t rfl⟩ ⟨le_t rfl, le_t rfl⟩ rfl (le_t rfl) fun z5 h4 => ?_
  refine mr_if_ne (pc := 8) (tgt := 13) dX12_go_8 (by decide) (r32 h4.1 rfl) (fun h6 => ?_) (fun h6 => ?_)
  · have h7 : 1 ≤ z5 ∧ z5 ≤ 1 := (vc_X12_go_u_1 h6 h4.2.1 h4.2.2.1 hp1 h4.1)
    have h8 : (1 : Int) ≤ p1 ∧ p1 ≤ (500 : Int) := (h4.2.1 (vc_X12_go_u_2 h4.2.1 h4.2.2.1 h6 hp1 h7))
    have h9 : 1 ≤ p1 ∧ p1 ≤ 500 := (vc_X12_go_u_3 h8 h4.2.1 h4.2.2.1 hp1 h7)
    refine mr_iconst (pc := 13) (z := 0) dX12_go_13 ?_
    refine mr_istore_n (pc := 14) (lv' := [(2, iv 0), (0, .ref 106), (1, iv p1)]) dX12_go_14 rfl (by decide) rfl ?_
    have L334 : ∀ (nL334 : Nat) (z332 : Int) (μ333 : mM), mT w μ333 → mF [106026, 106027, 106028, 106029, 106030, 106031, 106071, 106072, 106073, 126999, 151999, 152999, 153999, 154999, 155999, 156999, 157999, 158999, 159999, 160999, 161999, 165999] w μ μ333 → (0 ≤ z332 ∧ z332 ≤ 500) → JC l D c H0 sa μ333 → RP μ333 → EP μ333 → HP μ333 → UP l D c H0 sa μ333 → G1 μ333 → EV μ333 → PK μ333 → (501 - z332) < (nL334 : Int) → sV (gG l D c H0 sa) mX12_go (sRm 12 0 0) (sZ (gG l D c H0 sa) 0 0 (qI w [106026, 106027, 106028, 106029, 106030, 106031, 106071, 106072, 106073, 126999, 151999, 152999, 153999, 154999, 155999, 156999, 157999, 158999, 159999, 160999, 161999, 165999] μ (fun z μ1 => ((-2147483648) ≤ z ∧ z ≤ 2147483647) ∧ JC l D c H0 sa μ1 ∧ RP μ1 ∧ EP μ1 ∧ HP μ1 ∧ UP l D c H0 sa μ1 ∧ G1 μ1 ∧ EV μ1 ∧ True))) 15 [(0, .ref 106), (1, iv p1), (2, iv z332)] [] (mk w μ333) 0 0 := by
      intro nL334
      induction nL334 with
      | zero => intro z332 μ333 T336 F337 h335 I339 I340 I341 I342 I343 I344 I345 I346 h347; exact ((vc_X11_go_4 h347 h335)).elim
      | succ nL334 ih348 =>
        intro z332 μ333 T336 F337 h335 I339 I340 I341 I342 I343 I344 I345 I346 h347
        refine mr_iload_n (pc := 15) (z := z332) dX12_go_15 rfl rfl ?_
        refine mr_iload_n (pc := 16) (z := p1) dX12_go_16 rfl rfl ?_
        refine mr_icmp_ge (pc := 17) (tgt := 43) dX12_go_17 (by decide) (r32 h335 rfl) (r32 h9 rfl) (fun h374 => ?_) (fun h374 => ?_)
        · have h375 : 1 ≤ z332 ∧ z332 ≤ 500 := (vc_X12_go_u_5 h374 h4.2.1 h4.2.2.1 h8 h9 h335 h7)
          refine mr_iload_n (pc := 43) (z := z332) dX12_go_43 rfl rfl ?_
          exact mr_iret dX12_go_44 rfl (le_t rfl) (le_t rfl) T336 (mF.call mF.refl F337 rfl) ⟨(rW (c := (-2147483648)) (d := 2147483647) h375 rfl), I339, I340, I341, I342, I343, I344, I345, trivial⟩
        have h376 : 0 ≤ z332 ∧ z332 ≤ 499 := (vc_X12_go_u_6 h374 h4.2.1 h4.2.2.1 h8 h9 h335 h7)
        refine sv_aload_n (pc := 20) dX12_go_20 rfl rfl ?_
        refine mr_cVP (pc := 21) (c_X12_nextEvent_ev hw T336) (gOk _ _ _ _ _) dX12_go_21 (tX12_nextEvent _ _ _ _ _) ⟨wV_X12_nextEvent, wL_X12_nextEvent⟩ wM_X12_613 (gCX12 _ _ _ _ _) rfl (A_106 hw) rfl ⟨le_t rfl, le_t rfl⟩ ⟨le_t rfl, le_t rfl⟩ rfl (le_t rfl) fun z381 h380 => ?_
        refine mr_ldc (pc := 24) (z := (-99999999)) dX12_go_24 wG_X12_29 (by decide) ?_
        refine mr_icmp_eq (pc := 26) (tgt := 43) dX12_go_26 (by decide) (r32 h380.1 rfl) (r32 (rR (x := (-99999999))) rfl) (fun h400 => ?_) (fun h400 => ?_)
        · have h401 : (-99999999) ≤ z381 ∧ z381 ≤ (-99999999) := (vc_X12_go_u_7 h400 h380.2.2.1 h380.1)
          refine mr_iload_n (pc := 43) (z := z332) dX12_go_43 rfl rfl ?_
          exact mr_iret dX12_go_44 rfl (le_t rfl) (le_t rfl) T336 (mF.call mF.refl F337 rfl) ⟨(rW (c := (-2147483648)) (d := 2147483647) h376 rfl), I339, I340, I341, I342, I343, I344, I345, trivial⟩
        have h402 : 0 ≤ z381 ∧ z381 ≤ 799 := (vc_X12_go_u_8 h400 h380.2.2.1 h380.1)
        refine sv_aload_n (pc := 29) dX12_go_29 rfl rfl ?_
        refine sv_aload_n (pc := 30) dX12_go_30 rfl rfl ?_
        refine mr_cVP (pc := 31) (c_X12_nextEvent_ev hw T336) (gOk _ _ _ _ _) dX12_go_31 (tX12_nextEvent _ _ _ _ _) ⟨wV_X12_nextEvent, wL_X12_nextEvent⟩ wM_X12_613 (gCX12 _ _ _ _ _) rfl (A_106 hw) rfl ⟨le_t rfl, le_t rfl⟩ ⟨le_t rfl, le_t rfl⟩ rfl (le_t rfl) fun z407 h406 => ?_
        have h408 : 0 ≤ z407 ∧ z407 ≤ 799 := (vc_X12_go_u_9 (h406.2.1.trans h380.2.1.symm) h380.2.2.1 h400 h402 h406.1)
        obtain ⟨z409, q410⟩ : ∃ z, μ333 106 6 = z := ⟨_, rfl⟩
        have h411 : (0 ≤ z409 ∧ z409 ≤ 20) := by rw [← q410]; exact T336 106 106 (A_106 hw) 6
        obtain ⟨z412, q413⟩ : ∃ z, μ333 106 2 = z := ⟨_, rfl⟩
        have h414 : (0 ≤ z412 ∧ z412 ≤ 10) := by rw [← q413]; exact T336 106 106 (A_106 hw) 2
        refine mr_cVV (pc := 34) (c_X12_doEvent_u hw T336 h408 q410 q413 I339 I340 I341 I342 I343 I344 I345 I346 (nev.ok h380.2.1.symm (vc_X12_go_u_10 h380.2.2.1 h400 (h406.2.1.trans h380.2.1.symm) h402 h408) (vc_X12_go_u_11 (h406.2.1.trans h380.2.1.symm) h380.2.2.1 h400 h402 h408))) (gOk _ _ _ _ _) dX12_go_34 (tX12_doEvent _ _ _ _ _) ⟨wV_X12_doEvent, wL_X12_doEvent⟩ wM_X12_616 (gCX12 _ _ _ _ _) rfl (A_106 hw) rfl ⟨le_t rfl, le_t rfl⟩ ⟨le_t rfl, le_t rfl⟩ rfl (le_t rfl) fun μ415 T416 F417 h418 => ?_
        refine mr_iinc (pc := 37) (lv' := [(2, iv (z332 + 1)), (0, .ref 106), (1, iv p1)]) dX12_go_37 rfl (by decide) rfl ?_
        refine sv_goto (pc := 40) (tgt := 15) dX12_go_40 (by decide) ?_
        refine mr_lvS (lv' := [(0, .ref 106), (1, iv p1), (2, iv (z332 + 1))]) (List.forall_mem_cons.mpr ⟨rfl, List.forall_mem_cons.mpr ⟨rfl, List.forall_mem_cons.mpr ⟨rfl, fun _ h => absurd h List.not_mem_nil⟩⟩⟩) ?_
        exact ih348 (z332 + 1) μ415 T416 (mF.call (mF.call mF.refl F337 rfl) F417 rfl) (rW (c := 0) (d := 500) (rAdd (e := 1) (f := 500) h376 (rR (x := 1)) rfl) rfl) h418.1 h418.2.1 h418.2.2.1 h418.2.2.2.1 h418.2.2.2.2.1 h418.2.2.2.2.2.1 h418.2.2.2.2.2.2.1 (PK.keep I346 hw ((mF.call mF.refl F417 rfl) : mF [106026, 106027, 106028, 106029, 106030, 106031, 106071, 106072, 106073, 126999, 151999, 152999, 153999, 154999, 155999, 156999, 157999, 158999, 159999, 160999, 161999, 165999] w μ333 μ415) rfl) (vc_X12_go_u_12 (nS h347) h374 h4.2.1 h4.2.2.1 h8 h9 h376 h7)
    refine mr_lvS (lv' := [(0, .ref 106), (1, iv p1), (2, iv 0)]) (List.forall_mem_cons.mpr ⟨rfl, List.forall_mem_cons.mpr ⟨rfl, List.forall_mem_cons.mpr ⟨rfl, fun _ h => absurd h List.not_mem_nil⟩⟩⟩) ?_
    exact L334 502 0 μ hT mF.refl (rW (c := 0) (d := 500) (rR (x := 0)) rfl) hIJC hIRP hIEP hIHP hIUP hIG1 hIEV hIPK vc_X11_go_10
  have h419 : 0 ≤ z5 ∧ z5 ≤ 0 := (vc_X12_go_u_14 h6 h4.2.1 h4.2.2.1 hp1 h4.1)
  have h420 : p1 < (1 : Int) ∨ (500 : Int) < p1 := (h4.2.2.1 (vc_X12_go_u_15 h4.2.1 h4.2.2.1 h6 hp1 h419))
  refine mr_iconst (pc := 11) (z := (-1)) dX12_go_11 ?_
  exact mr_iret dX12_go_12 rfl (le_t rfl) (le_t rfl) hT mF.refl ⟨(rW (c := (-2147483648)) (d := 2147483647) (rR (x := (-1))) rfl), hIJC, hIRP, hIEP, hIHP, hIUP, hIG1, hIEV, trivial⟩
