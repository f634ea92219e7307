theorem vc_X12_go_1 {p1 z5 : Int} (h0 : ¬ z5 = 0) (h1 : (z5 = 1 → (1 : Int) ≤ p1 ∧ p1 ≤ (500 : Int))) (h2 : (z5 = 0 → p1 < (1 : Int) ∨ (500 : Int) < p1)) (h3 : (-2147483648) ≤ p1 ∧ p1 ≤ 2147483647) (h4 : 0 ≤ z5 ∧ z5 ≤ 1) : 1 ≤ z5 ∧ z5 ≤ 1 := by omega
theorem vc_X12_go_2 {p1 z5 : Int} (h0 : (z5 = 1 → (1 : Int) ≤ p1 ∧ p1 ≤ (500 : Int))) (h1 : (z5 = 0 → p1 < (1 : Int) ∨ (500 : Int) < p1)) (h2 : ¬ z5 = 0) (h3 : (-2147483648) ≤ p1 ∧ p1 ≤ 2147483647) (h4 : 1 ≤ z5 ∧ z5 ≤ 1) : z5 = 1 := by omega
theorem vc_X12_go_3 {p1 z5 : Int} (h0 : (1 : Int) ≤ p1 ∧ p1 ≤ (500 : Int)) (h1 : (z5 = 1 → (1 : Int) ≤ p1 ∧ p1 ≤ (500 : Int))) (h2 : (z5 = 0 → p1 < (1 : Int) ∨ (500 : Int) < p1)) (h3 : (-2147483648) ≤ p1 ∧ p1 ≤ 2147483647) (h4 : 1 ≤ z5 ∧ z5 ≤ 1) : 1 ≤ p1 ∧ p1 ≤ 500 := by omega
theorem vc_X12_go_4 {z296 : Int} (h0 : (501 - z296) < ((0 : Nat) : Int)) (h1 : 0 ≤ z296 ∧ z296 ≤ 500) : False := by omega
theorem vc_X12_go_5 {p1 z296 z5 : Int} (h0 : p1 ≤ z296) (h1 : (z5 = 1 → (1 : Int) ≤ p1 ∧ p1 ≤ (500 : Int))) (h2 : (z5 = 0 → p1 < (1 : Int) ∨ (500 : Int) < p1)) (h3 : (1 : Int) ≤ p1 ∧ p1 ≤ (500 : Int)) (h4 : 1 ≤ p1 ∧ p1 ≤ 500) (h5 : 0 ≤ z296 ∧ z296 ≤ 500) (h6 : 1 ≤ z5 ∧ z5 ≤ 1) : 1 ≤ z296 ∧ z296 ≤ 500 := by omega
theorem vc_X12_go_6 {p1 z296 z5 : Int} (h0 : z296 < p1) (h1 : (z5 = 1 → (1 : Int) ≤ p1 ∧ p1 ≤ (500 : Int))) (h2 : (z5 = 0 → p1 < (1 : Int) ∨ (500 : Int) < p1)) (h3 : (1 : Int) ≤ p1 ∧ p1 ≤ (500 : Int)) (h4 : 1 ≤ p1 ∧ p1 ≤ 500) (h5 : 0 ≤ z296 ∧ z296 ≤ 500) (h6 : 1 ≤ z5 ∧ z5 ≤ 1) : 0 ≤ z296 ∧ z296 ≤ 499 := by omega
theorem vc_X12_go_7 {z337 : Int} (h0 : z337 = (-99999999)) (h1 : z337 = -99999999 ∨ (0 ≤ z337 ∧ z337 ≤ 799)) (h2 : (-99999999) ≤ z337 ∧ z337 ≤ 799) : (-99999999) ≤ z337 ∧ z337 ≤ (-99999999) := by omega
theorem vc_X12_go_8 {z337 : Int} (h0 : ¬ z337 = (-99999999)) (h1 : z337 = -99999999 ∨ (0 ≤ z337 ∧ z337 ≤ 799)) (h2 : (-99999999) ≤ z337 ∧ z337 ≤ 799) : 0 ≤ z337 ∧ z337 ≤ 799 := by omega
theorem vc_X12_go_9 {z337 z360 : Int} (h0 : z360 = z337) (h1 : z337 = -99999999 ∨ (0 ≤ z337 ∧ z337 ≤ 799)) (h2 : ¬ z337 = (-99999999)) (h3 : 0 ≤ z337 ∧ z337 ≤ 799) (h4 : (-99999999) ≤ z360 ∧ z360 ≤ 799) : 0 ≤ z360 ∧ z360 ≤ 799 := by omega
theorem vc_X12_go_10 {z337 z360 : Int} (h0 : z337 = -99999999 ∨ (0 ≤ z337 ∧ z337 ≤ 799)) (h1 : ¬ z337 = (-99999999)) (h2 : z360 = z337) (h3 : 0 ≤ z337 ∧ z337 ≤ 799) (h4 : 0 ≤ z360 ∧ z360 ≤ 799) : z360 = z337 := by omega
theorem vc_X12_go_11 {z337 z360 : Int} (h0 : z360 = z337) (h1 : z337 = -99999999 ∨ (0 ≤ z337 ∧ z337 ≤ 799)) (h2 : ¬ z337 = (-99999999)) (h3 : 0 ≤ z337 ∧ z337 ≤ 799) (h4 : 0 ≤ z360 ∧ z360 ≤ 799) : ¬ z360 = -99999999 := by omega
theorem vc_X12_go_12 {N p1 z296 z5 : Int} (h0 : (501 - z296) < N + 1) (h1 : z296 < p1) (h2 : (z5 = 1 → (1 : Int) ≤ p1 ∧ p1 ≤ (500 : Int))) (h3 : (z5 = 0 → p1 < (1 : Int) ∨ (500 : Int) < p1)) (h4 : (1 : Int) ≤ p1 ∧ p1 ≤ (500 : Int)) (h5 : 1 ≤ p1 ∧ p1 ≤ 500) (h6 : 0 ≤ z296 ∧ z296 ≤ 499) (h7 : 1 ≤ z5 ∧ z5 ≤ 1) : (501 - (z296 + 1)) < N := by omega
theorem vc_X12_go_13  : (501 - 0) < ((502 : Nat) : Int) := by omega
theorem vc_X12_go_14 {p1 z5 : Int} (h0 : z5 = 0) (h1 : (z5 = 1 → (1 : Int) ≤ p1 ∧ p1 ≤ (500 : Int))) (h2 : (z5 = 0 → p1 < (1 : Int) ∨ (500 : Int) < p1)) (h3 : (-2147483648) ≤ p1 ∧ p1 ≤ 2147483647) (h4 : 0 ≤ z5 ∧ z5 ≤ 1) : 0 ≤ z5 ∧ z5 ≤ 0 := by omega
theorem vc_X12_go_15 {p1 z5 : Int} (h0 : (z5 = 1 → (1 : Int) ≤ p1 ∧ p1 ≤ (500 : Int))) (h1 : (z5 = 0 → p1 < (1 : Int) ∨ (500 : Int) < p1)) (h2 : z5 = 0) (h3 : (-2147483648) ≤ p1 ∧ p1 ≤ 2147483647) (h4 : 0 ≤ z5 ∧ z5 ≤ 0) : z5 = 0 := by omega
set_option maxRecDepth 4000 in
set_option maxHeartbeats 4000000 in
theorem c_X12_go {l : Launch} {D : va_G} {c : Nat → ClassId} {H0 : Heap} {sa : Nat × Nat × (Nat → Int32)} {w : mW} {μ : mM} (hw : mWF w) (hT : mT w μ) {p1 : Int} (hp1 : (-2147483648) ≤ p1 ∧ p1 ≤ 2147483647) (hIG1 : G1 μ) (hIEV : EV μ) (hIPK : PK μ) : sC (gG l D c H0 sa) mX12_go 12 0 0 [.ref 106, iv p1] (mk w μ) (qI w [106026, 106027, 106028, 106029, 106030, 106031, 106071, 106072, 106073, 126999, 151999, 152999, 153999, 154999, 155999, 156999, 157999, 158999, 159999, 160999, 161999, 165999] μ (fun z μ1 => ((-2147483648) ≤ z ∧ z ≤ 2147483647) ∧ G1 μ1 ∧ EV μ1 ∧ True)) := by
  refine sC.of rfl (by decide) (le_t rfl) ?_
  refine mr_lvE (lv' := [(0, .ref 106), (1, iv p1)]) rfl ?_
  refine mr_iload_n (pc := 0) (z := p1) dX12_go_0 rfl rfl ?_
  refine mr_iconst (pc := 1) (z := 1) dX12_go_1 ?_
  refine mr_sipush (pc := 2) (z := 500) dX12_go_2 (by decide) ?_
  refine mr_cSP (pc := 5) (c_X12_in hw hT hp1 (rW (c := (-2147483648)) (d := 2147483647) (rR (x := 1)) rfl) (rW (c := (-2147483648)) (d := 2147483647) (rR (x := 500)) rfl)) (gOk _ _ _ _ _) dX12_go_5 (tX12_in _ _ _ _ _) wS_X12_in wM_X12_18 ⟨le_t rfl, le_t rfl⟩ ⟨le_t rfl, le_t rfl⟩ rfl (le_t rfl) fun z5 h4 => ?_
  refine mr_if_ne (pc := 8) (tgt := 13) dX12_go_8 (by decide) (r32 h4.1 rfl) (fun h6 => ?_) (fun h6 => ?_)
  · have h7 : 1 ≤ z5 ∧ z5 ≤ 1 := (vc_X12_go_1 h6 h4.2.1 h4.2.2.1 hp1 h4.1)
    have h8 : (1 : Int) ≤ p1 ∧ p1 ≤ (500 : Int) := (h4.2.1 (vc_X12_go_2 h4.2.1 h4.2.2.1 h6 hp1 h7))
    have h9 : 1 ≤ p1 ∧ p1 ≤ 500 := (vc_X12_go_3 h8 h4.2.1 h4.2.2.1 hp1 h7)
    refine mr_iconst (pc := 13) (z := 0) dX12_go_13 ?_
    refine mr_istore_n (pc := 14) (lv' := [(2, iv 0), (0, .ref 106), (1, iv p1)]) dX12_go_14 rfl (by decide) rfl ?_
    have L298 : ∀ (nL298 : Nat) (z296 : Int) (μ297 : mM), mT w μ297 → mF [106026, 106027, 106028, 106029, 106030, 106031, 106071, 106072, 106073, 126999, 151999, 152999, 153999, 154999, 155999, 156999, 157999, 158999, 159999, 160999, 161999, 165999] w μ μ297 → (0 ≤ z296 ∧ z296 ≤ 500) → G1 μ297 → EV μ297 → PK μ297 → (501 - z296) < (nL298 : Int) → sV (gG l D c H0 sa) mX12_go (sRm 12 0 0) (sZ (gG l D c H0 sa) 0 0 (qI w [106026, 106027, 106028, 106029, 106030, 106031, 106071, 106072, 106073, 126999, 151999, 152999, 153999, 154999, 155999, 156999, 157999, 158999, 159999, 160999, 161999, 165999] μ (fun z μ1 => ((-2147483648) ≤ z ∧ z ≤ 2147483647) ∧ G1 μ1 ∧ EV μ1 ∧ True))) 15 [(0, .ref 106), (1, iv p1), (2, iv z296)] [] (mk w μ297) 0 0 := by
      intro nL298
      induction nL298 with
      | zero => intro z296 μ297 T300 F301 h299 I303 I304 I305 h306; exact ((vc_X12_go_4 h306 h299)).elim
      | succ nL298 ih307 =>
        intro z296 μ297 T300 F301 h299 I303 I304 I305 h306
        refine mr_iload_n (pc := 15) (z := z296) dX12_go_15 rfl rfl ?_
        refine mr_iload_n (pc := 16) (z := p1) dX12_go_16 rfl rfl ?_
        refine mr_icmp_ge (pc := 17) (tgt := 43) dX12_go_17 (by decide) (r32 h299 rfl) (r32 h9 rfl) (fun h330 => ?_) (fun h330 => ?_)
        · have h331 : 1 ≤ z296 ∧ z296 ≤ 500 := (vc_X12_go_5 h330 h4.2.1 h4.2.2.1 h8 h9 h299 h7)
          refine mr_iload_n (pc := 43) (z := z296) dX12_go_43 rfl rfl ?_
          exact mr_iret dX12_go_44 rfl (le_t rfl) (le_t rfl) T300 (mF.call mF.refl F301 rfl) ⟨(rW (c := (-2147483648)) (d := 2147483647) h331 rfl), I303, I304, trivial⟩
        have h332 : 0 ≤ z296 ∧ z296 ≤ 499 := (vc_X12_go_6 h330 h4.2.1 h4.2.2.1 h8 h9 h299 h7)
        refine sv_aload_n (pc := 20) dX12_go_20 rfl rfl ?_
        refine mr_cVP (pc := 21) (c_X12_nextEvent_ev hw T300) (gOk _ _ _ _ _) dX12_go_21 (tX12_nextEvent _ _ _ _ _) ⟨wV_X12_nextEvent, wL_X12_nextEvent⟩ wM_X12_613 (gCX12 _ _ _ _ _) rfl (A_106 hw) rfl ⟨le_t rfl, le_t rfl⟩ ⟨le_t rfl, le_t rfl⟩ rfl (le_t rfl) fun z337 h336 => ?_
        refine mr_ldc (pc := 24) (z := (-99999999)) dX12_go_24 wG_X12_29 (by decide) ?_
        refine mr_icmp_eq (pc := 26) (tgt := 43) dX12_go_26 (by decide) (r32 h336.1 rfl) (r32 (rR (x := (-99999999))) rfl) (fun h353 => ?_) (fun h353 => ?_)
        · have h354 : (-99999999) ≤ z337 ∧ z337 ≤ (-99999999) := (vc_X12_go_7 h353 h336.2.2.1 h336.1)
          refine mr_iload_n (pc := 43) (z := z296) dX12_go_43 rfl rfl ?_
          exact mr_iret dX12_go_44 rfl (le_t rfl) (le_t rfl) T300 (mF.call mF.refl F301 rfl) ⟨(rW (c := (-2147483648)) (d := 2147483647) h332 rfl), I303, I304, trivial⟩
        have h355 : 0 ≤ z337 ∧ z337 ≤ 799 := (vc_X12_go_8 h353 h336.2.2.1 h336.1)
        refine sv_aload_n (pc := 29) dX12_go_29 rfl rfl ?_
        refine sv_aload_n (pc := 30) dX12_go_30 rfl rfl ?_
        refine mr_cVP (pc := 31) (c_X12_nextEvent_ev hw T300) (gOk _ _ _ _ _) dX12_go_31 (tX12_nextEvent _ _ _ _ _) ⟨wV_X12_nextEvent, wL_X12_nextEvent⟩ wM_X12_613 (gCX12 _ _ _ _ _) rfl (A_106 hw) rfl ⟨le_t rfl, le_t rfl⟩ ⟨le_t rfl, le_t rfl⟩ rfl (le_t rfl) fun z360 h359 => ?_
        have h361 : 0 ≤ z360 ∧ z360 ≤ 799 := (vc_X12_go_9 (h359.2.1.trans h336.2.1.symm) h336.2.2.1 h353 h355 h359.1)
        obtain ⟨z362, q363⟩ : ∃ z, μ297 106 6 = z := ⟨_, rfl⟩
        have h364 : (0 ≤ z362 ∧ z362 ≤ 20) := by rw [← q363]; exact T300 106 106 (A_106 hw) 6
        refine mr_cVV (pc := 34) (c_X12_doEvent hw T300 h361 q363 I303 I304 I305 (nev.ok h336.2.1.symm (vc_X12_go_10 h336.2.2.1 h353 (h359.2.1.trans h336.2.1.symm) h355 h361) (vc_X12_go_11 (h359.2.1.trans h336.2.1.symm) h336.2.2.1 h353 h355 h361))) (gOk _ _ _ _ _) dX12_go_34 (tX12_doEvent _ _ _ _ _) ⟨wV_X12_doEvent, wL_X12_doEvent⟩ wM_X12_616 (gCX12 _ _ _ _ _) rfl (A_106 hw) rfl ⟨le_t rfl, le_t rfl⟩ ⟨le_t rfl, le_t rfl⟩ rfl (le_t rfl) fun μ365 T366 F367 h368 => ?_
        refine mr_iinc (pc := 37) (lv' := [(2, iv (z296 + 1)), (0, .ref 106), (1, iv p1)]) dX12_go_37 rfl (by decide) rfl ?_
        refine sv_goto (pc := 40) (tgt := 15) dX12_go_40 (by decide) ?_
        refine mr_lvS (lv' := [(0, .ref 106), (1, iv p1), (2, iv (z296 + 1))]) (List.forall_mem_cons.mpr ⟨rfl, List.forall_mem_cons.mpr ⟨rfl, List.forall_mem_cons.mpr ⟨rfl, fun _ h => absurd h List.not_mem_nil⟩⟩⟩) ?_
        exact ih307 (z296 + 1) μ365 T366 (mF.call (mF.call mF.refl F301 rfl) F367 rfl) (rW (c := 0) (d := 500) (rAdd (e := 1) (f := 500) h332 (rR (x := 1)) rfl) rfl) h368.1 h368.2.1 (PK.keep I305 hw ((mF.call mF.refl F367 rfl) : mF [106026, 106027, 106028, 106029, 106030, 106031, 106071, 106072, 106073, 126999, 151999, 152999, 153999, 154999, 155999, 156999, 157999, 158999, 159999, 160999, 161999, 165999] w μ297 μ365) rfl) (vc_X12_go_12 (nS h306) h330 h4.2.1 h4.2.2.1 h8 h9 h332 h7)
    refine mr_lvS (lv' := [(0, .ref 106), (1, iv p1), (2, iv 0)]) (List.forall_mem_cons.mpr ⟨rfl, List.forall_mem_cons.mpr ⟨rfl, List.forall_mem_cons.mpr ⟨rfl, fun _ h => absurd h List.not_mem_nil⟩⟩⟩) ?_
    exact L298 502 0 μ hT mF.refl (rW (c := 0) (d := 500) (rR (x := 0)) rfl) hIG1 hIEV hIPK vc_X12_go_13
  have h369 : 0 ≤ z5 ∧ z5 ≤ 0 := (vc_X12_go_14 h6 h4.2.1 h4.2.2.1 hp1 h4.1)
  have h370 : p1 < (1 : Int) ∨ (500 : Int) < p1 := (h4.2.2.1 (vc_X12_go_15 h4.2.1 h4.2.2.1 h6 hp1 h369))
  refine mr_iconst (pc := 11) (z := (-1)) dX12_go_11 ?_
  exact mr_iret dX12_go_12 rfl (le_t rfl) (le_t rfl) hT mF.refl ⟨(rW (c := (-2147483648)) (d := 2147483647) (rR (x := (-1))) rfl), hIG1, hIEV, trivial⟩
theorem vc_X12_until_1 {p1 z1 : Int} (h0 : p1 < z1) (h1 : (-2147483648) ≤ p1 ∧ p1 ≤ 2147483647) (h2 : 0 ≤ z1 ∧ z1 ≤ 2000000000) : (-2147483648) ≤ p1 ∧ p1 ≤ 1999999999 := by omega
theorem vc_X12_until_2 {p1 z1 : Int} (h0 : z1 ≤ p1) (h1 : (-2147483648) ≤ p1 ∧ p1 ≤ 2147483647) (h2 : 0 ≤ z1 ∧ z1 ≤ 2000000000) : 0 ≤ p1 ∧ p1 ≤ 2147483647 := by omega
theorem vc_X12_until_3 {p1 z1 : Int} (h0 : p1 ≤ 1000000000) (h1 : z1 ≤ p1) (h2 : 0 ≤ p1 ∧ p1 ≤ 2147483647) (h3 : 0 ≤ z1 ∧ z1 ≤ 2000000000) : 0 ≤ p1 ∧ p1 ≤ 1000000000 := by omega
theorem vc_X12_until_4 {z448 : Int} (h0 : (501 - z448) < ((0 : Nat) : Int)) (h1 : 0 ≤ z448 ∧ z448 ≤ 500) : False := by omega
theorem vc_X12_until_5 {z447 : Int} (h0 : z447 = (-99999999)) (h1 : (-99999999) ≤ z447 ∧ z447 ≤ 799) (h2 : z447 = (-99999999) ∨ (0 ≤ z447 ∧ z447 ≤ 799)) : (-99999999) ≤ z447 ∧ z447 ≤ (-99999999) := by omega
theorem vc_X12_until_6 {z447 : Int} (h0 : ¬ z447 = (-99999999)) (h1 : (-99999999) ≤ z447 ∧ z447 ≤ 799) (h2 : z447 = (-99999999) ∨ (0 ≤ z447 ∧ z447 ≤ 799)) : 0 ≤ z447 ∧ z447 ≤ 799 := by omega
theorem vc_X12_until_7 {p1 z1 z512 : Int} (h0 : z512 ≤ p1) (h1 : z1 ≤ p1) (h2 : p1 ≤ 1000000000) (h3 : 0 ≤ p1 ∧ p1 ≤ 1000000000) (h4 : 0 ≤ z1 ∧ z1 ≤ 2000000000) (h5 : (-1) ≤ z512 ∧ z512 ≤ 2000001000) : (-1) ≤ z512 ∧ z512 ≤ 1000000000 := by omega
theorem vc_X12_until_8 {p1 z1 z512 : Int} (h0 : p1 < z512) (h1 : z1 ≤ p1) (h2 : p1 ≤ 1000000000) (h3 : 0 ≤ p1 ∧ p1 ≤ 1000000000) (h4 : 0 ≤ z1 ∧ z1 ≤ 2000000000) (h5 : (-1) ≤ z512 ∧ z512 ≤ 2000001000) : 1 ≤ z512 ∧ z512 ≤ 2000001000 := by omega
theorem vc_X12_until_9 {z448 : Int} (h0 : 500 ≤ z448) (h1 : 0 ≤ z448 ∧ z448 ≤ 500) : 500 ≤ z448 ∧ z448 ≤ 500 := by omega
theorem vc_X12_until_10 {z448 : Int} (h0 : z448 < 500) (h1 : 0 ≤ z448 ∧ z448 ≤ 500) : 0 ≤ z448 ∧ z448 ≤ 499 := by omega
theorem vc_X12_until_11 {p1 z1 z534 : Int} (h0 : p1 < z534) (h1 : z1 ≤ p1) (h2 : p1 ≤ 1000000000) (h3 : 0 ≤ p1 ∧ p1 ≤ 1000000000) (h4 : 0 ≤ z1 ∧ z1 ≤ 2000000000) (h5 : (-1) ≤ z534 ∧ z534 ≤ 2000001000) : 1 ≤ z534 ∧ z534 ≤ 2000001000 := by omega
theorem vc_X12_until_12 {p1 z1 z534 : Int} (h0 : z534 ≤ p1) (h1 : z1 ≤ p1) (h2 : p1 ≤ 1000000000) (h3 : 0 ≤ p1 ∧ p1 ≤ 1000000000) (h4 : 0 ≤ z1 ∧ z1 ≤ 2000000000) (h5 : (-1) ≤ z534 ∧ z534 ≤ 2000001000) : (-1) ≤ z534 ∧ z534 ≤ 1000000000 := by omega
theorem vc_X12_until_13 {z447 : Int} (h0 : ¬ z447 = (-99999999)) (h1 : 0 ≤ z447 ∧ z447 ≤ 799) (h2 : z447 = (-99999999) ∨ (0 ≤ z447 ∧ z447 ≤ 799)) : ¬ z447 = -99999999 := by omega
theorem vc_X12_until_14 {N z448 : Int} (h0 : (501 - z448) < N + 1) (h1 : z448 < 500) (h2 : 0 ≤ z448 ∧ z448 ≤ 499) : (501 - (z448 + 1)) < N := by omega
theorem vc_X12_until_15 {z549 : Int} (h0 : z549 = -99999999 ∨ (0 ≤ z549 ∧ z549 ≤ 799)) (h1 : (-99999999) ≤ z549 ∧ z549 ≤ 799) : z549 = (-99999999) ∨ (0 ≤ z549 ∧ z549 ≤ 799) := by omega
theorem vc_X12_until_16  : (501 - 0) < ((502 : Nat) : Int) := by omega
theorem vc_X12_until_17 {z13 : Int} (h0 : z13 = -99999999 ∨ (0 ≤ z13 ∧ z13 ≤ 799)) (h1 : (-99999999) ≤ z13 ∧ z13 ≤ 799) : z13 = (-99999999) ∨ (0 ≤ z13 ∧ z13 ≤ 799) := by omega
theorem vc_X12_until_18 {p1 z1 : Int} (h0 : 1000000000 < p1) (h1 : z1 ≤ p1) (h2 : 0 ≤ p1 ∧ p1 ≤ 2147483647) (h3 : 0 ≤ z1 ∧ z1 ≤ 2000000000) : 1000000001 ≤ p1 ∧ p1 ≤ 2147483647 := by omega
set_option maxRecDepth 4000 in
set_option maxHeartbeats 4000000 in
theorem c_X12_until {l : Launch} {D : va_G} {c : Nat → ClassId} {H0 : Heap} {sa : Nat × Nat × (Nat → Int32)} {w : mW} {μ : mM} (hw : mWF w) (hT : mT w μ) {p1 : Int} (hp1 : (-2147483648) ≤ p1 ∧ p1 ≤ 2147483647) (hIG1 : G1 μ) (hIEV : EV μ) (hIPK : PK μ) : sC (gG l D c H0 sa) mX12_until 12 0 0 [.ref 106, iv p1] (mk w μ) (qI w [106026, 106027, 106028, 106029, 106030, 106031, 106071, 106072, 106073, 126999, 151999, 152999, 153999, 154999, 155999, 156999, 157999, 158999, 159999, 160999, 161999, 165999] μ (fun z μ1 => ((-2147483648) ≤ z ∧ z ≤ 2147483647) ∧ G1 μ1 ∧ EV μ1 ∧ True)) := by
  refine sC.of rfl (by decide) (le_t rfl) ?_
  refine mr_lvE (lv' := [(0, .ref 106), (1, iv p1)]) rfl ?_
  refine mr_iload_n (pc := 0) (z := p1) dX12_until_0 rfl rfl ?_
  refine sv_aload_n (pc := 1) dX12_until_1 rfl rfl ?_
  refine gf_X12_71 (pc := 2) dX12_until_2 wF_X12_591 (A_106 hw) hT fun z1 q2 h3 => ?_
  refine mr_icmp_lt (pc := 5) (tgt := 15) dX12_until_5 (by decide) hp1 (r32 h3 rfl) (fun h4 => ?_) (fun h4 => ?_)
  · have h5 : (-2147483648) ≤ p1 ∧ p1 ≤ 1999999999 := (vc_X12_until_1 h4 hp1 h3)
    refine mr_iconst (pc := 15) (z := (-1)) dX12_until_15 ?_
    exact mr_iret dX12_until_16 rfl (le_t rfl) (le_t rfl) hT mF.refl ⟨(rW (c := (-2147483648)) (d := 2147483647) (rR (x := (-1))) rfl), hIG1, hIEV, trivial⟩
  have h6 : 0 ≤ p1 ∧ p1 ≤ 2147483647 := (vc_X12_until_2 h4 hp1 h3)
  refine mr_iload_n (pc := 8) (z := p1) dX12_until_8 rfl rfl ?_
  refine mr_ldcw (pc := 9) (z := 1000000000) dX12_until_9 wG_X12_619 (by decide) ?_
  refine mr_icmp_le (pc := 12) (tgt := 17) dX12_until_12 (by decide) (r32 h6 rfl) (r32 (rR (x := 1000000000)) rfl) (fun h7 => ?_) (fun h7 => ?_)
  · have h8 : 0 ≤ p1 ∧ p1 ≤ 1000000000 := (vc_X12_until_3 h7 h4 h6 h3)
    refine mr_iconst (pc := 17) (z := 0) dX12_until_17 ?_
    refine mr_istore_n (pc := 18) (lv' := [(2, iv 0), (0, .ref 106), (1, iv p1)]) dX12_until_18 rfl (by decide) rfl ?_
    refine sv_aload_n (pc := 19) dX12_until_19 rfl rfl ?_
    refine mr_cVP (pc := 20) (c_X12_nextEvent_ev hw hT) (gOk _ _ _ _ _) dX12_until_20 (tX12_nextEvent _ _ _ _ _) ⟨wV_X12_nextEvent, wL_X12_nextEvent⟩ wM_X12_613 (gCX12 _ _ _ _ _) rfl (A_106 hw) rfl ⟨le_t rfl, le_t rfl⟩ ⟨le_t rfl, le_t rfl⟩ rfl (le_t rfl) fun z13 h12 => ?_
    refine mr_istore_n (pc := 23) (lv' := [(3, iv z13), (2, iv 0), (0, .ref 106), (1, iv p1)]) dX12_until_23 rfl (by decide) rfl ?_
    have L450 : ∀ (nL450 : Nat) (z448 z447 : Int) (μ449 : mM), mT w μ449 → mF [106026, 106027, 106028, 106029, 106030, 106031, 106071, 106072, 106073, 126999, 151999, 152999, 153999, 154999, 155999, 156999, 157999, 158999, 159999, 160999, 161999, 165999] w μ μ449 → (0 ≤ z448 ∧ z448 ≤ 500) → ((-99999999) ≤ z447 ∧ z447 ≤ 799) → G1 μ449 → EV μ449 → PK μ449 → nevF μ449 = z447 → (z447 = (-99999999) ∨ (0 ≤ z447 ∧ z447 ≤ 799)) → (501 - z448) < (nL450 : Int) → sV (gG l D c H0 sa) mX12_until (sRm 12 0 0) (sZ (gG l D c H0 sa) 0 0 (qI w [106026, 106027, 106028, 106029, 106030, 106031, 106071, 106072, 106073, 126999, 151999, 152999, 153999, 154999, 155999, 156999, 157999, 158999, 159999, 160999, 161999, 165999] μ (fun z μ1 => ((-2147483648) ≤ z ∧ z ≤ 2147483647) ∧ G1 μ1 ∧ EV μ1 ∧ True))) 24 [(0, .ref 106), (1, iv p1), (2, iv z448), (3, iv z447)] [] (mk w μ449) 0 0 := by
      intro nL450
      induction nL450 with
      | zero => intro z448 z447 μ449 T453 F454 h451 h452 I456 I457 I458 R459 h460 h461; exact ((vc_X12_until_4 h461 h451)).elim
      | succ nL450 ih462 =>
        intro z448 z447 μ449 T453 F454 h451 h452 I456 I457 I458 R459 h460 h461
        refine mr_iload_n (pc := 24) (z := z448) dX12_until_24 rfl rfl ?_
        refine mr_sipush (pc := 25) (z := 500) dX12_until_25 (by decide) ?_
        have J486 : sV (gG l D c H0 sa) mX12_until (sRm 12 0 0) (sZ (gG l D c H0 sa) 0 0 (qI w [106026, 106027, 106028, 106029, 106030, 106031, 106071, 106072, 106073, 126999, 151999, 152999, 153999, 154999, 155999, 156999, 157999, 158999, 159999, 160999, 161999, 165999] μ (fun z μ1 => ((-2147483648) ≤ z ∧ z ≤ 2147483647) ∧ G1 μ1 ∧ EV μ1 ∧ True))) 62 [(0, .ref 106), (1, iv p1), (2, iv z448), (3, iv z447)] [] (mk w μ449) 0 0 := by
          refine mr_iload_n (pc := 62) (z := z447) dX12_until_62 rfl rfl ?_
          refine mr_ldc (pc := 63) (z := (-99999999)) dX12_until_63 wG_X12_29 (by decide) ?_
          refine mr_icmp_eq (pc := 65) (tgt := 77) dX12_until_65 (by decide) (r32 h452 rfl) (r32 (rR (x := (-99999999))) rfl) (fun h502 => ?_) (fun h502 => ?_)
          · have h503 : (-99999999) ≤ z447 ∧ z447 ≤ (-99999999) := (vc_X12_until_5 h502 h452 h460)
            refine sv_aload_n (pc := 77) dX12_until_77 rfl rfl ?_
            refine mr_iload_n (pc := 78) (z := p1) dX12_until_78 rfl rfl ?_
            refine pf_X12_71 (pc := 79) dX12_until_79 wF_X12_591 (A_106 hw) T453 (rW (c := 0) (d := 2000000000) h8 rfl) fun μ504 u505 T506 => ?_
            refine mr_iload_n (pc := 82) (z := z448) dX12_until_82 rfl rfl ?_
            exact mr_iret dX12_until_83 rfl (le_t rfl) (le_t rfl) T506 (mF.up (mF.call mF.refl F454 rfl) (A_106 hw) u505 rfl) ⟨(rW (c := (-2147483648)) (d := 2147483647) h451 rfl), (G1.keep I456 hw ((mF.up mF.refl (A_106 hw) u505 rfl) : mF [106071] w μ449 μ504) rfl rfl ((mG.upO mG.refl u505 rfl) : mG [] μ449 μ504) (fun _ h => absurd h List.not_mem_nil)), (EV.keep I457 hw ((mF.up mF.refl (A_106 hw) u505 rfl) : mF [106071] w μ449 μ504) rfl), trivial⟩
          have h507 : 0 ≤ z447 ∧ z447 ≤ 799 := (vc_X12_until_6 h502 h452 h460)
          refine sv_aload_n (pc := 68) dX12_until_68 rfl rfl ?_
          refine mr_iload_n (pc := 69) (z := z447) dX12_until_69 rfl rfl ?_
          refine mr_cVP (pc := 70) (c_X12_eventAt hw T453 h507) (gOk _ _ _ _ _) dX12_until_70 (tX12_eventAt _ _ _ _ _) ⟨wV_X12_eventAt, wL_X12_eventAt⟩ wM_X12_607 (gCX12 _ _ _ _ _) rfl (A_106 hw) rfl ⟨le_t rfl, le_t rfl⟩ ⟨le_t rfl, le_t rfl⟩ rfl (le_t rfl) fun z512 h511 => ?_
          refine mr_iload_n (pc := 73) (z := p1) dX12_until_73 rfl rfl ?_
          refine mr_icmp_le (pc := 74) (tgt := 82) dX12_until_74 (by decide) (r32 h511.1 rfl) (r32 h8 rfl) (fun h518 => ?_) (fun h518 => ?_)
          · have h519 : (-1) ≤ z512 ∧ z512 ≤ 1000000000 := (vc_X12_until_7 h518 h4 h7 h8 h3 h511.1)
            refine mr_iload_n (pc := 82) (z := z448) dX12_until_82 rfl rfl ?_
            exact mr_iret dX12_until_83 rfl (le_t rfl) (le_t rfl) T453 (mF.call mF.refl F454 rfl) ⟨(rW (c := (-2147483648)) (d := 2147483647) h451 rfl), I456, I457, trivial⟩
          have h520 : 1 ≤ z512 ∧ z512 ≤ 2000001000 := (vc_X12_until_8 h518 h4 h7 h8 h3 h511.1)
          refine sv_aload_n (pc := 77) dX12_until_77 rfl rfl ?_
          refine mr_iload_n (pc := 78) (z := p1) dX12_until_78 rfl rfl ?_
          refine pf_X12_71 (pc := 79) dX12_until_79 wF_X12_591 (A_106 hw) T453 (rW (c := 0) (d := 2000000000) h8 rfl) fun μ521 u522 T523 => ?_
          refine mr_iload_n (pc := 82) (z := z448) dX12_until_82 rfl rfl ?_
          exact mr_iret dX12_until_83 rfl (le_t rfl) (le_t rfl) T523 (mF.up (mF.call mF.refl F454 rfl) (A_106 hw) u522 rfl) ⟨(rW (c := (-2147483648)) (d := 2147483647) h451 rfl), (G1.keep I456 hw ((mF.up mF.refl (A_106 hw) u522 rfl) : mF [106071] w μ449 μ521) rfl rfl ((mG.upO mG.refl u522 rfl) : mG [] μ449 μ521) (fun _ h => absurd h List.not_mem_nil)), (EV.keep I457 hw ((mF.up mF.refl (A_106 hw) u522 rfl) : mF [106071] w μ449 μ521) rfl), trivial⟩
        refine mr_icmp_ge (pc := 28) (tgt := 62) dX12_until_28 (by decide) (r32 h451 rfl) (r32 (rR (x := 500)) rfl) (fun h524 => ?_) (fun h524 => ?_)
        · have h525 : 500 ≤ z448 ∧ z448 ≤ 500 := (vc_X12_until_9 h524 h451)
          exact J486 
        have h526 : 0 ≤ z448 ∧ z448 ≤ 499 := (vc_X12_until_10 h524 h451)
        refine mr_iload_n (pc := 31) (z := z447) dX12_until_31 rfl rfl ?_
        refine mr_ldc (pc := 32) (z := (-99999999)) dX12_until_32 wG_X12_29 (by decide) ?_
        refine mr_icmp_eq (pc := 34) (tgt := 62) dX12_until_34 (by decide) (r32 h452 rfl) (r32 (rR (x := (-99999999))) rfl) (fun h527 => ?_) (fun h527 => ?_)
        · have h528 : (-99999999) ≤ z447 ∧ z447 ≤ (-99999999) := (vc_X12_until_5 h527 h452 h460)
          exact J486 
        have h529 : 0 ≤ z447 ∧ z447 ≤ 799 := (vc_X12_until_6 h527 h452 h460)
        refine sv_aload_n (pc := 37) dX12_until_37 rfl rfl ?_
        refine mr_iload_n (pc := 38) (z := z447) dX12_until_38 rfl rfl ?_
        refine mr_cVP (pc := 39) (c_X12_eventAt hw T453 h529) (gOk _ _ _ _ _) dX12_until_39 (tX12_eventAt _ _ _ _ _) ⟨wV_X12_eventAt, wL_X12_eventAt⟩ wM_X12_607 (gCX12 _ _ _ _ _) rfl (A_106 hw) rfl ⟨le_t rfl, le_t rfl⟩ ⟨le_t rfl, le_t rfl⟩ rfl (le_t rfl) fun z534 h533 => ?_
        refine mr_iload_n (pc := 42) (z := p1) dX12_until_42 rfl rfl ?_
        refine mr_icmp_gt (pc := 43) (tgt := 62) dX12_until_43 (by decide) (r32 h533.1 rfl) (r32 h8 rfl) (fun h535 => ?_) (fun h535 => ?_)
        · have h536 : 1 ≤ z534 ∧ z534 ≤ 2000001000 := (vc_X12_until_11 h535 h4 h7 h8 h3 h533.1)
          exact J486 
        have h537 : (-1) ≤ z534 ∧ z534 ≤ 1000000000 := (vc_X12_until_12 h535 h4 h7 h8 h3 h533.1)
        refine sv_aload_n (pc := 46) dX12_until_46 rfl rfl ?_
        refine mr_iload_n (pc := 47) (z := z447) dX12_until_47 rfl rfl ?_
        obtain ⟨z538, q539⟩ : ∃ z, μ449 106 6 = z := ⟨_, rfl⟩
        have h540 : (0 ≤ z538 ∧ z538 ≤ 20) := by rw [← q539]; exact T453 106 106 (A_106 hw) 6
        refine mr_cVV (pc := 48) (c_X12_doEvent hw T453 h529 q539 I456 I457 I458 (nev.ok R459 rfl (vc_X12_until_13 h527 h529 h460))) (gOk _ _ _ _ _) dX12_until_48 (tX12_doEvent _ _ _ _ _) ⟨wV_X12_doEvent, wL_X12_doEvent⟩ wM_X12_616 (gCX12 _ _ _ _ _) rfl (A_106 hw) rfl ⟨le_t rfl, le_t rfl⟩ ⟨le_t rfl, le_t rfl⟩ rfl (le_t rfl) fun μ541 T542 F543 h544 => ?_
        refine mr_iinc (pc := 51) (lv' := [(2, iv (z448 + 1)), (0, .ref 106), (1, iv p1), (3, iv z447)]) dX12_until_51 rfl (by decide) rfl ?_
        refine sv_aload_n (pc := 54) dX12_until_54 rfl rfl ?_
        refine mr_cVP (pc := 55) (c_X12_nextEvent_ev hw T542) (gOk _ _ _ _ _) dX12_until_55 (tX12_nextEvent _ _ _ _ _) ⟨wV_X12_nextEvent, wL_X12_nextEvent⟩ wM_X12_613 (gCX12 _ _ _ _ _) rfl (A_106 hw) rfl ⟨le_t rfl, le_t rfl⟩ ⟨le_t rfl, le_t rfl⟩ rfl (le_t rfl) fun z549 h548 => ?_
        refine mr_istore_n (pc := 58) (lv' := [(3, iv z549), (2, iv (z448 + 1)), (0, .ref 106), (1, iv p1)]) dX12_until_58 rfl (by decide) rfl ?_
        refine sv_goto (pc := 59) (tgt := 24) dX12_until_59 (by decide) ?_
        refine mr_lvS (lv' := [(0, .ref 106), (1, iv p1), (2, iv (z448 + 1)), (3, iv z549)]) (List.forall_mem_cons.mpr ⟨rfl, List.forall_mem_cons.mpr ⟨rfl, List.forall_mem_cons.mpr ⟨rfl, List.forall_mem_cons.mpr ⟨rfl, fun _ h => absurd h List.not_mem_nil⟩⟩⟩⟩) ?_
        exact ih462 (z448 + 1) z549 μ541 T542 (mF.call (mF.call mF.refl F454 rfl) F543 rfl) (rW (c := 0) (d := 500) (rAdd (e := 1) (f := 500) h526 (rR (x := 1)) rfl) rfl) h548.1 h544.1 h544.2.1 (PK.keep I458 hw ((mF.call mF.refl F543 rfl) : mF [106026, 106027, 106028, 106029, 106030, 106031, 106071, 106072, 106073, 126999, 151999, 152999, 153999, 154999, 155999, 156999, 157999, 158999, 159999, 160999, 161999, 165999] w μ449 μ541) rfl) h548.2.1.symm (vc_X12_until_15 h548.2.2.1 h548.1) (vc_X12_until_14 (nS h461) h524 h526)
    refine mr_lvS (lv' := [(0, .ref 106), (1, iv p1), (2, iv 0), (3, iv z13)]) (List.forall_mem_cons.mpr ⟨rfl, List.forall_mem_cons.mpr ⟨rfl, List.forall_mem_cons.mpr ⟨rfl, List.forall_mem_cons.mpr ⟨rfl, fun _ h => absurd h List.not_mem_nil⟩⟩⟩⟩) ?_
    exact L450 502 0 z13 μ hT mF.refl (rW (c := 0) (d := 500) (rR (x := 0)) rfl) h12.1 hIG1 hIEV hIPK h12.2.1.symm (vc_X12_until_17 h12.2.2.1 h12.1) vc_X12_until_16
  have h550 : 1000000001 ≤ p1 ∧ p1 ≤ 2147483647 := (vc_X12_until_18 h7 h4 h6 h3)
  refine mr_iconst (pc := 15) (z := (-1)) dX12_until_15 ?_
  exact mr_iret dX12_until_16 rfl (le_t rfl) (le_t rfl) hT mF.refl ⟨(rW (c := (-2147483648)) (d := 2147483647) (rR (x := (-1))) rfl), hIG1, hIEV, trivial⟩
theorem vc_X12_picked_g_1 {p1 z1 z8 : Int} (h0 : z8 = 0) (h1 : (z8 = 1 → 0 ≤ p1 ∧ p1 < z1)) (h2 : (z8 = 0 → p1 < 0 ∨ z1 ≤ p1)) (h3 : (-2147483648) ≤ p1 ∧ p1 ≤ 2147483647) (h4 : 0 ≤ z1 ∧ z1 ≤ 10) (h5 : 0 ≤ z8 ∧ z8 ≤ 1) : 0 ≤ z8 ∧ z8 ≤ 0 := by omega
theorem vc_X12_picked_g_2 {p1 z1 z8 : Int} (h0 : (z8 = 1 → 0 ≤ p1 ∧ p1 < z1)) (h1 : (z8 = 0 → p1 < 0 ∨ z1 ≤ p1)) (h2 : z8 = 0) (h3 : (-2147483648) ≤ p1 ∧ p1 ≤ 2147483647) (h4 : 0 ≤ z1 ∧ z1 ≤ 10) (h5 : 0 ≤ z8 ∧ z8 ≤ 0) : z8 = 0 := by omega
theorem vc_X12_picked_g_3 {p1 z1 z8 : Int} (h0 : ¬ z8 = 0) (h1 : (z8 = 1 → 0 ≤ p1 ∧ p1 < z1)) (h2 : (z8 = 0 → p1 < 0 ∨ z1 ≤ p1)) (h3 : (-2147483648) ≤ p1 ∧ p1 ≤ 2147483647) (h4 : 0 ≤ z1 ∧ z1 ≤ 10) (h5 : 0 ≤ z8 ∧ z8 ≤ 1) : 1 ≤ z8 ∧ z8 ≤ 1 := by omega
theorem vc_X12_picked_g_4 {p1 z1 z8 : Int} (h0 : (z8 = 1 → 0 ≤ p1 ∧ p1 < z1)) (h1 : (z8 = 0 → p1 < 0 ∨ z1 ≤ p1)) (h2 : ¬ z8 = 0) (h3 : (-2147483648) ≤ p1 ∧ p1 ≤ 2147483647) (h4 : 0 ≤ z1 ∧ z1 ≤ 10) (h5 : 1 ≤ z8 ∧ z8 ≤ 1) : z8 = 1 := by omega
theorem vc_X12_picked_g_5 {p1 z1 z8 : Int} (h0 : 0 ≤ p1 ∧ p1 < z1) (h1 : (z8 = 1 → 0 ≤ p1 ∧ p1 < z1)) (h2 : (z8 = 0 → p1 < 0 ∨ z1 ≤ p1)) (h3 : (-2147483648) ≤ p1 ∧ p1 ≤ 2147483647) (h4 : 0 ≤ z1 ∧ z1 ≤ 10) (h5 : 1 ≤ z8 ∧ z8 ≤ 1) : 0 ≤ p1 ∧ p1 ≤ 9 := by omega
theorem vc_X12_picked_g_6 {p1 z1 z8 : Int} (h0 : 0 ≤ p1 ∧ p1 < z1) (h1 : (z8 = 1 → 0 ≤ p1 ∧ p1 < z1)) (h2 : (z8 = 0 → p1 < 0 ∨ z1 ≤ p1)) (h3 : 0 ≤ p1 ∧ p1 ≤ 9) (h4 : 0 ≤ z1 ∧ z1 ≤ 10) (h5 : 1 ≤ z8 ∧ z8 ≤ 1) : 1 ≤ z1 ∧ z1 ≤ 10 := by omega
theorem vc_X12_picked_g_7 {p2 z16 z23 : Int} (h0 : ¬ z23 = 0) (h1 : (z23 = 1 → 0 ≤ p2 ∧ p2 < z16)) (h2 : (z23 = 0 → p2 < 0 ∨ z16 ≤ p2)) (h3 : (-2147483648) ≤ p2 ∧ p2 ≤ 2147483647) (h4 : 0 ≤ z16 ∧ z16 ≤ 10) (h5 : 0 ≤ z23 ∧ z23 ≤ 1) : 1 ≤ z23 ∧ z23 ≤ 1 := by omega
theorem vc_X12_picked_g_8 {p2 z16 z23 : Int} (h0 : (z23 = 1 → 0 ≤ p2 ∧ p2 < z16)) (h1 : (z23 = 0 → p2 < 0 ∨ z16 ≤ p2)) (h2 : ¬ z23 = 0) (h3 : (-2147483648) ≤ p2 ∧ p2 ≤ 2147483647) (h4 : 0 ≤ z16 ∧ z16 ≤ 10) (h5 : 1 ≤ z23 ∧ z23 ≤ 1) : z23 = 1 := by omega
theorem vc_X12_picked_g_9 {p2 z16 z23 : Int} (h0 : 0 ≤ p2 ∧ p2 < z16) (h1 : (z23 = 1 → 0 ≤ p2 ∧ p2 < z16)) (h2 : (z23 = 0 → p2 < 0 ∨ z16 ≤ p2)) (h3 : (-2147483648) ≤ p2 ∧ p2 ≤ 2147483647) (h4 : 0 ≤ z16 ∧ z16 ≤ 10) (h5 : 1 ≤ z23 ∧ z23 ≤ 1) : 0 ≤ p2 ∧ p2 ≤ 9 := by omega
theorem vc_X12_picked_g_10 {z28 : Int} (h0 : z28 = -99999999 ∨ z28 = -4 ∨ (0 ≤ z28 ∧ z28 ≤ 19)) : -99999999 ≤ z28 ∧ z28 ≤ 19 := by omega
theorem vc_X12_picked_g_11 {p1 p2 z1 z16 z23 z8 : Int} (h0 : (z8 = 1 → 0 ≤ p1 ∧ p1 < z1)) (h1 : (z8 = 0 → p1 < 0 ∨ z1 ≤ p1)) (h2 : 0 ≤ p1 ∧ p1 < z1) (h3 : (z23 = 1 → 0 ≤ p2 ∧ p2 < z16)) (h4 : (z23 = 0 → p2 < 0 ∨ z16 ≤ p2)) (h5 : 0 ≤ p2 ∧ p2 < z16) (h6 : ¬ z8 = 0) (h7 : ¬ z23 = 0) (h8 : 0 ≤ p1 ∧ p1 ≤ 9) (h9 : 0 ≤ p2 ∧ p2 ≤ 9) (h10 : 1 ≤ z1 ∧ z1 ≤ 10) (h11 : 0 ≤ z16 ∧ z16 ≤ 10) (h12 : 1 ≤ z23 ∧ z23 ≤ 1) (h13 : 1 ≤ z8 ∧ z8 ≤ 1) : 0 ≤ (40 * (30 + ((10 * p1) + p2))) := by omega
theorem vc_X12_picked_g_12 {p1 p2 z1 z16 z23 z8 : Int} (h0 : (z8 = 1 → 0 ≤ p1 ∧ p1 < z1)) (h1 : (z8 = 0 → p1 < 0 ∨ z1 ≤ p1)) (h2 : 0 ≤ p1 ∧ p1 < z1) (h3 : (z23 = 1 → 0 ≤ p2 ∧ p2 < z16)) (h4 : (z23 = 0 → p2 < 0 ∨ z16 ≤ p2)) (h5 : 0 ≤ p2 ∧ p2 < z16) (h6 : ¬ z8 = 0) (h7 : ¬ z23 = 0) (h8 : 0 ≤ p1 ∧ p1 ≤ 9) (h9 : 0 ≤ p2 ∧ p2 ≤ 9) (h10 : 1 ≤ z1 ∧ z1 ≤ 10) (h11 : 0 ≤ z16 ∧ z16 ≤ 10) (h12 : 1 ≤ z23 ∧ z23 ≤ 1) (h13 : 1 ≤ z8 ∧ z8 ≤ 1) : (40 * (30 + ((10 * p1) + p2))) % 40 = 0 := by omega
theorem vc_X12_picked_g_13 {p1 p2 z1 z16 z23 z8 : Int} (h0 : (z8 = 1 → 0 ≤ p1 ∧ p1 < z1)) (h1 : (z8 = 0 → p1 < 0 ∨ z1 ≤ p1)) (h2 : 0 ≤ p1 ∧ p1 < z1) (h3 : (z23 = 1 → 0 ≤ p2 ∧ p2 < z16)) (h4 : (z23 = 0 → p2 < 0 ∨ z16 ≤ p2)) (h5 : 0 ≤ p2 ∧ p2 < z16) (h6 : ¬ z8 = 0) (h7 : ¬ z23 = 0) (h8 : 0 ≤ p1 ∧ p1 ≤ 9) (h9 : 0 ≤ p2 ∧ p2 ≤ 9) (h10 : 1 ≤ z1 ∧ z1 ≤ 10) (h11 : 0 ≤ z16 ∧ z16 ≤ 10) (h12 : 1 ≤ z23 ∧ z23 ≤ 1) (h13 : 1 ≤ z8 ∧ z8 ≤ 1) : (40 * (30 + ((10 * p1) + p2))) = 1200 + 40 * ((10 * p1) + p2) := by omega
theorem vc_X12_picked_g_14 {z28 z32 : Int} (h0 : ¬ z28 = (-99999999)) (h1 : z28 = -99999999 ∨ 0 ≤ z32) (h2 : (-99999999) ≤ z28 ∧ z28 ≤ 19) (h3 : z28 = -99999999 ∨ z28 = -4 ∨ (0 ≤ z28 ∧ z28 ≤ 19)) (h4 : (-1) ≤ z32 ∧ z32 ≤ 9) : (-4) ≤ z28 ∧ z28 ≤ 19 := by omega
theorem vc_X12_picked_g_15 {p1 p2 z1 z16 z23 z8 : Int} (h0 : (z8 = 1 → 0 ≤ p1 ∧ p1 < z1)) (h1 : (z8 = 0 → p1 < 0 ∨ z1 ≤ p1)) (h2 : 0 ≤ p1 ∧ p1 < z1) (h3 : (z23 = 1 → 0 ≤ p2 ∧ p2 < z16)) (h4 : (z23 = 0 → p2 < 0 ∨ z16 ≤ p2)) (h5 : 0 ≤ p2 ∧ p2 < z16) (h6 : ¬ z8 = 0) (h7 : ¬ z23 = 0) (h8 : 0 ≤ p1 ∧ p1 ≤ 9) (h9 : 0 ≤ p2 ∧ p2 ≤ 9) (h10 : 1 ≤ z1 ∧ z1 ≤ 10) (h11 : 0 ≤ z16 ∧ z16 ≤ 10) (h12 : 1 ≤ z23 ∧ z23 ≤ 1) (h13 : 1 ≤ z8 ∧ z8 ≤ 1) : (30 + ((10 * p1) + p2)) < (0 : Int) ∨ (0 : Int) < (30 + ((10 * p1) + p2)) := by omega
theorem vc_X12_picked_g_16  : (0 : Int) ≤ ((40 : Int) * (0 : Int)) := by omega
theorem vc_X12_picked_g_17  : (((40 : Int) * (0 : Int)) : Int) % (40 : Int) = (0 : Int) := by omega
theorem vc_X12_picked_g_18  : ((40 : Int) * (0 : Int)) ≤ ((40 : Int) * (0 : Int)) ∧ (((40 : Int) * (0 : Int)) + (40 : Int)) ≤ (((40 : Int) * (0 : Int)) + (40 : Int)) := by omega
theorem vc_X12_picked_g_19  : ((((40 : Int) * (0 : Int)) + (40 : Int)) : Int) ≤ (1200 : Int) ∨ (5200 : Int) ≤ (((40 : Int) * (0 : Int)) : Int) := by omega
theorem vc_X12_picked_g_20  : (0 : Int) = ((40 : Int) * (0 : Int)) := by omega
theorem vc_X12_picked_g_21 {z28 z32 z43 : Int} (h0 : z28 = -99999999 ∨ 0 ≤ z32) (h1 : z43 = z32) (h2 : ¬ z28 = (-99999999)) (h3 : (-4) ≤ z28 ∧ z28 ≤ 19) (h4 : z28 = -99999999 ∨ z28 = -4 ∨ (0 ≤ z28 ∧ z28 ≤ 19)) (h5 : (-1) ≤ z32 ∧ z32 ≤ 9) (h6 : (-1) ≤ z43 ∧ z43 ≤ 9) : 0 ≤ z32 := by omega
theorem vc_X12_picked_g_22 {z28 z32 : Int} (h0 : z28 = (-99999999)) (h1 : z28 = -99999999 ∨ 0 ≤ z32) (h2 : (-99999999) ≤ z28 ∧ z28 ≤ 19) (h3 : z28 = -99999999 ∨ z28 = -4 ∨ (0 ≤ z28 ∧ z28 ≤ 19)) (h4 : (-1) ≤ z32 ∧ z32 ≤ 9) : (-99999999) ≤ z28 ∧ z28 ≤ (-99999999) := by omega
theorem vc_X12_picked_g_23 {p2 z16 z23 : Int} (h0 : z23 = 0) (h1 : (z23 = 1 → 0 ≤ p2 ∧ p2 < z16)) (h2 : (z23 = 0 → p2 < 0 ∨ z16 ≤ p2)) (h3 : (-2147483648) ≤ p2 ∧ p2 ≤ 2147483647) (h4 : 0 ≤ z16 ∧ z16 ≤ 10) (h5 : 0 ≤ z23 ∧ z23 ≤ 1) : 0 ≤ z23 ∧ z23 ≤ 0 := by omega
theorem vc_X12_picked_g_24 {p2 z16 z23 : Int} (h0 : (z23 = 1 → 0 ≤ p2 ∧ p2 < z16)) (h1 : (z23 = 0 → p2 < 0 ∨ z16 ≤ p2)) (h2 : z23 = 0) (h3 : (-2147483648) ≤ p2 ∧ p2 ≤ 2147483647) (h4 : 0 ≤ z16 ∧ z16 ≤ 10) (h5 : 0 ≤ z23 ∧ z23 ≤ 0) : z23 = 0 := by omega
set_option maxRecDepth 4000 in
set_option maxHeartbeats 4000000 in
theorem c_X12_picked_g {l : Launch} {D : va_G} {c : Nat → ClassId} {H0 : Heap} {sa : Nat × Nat × (Nat → Int32)} {w : mW} {μ : mM} (hw : mWF w) (hT : mT w μ) {p1 : Int} (hp1 : (-2147483648) ≤ p1 ∧ p1 ≤ 2147483647) {p2 : Int} (hp2 : (-2147483648) ≤ p2 ∧ p2 ≤ 2147483647) (hIG1 : G1 μ) : sC (gG l D c H0 sa) mX12_picked 3 0 0 [.ref 106, iv p1, iv p2] (mk w μ) (qI w [106070, 126999] μ (fun z μ1 => ((-2147483648) ≤ z ∧ z ≤ 2147483647) ∧ G1 μ1 ∧ True)) := by
  refine sC.of rfl (by decide) (le_t rfl) ?_
  refine mr_lvE (lv' := [(0, .ref 106), (1, iv p1), (2, iv p2)]) rfl ?_
  refine sv_aload_n (pc := 0) dX12_picked_0 rfl rfl ?_
  refine mr_iload_n (pc := 1) (z := p1) dX12_picked_1 rfl rfl ?_
  obtain ⟨z1, q2⟩ : ∃ z, μ 106 5 = z := ⟨_, rfl⟩
  have h3 : (0 ≤ z1 ∧ z1 ≤ 10) := by rw [← q2]; exact hT 106 106 (A_106 hw) 5
  refine mr_cVP (pc := 2) (c_X12_isDomain hw hT hp1 q2) (gOk _ _ _ _ _) dX12_picked_2 (tX12_isDomain _ _ _ _ _) ⟨wV_X12_isDomain, wL_X12_isDomain⟩ wM_X12_49 (gCX12 _ _ _ _ _) rfl (A_106 hw) rfl ⟨le_t rfl, le_t rfl⟩ ⟨le_t rfl, le_t rfl⟩ rfl (le_t rfl) fun z8 h7 => ?_
  refine mr_if_eq (pc := 5) (tgt := 16) dX12_picked_5 (by decide) (r32 h7.1 rfl) (fun h9 => ?_) (fun h9 => ?_)
  · have h10 : 0 ≤ z8 ∧ z8 ≤ 0 := (vc_X12_picked_g_1 h9 h7.2.1 h7.2.2.1 hp1 h3 h7.1)
    have h11 : p1 < 0 ∨ z1 ≤ p1 := (h7.2.2.1 (vc_X12_picked_g_2 h7.2.1 h7.2.2.1 h9 hp1 h3 h10))
    refine mr_iconst (pc := 16) (z := (-1)) dX12_picked_16 ?_
    exact mr_iret dX12_picked_17 rfl (le_t rfl) (le_t rfl) hT mF.refl ⟨(rW (c := (-2147483648)) (d := 2147483647) (rR (x := (-1))) rfl), hIG1, trivial⟩
  have h12 : 1 ≤ z8 ∧ z8 ≤ 1 := (vc_X12_picked_g_3 h9 h7.2.1 h7.2.2.1 hp1 h3 h7.1)
  have h13 : 0 ≤ p1 ∧ p1 < z1 := (h7.2.1 (vc_X12_picked_g_4 h7.2.1 h7.2.2.1 h9 hp1 h3 h12))
  have h14 : 0 ≤ p1 ∧ p1 ≤ 9 := (vc_X12_picked_g_5 h13 h7.2.1 h7.2.2.1 hp1 h3 h12)
  have h15 : 1 ≤ z1 ∧ z1 ≤ 10 := (vc_X12_picked_g_6 h13 h7.2.1 h7.2.2.1 h14 h3 h12)
  refine sv_aload_n (pc := 8) dX12_picked_8 rfl rfl ?_
  refine mr_iload_n (pc := 9) (z := p2) dX12_picked_9 rfl rfl ?_
  obtain ⟨z16, q17⟩ : ∃ z, μ 106 2 = z := ⟨_, rfl⟩
  have h18 : (0 ≤ z16 ∧ z16 ≤ 10) := by rw [← q17]; exact hT 106 106 (A_106 hw) 2
  refine mr_cVP (pc := 10) (c_X12_isPrefix hw hT hp2 q17) (gOk _ _ _ _ _) dX12_picked_10 (tX12_isPrefix _ _ _ _ _) ⟨wV_X12_isPrefix, wL_X12_isPrefix⟩ wM_X12_92 (gCX12 _ _ _ _ _) rfl (A_106 hw) rfl ⟨le_t rfl, le_t rfl⟩ ⟨le_t rfl, le_t rfl⟩ rfl (le_t rfl) fun z23 h22 => ?_
  refine mr_if_ne (pc := 13) (tgt := 18) dX12_picked_13 (by decide) (r32 h22.1 rfl) (fun h24 => ?_) (fun h24 => ?_)
  · have h25 : 1 ≤ z23 ∧ z23 ≤ 1 := (vc_X12_picked_g_7 h24 h22.2.1 h22.2.2.1 hp2 h18 h22.1)
    have h26 : 0 ≤ p2 ∧ p2 < z16 := (h22.2.1 (vc_X12_picked_g_8 h22.2.1 h22.2.2.1 h24 hp2 h18 h25))
    have h27 : 0 ≤ p2 ∧ p2 ≤ 9 := (vc_X12_picked_g_9 h26 h22.2.1 h22.2.2.1 hp2 h18 h25)
    refine mr_bipush (pc := 18) (z := 10) dX12_picked_18 (by decide) ?_
    refine mr_iload_n (pc := 20) (z := p1) dX12_picked_20 rfl rfl ?_
    refine mr_imul (pc := 21) (x := 10) (y := p1) dX12_picked_21 ?_
    refine mr_iload_n (pc := 22) (z := p2) dX12_picked_22 rfl rfl ?_
    refine mr_iadd (pc := 23) (x := (10 * p1)) (y := p2) dX12_picked_23 ?_
    refine mr_istore_n (pc := 24) (lv' := [(3, iv ((10 * p1) + p2)), (0, .ref 106), (1, iv p1), (2, iv p2)]) dX12_picked_24 rfl (by decide) rfl ?_
    refine sv_aload_n (pc := 25) dX12_picked_25 rfl rfl ?_
    refine gf_X12_81 (pc := 26) dX12_picked_26 wF_X12_445 (A_106 hw) hT ?_
    refine mr_iload_n (pc := 29) (z := ((10 * p1) + p2)) dX12_picked_29 rfl rfl ?_
    refine la_161 (pc := 30) dX12_picked_30 (A_161 hw) hT (rIx (n := 100) (rAdd (e := 0) (f := 99) (rMulL (n := 10) (e := 0) (f := 90) h14 rfl) h27 rfl) rfl) fun z28 q29 h30 => ?_
    have h31 : (-99999999) ≤ z28 ∧ z28 ≤ 19 := (vc_X12_picked_g_10 h30)
    obtain ⟨z32, q33⟩ : ∃ z, μ 126 ((40 * (30 + ((10 * p1) + p2))).toNat) = z := ⟨_, rfl⟩
    have h34 := rt7 hT (A_126 hw) (vc_X12_picked_g_11 h7.2.1 h7.2.2.1 h13 h22.2.1 h22.2.2.1 h26 h9 h24 h14 h27 h15 h18 h25 h12) q33
    have h35 : (-1) ≤ z32 ∧ z32 ≤ 9 := h34.2.1 (vc_X12_picked_g_12 h7.2.1 h7.2.2.1 h13 h22.2.1 h22.2.2.1 h26 h9 h24 h14 h27 h15 h18 h25 h12)
    have h36 : z28 = -99999999 ∨ 0 ≤ z32 := G1.at hIG1 (rAdd (e := 0) (f := 99) (rMulL (n := 10) (e := 0) (f := 90) h14 rfl) h27 rfl) q29 (vc_X12_picked_g_13 h7.2.1 h7.2.2.1 h13 h22.2.1 h22.2.2.1 h26 h9 h24 h14 h27 h15 h18 h25 h12) q33
    refine mr_ldc (pc := 31) (z := (-99999999)) dX12_picked_31 wG_X12_29 (by decide) ?_
    refine mr_icmp_ne (pc := 33) (tgt := 39) dX12_picked_33 (by decide) (r32 h31 rfl) (r32 (rR (x := (-99999999))) rfl) (fun h37 => ?_) (fun h37 => ?_)
    · have h38 : (-4) ≤ z28 ∧ z28 ≤ 19 := (vc_X12_picked_g_14 h37 h36 h31 h30 h35)
      refine sv_aload_n (pc := 39) dX12_picked_39 rfl rfl ?_
      refine mr_bipush (pc := 40) (z := 30) dX12_picked_40 (by decide) ?_
      refine mr_iload_n (pc := 42) (z := ((10 * p1) + p2)) dX12_picked_42 rfl rfl ?_
      refine mr_iadd (pc := 43) (x := 30) (y := ((10 * p1) + p2)) dX12_picked_43 ?_
      refine mr_iconst (pc := 44) (z := 0) dX12_picked_44 ?_
      refine mr_cVV (pc := 45) (c_X12_copy hw hT (rW (c := 0) (d := 2099) (rAdd (e := 30) (f := 129) (rR (x := 30)) (rAdd (e := 0) (f := 99) (rMulL (n := 10) (e := 0) (f := 90) h14 rfl) h27 rfl) rfl) rfl) (rW (c := 0) (d := 2099) (rR (x := 0)) rfl) q33 (vc_X12_picked_g_15 h7.2.1 h7.2.2.1 h13 h22.2.1 h22.2.2.1 h26 h9 h24 h14 h27 h15 h18 h25 h12)) (gOk _ _ _ _ _) dX12_picked_45 (tX12_copy _ _ _ _ _) ⟨wV_X12_copy, wL_X12_copy⟩ wM_X12_559 (gCX12 _ _ _ _ _) rfl (A_106 hw) rfl ⟨le_t rfl, le_t rfl⟩ ⟨le_t rfl, le_t rfl⟩ rfl (le_t rfl) fun μ39 T40 F41 h42 => ?_
      obtain ⟨z43, q44, h45⟩ := h42
      have h46 := rt7 T40 (A_126 hw) vc_X12_picked_g_16 q44
      have h47 : (-1) ≤ z43 ∧ z43 ≤ 9 := h46.2.1 vc_X12_picked_g_17
      have q48 : μ39 126 (((40 * 0) : Int).toNat) = z32 := q44.trans h45.2.1
      refine sv_aload_n (pc := 48) dX12_picked_48 rfl rfl ?_
      refine mr_iconst (pc := 49) (z := 1) dX12_picked_49 ?_
      refine pf_X12_70 (pc := 50) dX12_picked_50 wF_X12_411 (A_106 hw) T40 (rW (c := 0) (d := 1) (rR (x := 1)) rfl) fun μ49 u50 T51 => ?_
      have I52 : G1 μ49 := G1.take hIG1 hw ((mF.up (mF.call mF.refl F41 rfl) (A_106 hw) u50 rfl) : mF [106070, 126999] w μ μ49) rfl ((mG.upO (mG.call mG.refl h45.1 (List.forall_mem_cons.mpr ⟨⟨_, List.mem_cons_self, vc_X12_picked_g_18⟩, (fun _ h => absurd h List.not_mem_nil)⟩)) u50 rfl) : mG [((40 * 0), ((40 * 0) + 40))] μ μ49) (List.forall_mem_cons.mpr ⟨vc_X12_picked_g_19, (fun _ h => absurd h List.not_mem_nil)⟩) (eqIx vc_X12_picked_g_20 (u50.f (Or.inl (mAt.ne (A_106 hw) (A_126 hw) rfl)) q48)) (vc_X12_picked_g_21 h36 h45.2.1 h37 h38 h30 h35 h47)
      refine sv_aload_n (pc := 53) dX12_picked_53 rfl rfl ?_
      refine gf_X12_81 (pc := 54) dX12_picked_54 wF_X12_445 (A_106 hw) T51 ?_
      refine mr_iload_n (pc := 57) (z := ((10 * p1) + p2)) dX12_picked_57 rfl rfl ?_
      refine lk_161 (pc := 58) dX12_picked_58 (A_161 hw) (rIx (n := 100) (rAdd (e := 0) (f := 99) (rMulL (n := 10) (e := 0) (f := 90) h14 rfl) h27 rfl) rfl) (u50.f (Or.inl (mAt.ne (A_106 hw) (A_161 hw) rfl)) (F41.f (A_161 hw) rfl q29)) ?_
      exact mr_iret dX12_picked_59 rfl (le_t rfl) (le_t rfl) T51 (mF.up (mF.call mF.refl F41 rfl) (A_106 hw) u50 rfl) ⟨(rW (c := (-2147483648)) (d := 2147483647) h38 rfl), I52, trivial⟩
    have h53 : (-99999999) ≤ z28 ∧ z28 ≤ (-99999999) := (vc_X12_picked_g_22 h37 h36 h31 h30 h35)
    refine mr_ldc (pc := 36) (z := (-99999999)) dX12_picked_36 wG_X12_29 (by decide) ?_
    exact mr_iret dX12_picked_38 rfl (le_t rfl) (le_t rfl) hT mF.refl ⟨(rW (c := (-2147483648)) (d := 2147483647) (rR (x := (-99999999))) rfl), hIG1, trivial⟩
  have h54 : 0 ≤ z23 ∧ z23 ≤ 0 := (vc_X12_picked_g_23 h24 h22.2.1 h22.2.2.1 hp2 h18 h22.1)
  have h55 : p2 < 0 ∨ z16 ≤ p2 := (h22.2.2.1 (vc_X12_picked_g_24 h22.2.1 h22.2.2.1 h24 hp2 h18 h54))
  refine mr_iconst (pc := 16) (z := (-1)) dX12_picked_16 ?_
  exact mr_iret dX12_picked_17 rfl (le_t rfl) (le_t rfl) hT mF.refl ⟨(rW (c := (-2147483648)) (d := 2147483647) (rR (x := (-1))) rfl), hIG1, trivial⟩
theorem vc_X12_heard_g_1 {p1 z1 z8 : Int} (h0 : z8 = 0) (h1 : (z8 = 1 → 0 ≤ p1 ∧ p1 < z1)) (h2 : (z8 = 0 → p1 < 0 ∨ z1 ≤ p1)) (h3 : (-2147483648) ≤ p1 ∧ p1 ≤ 2147483647) (h4 : 0 ≤ z1 ∧ z1 ≤ 20) (h5 : 0 ≤ z8 ∧ z8 ≤ 1) : 0 ≤ z8 ∧ z8 ≤ 0 := by omega
theorem vc_X12_heard_g_2 {p1 z1 z8 : Int} (h0 : (z8 = 1 → 0 ≤ p1 ∧ p1 < z1)) (h1 : (z8 = 0 → p1 < 0 ∨ z1 ≤ p1)) (h2 : z8 = 0) (h3 : (-2147483648) ≤ p1 ∧ p1 ≤ 2147483647) (h4 : 0 ≤ z1 ∧ z1 ≤ 20) (h5 : 0 ≤ z8 ∧ z8 ≤ 0) : z8 = 0 := by omega
theorem vc_X12_heard_g_3 {p1 z1 z8 : Int} (h0 : ¬ z8 = 0) (h1 : (z8 = 1 → 0 ≤ p1 ∧ p1 < z1)) (h2 : (z8 = 0 → p1 < 0 ∨ z1 ≤ p1)) (h3 : (-2147483648) ≤ p1 ∧ p1 ≤ 2147483647) (h4 : 0 ≤ z1 ∧ z1 ≤ 20) (h5 : 0 ≤ z8 ∧ z8 ≤ 1) : 1 ≤ z8 ∧ z8 ≤ 1 := by omega
theorem vc_X12_heard_g_4 {p1 z1 z8 : Int} (h0 : (z8 = 1 → 0 ≤ p1 ∧ p1 < z1)) (h1 : (z8 = 0 → p1 < 0 ∨ z1 ≤ p1)) (h2 : ¬ z8 = 0) (h3 : (-2147483648) ≤ p1 ∧ p1 ≤ 2147483647) (h4 : 0 ≤ z1 ∧ z1 ≤ 20) (h5 : 1 ≤ z8 ∧ z8 ≤ 1) : z8 = 1 := by omega
theorem vc_X12_heard_g_5 {p1 z1 z8 : Int} (h0 : 0 ≤ p1 ∧ p1 < z1) (h1 : (z8 = 1 → 0 ≤ p1 ∧ p1 < z1)) (h2 : (z8 = 0 → p1 < 0 ∨ z1 ≤ p1)) (h3 : (-2147483648) ≤ p1 ∧ p1 ≤ 2147483647) (h4 : 0 ≤ z1 ∧ z1 ≤ 20) (h5 : 1 ≤ z8 ∧ z8 ≤ 1) : 0 ≤ p1 ∧ p1 ≤ 19 := by omega
theorem vc_X12_heard_g_6 {p1 z1 z8 : Int} (h0 : 0 ≤ p1 ∧ p1 < z1) (h1 : (z8 = 1 → 0 ≤ p1 ∧ p1 < z1)) (h2 : (z8 = 0 → p1 < 0 ∨ z1 ≤ p1)) (h3 : 0 ≤ p1 ∧ p1 ≤ 19) (h4 : 0 ≤ z1 ∧ z1 ≤ 20) (h5 : 1 ≤ z8 ∧ z8 ≤ 1) : 1 ≤ z1 ∧ z1 ≤ 20 := by omega
theorem vc_X12_heard_g_7 {p2 z20 : Int} (h0 : z20 = 0) (h1 : (z20 = 1 → (0 : Int) ≤ p2 ∧ p2 ≤ (1 : Int))) (h2 : (z20 = 0 → p2 < (0 : Int) ∨ (1 : Int) < p2)) (h3 : (-2147483648) ≤ p2 ∧ p2 ≤ 2147483647) (h4 : 0 ≤ z20 ∧ z20 ≤ 1) : 0 ≤ z20 ∧ z20 ≤ 0 := by omega
theorem vc_X12_heard_g_8 {p2 z20 : Int} (h0 : (z20 = 1 → (0 : Int) ≤ p2 ∧ p2 ≤ (1 : Int))) (h1 : (z20 = 0 → p2 < (0 : Int) ∨ (1 : Int) < p2)) (h2 : z20 = 0) (h3 : (-2147483648) ≤ p2 ∧ p2 ≤ 2147483647) (h4 : 0 ≤ z20 ∧ z20 ≤ 0) : z20 = 0 := by omega
theorem vc_X12_heard_g_9 {p2 z20 : Int} (h0 : ¬ z20 = 0) (h1 : (z20 = 1 → (0 : Int) ≤ p2 ∧ p2 ≤ (1 : Int))) (h2 : (z20 = 0 → p2 < (0 : Int) ∨ (1 : Int) < p2)) (h3 : (-2147483648) ≤ p2 ∧ p2 ≤ 2147483647) (h4 : 0 ≤ z20 ∧ z20 ≤ 1) : 1 ≤ z20 ∧ z20 ≤ 1 := by omega
theorem vc_X12_heard_g_10 {p2 z20 : Int} (h0 : (z20 = 1 → (0 : Int) ≤ p2 ∧ p2 ≤ (1 : Int))) (h1 : (z20 = 0 → p2 < (0 : Int) ∨ (1 : Int) < p2)) (h2 : ¬ z20 = 0) (h3 : (-2147483648) ≤ p2 ∧ p2 ≤ 2147483647) (h4 : 1 ≤ z20 ∧ z20 ≤ 1) : z20 = 1 := by omega
theorem vc_X12_heard_g_11 {p2 z20 : Int} (h0 : (0 : Int) ≤ p2 ∧ p2 ≤ (1 : Int)) (h1 : (z20 = 1 → (0 : Int) ≤ p2 ∧ p2 ≤ (1 : Int))) (h2 : (z20 = 0 → p2 < (0 : Int) ∨ (1 : Int) < p2)) (h3 : (-2147483648) ≤ p2 ∧ p2 ≤ 2147483647) (h4 : 1 ≤ z20 ∧ z20 ≤ 1) : 0 ≤ p2 ∧ p2 ≤ 1 := by omega
theorem vc_X12_heard_g_12 {p3 z27 z34 : Int} (h0 : z34 = 0) (h1 : (z34 = 1 → 0 ≤ p3 ∧ p3 < z27)) (h2 : (z34 = 0 → p3 < 0 ∨ z27 ≤ p3)) (h3 : (-2147483648) ≤ p3 ∧ p3 ≤ 2147483647) (h4 : 0 ≤ z27 ∧ z27 ≤ 10) (h5 : 0 ≤ z34 ∧ z34 ≤ 1) : 0 ≤ z34 ∧ z34 ≤ 0 := by omega
theorem vc_X12_heard_g_13 {p3 z27 z34 : Int} (h0 : (z34 = 1 → 0 ≤ p3 ∧ p3 < z27)) (h1 : (z34 = 0 → p3 < 0 ∨ z27 ≤ p3)) (h2 : z34 = 0) (h3 : (-2147483648) ≤ p3 ∧ p3 ≤ 2147483647) (h4 : 0 ≤ z27 ∧ z27 ≤ 10) (h5 : 0 ≤ z34 ∧ z34 ≤ 0) : z34 = 0 := by omega
theorem vc_X12_heard_g_14 {p3 z27 z34 : Int} (h0 : ¬ z34 = 0) (h1 : (z34 = 1 → 0 ≤ p3 ∧ p3 < z27)) (h2 : (z34 = 0 → p3 < 0 ∨ z27 ≤ p3)) (h3 : (-2147483648) ≤ p3 ∧ p3 ≤ 2147483647) (h4 : 0 ≤ z27 ∧ z27 ≤ 10) (h5 : 0 ≤ z34 ∧ z34 ≤ 1) : 1 ≤ z34 ∧ z34 ≤ 1 := by omega
theorem vc_X12_heard_g_15 {p3 z27 z34 : Int} (h0 : (z34 = 1 → 0 ≤ p3 ∧ p3 < z27)) (h1 : (z34 = 0 → p3 < 0 ∨ z27 ≤ p3)) (h2 : ¬ z34 = 0) (h3 : (-2147483648) ≤ p3 ∧ p3 ≤ 2147483647) (h4 : 0 ≤ z27 ∧ z27 ≤ 10) (h5 : 1 ≤ z34 ∧ z34 ≤ 1) : z34 = 1 := by omega
theorem vc_X12_heard_g_16 {p3 z27 z34 : Int} (h0 : 0 ≤ p3 ∧ p3 < z27) (h1 : (z34 = 1 → 0 ≤ p3 ∧ p3 < z27)) (h2 : (z34 = 0 → p3 < 0 ∨ z27 ≤ p3)) (h3 : (-2147483648) ≤ p3 ∧ p3 ≤ 2147483647) (h4 : 0 ≤ z27 ∧ z27 ≤ 10) (h5 : 1 ≤ z34 ∧ z34 ≤ 1) : 0 ≤ p3 ∧ p3 ≤ 9 := by omega
theorem vc_X12_heard_g_17 {p3 z27 z34 : Int} (h0 : 0 ≤ p3 ∧ p3 < z27) (h1 : (z34 = 1 → 0 ≤ p3 ∧ p3 < z27)) (h2 : (z34 = 0 → p3 < 0 ∨ z27 ≤ p3)) (h3 : 0 ≤ p3 ∧ p3 ≤ 9) (h4 : 0 ≤ z27 ∧ z27 ≤ 10) (h5 : 1 ≤ z34 ∧ z34 ≤ 1) : 1 ≤ z27 ∧ z27 ≤ 10 := by omega
theorem vc_X12_heard_g_18 {p4 z46 : Int} (h0 : ¬ z46 = 0) (h1 : (z46 = 1 → (0 : Int) ≤ p4 ∧ p4 ≤ (1 : Int))) (h2 : (z46 = 0 → p4 < (0 : Int) ∨ (1 : Int) < p4)) (h3 : (-2147483648) ≤ p4 ∧ p4 ≤ 2147483647) (h4 : 0 ≤ z46 ∧ z46 ≤ 1) : 1 ≤ z46 ∧ z46 ≤ 1 := by omega
theorem vc_X12_heard_g_19 {p4 z46 : Int} (h0 : (z46 = 1 → (0 : Int) ≤ p4 ∧ p4 ≤ (1 : Int))) (h1 : (z46 = 0 → p4 < (0 : Int) ∨ (1 : Int) < p4)) (h2 : ¬ z46 = 0) (h3 : (-2147483648) ≤ p4 ∧ p4 ≤ 2147483647) (h4 : 1 ≤ z46 ∧ z46 ≤ 1) : z46 = 1 := by omega
theorem vc_X12_heard_g_20 {p4 z46 : Int} (h0 : (0 : Int) ≤ p4 ∧ p4 ≤ (1 : Int)) (h1 : (z46 = 1 → (0 : Int) ≤ p4 ∧ p4 ≤ (1 : Int))) (h2 : (z46 = 0 → p4 < (0 : Int) ∨ (1 : Int) < p4)) (h3 : (-2147483648) ≤ p4 ∧ p4 ≤ 2147483647) (h4 : 1 ≤ z46 ∧ z46 ≤ 1) : 0 ≤ p4 ∧ p4 ≤ 1 := by omega
theorem vc_X12_heard_g_21 {p1 p2 p3 z1 z20 z27 z34 z55 : Int} (h0 : z55 = (((20 * p1) + (10 * p2)) + p3)) (h1 : 0 ≤ p1 ∧ p1 < z1) (h2 : (z20 = 1 → (0 : Int) ≤ p2 ∧ p2 ≤ (1 : Int))) (h3 : (z20 = 0 → p2 < (0 : Int) ∨ (1 : Int) < p2)) (h4 : (0 : Int) ≤ p2 ∧ p2 ≤ (1 : Int)) (h5 : (z34 = 1 → 0 ≤ p3 ∧ p3 < z27)) (h6 : (z34 = 0 → p3 < 0 ∨ z27 ≤ p3)) (h7 : 0 ≤ p3 ∧ p3 < z27) (h8 : 0 ≤ p1 ∧ p1 ≤ 19) (h9 : 0 ≤ p2 ∧ p2 ≤ 1) (h10 : 0 ≤ p3 ∧ p3 ≤ 9) (h11 : 1 ≤ z1 ∧ z1 ≤ 20) (h12 : 1 ≤ z20 ∧ z20 ≤ 1) (h13 : 1 ≤ z27 ∧ z27 ≤ 10) (h14 : 1 ≤ z34 ∧ z34 ≤ 1) (h15 : 0 ≤ z55 ∧ z55 ≤ 449) : 0 ≤ z55 ∧ z55 ≤ 399 := by omega
theorem vc_X12_heard_g_22 {p1 p2 p3 z1 z20 z27 z34 z55 z59 z8 : Int} (h0 : z55 = (((20 * p1) + (10 * p2)) + p3)) (h1 : (z8 = 1 → 0 ≤ p1 ∧ p1 < z1)) (h2 : (z8 = 0 → p1 < 0 ∨ z1 ≤ p1)) (h3 : 0 ≤ p1 ∧ p1 < z1) (h4 : (z20 = 1 → (0 : Int) ≤ p2 ∧ p2 ≤ (1 : Int))) (h5 : (z20 = 0 → p2 < (0 : Int) ∨ (1 : Int) < p2)) (h6 : (0 : Int) ≤ p2 ∧ p2 ≤ (1 : Int)) (h7 : (z34 = 1 → 0 ≤ p3 ∧ p3 < z27)) (h8 : (z34 = 0 → p3 < 0 ∨ z27 ≤ p3)) (h9 : 0 ≤ p3 ∧ p3 < z27) (h10 : 0 ≤ p1 ∧ p1 ≤ 19) (h11 : 0 ≤ p2 ∧ p2 ≤ 1) (h12 : 0 ≤ p3 ∧ p3 ≤ 9) (h13 : 1 ≤ z1 ∧ z1 ≤ 20) (h14 : 1 ≤ z20 ∧ z20 ≤ 1) (h15 : 1 ≤ z27 ∧ z27 ≤ 10) (h16 : 1 ≤ z34 ∧ z34 ≤ 1) (h17 : 0 ≤ z55 ∧ z55 ≤ 399) (h18 : 130 ≤ z59 ∧ z59 ≤ 530) (h19 : 1 ≤ z8 ∧ z8 ≤ 1) : 0 ≤ (40 * (z59 + z55)) := by omega
theorem vc_X12_heard_g_23 {p1 p2 p3 z1 z20 z27 z34 z55 z59 z8 : Int} (h0 : z55 = (((20 * p1) + (10 * p2)) + p3)) (h1 : (z8 = 1 → 0 ≤ p1 ∧ p1 < z1)) (h2 : (z8 = 0 → p1 < 0 ∨ z1 ≤ p1)) (h3 : 0 ≤ p1 ∧ p1 < z1) (h4 : (z20 = 1 → (0 : Int) ≤ p2 ∧ p2 ≤ (1 : Int))) (h5 : (z20 = 0 → p2 < (0 : Int) ∨ (1 : Int) < p2)) (h6 : (0 : Int) ≤ p2 ∧ p2 ≤ (1 : Int)) (h7 : (z34 = 1 → 0 ≤ p3 ∧ p3 < z27)) (h8 : (z34 = 0 → p3 < 0 ∨ z27 ≤ p3)) (h9 : 0 ≤ p3 ∧ p3 < z27) (h10 : 0 ≤ p1 ∧ p1 ≤ 19) (h11 : 0 ≤ p2 ∧ p2 ≤ 1) (h12 : 0 ≤ p3 ∧ p3 ≤ 9) (h13 : 1 ≤ z1 ∧ z1 ≤ 20) (h14 : 1 ≤ z20 ∧ z20 ≤ 1) (h15 : 1 ≤ z27 ∧ z27 ≤ 10) (h16 : 1 ≤ z34 ∧ z34 ≤ 1) (h17 : 0 ≤ z55 ∧ z55 ≤ 399) (h18 : 130 ≤ z59 ∧ z59 ≤ 530) (h19 : 1 ≤ z8 ∧ z8 ≤ 1) : (40 * (z59 + z55)) % 40 = 0 := by omega
theorem vc_X12_heard_g_24 {z62 z70 : Int} (h0 : ¬ z70 = 0) (h1 : (z70 = 1 → 0 ≤ z62)) (h2 : (z70 = 0 → z62 < 0)) (h3 : (-1) ≤ z62 ∧ z62 ≤ 9) (h4 : 0 ≤ z70 ∧ z70 ≤ 1) : 1 ≤ z70 ∧ z70 ≤ 1 := by omega
theorem vc_X12_heard_g_25 {z62 z70 : Int} (h0 : (z70 = 1 → 0 ≤ z62)) (h1 : (z70 = 0 → z62 < 0)) (h2 : ¬ z70 = 0) (h3 : (-1) ≤ z62 ∧ z62 ≤ 9) (h4 : 1 ≤ z70 ∧ z70 ≤ 1) : z70 = 1 := by omega
theorem vc_X12_heard_g_26 {z62 z70 : Int} (h0 : 0 ≤ z62) (h1 : (z70 = 1 → 0 ≤ z62)) (h2 : (z70 = 0 → z62 < 0)) (h3 : (-1) ≤ z62 ∧ z62 ≤ 9) (h4 : 1 ≤ z70 ∧ z70 ≤ 1) : 0 ≤ z62 ∧ z62 ≤ 9 := by omega
theorem vc_X12_heard_g_27 {p1 p2 p3 z1 z20 z27 z34 z55 z59 z8 : Int} (h0 : z55 = (((20 * p1) + (10 * p2)) + p3)) (h1 : (z8 = 1 → 0 ≤ p1 ∧ p1 < z1)) (h2 : (z8 = 0 → p1 < 0 ∨ z1 ≤ p1)) (h3 : 0 ≤ p1 ∧ p1 < z1) (h4 : (z20 = 1 → (0 : Int) ≤ p2 ∧ p2 ≤ (1 : Int))) (h5 : (z20 = 0 → p2 < (0 : Int) ∨ (1 : Int) < p2)) (h6 : (0 : Int) ≤ p2 ∧ p2 ≤ (1 : Int)) (h7 : (z34 = 1 → 0 ≤ p3 ∧ p3 < z27)) (h8 : (z34 = 0 → p3 < 0 ∨ z27 ≤ p3)) (h9 : 0 ≤ p3 ∧ p3 < z27) (h10 : 0 ≤ p1 ∧ p1 ≤ 19) (h11 : 0 ≤ p2 ∧ p2 ≤ 1) (h12 : 0 ≤ p3 ∧ p3 ≤ 9) (h13 : 1 ≤ z1 ∧ z1 ≤ 20) (h14 : 1 ≤ z20 ∧ z20 ≤ 1) (h15 : 1 ≤ z27 ∧ z27 ≤ 10) (h16 : 1 ≤ z34 ∧ z34 ≤ 1) (h17 : 0 ≤ z55 ∧ z55 ≤ 399) (h18 : 130 ≤ z59 ∧ z59 ≤ 530) (h19 : 1 ≤ z8 ∧ z8 ≤ 1) : (z59 + z55) < (0 : Int) ∨ (0 : Int) < (z59 + z55) := by omega
theorem vc_X12_heard_g_28  : (0 : Int) ≤ ((40 : Int) * (0 : Int)) := by omega
theorem vc_X12_heard_g_29  : (((40 : Int) * (0 : Int)) : Int) % (40 : Int) = (0 : Int) := by omega
theorem vc_X12_heard_g_30 {z62 z70 z79 : Int} (h0 : z79 = z62) (h1 : (z70 = 1 → 0 ≤ z62)) (h2 : (z70 = 0 → z62 < 0)) (h3 : 0 ≤ z62) (h4 : 0 ≤ z62 ∧ z62 ≤ 9) (h5 : 1 ≤ z70 ∧ z70 ≤ 1) (h6 : (-1) ≤ z79 ∧ z79 ≤ 9) : 0 ≤ z79 ∧ z79 ≤ 9 := by omega
theorem vc_X12_heard_g_31  : ((40 : Int) * (0 : Int)) ≤ ((40 : Int) * (0 : Int)) ∧ (((40 : Int) * (0 : Int)) + (40 : Int)) ≤ (((40 : Int) * (0 : Int)) + (40 : Int)) := by omega
theorem vc_X12_heard_g_32  : ((((40 : Int) * (0 : Int)) + (40 : Int)) : Int) ≤ (1200 : Int) ∨ (5200 : Int) ≤ (((40 : Int) * (0 : Int)) : Int) := by omega
theorem vc_X12_heard_g_33  : (0 : Int) = ((40 : Int) * (0 : Int)) := by omega
theorem vc_X12_heard_g_34 {z62 z70 z79 : Int} (h0 : (z70 = 1 → 0 ≤ z62)) (h1 : (z70 = 0 → z62 < 0)) (h2 : 0 ≤ z62) (h3 : z79 = z62) (h4 : ¬ z70 = 0) (h5 : 0 ≤ z62 ∧ z62 ≤ 9) (h6 : 1 ≤ z70 ∧ z70 ≤ 1) (h7 : 0 ≤ z79 ∧ z79 ≤ 9) : 0 ≤ z62 := by omega
theorem vc_X12_heard_g_35 {p4 z46 : Int} (h0 : ¬ p4 = 0) (h1 : (z46 = 1 → (0 : Int) ≤ p4 ∧ p4 ≤ (1 : Int))) (h2 : (z46 = 0 → p4 < (0 : Int) ∨ (1 : Int) < p4)) (h3 : (0 : Int) ≤ p4 ∧ p4 ≤ (1 : Int)) (h4 : 0 ≤ p4 ∧ p4 ≤ 1) (h5 : 1 ≤ z46 ∧ z46 ≤ 1) : 1 ≤ p4 ∧ p4 ≤ 1 := by omega
theorem vc_X12_heard_g_36 {p4 z46 : Int} (h0 : p4 = 0) (h1 : (z46 = 1 → (0 : Int) ≤ p4 ∧ p4 ≤ (1 : Int))) (h2 : (z46 = 0 → p4 < (0 : Int) ∨ (1 : Int) < p4)) (h3 : (0 : Int) ≤ p4 ∧ p4 ≤ (1 : Int)) (h4 : 0 ≤ p4 ∧ p4 ≤ 1) (h5 : 1 ≤ z46 ∧ z46 ≤ 1) : 0 ≤ p4 ∧ p4 ≤ 0 := by omega
theorem vc_X12_heard_g_37 {z62 z70 : Int} (h0 : z70 = 0) (h1 : (z70 = 1 → 0 ≤ z62)) (h2 : (z70 = 0 → z62 < 0)) (h3 : (-1) ≤ z62 ∧ z62 ≤ 9) (h4 : 0 ≤ z70 ∧ z70 ≤ 1) : 0 ≤ z70 ∧ z70 ≤ 0 := by omega
theorem vc_X12_heard_g_38 {z62 z70 : Int} (h0 : (z70 = 1 → 0 ≤ z62)) (h1 : (z70 = 0 → z62 < 0)) (h2 : z70 = 0) (h3 : (-1) ≤ z62 ∧ z62 ≤ 9) (h4 : 0 ≤ z70 ∧ z70 ≤ 0) : z70 = 0 := by omega
theorem vc_X12_heard_g_39 {z62 z70 : Int} (h0 : z62 < 0) (h1 : (z70 = 1 → 0 ≤ z62)) (h2 : (z70 = 0 → z62 < 0)) (h3 : (-1) ≤ z62 ∧ z62 ≤ 9) (h4 : 0 ≤ z70 ∧ z70 ≤ 0) : (-1) ≤ z62 ∧ z62 ≤ (-1) := by omega
theorem vc_X12_heard_g_40 {p4 z46 : Int} (h0 : z46 = 0) (h1 : (z46 = 1 → (0 : Int) ≤ p4 ∧ p4 ≤ (1 : Int))) (h2 : (z46 = 0 → p4 < (0 : Int) ∨ (1 : Int) < p4)) (h3 : (-2147483648) ≤ p4 ∧ p4 ≤ 2147483647) (h4 : 0 ≤ z46 ∧ z46 ≤ 1) : 0 ≤ z46 ∧ z46 ≤ 0 := by omega
theorem vc_X12_heard_g_41 {p4 z46 : Int} (h0 : (z46 = 1 → (0 : Int) ≤ p4 ∧ p4 ≤ (1 : Int))) (h1 : (z46 = 0 → p4 < (0 : Int) ∨ (1 : Int) < p4)) (h2 : z46 = 0) (h3 : (-2147483648) ≤ p4 ∧ p4 ≤ 2147483647) (h4 : 0 ≤ z46 ∧ z46 ≤ 0) : z46 = 0 := by omega
set_option maxRecDepth 4000 in
set_option maxHeartbeats 4000000 in
theorem c_X12_heard_g {l : Launch} {D : va_G} {c : Nat → ClassId} {H0 : Heap} {sa : Nat × Nat × (Nat → Int32)} {w : mW} {μ : mM} (hw : mWF w) (hT : mT w μ) {p1 : Int} (hp1 : (-2147483648) ≤ p1 ∧ p1 ≤ 2147483647) {p2 : Int} (hp2 : (-2147483648) ≤ p2 ∧ p2 ≤ 2147483647) {p3 : Int} (hp3 : (-2147483648) ≤ p3 ∧ p3 ≤ 2147483647) {p4 : Int} (hp4 : (-2147483648) ≤ p4 ∧ p4 ≤ 2147483647) (hIG1 : G1 μ) : sC (gG l D c H0 sa) mX12_heard 3 0 0 [.ref 106, iv p1, iv p2, iv p3, iv p4] (mk w μ) (qI w [106070, 126999] μ (fun z μ1 => ((-2147483648) ≤ z ∧ z ≤ 2147483647) ∧ G1 μ1 ∧ True)) := by
  refine sC.of rfl (by decide) (le_t rfl) ?_
  refine mr_lvE (lv' := [(0, .ref 106), (1, iv p1), (2, iv p2), (3, iv p3), (4, iv p4)]) rfl ?_
  refine sv_aload_n (pc := 0) dX12_heard_0 rfl rfl ?_
  refine mr_iload_n (pc := 1) (z := p1) dX12_heard_1 rfl rfl ?_
  obtain ⟨z1, q2⟩ : ∃ z, μ 106 6 = z := ⟨_, rfl⟩
  have h3 : (0 ≤ z1 ∧ z1 ≤ 20) := by rw [← q2]; exact hT 106 106 (A_106 hw) 6
  refine mr_cVP (pc := 2) (c_X12_isTie hw hT hp1 q2) (gOk _ _ _ _ _) dX12_heard_2 (tX12_isTie _ _ _ _ _) ⟨wV_X12_isTie, wL_X12_isTie⟩ wM_X12_66 (gCX12 _ _ _ _ _) rfl (A_106 hw) rfl ⟨le_t rfl, le_t rfl⟩ ⟨le_t rfl, le_t rfl⟩ rfl (le_t rfl) fun z8 h7 => ?_
  refine mr_if_eq (pc := 5) (tgt := 35) dX12_heard_5 (by decide) (r32 h7.1 rfl) (fun h9 => ?_) (fun h9 => ?_)
  · have h10 : 0 ≤ z8 ∧ z8 ≤ 0 := (vc_X12_heard_g_1 h9 h7.2.1 h7.2.2.1 hp1 h3 h7.1)
    have h11 : p1 < 0 ∨ z1 ≤ p1 := (h7.2.2.1 (vc_X12_heard_g_2 h7.2.1 h7.2.2.1 h9 hp1 h3 h10))
    refine mr_iconst (pc := 35) (z := (-1)) dX12_heard_35 ?_
    exact mr_iret dX12_heard_36 rfl (le_t rfl) (le_t rfl) hT mF.refl ⟨(rW (c := (-2147483648)) (d := 2147483647) (rR (x := (-1))) rfl), hIG1, trivial⟩
  have h12 : 1 ≤ z8 ∧ z8 ≤ 1 := (vc_X12_heard_g_3 h9 h7.2.1 h7.2.2.1 hp1 h3 h7.1)
  have h13 : 0 ≤ p1 ∧ p1 < z1 := (h7.2.1 (vc_X12_heard_g_4 h7.2.1 h7.2.2.1 h9 hp1 h3 h12))
  have h14 : 0 ≤ p1 ∧ p1 ≤ 19 := (vc_X12_heard_g_5 h13 h7.2.1 h7.2.2.1 hp1 h3 h12)
  have h15 : 1 ≤ z1 ∧ z1 ≤ 20 := (vc_X12_heard_g_6 h13 h7.2.1 h7.2.2.1 h14 h3 h12)
  refine mr_iload_n (pc := 8) (z := p2) dX12_heard_8 rfl rfl ?_
  refine mr_iconst (pc := 9) (z := 0) dX12_heard_9 ?_
  refine mr_iconst (pc := 10) (z := 1) dX12_heard_10 ?_
  refine mr_cSP (pc := 11) (c_X12_in hw hT hp2 (rW (c := (-2147483648)) (d := 2147483647) (rR (x := 0)) rfl) (rW (c := (-2147483648)) (d := 2147483647) (rR (x := 1)) rfl)) (gOk _ _ _ _ _) dX12_heard_11 (tX12_in _ _ _ _ _) wS_X12_in wM_X12_18 ⟨le_t rfl, le_t rfl⟩ ⟨le_t rfl, le_t rfl⟩ rfl (le_t rfl) fun z20 h19 => ?_
  refine mr_if_eq (pc := 14) (tgt := 35) dX12_heard_14 (by decide) (r32 h19.1 rfl) (fun h21 => ?_) (fun h21 => ?_)
  · have h22 : 0 ≤ z20 ∧ z20 ≤ 0 := (vc_X12_heard_g_7 h21 h19.2.1 h19.2.2.1 hp2 h19.1)
    have h23 : p2 < (0 : Int) ∨ (1 : Int) < p2 := (h19.2.2.1 (vc_X12_heard_g_8 h19.2.1 h19.2.2.1 h21 hp2 h22))
    refine mr_iconst (pc := 35) (z := (-1)) dX12_heard_35 ?_
    exact mr_iret dX12_heard_36 rfl (le_t rfl) (le_t rfl) hT mF.refl ⟨(rW (c := (-2147483648)) (d := 2147483647) (rR (x := (-1))) rfl), hIG1, trivial⟩
  have h24 : 1 ≤ z20 ∧ z20 ≤ 1 := (vc_X12_heard_g_9 h21 h19.2.1 h19.2.2.1 hp2 h19.1)
  have h25 : (0 : Int) ≤ p2 ∧ p2 ≤ (1 : Int) := (h19.2.1 (vc_X12_heard_g_10 h19.2.1 h19.2.2.1 h21 hp2 h24))
  have h26 : 0 ≤ p2 ∧ p2 ≤ 1 := (vc_X12_heard_g_11 h25 h19.2.1 h19.2.2.1 hp2 h24)
  refine sv_aload_n (pc := 17) dX12_heard_17 rfl rfl ?_
  refine mr_iload_n (pc := 18) (z := p3) dX12_heard_18 rfl rfl ?_
  obtain ⟨z27, q28⟩ : ∃ z, μ 106 2 = z := ⟨_, rfl⟩
  have h29 : (0 ≤ z27 ∧ z27 ≤ 10) := by rw [← q28]; exact hT 106 106 (A_106 hw) 2
  refine mr_cVP (pc := 19) (c_X12_isPrefix hw hT hp3 q28) (gOk _ _ _ _ _) dX12_heard_19 (tX12_isPrefix _ _ _ _ _) ⟨wV_X12_isPrefix, wL_X12_isPrefix⟩ wM_X12_92 (gCX12 _ _ _ _ _) rfl (A_106 hw) rfl ⟨le_t rfl, le_t rfl⟩ ⟨le_t rfl, le_t rfl⟩ rfl (le_t rfl) fun z34 h33 => ?_
  refine mr_if_eq (pc := 22) (tgt := 35) dX12_heard_22 (by decide) (r32 h33.1 rfl) (fun h35 => ?_) (fun h35 => ?_)
  · have h36 : 0 ≤ z34 ∧ z34 ≤ 0 := (vc_X12_heard_g_12 h35 h33.2.1 h33.2.2.1 hp3 h29 h33.1)
    have h37 : p3 < 0 ∨ z27 ≤ p3 := (h33.2.2.1 (vc_X12_heard_g_13 h33.2.1 h33.2.2.1 h35 hp3 h29 h36))
    refine mr_iconst (pc := 35) (z := (-1)) dX12_heard_35 ?_
    exact mr_iret dX12_heard_36 rfl (le_t rfl) (le_t rfl) hT mF.refl ⟨(rW (c := (-2147483648)) (d := 2147483647) (rR (x := (-1))) rfl), hIG1, trivial⟩
  have h38 : 1 ≤ z34 ∧ z34 ≤ 1 := (vc_X12_heard_g_14 h35 h33.2.1 h33.2.2.1 hp3 h29 h33.1)
  have h39 : 0 ≤ p3 ∧ p3 < z27 := (h33.2.1 (vc_X12_heard_g_15 h33.2.1 h33.2.2.1 h35 hp3 h29 h38))
  have h40 : 0 ≤ p3 ∧ p3 ≤ 9 := (vc_X12_heard_g_16 h39 h33.2.1 h33.2.2.1 hp3 h29 h38)
  have h41 : 1 ≤ z27 ∧ z27 ≤ 10 := (vc_X12_heard_g_17 h39 h33.2.1 h33.2.2.1 h40 h29 h38)
  refine mr_iload (pc := 25) (z := p4) dX12_heard_25 rfl ?_
  refine mr_iconst (pc := 27) (z := 0) dX12_heard_27 ?_
  refine mr_iconst (pc := 28) (z := 1) dX12_heard_28 ?_
  refine mr_cSP (pc := 29) (c_X12_in hw hT hp4 (rW (c := (-2147483648)) (d := 2147483647) (rR (x := 0)) rfl) (rW (c := (-2147483648)) (d := 2147483647) (rR (x := 1)) rfl)) (gOk _ _ _ _ _) dX12_heard_29 (tX12_in _ _ _ _ _) wS_X12_in wM_X12_18 ⟨le_t rfl, le_t rfl⟩ ⟨le_t rfl, le_t rfl⟩ rfl (le_t rfl) fun z46 h45 => ?_
  refine mr_if_ne (pc := 32) (tgt := 37) dX12_heard_32 (by decide) (r32 h45.1 rfl) (fun h47 => ?_) (fun h47 => ?_)
  · have h48 : 1 ≤ z46 ∧ z46 ≤ 1 := (vc_X12_heard_g_18 h47 h45.2.1 h45.2.2.1 hp4 h45.1)
    have h49 : (0 : Int) ≤ p4 ∧ p4 ≤ (1 : Int) := (h45.2.1 (vc_X12_heard_g_19 h45.2.1 h45.2.2.1 h47 hp4 h48))
    have h50 : 0 ≤ p4 ∧ p4 ≤ 1 := (vc_X12_heard_g_20 h49 h45.2.1 h45.2.2.1 hp4 h48)
    refine mr_iload_n (pc := 37) (z := p1) dX12_heard_37 rfl rfl ?_
    refine mr_iload_n (pc := 38) (z := p2) dX12_heard_38 rfl rfl ?_
    refine mr_iload_n (pc := 39) (z := p3) dX12_heard_39 rfl rfl ?_
    refine mr_cSP (pc := 40) (c_X12_slot hw hT (rW (c := 0) (d := 20) h14 rfl) (rW (c := 0) (d := 2) h26 rfl) h40) (gOk _ _ _ _ _) dX12_heard_40 (tX12_slot _ _ _ _ _) wS_X12_slot wM_X12_545 ⟨le_t rfl, le_t rfl⟩ ⟨le_t rfl, le_t rfl⟩ rfl (le_t rfl) fun z55 h54 => ?_
    have h56 : 0 ≤ z55 ∧ z55 ≤ 399 := (vc_X12_heard_g_21 h54.2.1 h13 h19.2.1 h19.2.2.1 h25 h33.2.1 h33.2.2.1 h39 h14 h26 h40 h15 h24 h41 h38 h54.1)
    refine mr_istore (pc := 43) (lv' := [(5, iv z55), (0, .ref 106), (1, iv p1), (2, iv p2), (3, iv p3), (4, iv p4)]) dX12_heard_43 (by decide) rfl ?_
    refine mr_iload (pc := 45) (z := p4) dX12_heard_45 rfl ?_
    have J61 : ∀ (z59 : Int), ((130 ≤ z59 ∧ z59 ≤ 530)) → sV (gG l D c H0 sa) mX12_heard (sRm 3 0 0) (sZ (gG l D c H0 sa) 0 0 (qI w [106070, 126999] μ (fun z μ1 => ((-2147483648) ≤ z ∧ z ≤ 2147483647) ∧ G1 μ1 ∧ True))) 59 [(0, .ref 106), (4, iv p4), (5, iv z55)] [iv z59] (mk w μ) 0 0 := by
      intro z59 h60
      refine mr_iload (pc := 59) (z := z55) dX12_heard_59 rfl ?_
      refine mr_iadd (pc := 61) (x := z59) (y := z55) dX12_heard_61 ?_
      refine mr_istore (pc := 62) (lv' := [(6, iv (z59 + z55)), (0, .ref 106), (4, iv p4), (5, iv z55)]) dX12_heard_62 (by decide) rfl ?_
      refine sv_aload_n (pc := 64) dX12_heard_64 rfl rfl ?_
      refine mr_iload (pc := 65) (z := (z59 + z55)) dX12_heard_65 rfl ?_
      obtain ⟨z62, q63⟩ : ∃ z, μ 126 ((40 * (z59 + z55)).toNat) = z := ⟨_, rfl⟩
      have h64 := rt7 hT (A_126 hw) (vc_X12_heard_g_22 h54.2.1 h7.2.1 h7.2.2.1 h13 h19.2.1 h19.2.2.1 h25 h33.2.1 h33.2.2.1 h39 h14 h26 h40 h15 h24 h41 h38 h56 h60 h12) q63
      have h65 : (-1) ≤ z62 ∧ z62 ≤ 9 := h64.2.1 (vc_X12_heard_g_23 h54.2.1 h7.2.1 h7.2.2.1 h13 h19.2.1 h19.2.2.1 h25 h33.2.1 h33.2.2.1 h39 h14 h26 h40 h15 h24 h41 h38 h56 h60 h12)
      refine mr_cVP (pc := 67) (c_X12_isThere hw hT (rW (c := 0) (d := 2099) (rAdd (e := 130) (f := 929) h60 h56 rfl) rfl) q63) (gOk _ _ _ _ _) dX12_heard_67 (tX12_isThere _ _ _ _ _) ⟨wV_X12_isThere, wL_X12_isThere⟩ wM_X12_151 (gCX12 _ _ _ _ _) rfl (A_106 hw) rfl ⟨le_t rfl, le_t rfl⟩ ⟨le_t rfl, le_t rfl⟩ rfl (le_t rfl) fun z70 h69 => ?_
      refine mr_if_ne (pc := 70) (tgt := 76) dX12_heard_70 (by decide) (r32 h69.1 rfl) (fun h71 => ?_) (fun h71 => ?_)
      · have h72 : 1 ≤ z70 ∧ z70 ≤ 1 := (vc_X12_heard_g_24 h71 h69.2.1 h69.2.2.1 h65 h69.1)
        have h73 : 0 ≤ z62 := (h69.2.1 (vc_X12_heard_g_25 h69.2.1 h69.2.2.1 h71 h65 h72))
        have h74 : 0 ≤ z62 ∧ z62 ≤ 9 := (vc_X12_heard_g_26 h73 h69.2.1 h69.2.2.1 h65 h72)
        refine sv_aload_n (pc := 76) dX12_heard_76 rfl rfl ?_
        refine mr_iload (pc := 77) (z := (z59 + z55)) dX12_heard_77 rfl ?_
        refine mr_iconst (pc := 79) (z := 0) dX12_heard_79 ?_
        refine mr_cVV (pc := 80) (c_X12_copy hw hT (rW (c := 0) (d := 2099) (rAdd (e := 130) (f := 929) h60 h56 rfl) rfl) (rW (c := 0) (d := 2099) (rR (x := 0)) rfl) q63 (vc_X12_heard_g_27 h54.2.1 h7.2.1 h7.2.2.1 h13 h19.2.1 h19.2.2.1 h25 h33.2.1 h33.2.2.1 h39 h14 h26 h40 h15 h24 h41 h38 h56 h60 h12)) (gOk _ _ _ _ _) dX12_heard_80 (tX12_copy _ _ _ _ _) ⟨wV_X12_copy, wL_X12_copy⟩ wM_X12_559 (gCX12 _ _ _ _ _) rfl (A_106 hw) rfl ⟨le_t rfl, le_t rfl⟩ ⟨le_t rfl, le_t rfl⟩ rfl (le_t rfl) fun μ75 T76 F77 h78 => ?_
        obtain ⟨z79, q80, h81⟩ := h78
        have h82 := rt7 T76 (A_126 hw) vc_X12_heard_g_28 q80
        have h83 : (-1) ≤ z79 ∧ z79 ≤ 9 := h82.2.1 vc_X12_heard_g_29
        have q84 : μ75 126 (((40 * 0) : Int).toNat) = z62 := q80.trans h81.2.1
        have h85 : 0 ≤ z79 ∧ z79 ≤ 9 := (vc_X12_heard_g_30 h81.2.1 h69.2.1 h69.2.2.1 h73 h74 h72 h83)
        refine sv_aload_n (pc := 83) dX12_heard_83 rfl rfl ?_
        refine mr_iconst (pc := 84) (z := 1) dX12_heard_84 ?_
        refine pf_X12_70 (pc := 85) dX12_heard_85 wF_X12_411 (A_106 hw) T76 (rW (c := 0) (d := 1) (rR (x := 1)) rfl) fun μ86 u87 T88 => ?_
        have I89 : G1 μ86 := G1.take hIG1 hw ((mF.up (mF.call mF.refl F77 rfl) (A_106 hw) u87 rfl) : mF [106070, 126999] w μ μ86) rfl ((mG.upO (mG.call mG.refl h81.1 (List.forall_mem_cons.mpr ⟨⟨_, List.mem_cons_self, vc_X12_heard_g_31⟩, (fun _ h => absurd h List.not_mem_nil)⟩)) u87 rfl) : mG [((40 * 0), ((40 * 0) + 40))] μ μ86) (List.forall_mem_cons.mpr ⟨vc_X12_heard_g_32, (fun _ h => absurd h List.not_mem_nil)⟩) (eqIx vc_X12_heard_g_33 (u87.f (Or.inl (mAt.ne (A_106 hw) (A_126 hw) rfl)) q84)) (vc_X12_heard_g_34 h69.2.1 h69.2.2.1 h73 h81.2.1 h71 h74 h72 h85)
        refine mr_iload (pc := 88) (z := p4) dX12_heard_88 rfl ?_
        refine mr_if_ne (pc := 90) (tgt := 103) dX12_heard_90 (by decide) (r32 h50 rfl) (fun h98 => ?_) (fun h98 => ?_)
        · have h99 : 1 ≤ p4 ∧ p4 ≤ 1 := (vc_X12_heard_g_35 h98 h45.2.1 h45.2.2.1 h49 h50 h48)
          refine sv_aload_n (pc := 103) dX12_heard_103 rfl rfl ?_
          refine gf_X12_76 (pc := 104) dX12_heard_104 wF_X12_430 (A_106 hw) T88 ?_
          refine mr_iload (pc := 107) (z := z55) dX12_heard_107 rfl ?_
          refine la_156 (pc := 109) dX12_heard_109 (A_156 hw) T88 (rIx (n := 400) h56 rfl) fun z100 q101 h102 => ?_
          exact mr_iret dX12_heard_110 rfl (le_t rfl) (le_t rfl) T88 (mF.up (mF.call mF.refl F77 rfl) (A_106 hw) u87 rfl) ⟨(rW (c := (-2147483648)) (d := 2147483647) h102 rfl), I89, trivial⟩
        have h103 : 0 ≤ p4 ∧ p4 ≤ 0 := (vc_X12_heard_g_36 h98 h45.2.1 h45.2.2.1 h49 h50 h48)
        refine sv_aload_n (pc := 93) dX12_heard_93 rfl rfl ?_
        refine gf_X12_74 (pc := 94) dX12_heard_94 wF_X12_424 (A_106 hw) T88 ?_
        refine mr_iload (pc := 97) (z := z55) dX12_heard_97 rfl ?_
        refine la_154 (pc := 99) dX12_heard_99 (A_154 hw) T88 (rIx (n := 400) h56 rfl) fun z104 q105 h106 => ?_
        refine sv_goto (pc := 100) (tgt := 110) dX12_heard_100 (by decide) ?_
        exact mr_iret dX12_heard_110 rfl (le_t rfl) (le_t rfl) T88 (mF.up (mF.call mF.refl F77 rfl) (A_106 hw) u87 rfl) ⟨(rW (c := (-2147483648)) (d := 2147483647) h106 rfl), I89, trivial⟩
      have h107 : 0 ≤ z70 ∧ z70 ≤ 0 := (vc_X12_heard_g_37 h71 h69.2.1 h69.2.2.1 h65 h69.1)
      have h108 : z62 < 0 := (h69.2.2.1 (vc_X12_heard_g_38 h69.2.1 h69.2.2.1 h71 h65 h107))
      have h109 : (-1) ≤ z62 ∧ z62 ≤ (-1) := (vc_X12_heard_g_39 h108 h69.2.1 h69.2.2.1 h65 h107)
      refine mr_ldc (pc := 73) (z := (-99999999)) dX12_heard_73 wG_X12_29 (by decide) ?_
      exact mr_iret dX12_heard_75 rfl (le_t rfl) (le_t rfl) hT mF.refl ⟨(rW (c := (-2147483648)) (d := 2147483647) (rR (x := (-99999999))) rfl), hIG1, trivial⟩
    refine mr_if_ne (pc := 47) (tgt := 56) dX12_heard_47 (by decide) (r32 h50 rfl) (fun h110 => ?_) (fun h110 => ?_)
    · have h111 : 1 ≤ p4 ∧ p4 ≤ 1 := (vc_X12_heard_g_35 h110 h45.2.1 h45.2.2.1 h49 h50 h48)
      refine mr_sipush (pc := 56) (z := 530) dX12_heard_56 (by decide) ?_
      refine mr_lvS (lv' := [(0, .ref 106), (4, iv p4), (5, iv z55)]) (List.forall_mem_cons.mpr ⟨rfl, List.forall_mem_cons.mpr ⟨rfl, List.forall_mem_cons.mpr ⟨rfl, fun _ h => absurd h List.not_mem_nil⟩⟩⟩) ?_
      exact J61 530 (rW (c := 130) (d := 530) (rR (x := 530)) rfl)
    have h112 : 0 ≤ p4 ∧ p4 ≤ 0 := (vc_X12_heard_g_36 h110 h45.2.1 h45.2.2.1 h49 h50 h48)
    refine mr_sipush (pc := 50) (z := 130) dX12_heard_50 (by decide) ?_
    refine sv_goto (pc := 53) (tgt := 59) dX12_heard_53 (by decide) ?_
    refine mr_lvS (lv' := [(0, .ref 106), (4, iv p4), (5, iv z55)]) (List.forall_mem_cons.mpr ⟨rfl, List.forall_mem_cons.mpr ⟨rfl, List.forall_mem_cons.mpr ⟨rfl, fun _ h => absurd h List.not_mem_nil⟩⟩⟩) ?_
    exact J61 130 (rW (c := 130) (d := 530) (rR (x := 130)) rfl)
  have h113 : 0 ≤ z46 ∧ z46 ≤ 0 := (vc_X12_heard_g_40 h47 h45.2.1 h45.2.2.1 hp4 h45.1)
  have h114 : p4 < (0 : Int) ∨ (1 : Int) < p4 := (h45.2.2.1 (vc_X12_heard_g_41 h45.2.1 h45.2.2.1 h47 hp4 h113))
  refine mr_iconst (pc := 35) (z := (-1)) dX12_heard_35 ?_
  exact mr_iret dX12_heard_36 rfl (le_t rfl) (le_t rfl) hT mF.refl ⟨(rW (c := (-2147483648)) (d := 2147483647) (rR (x := (-1))) rfl), hIG1, trivial⟩
theorem vc_X12_route_g_1 {p1 z1 z8 : Int} (h0 : z8 = 0) (h1 : (z8 = 1 → 0 ≤ p1 ∧ p1 < z1)) (h2 : (z8 = 0 → p1 < 0 ∨ z1 ≤ p1)) (h3 : (-2147483648) ≤ p1 ∧ p1 ≤ 2147483647) (h4 : 0 ≤ z1 ∧ z1 ≤ 10) (h5 : 0 ≤ z8 ∧ z8 ≤ 1) : 0 ≤ z8 ∧ z8 ≤ 0 := by omega
theorem vc_X12_route_g_2 {p1 z1 z8 : Int} (h0 : (z8 = 1 → 0 ≤ p1 ∧ p1 < z1)) (h1 : (z8 = 0 → p1 < 0 ∨ z1 ≤ p1)) (h2 : z8 = 0) (h3 : (-2147483648) ≤ p1 ∧ p1 ≤ 2147483647) (h4 : 0 ≤ z1 ∧ z1 ≤ 10) (h5 : 0 ≤ z8 ∧ z8 ≤ 0) : z8 = 0 := by omega
theorem vc_X12_route_g_3 {p1 z1 z8 : Int} (h0 : ¬ z8 = 0) (h1 : (z8 = 1 → 0 ≤ p1 ∧ p1 < z1)) (h2 : (z8 = 0 → p1 < 0 ∨ z1 ≤ p1)) (h3 : (-2147483648) ≤ p1 ∧ p1 ≤ 2147483647) (h4 : 0 ≤ z1 ∧ z1 ≤ 10) (h5 : 0 ≤ z8 ∧ z8 ≤ 1) : 1 ≤ z8 ∧ z8 ≤ 1 := by omega
theorem vc_X12_route_g_4 {p1 z1 z8 : Int} (h0 : (z8 = 1 → 0 ≤ p1 ∧ p1 < z1)) (h1 : (z8 = 0 → p1 < 0 ∨ z1 ≤ p1)) (h2 : ¬ z8 = 0) (h3 : (-2147483648) ≤ p1 ∧ p1 ≤ 2147483647) (h4 : 0 ≤ z1 ∧ z1 ≤ 10) (h5 : 1 ≤ z8 ∧ z8 ≤ 1) : z8 = 1 := by omega
theorem vc_X12_route_g_5 {p1 z1 z8 : Int} (h0 : 0 ≤ p1 ∧ p1 < z1) (h1 : (z8 = 1 → 0 ≤ p1 ∧ p1 < z1)) (h2 : (z8 = 0 → p1 < 0 ∨ z1 ≤ p1)) (h3 : (-2147483648) ≤ p1 ∧ p1 ≤ 2147483647) (h4 : 0 ≤ z1 ∧ z1 ≤ 10) (h5 : 1 ≤ z8 ∧ z8 ≤ 1) : 0 ≤ p1 ∧ p1 ≤ 9 := by omega
theorem vc_X12_route_g_6 {p1 z1 z8 : Int} (h0 : 0 ≤ p1 ∧ p1 < z1) (h1 : (z8 = 1 → 0 ≤ p1 ∧ p1 < z1)) (h2 : (z8 = 0 → p1 < 0 ∨ z1 ≤ p1)) (h3 : 0 ≤ p1 ∧ p1 ≤ 9) (h4 : 0 ≤ z1 ∧ z1 ≤ 10) (h5 : 1 ≤ z8 ∧ z8 ≤ 1) : 1 ≤ z1 ∧ z1 ≤ 10 := by omega
theorem vc_X12_route_g_7 {p2 z20 : Int} (h0 : z20 = 0) (h1 : (z20 = 1 → (0 : Int) ≤ p2 ∧ p2 ≤ (1000 : Int))) (h2 : (z20 = 0 → p2 < (0 : Int) ∨ (1000 : Int) < p2)) (h3 : (-2147483648) ≤ p2 ∧ p2 ≤ 2147483647) (h4 : 0 ≤ z20 ∧ z20 ≤ 1) : 0 ≤ z20 ∧ z20 ≤ 0 := by omega
theorem vc_X12_route_g_8 {p2 z20 : Int} (h0 : (z20 = 1 → (0 : Int) ≤ p2 ∧ p2 ≤ (1000 : Int))) (h1 : (z20 = 0 → p2 < (0 : Int) ∨ (1000 : Int) < p2)) (h2 : z20 = 0) (h3 : (-2147483648) ≤ p2 ∧ p2 ≤ 2147483647) (h4 : 0 ≤ z20 ∧ z20 ≤ 0) : z20 = 0 := by omega
theorem vc_X12_route_g_9 {p2 z20 : Int} (h0 : ¬ z20 = 0) (h1 : (z20 = 1 → (0 : Int) ≤ p2 ∧ p2 ≤ (1000 : Int))) (h2 : (z20 = 0 → p2 < (0 : Int) ∨ (1000 : Int) < p2)) (h3 : (-2147483648) ≤ p2 ∧ p2 ≤ 2147483647) (h4 : 0 ≤ z20 ∧ z20 ≤ 1) : 1 ≤ z20 ∧ z20 ≤ 1 := by omega
theorem vc_X12_route_g_10 {p2 z20 : Int} (h0 : (z20 = 1 → (0 : Int) ≤ p2 ∧ p2 ≤ (1000 : Int))) (h1 : (z20 = 0 → p2 < (0 : Int) ∨ (1000 : Int) < p2)) (h2 : ¬ z20 = 0) (h3 : (-2147483648) ≤ p2 ∧ p2 ≤ 2147483647) (h4 : 1 ≤ z20 ∧ z20 ≤ 1) : z20 = 1 := by omega
theorem vc_X12_route_g_11 {p2 z20 : Int} (h0 : (0 : Int) ≤ p2 ∧ p2 ≤ (1000 : Int)) (h1 : (z20 = 1 → (0 : Int) ≤ p2 ∧ p2 ≤ (1000 : Int))) (h2 : (z20 = 0 → p2 < (0 : Int) ∨ (1000 : Int) < p2)) (h3 : (-2147483648) ≤ p2 ∧ p2 ≤ 2147483647) (h4 : 1 ≤ z20 ∧ z20 ≤ 1) : 0 ≤ p2 ∧ p2 ≤ 1000 := by omega
theorem vc_X12_route_g_12 {p3 z31 : Int} (h0 : z31 = 0) (h1 : (z31 = 1 → (0 : Int) ≤ p3 ∧ p3 ≤ (2 : Int))) (h2 : (z31 = 0 → p3 < (0 : Int) ∨ (2 : Int) < p3)) (h3 : (-2147483648) ≤ p3 ∧ p3 ≤ 2147483647) (h4 : 0 ≤ z31 ∧ z31 ≤ 1) : 0 ≤ z31 ∧ z31 ≤ 0 := by omega
theorem vc_X12_route_g_13 {p3 z31 : Int} (h0 : (z31 = 1 → (0 : Int) ≤ p3 ∧ p3 ≤ (2 : Int))) (h1 : (z31 = 0 → p3 < (0 : Int) ∨ (2 : Int) < p3)) (h2 : z31 = 0) (h3 : (-2147483648) ≤ p3 ∧ p3 ≤ 2147483647) (h4 : 0 ≤ z31 ∧ z31 ≤ 0) : z31 = 0 := by omega
theorem vc_X12_route_g_14 {p3 z31 : Int} (h0 : ¬ z31 = 0) (h1 : (z31 = 1 → (0 : Int) ≤ p3 ∧ p3 ≤ (2 : Int))) (h2 : (z31 = 0 → p3 < (0 : Int) ∨ (2 : Int) < p3)) (h3 : (-2147483648) ≤ p3 ∧ p3 ≤ 2147483647) (h4 : 0 ≤ z31 ∧ z31 ≤ 1) : 1 ≤ z31 ∧ z31 ≤ 1 := by omega
theorem vc_X12_route_g_15 {p3 z31 : Int} (h0 : (z31 = 1 → (0 : Int) ≤ p3 ∧ p3 ≤ (2 : Int))) (h1 : (z31 = 0 → p3 < (0 : Int) ∨ (2 : Int) < p3)) (h2 : ¬ z31 = 0) (h3 : (-2147483648) ≤ p3 ∧ p3 ≤ 2147483647) (h4 : 1 ≤ z31 ∧ z31 ≤ 1) : z31 = 1 := by omega
theorem vc_X12_route_g_16 {p3 z31 : Int} (h0 : (0 : Int) ≤ p3 ∧ p3 ≤ (2 : Int)) (h1 : (z31 = 1 → (0 : Int) ≤ p3 ∧ p3 ≤ (2 : Int))) (h2 : (z31 = 0 → p3 < (0 : Int) ∨ (2 : Int) < p3)) (h3 : (-2147483648) ≤ p3 ∧ p3 ≤ 2147483647) (h4 : 1 ≤ z31 ∧ z31 ≤ 1) : 0 ≤ p3 ∧ p3 ≤ 2 := by omega
theorem vc_X12_route_g_17 {p4 z42 : Int} (h0 : ¬ z42 = 0) (h1 : (z42 = 1 → (0 : Int) ≤ p4 ∧ p4 ≤ (1000000 : Int))) (h2 : (z42 = 0 → p4 < (0 : Int) ∨ (1000000 : Int) < p4)) (h3 : (-2147483648) ≤ p4 ∧ p4 ≤ 2147483647) (h4 : 0 ≤ z42 ∧ z42 ≤ 1) : 1 ≤ z42 ∧ z42 ≤ 1 := by omega
theorem vc_X12_route_g_18 {p4 z42 : Int} (h0 : (z42 = 1 → (0 : Int) ≤ p4 ∧ p4 ≤ (1000000 : Int))) (h1 : (z42 = 0 → p4 < (0 : Int) ∨ (1000000 : Int) < p4)) (h2 : ¬ z42 = 0) (h3 : (-2147483648) ≤ p4 ∧ p4 ≤ 2147483647) (h4 : 1 ≤ z42 ∧ z42 ≤ 1) : z42 = 1 := by omega
theorem vc_X12_route_g_19 {p4 z42 : Int} (h0 : (0 : Int) ≤ p4 ∧ p4 ≤ (1000000 : Int)) (h1 : (z42 = 1 → (0 : Int) ≤ p4 ∧ p4 ≤ (1000000 : Int))) (h2 : (z42 = 0 → p4 < (0 : Int) ∨ (1000000 : Int) < p4)) (h3 : (-2147483648) ≤ p4 ∧ p4 ≤ 2147483647) (h4 : 1 ≤ z42 ∧ z42 ≤ 1) : 0 ≤ p4 ∧ p4 ≤ 1000000 := by omega
theorem vc_X12_route_g_20 {p1 z1 z8 : Int} (h0 : (z8 = 1 → 0 ≤ p1 ∧ p1 < z1)) (h1 : (z8 = 0 → p1 < 0 ∨ z1 ≤ p1)) (h2 : 0 ≤ p1 ∧ p1 < z1) (h3 : ¬ z8 = 0) (h4 : 0 ≤ p1 ∧ p1 ≤ 9) (h5 : 1 ≤ z1 ∧ z1 ≤ 10) (h6 : 1 ≤ z8 ∧ z8 ≤ 1) : (-2147483648 ≤ p1 ∧ p1 ≤ 2147483647) ∧ ((0 : Int) % 40 = 0 → -1 ≤ p1 ∧ p1 ≤ 9) ∧ ((0 : Int) % 40 = 4 → 0 ≤ p1 ∧ p1 ≤ 20) ∧ ((0 : Int) % 40 = 5 → 0 ≤ p1 ∧ p1 ≤ 8) := by omega
theorem vc_X12_route_g_21  : (0 : Int) ≤ (0 : Int) ∧ (0 : Int) ≤ (0 : Int) ∧ (0 : Int) < ((0 : Int) + (1 : Int)) := by omega
theorem vc_X12_route_g_22  : (((0 : Int) + (1 : Int)) : Int) ≤ (1200 : Int) ∨ (5200 : Int) ≤ ((0 : Int) : Int) := by omega
theorem vc_X12_route_g_23 {p1 z1 z8 : Int} (h0 : (z8 = 1 → 0 ≤ p1 ∧ p1 < z1)) (h1 : (z8 = 0 → p1 < 0 ∨ z1 ≤ p1)) (h2 : 0 ≤ p1 ∧ p1 < z1) (h3 : ¬ z8 = 0) (h4 : 0 ≤ p1 ∧ p1 ≤ 9) (h5 : 1 ≤ z1 ∧ z1 ≤ 10) (h6 : 1 ≤ z8 ∧ z8 ≤ 1) : 0 ≤ p1 := by omega
theorem vc_X12_route_g_24 {p2 z20 : Int} (h0 : (z20 = 1 → (0 : Int) ≤ p2 ∧ p2 ≤ (1000 : Int))) (h1 : (z20 = 0 → p2 < (0 : Int) ∨ (1000 : Int) < p2)) (h2 : (0 : Int) ≤ p2 ∧ p2 ≤ (1000 : Int)) (h3 : ¬ z20 = 0) (h4 : 0 ≤ p2 ∧ p2 ≤ 1000) (h5 : 1 ≤ z20 ∧ z20 ≤ 1) : (-2147483648 ≤ p2 ∧ p2 ≤ 2147483647) ∧ ((1 : Int) % 40 = 0 → -1 ≤ p2 ∧ p2 ≤ 9) ∧ ((1 : Int) % 40 = 4 → 0 ≤ p2 ∧ p2 ≤ 20) ∧ ((1 : Int) % 40 = 5 → 0 ≤ p2 ∧ p2 ≤ 8) := by omega
theorem vc_X12_route_g_25 {p3 z31 : Int} (h0 : (z31 = 1 → (0 : Int) ≤ p3 ∧ p3 ≤ (2 : Int))) (h1 : (z31 = 0 → p3 < (0 : Int) ∨ (2 : Int) < p3)) (h2 : (0 : Int) ≤ p3 ∧ p3 ≤ (2 : Int)) (h3 : ¬ z31 = 0) (h4 : 0 ≤ p3 ∧ p3 ≤ 2) (h5 : 1 ≤ z31 ∧ z31 ≤ 1) : (-2147483648 ≤ p3 ∧ p3 ≤ 2147483647) ∧ ((2 : Int) % 40 = 0 → -1 ≤ p3 ∧ p3 ≤ 9) ∧ ((2 : Int) % 40 = 4 → 0 ≤ p3 ∧ p3 ≤ 20) ∧ ((2 : Int) % 40 = 5 → 0 ≤ p3 ∧ p3 ≤ 8) := by omega
theorem vc_X12_route_g_26 {p4 z42 : Int} (h0 : (z42 = 1 → (0 : Int) ≤ p4 ∧ p4 ≤ (1000000 : Int))) (h1 : (z42 = 0 → p4 < (0 : Int) ∨ (1000000 : Int) < p4)) (h2 : (0 : Int) ≤ p4 ∧ p4 ≤ (1000000 : Int)) (h3 : ¬ z42 = 0) (h4 : 0 ≤ p4 ∧ p4 ≤ 1000000) (h5 : 1 ≤ z42 ∧ z42 ≤ 1) : (-2147483648 ≤ p4 ∧ p4 ≤ 2147483647) ∧ ((3 : Int) % 40 = 0 → -1 ≤ p4 ∧ p4 ≤ 9) ∧ ((3 : Int) % 40 = 4 → 0 ≤ p4 ∧ p4 ≤ 20) ∧ ((3 : Int) % 40 = 5 → 0 ≤ p4 ∧ p4 ≤ 8) := by omega
theorem vc_X12_route_g_27 {z60 : Int} (h0 : 0 ≤ z60 ∧ z60 ≤ 20) : (-2147483648 ≤ z60 ∧ z60 ≤ 2147483647) ∧ ((4 : Int) % 40 = 0 → -1 ≤ z60 ∧ z60 ≤ 9) ∧ ((4 : Int) % 40 = 4 → 0 ≤ z60 ∧ z60 ≤ 20) ∧ ((4 : Int) % 40 = 5 → 0 ≤ z60 ∧ z60 ≤ 8) := by omega
theorem vc_X12_route_g_28  : (-(2147483648 : Int) ≤ ((0 : Int) : Int) ∧ ((0 : Int) : Int) ≤ (2147483647 : Int)) ∧ (((5 : Int) : Int) % (40 : Int) = (0 : Int) → -(1 : Int) ≤ ((0 : Int) : Int) ∧ ((0 : Int) : Int) ≤ (9 : Int)) ∧ (((5 : Int) : Int) % (40 : Int) = (4 : Int) → (0 : Int) ≤ ((0 : Int) : Int) ∧ ((0 : Int) : Int) ≤ (20 : Int)) ∧ (((5 : Int) : Int) % (40 : Int) = (5 : Int) → (0 : Int) ≤ ((0 : Int) : Int) ∧ ((0 : Int) : Int) ≤ (8 : Int)) := by omega
theorem vc_X12_route_g_29 {z293 : Int} (h0 : (21 - z293) < ((0 : Nat) : Int)) (h1 : 0 ≤ z293 ∧ z293 ≤ 20) : False := by omega
theorem vc_X12_route_g_30  : (0 : Int) ≤ (0 : Int) := by omega
theorem vc_X12_route_g_31  : ((0 : Int) : Int) % (40 : Int) = (0 : Int) := by omega
theorem vc_X12_route_g_32 {f_q p1 z1 z8 : Int} (h0 : f_q = p1) (h1 : (z8 = 1 → 0 ≤ p1 ∧ p1 < z1)) (h2 : (z8 = 0 → p1 < 0 ∨ z1 ≤ p1)) (h3 : 0 ≤ p1 ∧ p1 < z1) (h4 : (-1) ≤ f_q ∧ f_q ≤ 9) (h5 : 0 ≤ p1 ∧ p1 ≤ 9) (h6 : 1 ≤ z1 ∧ z1 ≤ 10) (h7 : 1 ≤ z8 ∧ z8 ≤ 1) : 0 ≤ f_q := by omega
theorem vc_X12_route_g_33  : (0 : Int) ≤ (0 : Int) ∧ (0 : Int) ≤ (0 : Int) ∧ (0 : Int) < (40 : Int) := by omega
theorem vc_X12_route_g_34  : (0 : Int) ≤ (1 : Int) ∧ (0 : Int) ≤ (1 : Int) ∧ (1 : Int) < (40 : Int) := by omega
theorem vc_X12_route_g_35  : (0 : Int) ≤ (2 : Int) ∧ (0 : Int) ≤ (2 : Int) ∧ (2 : Int) < (40 : Int) := by omega
theorem vc_X12_route_g_36  : (0 : Int) ≤ (3 : Int) ∧ (0 : Int) ≤ (3 : Int) ∧ (3 : Int) < (40 : Int) := by omega
theorem vc_X12_route_g_37  : (0 : Int) ≤ (4 : Int) ∧ (0 : Int) ≤ (4 : Int) ∧ (4 : Int) < (40 : Int) := by omega
theorem vc_X12_route_g_38  : (0 : Int) ≤ (5 : Int) ∧ (0 : Int) ≤ (5 : Int) ∧ (5 : Int) < (40 : Int) := by omega
theorem vc_X12_route_g_39  : (0 : Int) ≤ (0 : Int) ∧ (40 : Int) ≤ (40 : Int) := by omega
theorem vc_X12_route_g_40 {z293 z60 : Int} (h0 : z293 < z60) (h1 : 0 ≤ z293 ∧ z293 ≤ 20) (h2 : 0 ≤ z60 ∧ z60 ≤ 20) : 0 ≤ z293 ∧ z293 ≤ 19 := by omega
theorem vc_X12_route_g_41 {z293 z60 : Int} (h0 : z293 < z60) (h1 : 0 ≤ z293 ∧ z293 ≤ 19) (h2 : 0 ≤ z60 ∧ z60 ≤ 20) : 1 ≤ z60 ∧ z60 ≤ 20 := by omega
theorem vc_X12_route_g_42 {z293 z322 z60 : Int} (h0 : z293 < z60) (h1 : 0 ≤ z293 ∧ z293 ≤ 19) (h2 : 0 ≤ z322 ∧ z322 ≤ 9) (h3 : 1 ≤ z60 ∧ z60 ≤ 20) : (-2147483648 ≤ z322 ∧ z322 ≤ 2147483647) ∧ ((6 + z293) % 40 = 0 → -1 ≤ z322 ∧ z322 ≤ 9) ∧ ((6 + z293) % 40 = 4 → 0 ≤ z322 ∧ z322 ≤ 20) ∧ ((6 + z293) % 40 = 5 → 0 ≤ z322 ∧ z322 ≤ 8) := by omega
theorem vc_X12_route_g_43 {z293 z60 : Int} (h0 : z293 < z60) (h1 : 0 ≤ z293 ∧ z293 ≤ 19) (h2 : 1 ≤ z60 ∧ z60 ≤ 20) : (0 : Int).toNat ≠ (6 + z293).toNat := by omega
theorem vc_X12_route_g_44 {f_q p1 z1 z8 : Int} (h0 : (z8 = 1 → 0 ≤ p1 ∧ p1 < z1)) (h1 : (z8 = 0 → p1 < 0 ∨ z1 ≤ p1)) (h2 : 0 ≤ p1 ∧ p1 < z1) (h3 : f_q = p1) (h4 : ¬ z8 = 0) (h5 : (-1) ≤ f_q ∧ f_q ≤ 9) (h6 : 0 ≤ p1 ∧ p1 ≤ 9) (h7 : 1 ≤ z1 ∧ z1 ≤ 10) (h8 : 1 ≤ z8 ∧ z8 ≤ 1) : f_q = p1 := by omega
theorem vc_X12_route_g_45 {N z293 z60 : Int} (h0 : (21 - z293) < N + 1) (h1 : z293 < z60) (h2 : 0 ≤ z293 ∧ z293 ≤ 19) (h3 : 1 ≤ z60 ∧ z60 ≤ 20) : (21 - (z293 + 1)) < N := by omega
theorem vc_X12_route_g_46 {z293 z60 : Int} (h0 : z293 < z60) (h1 : 0 ≤ z293 ∧ z293 ≤ 19) (h2 : 1 ≤ z60 ∧ z60 ≤ 20) : 0 ≤ (6 + z293) ∧ 0 ≤ (6 + z293) ∧ (6 + z293) < 40 := by omega
theorem vc_X12_route_g_47 {z293 z60 : Int} (h0 : z293 < z60) (h1 : 0 ≤ z293 ∧ z293 ≤ 19) (h2 : 1 ≤ z60 ∧ z60 ≤ 20) : 0 ≤ (6 + z293) ∧ (6 + z293) ≤ (6 + z293) ∧ (6 + z293) < ((6 + z293) + 1) := by omega
theorem vc_X12_route_g_48 {z293 z60 : Int} (h0 : z293 < z60) (h1 : 0 ≤ z293 ∧ z293 ≤ 19) (h2 : 1 ≤ z60 ∧ z60 ≤ 20) : (1 ≤ (6 + z293) ∧ ((6 + z293) + 1) ≤ 1200) ∨ 5200 ≤ (6 + z293) := by omega
theorem vc_X12_route_g_49  : (0 : Int).toNat ≠ (1 : Int).toNat := by omega
theorem vc_X12_route_g_50  : (0 : Int).toNat ≠ (2 : Int).toNat := by omega
theorem vc_X12_route_g_51  : (0 : Int).toNat ≠ (3 : Int).toNat := by omega
theorem vc_X12_route_g_52  : (0 : Int).toNat ≠ (4 : Int).toNat := by omega
theorem vc_X12_route_g_53  : (0 : Int).toNat ≠ (5 : Int).toNat := by omega
theorem vc_X12_route_g_54 {p1 z1 z8 : Int} (h0 : (z8 = 1 → 0 ≤ p1 ∧ p1 < z1)) (h1 : (z8 = 0 → p1 < 0 ∨ z1 ≤ p1)) (h2 : 0 ≤ p1 ∧ p1 < z1) (h3 : ¬ z8 = 0) (h4 : 0 ≤ p1 ∧ p1 ≤ 9) (h5 : 1 ≤ z1 ∧ z1 ≤ 10) (h6 : 1 ≤ z8 ∧ z8 ≤ 1) : p1 = p1 := by omega
theorem vc_X12_route_g_55  : (21 - 0) < ((22 : Nat) : Int) := by omega
theorem vc_X12_route_g_56  : (0 : Int) ≤ (1 : Int) ∧ (1 : Int) ≤ (1 : Int) ∧ (1 : Int) < ((1 : Int) + (1 : Int)) := by omega
theorem vc_X12_route_g_57  : (0 : Int) ≤ (2 : Int) ∧ (2 : Int) ≤ (2 : Int) ∧ (2 : Int) < ((2 : Int) + (1 : Int)) := by omega
theorem vc_X12_route_g_58  : (0 : Int) ≤ (3 : Int) ∧ (3 : Int) ≤ (3 : Int) ∧ (3 : Int) < ((3 : Int) + (1 : Int)) := by omega
theorem vc_X12_route_g_59  : (0 : Int) ≤ (4 : Int) ∧ (4 : Int) ≤ (4 : Int) ∧ (4 : Int) < ((4 : Int) + (1 : Int)) := by omega
theorem vc_X12_route_g_60  : (0 : Int) ≤ (5 : Int) ∧ (5 : Int) ≤ (5 : Int) ∧ (5 : Int) < ((5 : Int) + (1 : Int)) := by omega
theorem vc_X12_route_g_61  : ((1 : Int) ≤ ((5 : Int) : Int) ∧ (((5 : Int) + (1 : Int)) : Int) ≤ (1200 : Int)) ∨ (5200 : Int) ≤ ((5 : Int) : Int) := by omega
theorem vc_X12_route_g_62  : ((1 : Int) ≤ ((4 : Int) : Int) ∧ (((4 : Int) + (1 : Int)) : Int) ≤ (1200 : Int)) ∨ (5200 : Int) ≤ ((4 : Int) : Int) := by omega
theorem vc_X12_route_g_63  : ((1 : Int) ≤ ((3 : Int) : Int) ∧ (((3 : Int) + (1 : Int)) : Int) ≤ (1200 : Int)) ∨ (5200 : Int) ≤ ((3 : Int) : Int) := by omega
theorem vc_X12_route_g_64  : ((1 : Int) ≤ ((2 : Int) : Int) ∧ (((2 : Int) + (1 : Int)) : Int) ≤ (1200 : Int)) ∨ (5200 : Int) ≤ ((2 : Int) : Int) := by omega
theorem vc_X12_route_g_65  : ((1 : Int) ≤ ((1 : Int) : Int) ∧ (((1 : Int) + (1 : Int)) : Int) ≤ (1200 : Int)) ∨ (5200 : Int) ≤ ((1 : Int) : Int) := by omega
theorem vc_X12_route_g_66 {p4 z42 : Int} (h0 : z42 = 0) (h1 : (z42 = 1 → (0 : Int) ≤ p4 ∧ p4 ≤ (1000000 : Int))) (h2 : (z42 = 0 → p4 < (0 : Int) ∨ (1000000 : Int) < p4)) (h3 : (-2147483648) ≤ p4 ∧ p4 ≤ 2147483647) (h4 : 0 ≤ z42 ∧ z42 ≤ 1) : 0 ≤ z42 ∧ z42 ≤ 0 := by omega
theorem vc_X12_route_g_67 {p4 z42 : Int} (h0 : (z42 = 1 → (0 : Int) ≤ p4 ∧ p4 ≤ (1000000 : Int))) (h1 : (z42 = 0 → p4 < (0 : Int) ∨ (1000000 : Int) < p4)) (h2 : z42 = 0) (h3 : (-2147483648) ≤ p4 ∧ p4 ≤ 2147483647) (h4 : 0 ≤ z42 ∧ z42 ≤ 0) : z42 = 0 := by omega
set_option maxRecDepth 4000 in
set_option maxHeartbeats 4000000 in
theorem c_X12_route_g {l : Launch} {D : va_G} {c : Nat → ClassId} {H0 : Heap} {sa : Nat × Nat × (Nat → Int32)} {w : mW} {μ : mM} (hw : mWF w) (hT : mT w μ) {p1 : Int} (hp1 : (-2147483648) ≤ p1 ∧ p1 ≤ 2147483647) {p2 : Int} (hp2 : (-2147483648) ≤ p2 ∧ p2 ≤ 2147483647) {p3 : Int} (hp3 : (-2147483648) ≤ p3 ∧ p3 ≤ 2147483647) {p4 : Int} (hp4 : (-2147483648) ≤ p4 ∧ p4 ≤ 2147483647) (hIG1 : G1 μ) : sC (gG l D c H0 sa) mX12_route 3 0 0 [.ref 106, iv p1, iv p2, iv p3, iv p4] (mk w μ) (qI w [106070, 126999] μ (fun z μ1 => ((-2147483648) ≤ z ∧ z ≤ 2147483647) ∧ mG [(0, 40)] μ μ1 ∧ G1 μ1 ∧ True)) := by
  refine sC.of rfl (by decide) (le_t rfl) ?_
  refine mr_lvE (lv' := [(0, .ref 106), (1, iv p1), (2, iv p2), (3, iv p3), (4, iv p4)]) rfl ?_
  refine sv_aload_n (pc := 0) dX12_route_0 rfl rfl ?_
  refine mr_iload_n (pc := 1) (z := p1) dX12_route_1 rfl rfl ?_
  obtain ⟨z1, q2⟩ : ∃ z, μ 106 2 = z := ⟨_, rfl⟩
  have h3 : (0 ≤ z1 ∧ z1 ≤ 10) := by rw [← q2]; exact hT 106 106 (A_106 hw) 2
  refine mr_cVP (pc := 2) (c_X12_isPrefix hw hT hp1 q2) (gOk _ _ _ _ _) dX12_route_2 (tX12_isPrefix _ _ _ _ _) ⟨wV_X12_isPrefix, wL_X12_isPrefix⟩ wM_X12_92 (gCX12 _ _ _ _ _) rfl (A_106 hw) rfl ⟨le_t rfl, le_t rfl⟩ ⟨le_t rfl, le_t rfl⟩ rfl (le_t rfl) fun z8 h7 => ?_
  refine mr_if_eq (pc := 5) (tgt := 40) dX12_route_5 (by decide) (r32 h7.1 rfl) (fun h9 => ?_) (fun h9 => ?_)
  · have h10 : 0 ≤ z8 ∧ z8 ≤ 0 := (vc_X12_route_g_1 h9 h7.2.1 h7.2.2.1 hp1 h3 h7.1)
    have h11 : p1 < 0 ∨ z1 ≤ p1 := (h7.2.2.1 (vc_X12_route_g_2 h7.2.1 h7.2.2.1 h9 hp1 h3 h10))
    refine mr_iconst (pc := 40) (z := (-1)) dX12_route_40 ?_
    exact mr_iret dX12_route_41 rfl (le_t rfl) (le_t rfl) hT mF.refl ⟨(rW (c := (-2147483648)) (d := 2147483647) (rR (x := (-1))) rfl), mG.refl, hIG1, trivial⟩
  have h12 : 1 ≤ z8 ∧ z8 ≤ 1 := (vc_X12_route_g_3 h9 h7.2.1 h7.2.2.1 hp1 h3 h7.1)
  have h13 : 0 ≤ p1 ∧ p1 < z1 := (h7.2.1 (vc_X12_route_g_4 h7.2.1 h7.2.2.1 h9 hp1 h3 h12))
  have h14 : 0 ≤ p1 ∧ p1 ≤ 9 := (vc_X12_route_g_5 h13 h7.2.1 h7.2.2.1 hp1 h3 h12)
  have h15 : 1 ≤ z1 ∧ z1 ≤ 10 := (vc_X12_route_g_6 h13 h7.2.1 h7.2.2.1 h14 h3 h12)
  refine mr_iload_n (pc := 8) (z := p2) dX12_route_8 rfl rfl ?_
  refine mr_iconst (pc := 9) (z := 0) dX12_route_9 ?_
  refine mr_sipush (pc := 10) (z := 1000) dX12_route_10 (by decide) ?_
  refine mr_cSP (pc := 13) (c_X12_in hw hT hp2 (rW (c := (-2147483648)) (d := 2147483647) (rR (x := 0)) rfl) (rW (c := (-2147483648)) (d := 2147483647) (rR (x := 1000)) rfl)) (gOk _ _ _ _ _) dX12_route_13 (tX12_in _ _ _ _ _) wS_X12_in wM_X12_18 ⟨le_t rfl, le_t rfl⟩ ⟨le_t rfl, le_t rfl⟩ rfl (le_t rfl) fun z20 h19 => ?_
  refine mr_if_eq (pc := 16) (tgt := 40) dX12_route_16 (by decide) (r32 h19.1 rfl) (fun h21 => ?_) (fun h21 => ?_)
  · have h22 : 0 ≤ z20 ∧ z20 ≤ 0 := (vc_X12_route_g_7 h21 h19.2.1 h19.2.2.1 hp2 h19.1)
    have h23 : p2 < (0 : Int) ∨ (1000 : Int) < p2 := (h19.2.2.1 (vc_X12_route_g_8 h19.2.1 h19.2.2.1 h21 hp2 h22))
    refine mr_iconst (pc := 40) (z := (-1)) dX12_route_40 ?_
    exact mr_iret dX12_route_41 rfl (le_t rfl) (le_t rfl) hT mF.refl ⟨(rW (c := (-2147483648)) (d := 2147483647) (rR (x := (-1))) rfl), mG.refl, hIG1, trivial⟩
  have h24 : 1 ≤ z20 ∧ z20 ≤ 1 := (vc_X12_route_g_9 h21 h19.2.1 h19.2.2.1 hp2 h19.1)
  have h25 : (0 : Int) ≤ p2 ∧ p2 ≤ (1000 : Int) := (h19.2.1 (vc_X12_route_g_10 h19.2.1 h19.2.2.1 h21 hp2 h24))
  have h26 : 0 ≤ p2 ∧ p2 ≤ 1000 := (vc_X12_route_g_11 h25 h19.2.1 h19.2.2.1 hp2 h24)
  refine mr_iload_n (pc := 19) (z := p3) dX12_route_19 rfl rfl ?_
  refine mr_iconst (pc := 20) (z := 0) dX12_route_20 ?_
  refine mr_iconst (pc := 21) (z := 2) dX12_route_21 ?_
  refine mr_cSP (pc := 22) (c_X12_in hw hT hp3 (rW (c := (-2147483648)) (d := 2147483647) (rR (x := 0)) rfl) (rW (c := (-2147483648)) (d := 2147483647) (rR (x := 2)) rfl)) (gOk _ _ _ _ _) dX12_route_22 (tX12_in _ _ _ _ _) wS_X12_in wM_X12_18 ⟨le_t rfl, le_t rfl⟩ ⟨le_t rfl, le_t rfl⟩ rfl (le_t rfl) fun z31 h30 => ?_
  refine mr_if_eq (pc := 25) (tgt := 40) dX12_route_25 (by decide) (r32 h30.1 rfl) (fun h32 => ?_) (fun h32 => ?_)
  · have h33 : 0 ≤ z31 ∧ z31 ≤ 0 := (vc_X12_route_g_12 h32 h30.2.1 h30.2.2.1 hp3 h30.1)
    have h34 : p3 < (0 : Int) ∨ (2 : Int) < p3 := (h30.2.2.1 (vc_X12_route_g_13 h30.2.1 h30.2.2.1 h32 hp3 h33))
    refine mr_iconst (pc := 40) (z := (-1)) dX12_route_40 ?_
    exact mr_iret dX12_route_41 rfl (le_t rfl) (le_t rfl) hT mF.refl ⟨(rW (c := (-2147483648)) (d := 2147483647) (rR (x := (-1))) rfl), mG.refl, hIG1, trivial⟩
  have h35 : 1 ≤ z31 ∧ z31 ≤ 1 := (vc_X12_route_g_14 h32 h30.2.1 h30.2.2.1 hp3 h30.1)
  have h36 : (0 : Int) ≤ p3 ∧ p3 ≤ (2 : Int) := (h30.2.1 (vc_X12_route_g_15 h30.2.1 h30.2.2.1 h32 hp3 h35))
  have h37 : 0 ≤ p3 ∧ p3 ≤ 2 := (vc_X12_route_g_16 h36 h30.2.1 h30.2.2.1 hp3 h35)
  refine mr_iload (pc := 28) (z := p4) dX12_route_28 rfl ?_
  refine mr_iconst (pc := 30) (z := 0) dX12_route_30 ?_
  refine mr_ldcw (pc := 31) (z := 1000000) dX12_route_31 wG_X12_291 (by decide) ?_
  refine mr_cSP (pc := 34) (c_X12_in hw hT hp4 (rW (c := (-2147483648)) (d := 2147483647) (rR (x := 0)) rfl) (rW (c := (-2147483648)) (d := 2147483647) (rR (x := 1000000)) rfl)) (gOk _ _ _ _ _) dX12_route_34 (tX12_in _ _ _ _ _) wS_X12_in wM_X12_18 ⟨le_t rfl, le_t rfl⟩ ⟨le_t rfl, le_t rfl⟩ rfl (le_t rfl) fun z42 h41 => ?_
  refine mr_if_ne (pc := 37) (tgt := 42) dX12_route_37 (by decide) (r32 h41.1 rfl) (fun h43 => ?_) (fun h43 => ?_)
  · have h44 : 1 ≤ z42 ∧ z42 ≤ 1 := (vc_X12_route_g_17 h43 h41.2.1 h41.2.2.1 hp4 h41.1)
    have h45 : (0 : Int) ≤ p4 ∧ p4 ≤ (1000000 : Int) := (h41.2.1 (vc_X12_route_g_18 h41.2.1 h41.2.2.1 h43 hp4 h44))
    have h46 : 0 ≤ p4 ∧ p4 ≤ 1000000 := (vc_X12_route_g_19 h45 h41.2.1 h41.2.2.1 hp4 h44)
    refine sv_aload_n (pc := 42) dX12_route_42 rfl rfl ?_
    refine gf_X12_32 (pc := 43) dX12_route_43 wF_X12_148 (A_106 hw) hT ?_
    refine mr_iconst (pc := 46) (z := 0) dX12_route_46 ?_
    refine mr_iload_n (pc := 47) (z := p1) dX12_route_47 rfl rfl ?_
    refine ss_126 (pc := 48) dX12_route_48 (A_126 hw) hT (rIx (n := 84000) (rR (x := 0)) rfl) (vc_X12_route_g_20 h7.2.1 h7.2.2.1 h13 h9 h14 h15 h12) fun μ47 u48 T49 => ?_
    have I50 : G1 μ47 := G1.take hIG1 hw ((mF.up mF.refl (A_126 hw) u48 rfl) : mF [126999] w μ μ47) rfl ((mG.up mG.refl u48 List.mem_cons_self vc_X12_route_g_21) : mG [(0, (0 + 1))] μ μ47) (List.forall_mem_cons.mpr ⟨vc_X12_route_g_22, (fun _ h => absurd h List.not_mem_nil)⟩) u48.1 (vc_X12_route_g_23 h7.2.1 h7.2.2.1 h13 h9 h14 h15 h12)
    refine sv_aload_n (pc := 49) dX12_route_49 rfl rfl ?_
    refine gf_X12_32 (pc := 50) dX12_route_50 wF_X12_148 (A_106 hw) T49 ?_
    refine mr_iconst (pc := 53) (z := 1) dX12_route_53 ?_
    refine mr_iload_n (pc := 54) (z := p2) dX12_route_54 rfl rfl ?_
    refine ss_126 (pc := 55) dX12_route_55 (A_126 hw) T49 (rIx (n := 84000) (rR (x := 1)) rfl) (vc_X12_route_g_24 h19.2.1 h19.2.2.1 h25 h21 h26 h24) fun μ51 u52 T53 => ?_
    refine sv_aload_n (pc := 56) dX12_route_56 rfl rfl ?_
    refine gf_X12_32 (pc := 57) dX12_route_57 wF_X12_148 (A_106 hw) T53 ?_
    refine mr_iconst (pc := 60) (z := 2) dX12_route_60 ?_
    refine mr_iload_n (pc := 61) (z := p3) dX12_route_61 rfl rfl ?_
    refine ss_126 (pc := 62) dX12_route_62 (A_126 hw) T53 (rIx (n := 84000) (rR (x := 2)) rfl) (vc_X12_route_g_25 h30.2.1 h30.2.2.1 h36 h32 h37 h35) fun μ54 u55 T56 => ?_
    refine sv_aload_n (pc := 63) dX12_route_63 rfl rfl ?_
    refine gf_X12_32 (pc := 64) dX12_route_64 wF_X12_148 (A_106 hw) T56 ?_
    refine mr_iconst (pc := 67) (z := 3) dX12_route_67 ?_
    refine mr_iload (pc := 68) (z := p4) dX12_route_68 rfl ?_
    refine ss_126 (pc := 70) dX12_route_70 (A_126 hw) T56 (rIx (n := 84000) (rR (x := 3)) rfl) (vc_X12_route_g_26 h41.2.1 h41.2.2.1 h45 h43 h46 h44) fun μ57 u58 T59 => ?_
    refine sv_aload_n (pc := 71) dX12_route_71 rfl rfl ?_
    refine gf_X12_32 (pc := 72) dX12_route_72 wF_X12_148 (A_106 hw) T59 ?_
    refine mr_iconst (pc := 75) (z := 4) dX12_route_75 ?_
    refine sv_aload_n (pc := 76) dX12_route_76 rfl rfl ?_
    refine gf_X12_15 (pc := 77) dX12_route_77 wF_X12_79 (A_106 hw) T59 fun z60 q61 h62 => ?_
    refine ss_126 (pc := 80) dX12_route_80 (A_126 hw) T59 (rIx (n := 84000) (rR (x := 4)) rfl) (vc_X12_route_g_27 h62) fun μ63 u64 T65 => ?_
    refine sv_aload_n (pc := 81) dX12_route_81 rfl rfl ?_
    refine gf_X12_32 (pc := 82) dX12_route_82 wF_X12_148 (A_106 hw) T65 ?_
    refine mr_iconst (pc := 85) (z := 5) dX12_route_85 ?_
    refine mr_iconst (pc := 86) (z := 0) dX12_route_86 ?_
    refine ss_126 (pc := 87) dX12_route_87 (A_126 hw) T65 (rIx (n := 84000) (rR (x := 5)) rfl) vc_X12_route_g_28 fun μ66 u67 T68 => ?_
    refine mr_iconst (pc := 88) (z := 0) dX12_route_88 ?_
    refine mr_istore (pc := 89) (lv' := [(5, iv 0), (0, .ref 106), (1, iv p1), (2, iv p2), (3, iv p3), (4, iv p4)]) dX12_route_89 (by decide) rfl ?_
    have L295 : ∀ (nL295 : Nat) (z293 : Int) (μ294 : mM) (f_q : Int), mT w μ294 → mF [126999] w μ66 μ294 → mG [(0, 40)] μ66 μ294 → μ294 126 ((0 : Int).toNat) = f_q → (0 ≤ z293 ∧ z293 ≤ 20) → (f_q = p1) → G1 μ294 → (21 - z293) < (nL295 : Int) → sV (gG l D c H0 sa) mX12_route (sRm 3 0 0) (sZ (gG l D c H0 sa) 0 0 (qI w [106070, 126999] μ (fun z μ1 => ((-2147483648) ≤ z ∧ z ≤ 2147483647) ∧ mG [(0, 40)] μ μ1 ∧ G1 μ1 ∧ True))) 91 [(0, .ref 106), (5, iv z293)] [] (mk w μ294) 0 0 := by
      intro nL295
      induction nL295 with
      | zero => intro z293 μ294 f_q T297 F298 G299 q303 h296 h300 I301 h302; exact ((vc_X12_route_g_29 h302 h296)).elim
      | succ nL295 ih304 =>
        intro z293 μ294 f_q T297 F298 G299 q303 h296 h300 I301 h302
        have h305 := rt7 T297 (A_126 hw) vc_X12_route_g_30 q303
        have h306 : (-1) ≤ f_q ∧ f_q ≤ 9 := h305.2.1 vc_X12_route_g_31
        refine mr_iload (pc := 91) (z := z293) dX12_route_91 rfl ?_
        refine sv_aload_n (pc := 93) dX12_route_93 rfl rfl ?_
        refine gk_X12_15 (pc := 94) dX12_route_94 wF_X12_79 (A_106 hw) (F298.f (A_106 hw) rfl (u67.f (Or.inl (mAt.ne (A_126 hw) (A_106 hw) rfl)) (u64.f (Or.inl (mAt.ne (A_126 hw) (A_106 hw) rfl)) q61))) ?_
        refine mr_icmp_ge (pc := 97) (tgt := 123) dX12_route_97 (by decide) (r32 h296 rfl) (r32 h62 rfl) (fun h315 => ?_) (fun h315 => ?_)
        · refine sv_aload_n (pc := 123) dX12_route_123 rfl rfl ?_
          refine mr_iconst (pc := 124) (z := 1) dX12_route_124 ?_
          refine pf_X12_70 (pc := 125) dX12_route_125 wF_X12_411 (A_106 hw) T297 (rW (c := 0) (d := 1) (rR (x := 1)) rfl) fun μ316 u317 T318 => ?_
          have I319 : G1 μ316 := G1.take I301 hw ((mF.up mF.refl (A_106 hw) u317 rfl) : mF [106070] w μ294 μ316) rfl ((mG.upO mG.refl u317 rfl) : mG [] μ294 μ316) (fun _ h => absurd h List.not_mem_nil) (u317.f (Or.inl (mAt.ne (A_106 hw) (A_126 hw) rfl)) q303) (vc_X12_route_g_32 h300 h7.2.1 h7.2.2.1 h13 h306 h14 h15 h12)
          refine mr_iconst (pc := 128) (z := 0) dX12_route_128 ?_
          exact mr_iret dX12_route_129 rfl (le_t rfl) (le_t rfl) T318 (mF.up (mF.call (mF.up (mF.up (mF.up (mF.up (mF.up (mF.up mF.refl (A_126 hw) u48 rfl) (A_126 hw) u52 rfl) (A_126 hw) u55 rfl) (A_126 hw) u58 rfl) (A_126 hw) u64 rfl) (A_126 hw) u67 rfl) F298 rfl) (A_106 hw) u317 rfl) ⟨(rW (c := (-2147483648)) (d := 2147483647) (rR (x := 0)) rfl), (mG.upO (mG.call (mG.up (mG.up (mG.up (mG.up (mG.up (mG.up mG.refl u48 List.mem_cons_self vc_X12_route_g_33) u52 List.mem_cons_self vc_X12_route_g_34) u55 List.mem_cons_self vc_X12_route_g_35) u58 List.mem_cons_self vc_X12_route_g_36) u64 List.mem_cons_self vc_X12_route_g_37) u67 List.mem_cons_self vc_X12_route_g_38) G299 (List.forall_mem_cons.mpr ⟨⟨_, List.mem_cons_self, vc_X12_route_g_39⟩, (fun _ h => absurd h List.not_mem_nil)⟩)) u317 rfl), I319, trivial⟩
        have h320 : 0 ≤ z293 ∧ z293 ≤ 19 := (vc_X12_route_g_40 h315 h296 h62)
        have h321 : 1 ≤ z60 ∧ z60 ≤ 20 := (vc_X12_route_g_41 h315 h320 h62)
        refine sv_aload_n (pc := 100) dX12_route_100 rfl rfl ?_
        refine gf_X12_32 (pc := 101) dX12_route_101 wF_X12_148 (A_106 hw) T297 ?_
        refine mr_bipush (pc := 104) (z := 6) dX12_route_104 (by decide) ?_
        refine mr_iload (pc := 106) (z := z293) dX12_route_106 rfl ?_
        refine mr_iadd (pc := 108) (x := 6) (y := z293) dX12_route_108 ?_
        refine sv_aload_n (pc := 109) dX12_route_109 rfl rfl ?_
        refine gf_X12_16 (pc := 110) dX12_route_110 wF_X12_82 (A_106 hw) T297 ?_
        refine mr_iload (pc := 113) (z := z293) dX12_route_113 rfl ?_
        refine la_118 (pc := 115) dX12_route_115 (A_118 hw) T297 (rIx (n := 20) h320 rfl) fun z322 q323 h324 => ?_
        refine ss_126 (pc := 116) dX12_route_116 (A_126 hw) T297 (rIx (n := 84000) (rAdd (e := 6) (f := 25) (rR (x := 6)) h320 rfl) rfl) (vc_X12_route_g_42 h315 h320 h324 h321) fun μ325 u326 T327 => ?_
        refine mr_iinc (pc := 117) (lv' := [(5, iv (z293 + 1)), (0, .ref 106)]) dX12_route_117 rfl (by decide) rfl ?_
        refine sv_goto (pc := 120) (tgt := 91) dX12_route_120 (by decide) ?_
        refine mr_lvS (lv' := [(0, .ref 106), (5, iv (z293 + 1))]) (List.forall_mem_cons.mpr ⟨rfl, List.forall_mem_cons.mpr ⟨rfl, fun _ h => absurd h List.not_mem_nil⟩⟩) ?_
        exact ih304 (z293 + 1) μ325 f_q T327 (mF.up (mF.call mF.refl F298 rfl) (A_126 hw) u326 rfl) (mG.up (mG.call mG.refl G299 (List.forall_mem_cons.mpr ⟨⟨_, List.mem_cons_self, vc_X12_route_g_39⟩, (fun _ h => absurd h List.not_mem_nil)⟩)) u326 List.mem_cons_self (vc_X12_route_g_46 h315 h320 h321)) (u326.f (Or.inr (vc_X12_route_g_43 h315 h320 h321)) q303) (rW (c := 0) (d := 20) (rAdd (e := 1) (f := 20) h320 (rR (x := 1)) rfl) rfl) (vc_X12_route_g_44 h7.2.1 h7.2.2.1 h13 h300 h9 h306 h14 h15 h12) (G1.keep I301 hw ((mF.up mF.refl (A_126 hw) u326 rfl) : mF [126999] w μ294 μ325) rfl rfl ((mG.up mG.refl u326 List.mem_cons_self (vc_X12_route_g_47 h315 h320 h321)) : mG [((6 + z293), ((6 + z293) + 1))] μ294 μ325) (List.forall_mem_cons.mpr ⟨(vc_X12_route_g_48 h315 h320 h321), (fun _ h => absurd h List.not_mem_nil)⟩)) (vc_X12_route_g_45 (nS h302) h315 h320 h321)
    refine mr_lvS (lv' := [(0, .ref 106), (5, iv 0)]) (List.forall_mem_cons.mpr ⟨rfl, List.forall_mem_cons.mpr ⟨rfl, fun _ h => absurd h List.not_mem_nil⟩⟩) ?_
    exact L295 22 0 μ66 p1 T68 mF.refl mG.refl (u67.f (Or.inr vc_X12_route_g_53) (u64.f (Or.inr vc_X12_route_g_52) (u58.f (Or.inr vc_X12_route_g_51) (u55.f (Or.inr vc_X12_route_g_50) (u52.f (Or.inr vc_X12_route_g_49) u48.1))))) (rW (c := 0) (d := 20) (rR (x := 0)) rfl) (vc_X12_route_g_54 h7.2.1 h7.2.2.1 h13 h9 h14 h15 h12) (G1.keep I50 hw ((mF.up (mF.up (mF.up (mF.up (mF.up mF.refl (A_126 hw) u52 rfl) (A_126 hw) u55 rfl) (A_126 hw) u58 rfl) (A_126 hw) u64 rfl) (A_126 hw) u67 rfl) : mF [126999] w μ47 μ66) rfl rfl ((mG.up (mG.up (mG.up (mG.up (mG.up mG.refl u52 List.mem_cons_self vc_X12_route_g_56) u55 (List.mem_cons_of_mem _ List.mem_cons_self) vc_X12_route_g_57) u58 (List.mem_cons_of_mem _ (List.mem_cons_of_mem _ List.mem_cons_self)) vc_X12_route_g_58) u64 (List.mem_cons_of_mem _ (List.mem_cons_of_mem _ (List.mem_cons_of_mem _ List.mem_cons_self))) vc_X12_route_g_59) u67 (List.mem_cons_of_mem _ (List.mem_cons_of_mem _ (List.mem_cons_of_mem _ (List.mem_cons_of_mem _ List.mem_cons_self)))) vc_X12_route_g_60) : mG [(1, (1 + 1)), (2, (2 + 1)), (3, (3 + 1)), (4, (4 + 1)), (5, (5 + 1))] μ47 μ66) (List.forall_mem_cons.mpr ⟨vc_X12_route_g_65, (List.forall_mem_cons.mpr ⟨vc_X12_route_g_64, (List.forall_mem_cons.mpr ⟨vc_X12_route_g_63, (List.forall_mem_cons.mpr ⟨vc_X12_route_g_62, (List.forall_mem_cons.mpr ⟨vc_X12_route_g_61, (fun _ h => absurd h List.not_mem_nil)⟩)⟩)⟩)⟩)⟩)) vc_X12_route_g_55
  have h328 : 0 ≤ z42 ∧ z42 ≤ 0 := (vc_X12_route_g_66 h43 h41.2.1 h41.2.2.1 hp4 h41.1)
  have h329 : p4 < (0 : Int) ∨ (1000000 : Int) < p4 := (h41.2.2.1 (vc_X12_route_g_67 h41.2.1 h41.2.2.1 h43 hp4 h328))
  refine mr_iconst (pc := 40) (z := (-1)) dX12_route_40 ?_
  exact mr_iret dX12_route_41 rfl (le_t rfl) (le_t rfl) hT mF.refl ⟨(rW (c := (-2147483648)) (d := 2147483647) (rR (x := (-1))) rfl), mG.refl, hIG1, trivial⟩
theorem vc_X12_tieOf_end_1 {z409 : Int} (h0 : (21 - z409) < ((0 : Nat) : Int)) (h1 : 0 ≤ z409 ∧ z409 ≤ 20) : False := by omega
theorem vc_X12_tieOf_end_2  : (-(99999999 : Int) : Int) = -(99999999 : Int) ∨ ((0 : Int) ≤ (-(99999999 : Int) : Int) ∧ (-(99999999 : Int) : Int) ≤ (19 : Int)) := by omega
theorem vc_X12_tieOf_end_3 {f_ties z409 : Int} (h0 : z409 < f_ties) (h1 : 0 ≤ f_ties ∧ f_ties ≤ 20) (h2 : 0 ≤ z409 ∧ z409 ≤ 20) : 0 ≤ z409 ∧ z409 ≤ 19 := by omega
theorem vc_X12_tieOf_end_4 {f_ties z409 : Int} (h0 : z409 < f_ties) (h1 : 0 ≤ f_ties ∧ f_ties ≤ 20) (h2 : 0 ≤ z409 ∧ z409 ≤ 19) : 1 ≤ f_ties ∧ f_ties ≤ 20 := by omega
theorem vc_X12_tieOf_end_5 {N f_ties z409 : Int} (h0 : (21 - z409) < N + 1) (h1 : z409 < f_ties) (h2 : 1 ≤ f_ties ∧ f_ties ≤ 20) (h3 : 0 ≤ z409 ∧ z409 ≤ 19) : (21 - (z409 + 1)) < N := by omega
theorem vc_X12_tieOf_end_6 {p1 p2 z420 : Int} (h0 : z420 = p2) (h1 : ¬ z420 = p1) (h2 : (-2147483648) ≤ p1 ∧ p1 ≤ 2147483647) (h3 : (-2147483648) ≤ p2 ∧ p2 ≤ 2147483647) (h4 : 0 ≤ z420 ∧ z420 ≤ 9) : 0 ≤ p2 ∧ p2 ≤ 9 := by omega
theorem vc_X12_tieOf_end_7 {p1 z420 z426 : Int} (h0 : z426 = p1) (h1 : ¬ z420 = p1) (h2 : (-2147483648) ≤ p1 ∧ p1 ≤ 2147483647) (h3 : 0 ≤ z420 ∧ z420 ≤ 9) (h4 : 0 ≤ z426 ∧ z426 ≤ 9) : 0 ≤ p1 ∧ p1 ≤ 9 := by omega
theorem vc_X12_tieOf_end_8 {f_ties z409 : Int} (h0 : z409 < f_ties) (h1 : 1 ≤ f_ties ∧ f_ties ≤ 20) (h2 : 0 ≤ z409 ∧ z409 ≤ 19) : z409 = -99999999 ∨ (0 ≤ z409 ∧ z409 ≤ 19) := by omega
theorem vc_X12_tieOf_end_9 {f_ties p1 p2 z409 z420 z426 : Int} (h0 : z409 < f_ties) (h1 : ¬ z420 = p1) (h2 : z420 = p2) (h3 : z426 = p1) (h4 : 1 ≤ f_ties ∧ f_ties ≤ 20) (h5 : 0 ≤ p1 ∧ p1 ≤ 9) (h6 : 0 ≤ p2 ∧ p2 ≤ 9) (h7 : 0 ≤ z409 ∧ z409 ≤ 19) (h8 : 0 ≤ z420 ∧ z420 ≤ 9) (h9 : 0 ≤ z426 ∧ z426 ≤ 9) : z409 < f_ties ∧ ((z420 = p1 ∧ z426 = p2) ∨ (z420 = p2 ∧ z426 = p1)) := by omega
theorem vc_X12_tieOf_end_10 {p1 z420 : Int} (h0 : z420 = p1) (h1 : (-2147483648) ≤ p1 ∧ p1 ≤ 2147483647) (h2 : 0 ≤ z420 ∧ z420 ≤ 9) : 0 ≤ p1 ∧ p1 ≤ 9 := by omega
theorem vc_X12_tieOf_end_11 {p2 z432 : Int} (h0 : z432 = p2) (h1 : (-2147483648) ≤ p2 ∧ p2 ≤ 2147483647) (h2 : 0 ≤ z432 ∧ z432 ≤ 9) : 0 ≤ p2 ∧ p2 ≤ 9 := by omega
theorem vc_X12_tieOf_end_12 {f_ties p1 p2 z409 z420 z432 : Int} (h0 : z409 < f_ties) (h1 : z420 = p1) (h2 : z432 = p2) (h3 : 1 ≤ f_ties ∧ f_ties ≤ 20) (h4 : 0 ≤ p1 ∧ p1 ≤ 9) (h5 : 0 ≤ p2 ∧ p2 ≤ 9) (h6 : 0 ≤ z409 ∧ z409 ≤ 19) (h7 : 0 ≤ z420 ∧ z420 ≤ 9) (h8 : 0 ≤ z432 ∧ z432 ≤ 9) : z409 < f_ties ∧ ((z420 = p1 ∧ z432 = p2) ∨ (z420 = p2 ∧ z432 = p1)) := by omega
theorem vc_X12_tieOf_end_13 {p1 p2 z420 z432 : Int} (h0 : z420 = p2) (h1 : z420 = p1) (h2 : ¬ z432 = p2) (h3 : 0 ≤ p1 ∧ p1 ≤ 9) (h4 : (-2147483648) ≤ p2 ∧ p2 ≤ 2147483647) (h5 : 0 ≤ z420 ∧ z420 ≤ 9) (h6 : 0 ≤ z432 ∧ z432 ≤ 9) : 0 ≤ p2 ∧ p2 ≤ 9 := by omega
theorem vc_X12_tieOf_end_14 {f_ties p1 p2 z409 z420 z432 : Int} (h0 : z409 < f_ties) (h1 : z420 = p1) (h2 : ¬ z432 = p2) (h3 : z420 = p2) (h4 : z432 = p1) (h5 : 1 ≤ f_ties ∧ f_ties ≤ 20) (h6 : 0 ≤ p1 ∧ p1 ≤ 9) (h7 : 0 ≤ p2 ∧ p2 ≤ 9) (h8 : 0 ≤ z409 ∧ z409 ≤ 19) (h9 : 0 ≤ z420 ∧ z420 ≤ 9) (h10 : 0 ≤ z432 ∧ z432 ≤ 9) : z409 < f_ties ∧ ((z420 = p1 ∧ z432 = p2) ∨ (z420 = p2 ∧ z432 = p1)) := by omega
theorem vc_X12_tieOf_end_15  : (21 - 0) < ((22 : Nat) : Int) := by omega
set_option maxRecDepth 4000 in
set_option maxHeartbeats 4000000 in
theorem c_X12_tieOf_end {l : Launch} {D : va_G} {c : Nat → ClassId} {H0 : Heap} {sa : Nat × Nat × (Nat → Int32)} {w : mW} {μ : mM} (hw : mWF w) (hT : mT w μ) {p1 : Int} (hp1 : (-2147483648) ≤ p1 ∧ p1 ≤ 2147483647) {p2 : Int} (hp2 : (-2147483648) ≤ p2 ∧ p2 ≤ 2147483647) {f_ties : Int} (q_f_ties : μ 106 6 = f_ties) : sC (gG l D c H0 sa) mX12_tieOf 1 0 0 [.ref 106, iv p1, iv p2] (mk w μ) (qP w μ (fun z => ((-99999999) ≤ z ∧ z ≤ 19) ∧ (z = -99999999 ∨ (0 ≤ z ∧ z ≤ 19)) ∧ (z = -99999999 ∨ (z < f_ties ∧ ((μ 110 (2 * z).toNat = p1 ∧ μ 110 ((2 * z) + 1).toNat = p2) ∨ (μ 110 (2 * z).toNat = p2 ∧ μ 110 ((2 * z) + 1).toNat = p1)))) ∧ True)) := by
  refine sC.of rfl (by decide) (le_t rfl) ?_
  have ht_f_ties : (0 ≤ f_ties ∧ f_ties ≤ 20) := by rw [← q_f_ties]; exact hT 106 106 (A_106 hw) 6
  refine mr_lvE (lv' := [(0, .ref 106), (1, iv p1), (2, iv p2)]) rfl ?_
  refine mr_iconst (pc := 0) (z := 0) dX12_tieOf_0 ?_
  refine mr_istore_n (pc := 1) (lv' := [(3, iv 0), (0, .ref 106), (1, iv p1), (2, iv p2)]) dX12_tieOf_1 rfl (by decide) rfl ?_
  have L410 : ∀ (nL410 : Nat) (z409 : Int), True → (0 ≤ z409 ∧ z409 ≤ 20) → (21 - z409) < (nL410 : Int) → sV (gG l D c H0 sa) mX12_tieOf (sRm 1 0 0) (sZ (gG l D c H0 sa) 0 0 (qP w μ (fun z => ((-99999999) ≤ z ∧ z ≤ 19) ∧ (z = -99999999 ∨ (0 ≤ z ∧ z ≤ 19)) ∧ (z = -99999999 ∨ (z < f_ties ∧ ((μ 110 (2 * z).toNat = p1 ∧ μ 110 ((2 * z) + 1).toNat = p2) ∨ (μ 110 (2 * z).toNat = p2 ∧ μ 110 ((2 * z) + 1).toNat = p1)))) ∧ True))) 2 [(0, .ref 106), (1, iv p1), (2, iv p2), (3, iv z409)] [] (mk w μ) 0 0 := by
    intro nL410
    induction nL410 with
    | zero => intro z409 _ h411 h415; exact ((vc_X12_tieOf_end_1 h415 h411)).elim
    | succ nL410 ih416 =>
      intro z409 _ h411 h415
      refine mr_iload_n (pc := 2) (z := z409) dX12_tieOf_2 rfl rfl ?_
      refine sv_aload_n (pc := 3) dX12_tieOf_3 rfl rfl ?_
      refine gk_X12_6 (pc := 4) dX12_tieOf_4 wF_X12_37 (A_106 hw) q_f_ties ?_
      refine mr_icmp_ge (pc := 7) (tgt := 70) dX12_tieOf_7 (by decide) (r32 h411 rfl) (r32 ht_f_ties rfl) (fun h417 => ?_) (fun h417 => ?_)
      · refine mr_ldc (pc := 70) (z := (-99999999)) dX12_tieOf_70 wG_X12_29 (by decide) ?_
        exact mr_iretP dX12_tieOf_72 rfl (le_t rfl) (le_t rfl) ⟨(rW (c := (-99999999)) (d := 19) (rR (x := (-99999999))) rfl), vc_X12_tieOf_end_2, (Or.inl rfl), trivial⟩
      have h418 : 0 ≤ z409 ∧ z409 ≤ 19 := (vc_X12_tieOf_end_3 h417 ht_f_ties h411)
      have h419 : 1 ≤ f_ties ∧ f_ties ≤ 20 := (vc_X12_tieOf_end_4 h417 ht_f_ties h418)
      refine sv_aload_n (pc := 10) dX12_tieOf_10 rfl rfl ?_
      refine gf_X12_7 (pc := 11) dX12_tieOf_11 wF_X12_40 (A_106 hw) hT ?_
      refine mr_iconst (pc := 14) (z := 2) dX12_tieOf_14 ?_
      refine mr_iload_n (pc := 15) (z := z409) dX12_tieOf_15 rfl rfl ?_
      refine mr_imul (pc := 16) (x := 2) (y := z409) dX12_tieOf_16 ?_
      refine la_110 (pc := 17) dX12_tieOf_17 (A_110 hw) hT (rIx (n := 40) (rMulL (n := 2) (e := 0) (f := 38) h418 rfl) rfl) fun z420 q421 h422 => ?_
      refine mr_iload_n (pc := 18) (z := p1) dX12_tieOf_18 rfl rfl ?_
      refine mr_icmp_ne (pc := 19) (tgt := 36) dX12_tieOf_19 (by decide) (r32 h422 rfl) hp1 (fun h423 => ?_) (fun h423 => ?_)
      · refine sv_aload_n (pc := 36) dX12_tieOf_36 rfl rfl ?_
        refine gf_X12_7 (pc := 37) dX12_tieOf_37 wF_X12_40 (A_106 hw) hT ?_
        refine mr_iconst (pc := 40) (z := 2) dX12_tieOf_40 ?_
        refine mr_iload_n (pc := 41) (z := z409) dX12_tieOf_41 rfl rfl ?_
        refine mr_imul (pc := 42) (x := 2) (y := z409) dX12_tieOf_42 ?_
        refine lk_110 (pc := 43) dX12_tieOf_43 (A_110 hw) (rIx (n := 40) (rMulL (n := 2) (e := 0) (f := 38) h418 rfl) rfl) q421 ?_
        refine mr_iload_n (pc := 44) (z := p2) dX12_tieOf_44 rfl rfl ?_
        refine mr_icmp_ne (pc := 45) (tgt := 64) dX12_tieOf_45 (by decide) (r32 h422 rfl) hp2 (fun h424 => ?_) (fun h424 => ?_)
        · refine mr_iinc (pc := 64) (lv' := [(3, iv (z409 + 1)), (0, .ref 106), (1, iv p1), (2, iv p2)]) dX12_tieOf_64 rfl (by decide) rfl ?_
          refine sv_goto (pc := 67) (tgt := 2) dX12_tieOf_67 (by decide) ?_
          refine mr_lvS (lv' := [(0, .ref 106), (1, iv p1), (2, iv p2), (3, iv (z409 + 1))]) (List.forall_mem_cons.mpr ⟨rfl, List.forall_mem_cons.mpr ⟨rfl, List.forall_mem_cons.mpr ⟨rfl, List.forall_mem_cons.mpr ⟨rfl, fun _ h => absurd h List.not_mem_nil⟩⟩⟩⟩) ?_
          exact ih416 (z409 + 1) trivial (rW (c := 0) (d := 20) (rAdd (e := 1) (f := 20) h418 (rR (x := 1)) rfl) rfl) (vc_X12_tieOf_end_5 (nS h415) h417 h419 h418)
        have h425 : 0 ≤ p2 ∧ p2 ≤ 9 := (vc_X12_tieOf_end_6 h424 h423 hp1 hp2 h422)
        refine sv_aload_n (pc := 48) dX12_tieOf_48 rfl rfl ?_
        refine gf_X12_7 (pc := 49) dX12_tieOf_49 wF_X12_40 (A_106 hw) hT ?_
        refine mr_iconst (pc := 52) (z := 2) dX12_tieOf_52 ?_
        refine mr_iload_n (pc := 53) (z := z409) dX12_tieOf_53 rfl rfl ?_
        refine mr_imul (pc := 54) (x := 2) (y := z409) dX12_tieOf_54 ?_
        refine mr_iconst (pc := 55) (z := 1) dX12_tieOf_55 ?_
        refine mr_iadd (pc := 56) (x := (2 * z409)) (y := 1) dX12_tieOf_56 ?_
        refine la_110 (pc := 57) dX12_tieOf_57 (A_110 hw) hT (rIx (n := 40) (rAdd (e := 1) (f := 39) (rMulL (n := 2) (e := 0) (f := 38) h418 rfl) (rR (x := 1)) rfl) rfl) fun z426 q427 h428 => ?_
        refine mr_iload_n (pc := 58) (z := p1) dX12_tieOf_58 rfl rfl ?_
        refine mr_icmp_ne (pc := 59) (tgt := 64) dX12_tieOf_59 (by decide) (r32 h428 rfl) hp1 (fun h429 => ?_) (fun h429 => ?_)
        · refine mr_iinc (pc := 64) (lv' := [(3, iv (z409 + 1)), (0, .ref 106), (1, iv p1), (2, iv p2)]) dX12_tieOf_64 rfl (by decide) rfl ?_
          refine sv_goto (pc := 67) (tgt := 2) dX12_tieOf_67 (by decide) ?_
          refine mr_lvS (lv' := [(0, .ref 106), (1, iv p1), (2, iv p2), (3, iv (z409 + 1))]) (List.forall_mem_cons.mpr ⟨rfl, List.forall_mem_cons.mpr ⟨rfl, List.forall_mem_cons.mpr ⟨rfl, List.forall_mem_cons.mpr ⟨rfl, fun _ h => absurd h List.not_mem_nil⟩⟩⟩⟩) ?_
          exact ih416 (z409 + 1) trivial (rW (c := 0) (d := 20) (rAdd (e := 1) (f := 20) h418 (rR (x := 1)) rfl) rfl) (vc_X12_tieOf_end_5 (nS h415) h417 h419 h418)
        have h430 : 0 ≤ p1 ∧ p1 ≤ 9 := (vc_X12_tieOf_end_7 h429 h423 hp1 h422 h428)
        refine mr_iload_n (pc := 62) (z := z409) dX12_tieOf_62 rfl rfl ?_
        exact mr_iretP dX12_tieOf_63 rfl (le_t rfl) (le_t rfl) ⟨(rW (c := (-99999999)) (d := 19) h418 rfl), (vc_X12_tieOf_end_8 h417 h419 h418), (Or.inr (by rw [q421, q427]; exact (vc_X12_tieOf_end_9 h417 h423 h424 h429 h419 h430 h425 h418 h422 h428))), trivial⟩
      have h431 : 0 ≤ p1 ∧ p1 ≤ 9 := (vc_X12_tieOf_end_10 h423 hp1 h422)
      refine sv_aload_n (pc := 22) dX12_tieOf_22 rfl rfl ?_
      refine gf_X12_7 (pc := 23) dX12_tieOf_23 wF_X12_40 (A_106 hw) hT ?_
      refine mr_iconst (pc := 26) (z := 2) dX12_tieOf_26 ?_
      refine mr_iload_n (pc := 27) (z := z409) dX12_tieOf_27 rfl rfl ?_
      refine mr_imul (pc := 28) (x := 2) (y := z409) dX12_tieOf_28 ?_
      refine mr_iconst (pc := 29) (z := 1) dX12_tieOf_29 ?_
      refine mr_iadd (pc := 30) (x := (2 * z409)) (y := 1) dX12_tieOf_30 ?_
      refine la_110 (pc := 31) dX12_tieOf_31 (A_110 hw) hT (rIx (n := 40) (rAdd (e := 1) (f := 39) (rMulL (n := 2) (e := 0) (f := 38) h418 rfl) (rR (x := 1)) rfl) rfl) fun z432 q433 h434 => ?_
      refine mr_iload_n (pc := 32) (z := p2) dX12_tieOf_32 rfl rfl ?_
      refine mr_icmp_eq (pc := 33) (tgt := 62) dX12_tieOf_33 (by decide) (r32 h434 rfl) hp2 (fun h435 => ?_) (fun h435 => ?_)
      · have h436 : 0 ≤ p2 ∧ p2 ≤ 9 := (vc_X12_tieOf_end_11 h435 hp2 h434)
        refine mr_iload_n (pc := 62) (z := z409) dX12_tieOf_62 rfl rfl ?_
        exact mr_iretP dX12_tieOf_63 rfl (le_t rfl) (le_t rfl) ⟨(rW (c := (-99999999)) (d := 19) h418 rfl), (vc_X12_tieOf_end_8 h417 h419 h418), (Or.inr (by rw [q421, q433]; exact (vc_X12_tieOf_end_12 h417 h423 h435 h419 h431 h436 h418 h422 h434))), trivial⟩
      refine sv_aload_n (pc := 36) dX12_tieOf_36 rfl rfl ?_
      refine gf_X12_7 (pc := 37) dX12_tieOf_37 wF_X12_40 (A_106 hw) hT ?_
      refine mr_iconst (pc := 40) (z := 2) dX12_tieOf_40 ?_
      refine mr_iload_n (pc := 41) (z := z409) dX12_tieOf_41 rfl rfl ?_
      refine mr_imul (pc := 42) (x := 2) (y := z409) dX12_tieOf_42 ?_
      refine lk_110 (pc := 43) dX12_tieOf_43 (A_110 hw) (rIx (n := 40) (rMulL (n := 2) (e := 0) (f := 38) h418 rfl) rfl) q421 ?_
      refine mr_iload_n (pc := 44) (z := p2) dX12_tieOf_44 rfl rfl ?_
      refine mr_icmp_ne (pc := 45) (tgt := 64) dX12_tieOf_45 (by decide) (r32 h422 rfl) hp2 (fun h437 => ?_) (fun h437 => ?_)
      · refine mr_iinc (pc := 64) (lv' := [(3, iv (z409 + 1)), (0, .ref 106), (1, iv p1), (2, iv p2)]) dX12_tieOf_64 rfl (by decide) rfl ?_
        refine sv_goto (pc := 67) (tgt := 2) dX12_tieOf_67 (by decide) ?_
        refine mr_lvS (lv' := [(0, .ref 106), (1, iv p1), (2, iv p2), (3, iv (z409 + 1))]) (List.forall_mem_cons.mpr ⟨rfl, List.forall_mem_cons.mpr ⟨rfl, List.forall_mem_cons.mpr ⟨rfl, List.forall_mem_cons.mpr ⟨rfl, fun _ h => absurd h List.not_mem_nil⟩⟩⟩⟩) ?_
        exact ih416 (z409 + 1) trivial (rW (c := 0) (d := 20) (rAdd (e := 1) (f := 20) h418 (rR (x := 1)) rfl) rfl) (vc_X12_tieOf_end_5 (nS h415) h417 h419 h418)
      have h438 : 0 ≤ p2 ∧ p2 ≤ 9 := (vc_X12_tieOf_end_13 h437 h423 h435 h431 hp2 h422 h434)
      refine sv_aload_n (pc := 48) dX12_tieOf_48 rfl rfl ?_
      refine gf_X12_7 (pc := 49) dX12_tieOf_49 wF_X12_40 (A_106 hw) hT ?_
      refine mr_iconst (pc := 52) (z := 2) dX12_tieOf_52 ?_
      refine mr_iload_n (pc := 53) (z := z409) dX12_tieOf_53 rfl rfl ?_
      refine mr_imul (pc := 54) (x := 2) (y := z409) dX12_tieOf_54 ?_
      refine mr_iconst (pc := 55) (z := 1) dX12_tieOf_55 ?_
      refine mr_iadd (pc := 56) (x := (2 * z409)) (y := 1) dX12_tieOf_56 ?_
      refine lk_110 (pc := 57) dX12_tieOf_57 (A_110 hw) (rIx (n := 40) (rAdd (e := 1) (f := 39) (rMulL (n := 2) (e := 0) (f := 38) h418 rfl) (rR (x := 1)) rfl) rfl) q433 ?_
      refine mr_iload_n (pc := 58) (z := p1) dX12_tieOf_58 rfl rfl ?_
      refine mr_icmp_ne (pc := 59) (tgt := 64) dX12_tieOf_59 (by decide) (r32 h434 rfl) (r32 h431 rfl) (fun h439 => ?_) (fun h439 => ?_)
      · refine mr_iinc (pc := 64) (lv' := [(3, iv (z409 + 1)), (0, .ref 106), (1, iv p1), (2, iv p2)]) dX12_tieOf_64 rfl (by decide) rfl ?_
        refine sv_goto (pc := 67) (tgt := 2) dX12_tieOf_67 (by decide) ?_
        refine mr_lvS (lv' := [(0, .ref 106), (1, iv p1), (2, iv p2), (3, iv (z409 + 1))]) (List.forall_mem_cons.mpr ⟨rfl, List.forall_mem_cons.mpr ⟨rfl, List.forall_mem_cons.mpr ⟨rfl, List.forall_mem_cons.mpr ⟨rfl, fun _ h => absurd h List.not_mem_nil⟩⟩⟩⟩) ?_
        exact ih416 (z409 + 1) trivial (rW (c := 0) (d := 20) (rAdd (e := 1) (f := 20) h418 (rR (x := 1)) rfl) rfl) (vc_X12_tieOf_end_5 (nS h415) h417 h419 h418)
      refine mr_iload_n (pc := 62) (z := z409) dX12_tieOf_62 rfl rfl ?_
      exact mr_iretP dX12_tieOf_63 rfl (le_t rfl) (le_t rfl) ⟨(rW (c := (-99999999)) (d := 19) h418 rfl), (vc_X12_tieOf_end_8 h417 h419 h418), (Or.inr (by rw [q421, q433]; exact (vc_X12_tieOf_end_14 h417 h423 h435 h437 h439 h419 h431 h438 h418 h422 h434))), trivial⟩
  refine mr_lvS (lv' := [(0, .ref 106), (1, iv p1), (2, iv p2), (3, iv 0)]) (List.forall_mem_cons.mpr ⟨rfl, List.forall_mem_cons.mpr ⟨rfl, List.forall_mem_cons.mpr ⟨rfl, List.forall_mem_cons.mpr ⟨rfl, fun _ h => absurd h List.not_mem_nil⟩⟩⟩⟩) ?_
  exact L410 22 0 trivial (rW (c := 0) (d := 20) (rR (x := 0)) rfl) vc_X12_tieOf_end_15
theorem vc_X12_judge_1 {p1 z1 z8 : Int} (h0 : z8 = 0) (h1 : (z8 = 1 → (0 : Int) ≤ p1 ∧ p1 ≤ (z1 - 1))) (h2 : (z8 = 0 → p1 < (0 : Int) ∨ (z1 - 1) < p1)) (h3 : (-2147483648) ≤ p1 ∧ p1 ≤ 2147483647) (h4 : 0 ≤ z1 ∧ z1 ≤ 12) (h5 : 0 ≤ z8 ∧ z8 ≤ 1) : 0 ≤ z8 ∧ z8 ≤ 0 := by omega
theorem vc_X12_judge_2 {p1 z1 z8 : Int} (h0 : (z8 = 1 → (0 : Int) ≤ p1 ∧ p1 ≤ (z1 - 1))) (h1 : (z8 = 0 → p1 < (0 : Int) ∨ (z1 - 1) < p1)) (h2 : z8 = 0) (h3 : (-2147483648) ≤ p1 ∧ p1 ≤ 2147483647) (h4 : 0 ≤ z1 ∧ z1 ≤ 12) (h5 : 0 ≤ z8 ∧ z8 ≤ 0) : z8 = 0 := by omega
theorem vc_X12_judge_3 {p1 z1 z8 : Int} (h0 : ¬ z8 = 0) (h1 : (z8 = 1 → (0 : Int) ≤ p1 ∧ p1 ≤ (z1 - 1))) (h2 : (z8 = 0 → p1 < (0 : Int) ∨ (z1 - 1) < p1)) (h3 : (-2147483648) ≤ p1 ∧ p1 ≤ 2147483647) (h4 : 0 ≤ z1 ∧ z1 ≤ 12) (h5 : 0 ≤ z8 ∧ z8 ≤ 1) : 1 ≤ z8 ∧ z8 ≤ 1 := by omega
theorem vc_X12_judge_4 {p1 z1 z8 : Int} (h0 : (z8 = 1 → (0 : Int) ≤ p1 ∧ p1 ≤ (z1 - 1))) (h1 : (z8 = 0 → p1 < (0 : Int) ∨ (z1 - 1) < p1)) (h2 : ¬ z8 = 0) (h3 : (-2147483648) ≤ p1 ∧ p1 ≤ 2147483647) (h4 : 0 ≤ z1 ∧ z1 ≤ 12) (h5 : 1 ≤ z8 ∧ z8 ≤ 1) : z8 = 1 := by omega
theorem vc_X12_judge_5 {p1 z1 z8 : Int} (h0 : (0 : Int) ≤ p1 ∧ p1 ≤ (z1 - 1)) (h1 : (z8 = 1 → (0 : Int) ≤ p1 ∧ p1 ≤ (z1 - 1))) (h2 : (z8 = 0 → p1 < (0 : Int) ∨ (z1 - 1) < p1)) (h3 : (-2147483648) ≤ p1 ∧ p1 ≤ 2147483647) (h4 : 0 ≤ z1 ∧ z1 ≤ 12) (h5 : 1 ≤ z8 ∧ z8 ≤ 1) : 0 ≤ p1 ∧ p1 ≤ 2147483647 := by omega
theorem vc_X12_judge_6 {p2 z15 z22 : Int} (h0 : z22 = 0) (h1 : (z22 = 1 → 0 ≤ p2 ∧ p2 < z15)) (h2 : (z22 = 0 → p2 < 0 ∨ z15 ≤ p2)) (h3 : (-2147483648) ≤ p2 ∧ p2 ≤ 2147483647) (h4 : 0 ≤ z15 ∧ z15 ≤ 10) (h5 : 0 ≤ z22 ∧ z22 ≤ 1) : 0 ≤ z22 ∧ z22 ≤ 0 := by omega
theorem vc_X12_judge_7 {p2 z15 z22 : Int} (h0 : (z22 = 1 → 0 ≤ p2 ∧ p2 < z15)) (h1 : (z22 = 0 → p2 < 0 ∨ z15 ≤ p2)) (h2 : z22 = 0) (h3 : (-2147483648) ≤ p2 ∧ p2 ≤ 2147483647) (h4 : 0 ≤ z15 ∧ z15 ≤ 10) (h5 : 0 ≤ z22 ∧ z22 ≤ 0) : z22 = 0 := by omega
theorem vc_X12_judge_8 {p2 z15 z22 : Int} (h0 : ¬ z22 = 0) (h1 : (z22 = 1 → 0 ≤ p2 ∧ p2 < z15)) (h2 : (z22 = 0 → p2 < 0 ∨ z15 ≤ p2)) (h3 : (-2147483648) ≤ p2 ∧ p2 ≤ 2147483647) (h4 : 0 ≤ z15 ∧ z15 ≤ 10) (h5 : 0 ≤ z22 ∧ z22 ≤ 1) : 1 ≤ z22 ∧ z22 ≤ 1 := by omega
theorem vc_X12_judge_9 {p2 z15 z22 : Int} (h0 : (z22 = 1 → 0 ≤ p2 ∧ p2 < z15)) (h1 : (z22 = 0 → p2 < 0 ∨ z15 ≤ p2)) (h2 : ¬ z22 = 0) (h3 : (-2147483648) ≤ p2 ∧ p2 ≤ 2147483647) (h4 : 0 ≤ z15 ∧ z15 ≤ 10) (h5 : 1 ≤ z22 ∧ z22 ≤ 1) : z22 = 1 := by omega
theorem vc_X12_judge_10 {p2 z15 z22 : Int} (h0 : 0 ≤ p2 ∧ p2 < z15) (h1 : (z22 = 1 → 0 ≤ p2 ∧ p2 < z15)) (h2 : (z22 = 0 → p2 < 0 ∨ z15 ≤ p2)) (h3 : (-2147483648) ≤ p2 ∧ p2 ≤ 2147483647) (h4 : 0 ≤ z15 ∧ z15 ≤ 10) (h5 : 1 ≤ z22 ∧ z22 ≤ 1) : 0 ≤ p2 ∧ p2 ≤ 9 := by omega
theorem vc_X12_judge_11 {p3 z15 z33 : Int} (h0 : z33 = 0) (h1 : (z33 = 1 → 0 ≤ p3 ∧ p3 < z15)) (h2 : (z33 = 0 → p3 < 0 ∨ z15 ≤ p3)) (h3 : (-2147483648) ≤ p3 ∧ p3 ≤ 2147483647) (h4 : 0 ≤ z15 ∧ z15 ≤ 10) (h5 : 0 ≤ z33 ∧ z33 ≤ 1) : 0 ≤ z33 ∧ z33 ≤ 0 := by omega
theorem vc_X12_judge_12 {p2 p3 z15 z22 z33 : Int} (h0 : (z33 = 1 → 0 ≤ p3 ∧ p3 < z15)) (h1 : (z33 = 0 → p3 < 0 ∨ z15 ≤ p3)) (h2 : z33 = 0) (h3 : (z22 = 1 → 0 ≤ p2 ∧ p2 < z15)) (h4 : (z22 = 0 → p2 < 0 ∨ z15 ≤ p2)) (h5 : 0 ≤ p2 ∧ p2 < z15) (h6 : 0 ≤ p2 ∧ p2 ≤ 9) (h7 : (-2147483648) ≤ p3 ∧ p3 ≤ 2147483647) (h8 : 0 ≤ z15 ∧ z15 ≤ 10) (h9 : 1 ≤ z22 ∧ z22 ≤ 1) (h10 : 0 ≤ z33 ∧ z33 ≤ 0) : z33 = 0 := by omega
theorem vc_X12_judge_13 {p3 z15 z33 : Int} (h0 : ¬ z33 = 0) (h1 : (z33 = 1 → 0 ≤ p3 ∧ p3 < z15)) (h2 : (z33 = 0 → p3 < 0 ∨ z15 ≤ p3)) (h3 : (-2147483648) ≤ p3 ∧ p3 ≤ 2147483647) (h4 : 0 ≤ z15 ∧ z15 ≤ 10) (h5 : 0 ≤ z33 ∧ z33 ≤ 1) : 1 ≤ z33 ∧ z33 ≤ 1 := by omega
theorem vc_X12_judge_14 {p2 p3 z15 z22 z33 : Int} (h0 : (z33 = 1 → 0 ≤ p3 ∧ p3 < z15)) (h1 : (z33 = 0 → p3 < 0 ∨ z15 ≤ p3)) (h2 : ¬ z33 = 0) (h3 : (z22 = 1 → 0 ≤ p2 ∧ p2 < z15)) (h4 : (z22 = 0 → p2 < 0 ∨ z15 ≤ p2)) (h5 : 0 ≤ p2 ∧ p2 < z15) (h6 : 0 ≤ p2 ∧ p2 ≤ 9) (h7 : (-2147483648) ≤ p3 ∧ p3 ≤ 2147483647) (h8 : 0 ≤ z15 ∧ z15 ≤ 10) (h9 : 1 ≤ z22 ∧ z22 ≤ 1) (h10 : 1 ≤ z33 ∧ z33 ≤ 1) : z33 = 1 := by omega
theorem vc_X12_judge_15 {p2 p3 z15 z22 z33 : Int} (h0 : 0 ≤ p3 ∧ p3 < z15) (h1 : (z22 = 1 → 0 ≤ p2 ∧ p2 < z15)) (h2 : (z22 = 0 → p2 < 0 ∨ z15 ≤ p2)) (h3 : 0 ≤ p2 ∧ p2 < z15) (h4 : (z33 = 1 → 0 ≤ p3 ∧ p3 < z15)) (h5 : (z33 = 0 → p3 < 0 ∨ z15 ≤ p3)) (h6 : 0 ≤ p2 ∧ p2 ≤ 9) (h7 : (-2147483648) ≤ p3 ∧ p3 ≤ 2147483647) (h8 : 0 ≤ z15 ∧ z15 ≤ 10) (h9 : 1 ≤ z22 ∧ z22 ≤ 1) (h10 : 1 ≤ z33 ∧ z33 ≤ 1) : 0 ≤ p3 ∧ p3 ≤ 9 := by omega
theorem vc_X12_judge_16 {p2 p3 z15 z22 z33 : Int} (h0 : 0 ≤ p3 ∧ p3 < z15) (h1 : (z22 = 1 → 0 ≤ p2 ∧ p2 < z15)) (h2 : (z22 = 0 → p2 < 0 ∨ z15 ≤ p2)) (h3 : 0 ≤ p2 ∧ p2 < z15) (h4 : (z33 = 1 → 0 ≤ p3 ∧ p3 < z15)) (h5 : (z33 = 0 → p3 < 0 ∨ z15 ≤ p3)) (h6 : 0 ≤ p2 ∧ p2 ≤ 9) (h7 : 0 ≤ p3 ∧ p3 ≤ 9) (h8 : 0 ≤ z15 ∧ z15 ≤ 10) (h9 : 1 ≤ z22 ∧ z22 ≤ 1) (h10 : 1 ≤ z33 ∧ z33 ≤ 1) : 1 ≤ z15 ∧ z15 ≤ 10 := by omega
theorem vc_X12_judge_17 {z48 : Int} (h0 : ¬ z48 = (-99999999)) (h1 : z48 = -99999999 ∨ (0 ≤ z48 ∧ z48 ≤ 19)) (h2 : (-99999999) ≤ z48 ∧ z48 ≤ 19) : 0 ≤ z48 ∧ z48 ≤ 19 := by omega
theorem vc_X12_judge_18 {z48 : Int} (h0 : z48 = -99999999 ∨ (0 ≤ z48 ∧ z48 ≤ 19)) (h1 : ¬ z48 = (-99999999)) (h2 : 0 ≤ z48 ∧ z48 ≤ 19) : ¬ z48 = -99999999 := by omega
theorem vc_X12_judge_19  : (0 : Int) ≤ (0 : Int) := by omega
theorem vc_X12_judge_20  : ((0 : Int) : Int) % (40 : Int) = (0 : Int) := by omega
theorem vc_X12_judge_21 {z58 z61 : Int} (h0 : ¬ z58 = 0) (h1 : z58 = 0 ∨ 0 ≤ z61) (h2 : 0 ≤ z58 ∧ z58 ≤ 1) (h3 : (-1) ≤ z61 ∧ z61 ≤ 9) : 1 ≤ z58 ∧ z58 ≤ 1 := by omega
theorem vc_X12_judge_22  : ((40 : Int) * (0 : Int)) = (0 : Int) := by omega
theorem vc_X12_judge_23 {p2 p3 z15 z22 z33 z41 z48 z51 z54 : Int} (h0 : z48 = -99999999 ∨ (0 ≤ z48 ∧ z48 ≤ 19)) (h1 : ¬ z48 = (-99999999)) (h2 : z48 < z41 ∧ ((z51 = p2 ∧ z54 = p3) ∨ (z51 = p3 ∧ z54 = p2))) (h3 : (z22 = 1 → 0 ≤ p2 ∧ p2 < z15)) (h4 : (z22 = 0 → p2 < 0 ∨ z15 ≤ p2)) (h5 : 0 ≤ p2 ∧ p2 < z15) (h6 : (z33 = 1 → 0 ≤ p3 ∧ p3 < z15)) (h7 : (z33 = 0 → p3 < 0 ∨ z15 ≤ p3)) (h8 : 0 ≤ p3 ∧ p3 < z15) (h9 : 0 ≤ p2 ∧ p2 ≤ 9) (h10 : 0 ≤ p3 ∧ p3 ≤ 9) (h11 : 1 ≤ z15 ∧ z15 ≤ 10) (h12 : 1 ≤ z22 ∧ z22 ≤ 1) (h13 : 1 ≤ z33 ∧ z33 ≤ 1) (h14 : 0 ≤ z41 ∧ z41 ≤ 20) (h15 : 0 ≤ z48 ∧ z48 ≤ 19) (h16 : 0 ≤ z51 ∧ z51 ≤ 9) (h17 : 0 ≤ z54 ∧ z54 ≤ 9) : z48 < z41 := by omega
theorem vc_X12_judge_24 {p2 p3 z15 z22 z33 z41 z48 z51 z54 : Int} (h0 : (z22 = 1 → 0 ≤ p2 ∧ p2 < z15)) (h1 : (z22 = 0 → p2 < 0 ∨ z15 ≤ p2)) (h2 : 0 ≤ p2 ∧ p2 < z15) (h3 : (z33 = 1 → 0 ≤ p3 ∧ p3 < z15)) (h4 : (z33 = 0 → p3 < 0 ∨ z15 ≤ p3)) (h5 : 0 ≤ p3 ∧ p3 < z15) (h6 : z48 < z41 ∧ ((z51 = p2 ∧ z54 = p3) ∨ (z51 = p3 ∧ z54 = p2))) (h7 : ¬ z22 = 0) (h8 : ¬ z33 = 0) (h9 : z48 = -99999999 ∨ (0 ≤ z48 ∧ z48 ≤ 19)) (h10 : ¬ z48 = (-99999999)) (h11 : 0 ≤ p2 ∧ p2 ≤ 9) (h12 : 0 ≤ p3 ∧ p3 ≤ 9) (h13 : 1 ≤ z15 ∧ z15 ≤ 10) (h14 : 1 ≤ z22 ∧ z22 ≤ 1) (h15 : 1 ≤ z33 ∧ z33 ≤ 1) (h16 : 0 ≤ z41 ∧ z41 ≤ 20) (h17 : 0 ≤ z48 ∧ z48 ≤ 19) (h18 : 0 ≤ z51 ∧ z51 ≤ 9) (h19 : 0 ≤ z54 ∧ z54 ≤ 9) : (z51 = p2 ∧ z54 = p3) ∨ (z51 = p3 ∧ z54 = p2) := by omega
theorem vc_X12_judge_25 {z58 z61 : Int} (h0 : z58 = 0 ∨ 0 ≤ z61) (h1 : ¬ z58 = 0) (h2 : 1 ≤ z58 ∧ z58 ≤ 1) (h3 : (-1) ≤ z61 ∧ z61 ≤ 9) : 0 ≤ z61 := by omega
theorem vc_X12_judge_26 {p1 z1 z8 : Int} (h0 : (z8 = 1 → (0 : Int) ≤ p1 ∧ p1 ≤ (z1 - 1))) (h1 : (z8 = 0 → p1 < (0 : Int) ∨ (z1 - 1) < p1)) (h2 : (0 : Int) ≤ p1 ∧ p1 ≤ (z1 - 1)) (h3 : ¬ z8 = 0) (h4 : 0 ≤ p1 ∧ p1 ≤ 2147483647) (h5 : 0 ≤ z1 ∧ z1 ≤ 12) (h6 : 1 ≤ z8 ∧ z8 ≤ 1) : p1 = -99999999 ∨ (0 ≤ p1 ∧ p1 < z1) := by omega
theorem vc_X12_judge_27  : (0 : Int) ≤ ((40 : Int) * (0 : Int)) := by omega
theorem vc_X12_judge_28  : (((40 : Int) * (0 : Int)) : Int) % (40 : Int) = (0 : Int) := by omega
theorem vc_X12_judge_29 {z72 : Int} (h0 : z72 = 0) (h1 : 0 ≤ z72 ∧ z72 ≤ 1) : 0 ≤ z72 ∧ z72 ≤ 0 := by omega
theorem vc_X12_judge_30  : (((40 : Int) * (0 : Int)) + (1 : Int)) ≤ (((40 : Int) * (0 : Int)) + (1 : Int)) ∧ (((40 : Int) * (0 : Int)) + (40 : Int)) ≤ (((40 : Int) * (0 : Int)) + (40 : Int)) := by omega
theorem vc_X12_judge_31  : ((1 : Int) ≤ ((((40 : Int) * (0 : Int)) + (1 : Int)) : Int) ∧ ((((40 : Int) * (0 : Int)) + (40 : Int)) : Int) ≤ (1200 : Int)) ∨ (5200 : Int) ≤ ((((40 : Int) * (0 : Int)) + (1 : Int)) : Int) := by omega
theorem vc_X12_judge_32 {z72 : Int} (h0 : ¬ z72 = 0) (h1 : 0 ≤ z72 ∧ z72 ≤ 1) : 1 ≤ z72 ∧ z72 ≤ 1 := by omega
theorem vc_X12_judge_33 {z58 z61 : Int} (h0 : z58 = 0) (h1 : z58 = 0 ∨ 0 ≤ z61) (h2 : 0 ≤ z58 ∧ z58 ≤ 1) (h3 : (-1) ≤ z61 ∧ z61 ≤ 9) : 0 ≤ z58 ∧ z58 ≤ 0 := by omega
theorem vc_X12_judge_34 {z48 : Int} (h0 : z48 = (-99999999)) (h1 : z48 = -99999999 ∨ (0 ≤ z48 ∧ z48 ≤ 19)) (h2 : (-99999999) ≤ z48 ∧ z48 ≤ 19) : (-99999999) ≤ z48 ∧ z48 ≤ (-99999999) := by omega
set_option maxRecDepth 4000 in
set_option maxHeartbeats 4000000 in
theorem c_X12_judge {l : Launch} {D : va_G} {c : Nat → ClassId} {H0 : Heap} {sa : Nat × Nat × (Nat → Int32)} {w : mW} {μ : mM} (hw : mWF w) (hT : mT w μ) {p1 : Int} (hp1 : (-2147483648) ≤ p1 ∧ p1 ≤ 2147483647) {p2 : Int} (hp2 : (-2147483648) ≤ p2 ∧ p2 ≤ 2147483647) {p3 : Int} (hp3 : (-2147483648) ≤ p3 ∧ p3 ≤ 2147483647) (hIG1 : G1 μ) (hIEV : EV μ) (hIPK : PK μ) : sC (gG l D c H0 sa) mX12_judge 7 0 0 [.ref 106, iv p1, iv p2, iv p3] (mk w μ) (qI w [106026, 106027, 106028, 106029, 106030, 106031, 126999, 151999, 152999, 153999] μ (fun z μ1 => ((-2147483648) ≤ z ∧ z ≤ 2147483647) ∧ G1 μ1 ∧ EV μ1 ∧ True)) := by
  refine sC.of rfl (by decide) (le_t rfl) ?_
  refine mr_lvE (lv' := [(0, .ref 106), (1, iv p1), (2, iv p2), (3, iv p3)]) rfl ?_
  refine mr_iload_n (pc := 0) (z := p1) dX12_judge_0 rfl rfl ?_
  refine mr_iconst (pc := 1) (z := 0) dX12_judge_1 ?_
  refine sv_aload_n (pc := 2) dX12_judge_2 rfl rfl ?_
  refine gf_X12_39 (pc := 3) dX12_judge_3 wF_X12_355 (A_106 hw) hT fun z1 q2 h3 => ?_
  refine mr_iconst (pc := 6) (z := 1) dX12_judge_6 ?_
  refine mr_isub (pc := 7) (x := z1) (y := 1) dX12_judge_7 ?_
  refine mr_cSP (pc := 8) (c_X12_in hw hT hp1 (rW (c := (-2147483648)) (d := 2147483647) (rR (x := 0)) rfl) (rW (c := (-2147483648)) (d := 2147483647) (rSub (e := (-1)) (f := 11) h3 (rR (x := 1)) rfl) rfl)) (gOk _ _ _ _ _) dX12_judge_8 (tX12_in _ _ _ _ _) wS_X12_in wM_X12_18 ⟨le_t rfl, le_t rfl⟩ ⟨le_t rfl, le_t rfl⟩ rfl (le_t rfl) fun z8 h7 => ?_
  refine mr_if_eq (pc := 11) (tgt := 41) dX12_judge_11 (by decide) (r32 h7.1 rfl) (fun h9 => ?_) (fun h9 => ?_)
  · have h10 : 0 ≤ z8 ∧ z8 ≤ 0 := (vc_X12_judge_1 h9 h7.2.1 h7.2.2.1 hp1 h3 h7.1)
    have h11 : p1 < (0 : Int) ∨ (z1 - 1) < p1 := (h7.2.2.1 (vc_X12_judge_2 h7.2.1 h7.2.2.1 h9 hp1 h3 h10))
    refine mr_iconst (pc := 41) (z := (-1)) dX12_judge_41 ?_
    exact mr_iret dX12_judge_42 rfl (le_t rfl) (le_t rfl) hT mF.refl ⟨(rW (c := (-2147483648)) (d := 2147483647) (rR (x := (-1))) rfl), hIG1, hIEV, trivial⟩
  have h12 : 1 ≤ z8 ∧ z8 ≤ 1 := (vc_X12_judge_3 h9 h7.2.1 h7.2.2.1 hp1 h3 h7.1)
  have h13 : (0 : Int) ≤ p1 ∧ p1 ≤ (z1 - 1) := (h7.2.1 (vc_X12_judge_4 h7.2.1 h7.2.2.1 h9 hp1 h3 h12))
  have h14 : 0 ≤ p1 ∧ p1 ≤ 2147483647 := (vc_X12_judge_5 h13 h7.2.1 h7.2.2.1 hp1 h3 h12)
  refine sv_aload_n (pc := 14) dX12_judge_14 rfl rfl ?_
  refine mr_iload_n (pc := 15) (z := p2) dX12_judge_15 rfl rfl ?_
  obtain ⟨z15, q16⟩ : ∃ z, μ 106 5 = z := ⟨_, rfl⟩
  have h17 : (0 ≤ z15 ∧ z15 ≤ 10) := by rw [← q16]; exact hT 106 106 (A_106 hw) 5
  refine mr_cVP (pc := 16) (c_X12_isDomain hw hT hp2 q16) (gOk _ _ _ _ _) dX12_judge_16 (tX12_isDomain _ _ _ _ _) ⟨wV_X12_isDomain, wL_X12_isDomain⟩ wM_X12_49 (gCX12 _ _ _ _ _) rfl (A_106 hw) rfl ⟨le_t rfl, le_t rfl⟩ ⟨le_t rfl, le_t rfl⟩ rfl (le_t rfl) fun z22 h21 => ?_
  refine mr_if_eq (pc := 19) (tgt := 41) dX12_judge_19 (by decide) (r32 h21.1 rfl) (fun h23 => ?_) (fun h23 => ?_)
  · have h24 : 0 ≤ z22 ∧ z22 ≤ 0 := (vc_X12_judge_6 h23 h21.2.1 h21.2.2.1 hp2 h17 h21.1)
    have h25 : p2 < 0 ∨ z15 ≤ p2 := (h21.2.2.1 (vc_X12_judge_7 h21.2.1 h21.2.2.1 h23 hp2 h17 h24))
    refine mr_iconst (pc := 41) (z := (-1)) dX12_judge_41 ?_
    exact mr_iret dX12_judge_42 rfl (le_t rfl) (le_t rfl) hT mF.refl ⟨(rW (c := (-2147483648)) (d := 2147483647) (rR (x := (-1))) rfl), hIG1, hIEV, trivial⟩
  have h26 : 1 ≤ z22 ∧ z22 ≤ 1 := (vc_X12_judge_8 h23 h21.2.1 h21.2.2.1 hp2 h17 h21.1)
  have h27 : 0 ≤ p2 ∧ p2 < z15 := (h21.2.1 (vc_X12_judge_9 h21.2.1 h21.2.2.1 h23 hp2 h17 h26))
  have h28 : 0 ≤ p2 ∧ p2 ≤ 9 := (vc_X12_judge_10 h27 h21.2.1 h21.2.2.1 hp2 h17 h26)
  refine sv_aload_n (pc := 22) dX12_judge_22 rfl rfl ?_
  refine mr_iload_n (pc := 23) (z := p3) dX12_judge_23 rfl rfl ?_
  refine mr_cVP (pc := 24) (c_X12_isDomain hw hT hp3 q16) (gOk _ _ _ _ _) dX12_judge_24 (tX12_isDomain _ _ _ _ _) ⟨wV_X12_isDomain, wL_X12_isDomain⟩ wM_X12_49 (gCX12 _ _ _ _ _) rfl (A_106 hw) rfl ⟨le_t rfl, le_t rfl⟩ ⟨le_t rfl, le_t rfl⟩ rfl (le_t rfl) fun z33 h32 => ?_
  refine mr_if_eq (pc := 27) (tgt := 41) dX12_judge_27 (by decide) (r32 h32.1 rfl) (fun h34 => ?_) (fun h34 => ?_)
  · have h35 : 0 ≤ z33 ∧ z33 ≤ 0 := (vc_X12_judge_11 h34 h32.2.1 h32.2.2.1 hp3 h17 h32.1)
    have h36 : p3 < 0 ∨ z15 ≤ p3 := (h32.2.2.1 (vc_X12_judge_12 h32.2.1 h32.2.2.1 h34 h21.2.1 h21.2.2.1 h27 h28 hp3 h17 h26 h35))
    refine mr_iconst (pc := 41) (z := (-1)) dX12_judge_41 ?_
    exact mr_iret dX12_judge_42 rfl (le_t rfl) (le_t rfl) hT mF.refl ⟨(rW (c := (-2147483648)) (d := 2147483647) (rR (x := (-1))) rfl), hIG1, hIEV, trivial⟩
  have h37 : 1 ≤ z33 ∧ z33 ≤ 1 := (vc_X12_judge_13 h34 h32.2.1 h32.2.2.1 hp3 h17 h32.1)
  have h38 : 0 ≤ p3 ∧ p3 < z15 := (h32.2.1 (vc_X12_judge_14 h32.2.1 h32.2.2.1 h34 h21.2.1 h21.2.2.1 h27 h28 hp3 h17 h26 h37))
  have h39 : 0 ≤ p3 ∧ p3 ≤ 9 := (vc_X12_judge_15 h38 h21.2.1 h21.2.2.1 h27 h32.2.1 h32.2.2.1 h28 hp3 h17 h26 h37)
  have h40 : 1 ≤ z15 ∧ z15 ≤ 10 := (vc_X12_judge_16 h38 h21.2.1 h21.2.2.1 h27 h32.2.1 h32.2.2.1 h28 h39 h17 h26 h37)
  refine sv_aload_n (pc := 30) dX12_judge_30 rfl rfl ?_
  refine mr_iload_n (pc := 31) (z := p2) dX12_judge_31 rfl rfl ?_
  refine mr_iload_n (pc := 32) (z := p3) dX12_judge_32 rfl rfl ?_
  obtain ⟨z41, q42⟩ : ∃ z, μ 106 6 = z := ⟨_, rfl⟩
  have h43 : (0 ≤ z41 ∧ z41 ≤ 20) := by rw [← q42]; exact hT 106 106 (A_106 hw) 6
  refine mr_cVP (pc := 33) (c_X12_tieOf_end hw hT (rW (c := (-2147483648)) (d := 2147483647) h28 rfl) (rW (c := (-2147483648)) (d := 2147483647) h39 rfl) q42) (gOk _ _ _ _ _) dX12_judge_33 (tX12_tieOf _ _ _ _ _) ⟨wV_X12_tieOf, wL_X12_tieOf⟩ wM_X12_43 (gCX12 _ _ _ _ _) rfl (A_106 hw) rfl ⟨le_t rfl, le_t rfl⟩ ⟨le_t rfl, le_t rfl⟩ rfl (le_t rfl) fun z48 h47 => ?_
  refine mr_ldc (pc := 36) (z := (-99999999)) dX12_judge_36 wG_X12_29 (by decide) ?_
  refine mr_icmp_ne (pc := 38) (tgt := 43) dX12_judge_38 (by decide) (r32 h47.1 rfl) (r32 (rR (x := (-99999999))) rfl) (fun h49 => ?_) (fun h49 => ?_)
  · have h50 : 0 ≤ z48 ∧ z48 ≤ 19 := (vc_X12_judge_17 h49 h47.2.1 h47.1)
    obtain ⟨z51, q52⟩ : ∃ z, μ 110 ((2 * z48).toNat) = z := ⟨_, rfl⟩
    have h53 : (0 ≤ z51 ∧ z51 ≤ 9) := by rw [← q52]; exact hT 110 110 (A_110 hw) ((2 * z48).toNat)
    obtain ⟨z54, q55⟩ : ∃ z, μ 110 (((2 * z48) + 1).toNat) = z := ⟨_, rfl⟩
    have h56 : (0 ≤ z54 ∧ z54 ≤ 9) := by rw [← q55]; exact hT 110 110 (A_110 hw) (((2 * z48) + 1).toNat)
    have h57 : z48 < z41 ∧ ((z51 = p2 ∧ z54 = p3) ∨ (z51 = p3 ∧ z54 = p2)) := by have h := (h47.2.2.1).resolve_left (vc_X12_judge_18 h47.2.1 h49 h50); rw [q52, q55] at h; exact h
    refine sv_aload_n (pc := 43) dX12_judge_43 rfl rfl ?_
    refine gf_X12_70 (pc := 44) dX12_judge_44 wF_X12_411 (A_106 hw) hT fun z58 q59 h60 => ?_
    obtain ⟨z61, q62⟩ : ∃ z, μ 126 ((0 : Int).toNat) = z := ⟨_, rfl⟩
    have h63 := rt7 hT (A_126 hw) vc_X12_judge_19 q62
    have h64 : (-1) ≤ z61 ∧ z61 ≤ 9 := h63.2.1 vc_X12_judge_20
    have h65 : z58 = 0 ∨ 0 ≤ z61 := G1.hand hIG1 q59 q62
    refine mr_if_ne (pc := 47) (tgt := 53) dX12_judge_47 (by decide) (r32 h60 rfl) (fun h66 => ?_) (fun h66 => ?_)
    · have h67 : 1 ≤ z58 ∧ z58 ≤ 1 := (vc_X12_judge_21 h66 h65 h60 h64)
      refine sv_aload_n (pc := 53) dX12_judge_53 rfl rfl ?_
      refine mr_iload_n (pc := 54) (z := p1) dX12_judge_54 rfl rfl ?_
      refine mr_iconst (pc := 55) (z := 0) dX12_judge_55 ?_
      refine mr_iload_n (pc := 56) (z := p2) dX12_judge_56 rfl rfl ?_
      refine mr_iload_n (pc := 57) (z := p3) dX12_judge_57 rfl rfl ?_
      refine mr_cVI (pc := 58) (c_X12_through hw hT (rW (c := (-2147483648)) (d := 2147483647) h14 rfl) (rW (c := 0) (d := 2099) (rR (x := 0)) rfl) (rW (c := (-2147483648)) (d := 2147483647) h28 rfl) (rW (c := (-2147483648)) (d := 2147483647) h39 rfl) h50 q52 q55 q42 (eqIx vc_X12_judge_22 q62) q2 (vc_X12_judge_23 h47.2.1 h49 h57 h21.2.1 h21.2.2.1 h27 h32.2.1 h32.2.2.1 h38 h28 h39 h40 h26 h37 h43 h50 h53 h56) (vc_X12_judge_24 h21.2.1 h21.2.2.1 h27 h32.2.1 h32.2.2.1 h38 h57 h23 h34 h47.2.1 h49 h28 h39 h40 h26 h37 h43 h50 h53 h56) (vc_X12_judge_25 h65 h66 h67 h64) (vc_X12_judge_26 h7.2.1 h7.2.2.1 h13 h9 h14 h3 h12) hIPK) (gOk _ _ _ _ _) dX12_judge_58 (tX12_through _ _ _ _ _) ⟨wV_X12_through, wL_X12_through⟩ wM_X12_414 (gCX12 _ _ _ _ _) rfl (A_106 hw) rfl ⟨le_t rfl, le_t rfl⟩ ⟨le_t rfl, le_t rfl⟩ rfl (le_t rfl) fun z72 μ68 T69 F70 h71 => ?_
      obtain ⟨z73, q74, h75⟩ := h71
      have h76 := rt7 T69 (A_126 hw) vc_X12_judge_27 q74
      have h77 : (-1) ≤ z73 ∧ z73 ≤ 9 := h76.2.1 vc_X12_judge_28
      have q78 : μ68 126 (((40 * 0) : Int).toNat) = z61 := q74.trans h75.2.2.1
      refine mr_if_eq (pc := 61) (tgt := 68) dX12_judge_61 (by decide) (r32 h75.1 rfl) (fun h81 => ?_) (fun h81 => ?_)
      · have h82 : 0 ≤ z72 ∧ z72 ≤ 0 := (vc_X12_judge_29 h81 h75.1)
        refine mr_iconst (pc := 68) (z := 0) dX12_judge_68 ?_
        exact mr_iret dX12_judge_69 rfl (le_t rfl) (le_t rfl) T69 (mF.call mF.refl F70 rfl) ⟨(rW (c := (-2147483648)) (d := 2147483647) (rR (x := 0)) rfl), (G1.keep hIG1 hw ((mF.call mF.refl F70 rfl) : mF [106026, 106027, 106028, 106029, 106030, 106031, 126999, 151999, 152999, 153999] w μ μ68) rfl rfl ((mG.call mG.refl h75.2.1 (List.forall_mem_cons.mpr ⟨⟨_, List.mem_cons_self, vc_X12_judge_30⟩, (fun _ h => absurd h List.not_mem_nil)⟩)) : mG [(((40 * 0) + 1), ((40 * 0) + 40))] μ μ68) (List.forall_mem_cons.mpr ⟨vc_X12_judge_31, (fun _ h => absurd h List.not_mem_nil)⟩)), (EV.keep hIEV hw ((mF.call mF.refl F70 rfl) : mF [106026, 106027, 106028, 106029, 106030, 106031, 126999, 151999, 152999, 153999] w μ μ68) rfl), trivial⟩
      have h83 : 1 ≤ z72 ∧ z72 ≤ 1 := (vc_X12_judge_32 h81 h75.1)
      refine mr_iconst (pc := 64) (z := 1) dX12_judge_64 ?_
      refine sv_goto (pc := 65) (tgt := 69) dX12_judge_65 (by decide) ?_
      exact mr_iret dX12_judge_69 rfl (le_t rfl) (le_t rfl) T69 (mF.call mF.refl F70 rfl) ⟨(rW (c := (-2147483648)) (d := 2147483647) (rR (x := 1)) rfl), (G1.keep hIG1 hw ((mF.call mF.refl F70 rfl) : mF [106026, 106027, 106028, 106029, 106030, 106031, 126999, 151999, 152999, 153999] w μ μ68) rfl rfl ((mG.call mG.refl h75.2.1 (List.forall_mem_cons.mpr ⟨⟨_, List.mem_cons_self, vc_X12_judge_30⟩, (fun _ h => absurd h List.not_mem_nil)⟩)) : mG [(((40 * 0) + 1), ((40 * 0) + 40))] μ μ68) (List.forall_mem_cons.mpr ⟨vc_X12_judge_31, (fun _ h => absurd h List.not_mem_nil)⟩)), (EV.keep hIEV hw ((mF.call mF.refl F70 rfl) : mF [106026, 106027, 106028, 106029, 106030, 106031, 126999, 151999, 152999, 153999] w μ μ68) rfl), trivial⟩
    have h84 : 0 ≤ z58 ∧ z58 ≤ 0 := (vc_X12_judge_33 h66 h65 h60 h64)
    refine mr_bipush (pc := 50) (z := (-2)) dX12_judge_50 (by decide) ?_
    exact mr_iret dX12_judge_52 rfl (le_t rfl) (le_t rfl) hT mF.refl ⟨(rW (c := (-2147483648)) (d := 2147483647) (rR (x := (-2))) rfl), hIG1, hIEV, trivial⟩
  have h85 : (-99999999) ≤ z48 ∧ z48 ≤ (-99999999) := (vc_X12_judge_34 h49 h47.2.1 h47.1)
  refine mr_iconst (pc := 41) (z := (-1)) dX12_judge_41 ?_
  exact mr_iret dX12_judge_42 rfl (le_t rfl) (le_t rfl) hT mF.refl ⟨(rW (c := (-2147483648)) (d := 2147483647) (rR (x := (-1))) rfl), hIG1, hIEV, trivial⟩
theorem vc_X12_three_1 {p1 z1 z8 : Int} (h0 : z8 = 0) (h1 : (z8 = 1 → 0 ≤ p1 ∧ p1 < z1)) (h2 : (z8 = 0 → p1 < 0 ∨ z1 ≤ p1)) (h3 : (-2147483648) ≤ p1 ∧ p1 ≤ 2147483647) (h4 : 0 ≤ z1 ∧ z1 ≤ 10) (h5 : 0 ≤ z8 ∧ z8 ≤ 1) : 0 ≤ z8 ∧ z8 ≤ 0 := by omega
theorem vc_X12_three_2 {p1 z1 z8 : Int} (h0 : (z8 = 1 → 0 ≤ p1 ∧ p1 < z1)) (h1 : (z8 = 0 → p1 < 0 ∨ z1 ≤ p1)) (h2 : z8 = 0) (h3 : (-2147483648) ≤ p1 ∧ p1 ≤ 2147483647) (h4 : 0 ≤ z1 ∧ z1 ≤ 10) (h5 : 0 ≤ z8 ∧ z8 ≤ 0) : z8 = 0 := by omega
theorem vc_X12_three_3 {p1 z1 z8 : Int} (h0 : ¬ z8 = 0) (h1 : (z8 = 1 → 0 ≤ p1 ∧ p1 < z1)) (h2 : (z8 = 0 → p1 < 0 ∨ z1 ≤ p1)) (h3 : (-2147483648) ≤ p1 ∧ p1 ≤ 2147483647) (h4 : 0 ≤ z1 ∧ z1 ≤ 10) (h5 : 0 ≤ z8 ∧ z8 ≤ 1) : 1 ≤ z8 ∧ z8 ≤ 1 := by omega
theorem vc_X12_three_4 {p1 z1 z8 : Int} (h0 : (z8 = 1 → 0 ≤ p1 ∧ p1 < z1)) (h1 : (z8 = 0 → p1 < 0 ∨ z1 ≤ p1)) (h2 : ¬ z8 = 0) (h3 : (-2147483648) ≤ p1 ∧ p1 ≤ 2147483647) (h4 : 0 ≤ z1 ∧ z1 ≤ 10) (h5 : 1 ≤ z8 ∧ z8 ≤ 1) : z8 = 1 := by omega
theorem vc_X12_three_5 {p1 z1 z8 : Int} (h0 : 0 ≤ p1 ∧ p1 < z1) (h1 : (z8 = 1 → 0 ≤ p1 ∧ p1 < z1)) (h2 : (z8 = 0 → p1 < 0 ∨ z1 ≤ p1)) (h3 : (-2147483648) ≤ p1 ∧ p1 ≤ 2147483647) (h4 : 0 ≤ z1 ∧ z1 ≤ 10) (h5 : 1 ≤ z8 ∧ z8 ≤ 1) : 0 ≤ p1 ∧ p1 ≤ 9 := by omega
theorem vc_X12_three_6 {p1 z1 z8 : Int} (h0 : 0 ≤ p1 ∧ p1 < z1) (h1 : (z8 = 1 → 0 ≤ p1 ∧ p1 < z1)) (h2 : (z8 = 0 → p1 < 0 ∨ z1 ≤ p1)) (h3 : 0 ≤ p1 ∧ p1 ≤ 9) (h4 : 0 ≤ z1 ∧ z1 ≤ 10) (h5 : 1 ≤ z8 ∧ z8 ≤ 1) : 1 ≤ z1 ∧ z1 ≤ 10 := by omega
theorem vc_X12_three_7 {p2 z16 z23 : Int} (h0 : ¬ z23 = 0) (h1 : (z23 = 1 → 0 ≤ p2 ∧ p2 < z16)) (h2 : (z23 = 0 → p2 < 0 ∨ z16 ≤ p2)) (h3 : (-2147483648) ≤ p2 ∧ p2 ≤ 2147483647) (h4 : 0 ≤ z16 ∧ z16 ≤ 10) (h5 : 0 ≤ z23 ∧ z23 ≤ 1) : 1 ≤ z23 ∧ z23 ≤ 1 := by omega
theorem vc_X12_three_8 {p2 z16 z23 : Int} (h0 : (z23 = 1 → 0 ≤ p2 ∧ p2 < z16)) (h1 : (z23 = 0 → p2 < 0 ∨ z16 ≤ p2)) (h2 : ¬ z23 = 0) (h3 : (-2147483648) ≤ p2 ∧ p2 ≤ 2147483647) (h4 : 0 ≤ z16 ∧ z16 ≤ 10) (h5 : 1 ≤ z23 ∧ z23 ≤ 1) : z23 = 1 := by omega
theorem vc_X12_three_9 {p2 z16 z23 : Int} (h0 : 0 ≤ p2 ∧ p2 < z16) (h1 : (z23 = 1 → 0 ≤ p2 ∧ p2 < z16)) (h2 : (z23 = 0 → p2 < 0 ∨ z16 ≤ p2)) (h3 : (-2147483648) ≤ p2 ∧ p2 ≤ 2147483647) (h4 : 0 ≤ z16 ∧ z16 ≤ 10) (h5 : 1 ≤ z23 ∧ z23 ≤ 1) : 0 ≤ p2 ∧ p2 ≤ 9 := by omega
theorem vc_X12_three_10 {z28 : Int} (h0 : 0 ≤ z28) (h1 : (-1) ≤ z28 ∧ z28 ≤ 2) : 0 ≤ z28 ∧ z28 ≤ 2 := by omega
theorem vc_X12_three_11 {z28 : Int} (h0 : z28 < 0) (h1 : (-1) ≤ z28 ∧ z28 ≤ 2) : (-1) ≤ z28 ∧ z28 ≤ (-1) := by omega
theorem vc_X12_three_12 {p3 z38 : Int} (h0 : ¬ z38 = 0) (h1 : (z38 = 1 → (0 : Int) ≤ p3 ∧ p3 ≤ (2 : Int))) (h2 : (z38 = 0 → p3 < (0 : Int) ∨ (2 : Int) < p3)) (h3 : (-2147483648) ≤ p3 ∧ p3 ≤ 2147483647) (h4 : 0 ≤ z38 ∧ z38 ≤ 1) : 1 ≤ z38 ∧ z38 ≤ 1 := by omega
theorem vc_X12_three_13 {p3 z38 : Int} (h0 : (z38 = 1 → (0 : Int) ≤ p3 ∧ p3 ≤ (2 : Int))) (h1 : (z38 = 0 → p3 < (0 : Int) ∨ (2 : Int) < p3)) (h2 : ¬ z38 = 0) (h3 : (-2147483648) ≤ p3 ∧ p3 ≤ 2147483647) (h4 : 1 ≤ z38 ∧ z38 ≤ 1) : z38 = 1 := by omega
theorem vc_X12_three_14 {p3 z38 : Int} (h0 : (0 : Int) ≤ p3 ∧ p3 ≤ (2 : Int)) (h1 : (z38 = 1 → (0 : Int) ≤ p3 ∧ p3 ≤ (2 : Int))) (h2 : (z38 = 0 → p3 < (0 : Int) ∨ (2 : Int) < p3)) (h3 : (-2147483648) ≤ p3 ∧ p3 ≤ 2147483647) (h4 : 1 ≤ z38 ∧ z38 ≤ 1) : 0 ≤ p3 ∧ p3 ≤ 2 := by omega
theorem vc_X12_three_15 {z3103 : Int} (h0 : (21 - z3103) < ((0 : Nat) : Int)) (h1 : 0 ≤ z3103 ∧ z3103 ≤ 20) : False := by omega
theorem vc_X12_three_16  : (160 : Int) ≤ (160 : Int) ∧ (960 : Int) ≤ (960 : Int) := by omega
theorem vc_X12_three_17  : ((1 : Int) ≤ ((160 : Int) : Int) ∧ ((960 : Int) : Int) ≤ (1200 : Int)) ∨ (5200 : Int) ≤ ((160 : Int) : Int) := by omega
theorem vc_X12_three_18 {z3103 z3111 : Int} (h0 : z3103 < z3111) (h1 : 0 ≤ z3103 ∧ z3103 ≤ 20) (h2 : 0 ≤ z3111 ∧ z3111 ≤ 20) : 0 ≤ z3103 ∧ z3103 ≤ 19 := by omega
theorem vc_X12_three_19 {z3103 z3111 : Int} (h0 : z3103 < z3111) (h1 : 0 ≤ z3103 ∧ z3103 ≤ 19) (h2 : 0 ≤ z3111 ∧ z3111 ≤ 20) : 1 ≤ z3111 ∧ z3111 ≤ 20 := by omega
theorem vc_X12_three_20 {z4606 : Int} (h0 : (21 - z4606) < ((0 : Nat) : Int)) (h1 : 0 ≤ z4606 ∧ z4606 ≤ 20) : False := by omega
theorem vc_X12_three_21 {z3103 z3111 z4606 : Int} (h0 : z3111 ≤ z4606) (h1 : z3103 < z3111) (h2 : 0 ≤ z3103 ∧ z3103 ≤ 19) (h3 : 1 ≤ z3111 ∧ z3111 ≤ 20) (h4 : 0 ≤ z4606 ∧ z4606 ≤ 20) : 1 ≤ z4606 ∧ z4606 ≤ 20 := by omega
theorem vc_X12_three_22 {N z3103 z3111 z4606 : Int} (h0 : (21 - z3103) < N + 1) (h1 : z3103 < z3111) (h2 : z3111 ≤ z4606) (h3 : 0 ≤ z3103 ∧ z3103 ≤ 19) (h4 : 1 ≤ z3111 ∧ z3111 ≤ 20) (h5 : 1 ≤ z4606 ∧ z4606 ≤ 20) : (21 - (z3103 + 1)) < N := by omega
theorem vc_X12_three_23 {z3103 z3111 z4606 : Int} (h0 : z4606 < z3111) (h1 : z3103 < z3111) (h2 : 0 ≤ z3103 ∧ z3103 ≤ 19) (h3 : 1 ≤ z3111 ∧ z3111 ≤ 20) (h4 : 0 ≤ z4606 ∧ z4606 ≤ 20) : 0 ≤ z4606 ∧ z4606 ≤ 19 := by omega
theorem vc_X12_three_24 {z3103 z3111 z4606 : Int} (h0 : z3103 < z3111) (h1 : z4606 < z3111) (h2 : 0 ≤ z3103 ∧ z3103 ≤ 19) (h3 : 1 ≤ z3111 ∧ z3111 ≤ 20) (h4 : 0 ≤ z4606 ∧ z4606 ≤ 19) : 0 ≤ (40 * (4 + z3103)) := by omega
theorem vc_X12_three_25 {z3103 z3111 z4606 : Int} (h0 : z3103 < z3111) (h1 : z4606 < z3111) (h2 : 0 ≤ z3103 ∧ z3103 ≤ 19) (h3 : 1 ≤ z3111 ∧ z3111 ≤ 20) (h4 : 0 ≤ z4606 ∧ z4606 ≤ 19) : (40 * (4 + z3103)) % 40 = 0 := by omega
theorem vc_X12_three_26 {z4617 z4625 : Int} (h0 : z4625 = 0) (h1 : (z4625 = 1 → 0 ≤ z4617)) (h2 : (z4625 = 0 → z4617 < 0)) (h3 : (-1) ≤ z4617 ∧ z4617 ≤ 9) (h4 : 0 ≤ z4625 ∧ z4625 ≤ 1) : 0 ≤ z4625 ∧ z4625 ≤ 0 := by omega
theorem vc_X12_three_27 {z4617 z4625 : Int} (h0 : (z4625 = 1 → 0 ≤ z4617)) (h1 : (z4625 = 0 → z4617 < 0)) (h2 : z4625 = 0) (h3 : (-1) ≤ z4617 ∧ z4617 ≤ 9) (h4 : 0 ≤ z4625 ∧ z4625 ≤ 0) : z4625 = 0 := by omega
theorem vc_X12_three_28 {z4617 z4625 : Int} (h0 : z4617 < 0) (h1 : (z4625 = 1 → 0 ≤ z4617)) (h2 : (z4625 = 0 → z4617 < 0)) (h3 : (-1) ≤ z4617 ∧ z4617 ≤ 9) (h4 : 0 ≤ z4625 ∧ z4625 ≤ 0) : (-1) ≤ z4617 ∧ z4617 ≤ (-1) := by omega
theorem vc_X12_three_29 {N z3103 z3111 z4606 : Int} (h0 : (21 - z3103) < N + 1) (h1 : z3103 < z3111) (h2 : z4606 < z3111) (h3 : 0 ≤ z3103 ∧ z3103 ≤ 19) (h4 : 1 ≤ z3111 ∧ z3111 ≤ 20) (h5 : 0 ≤ z4606 ∧ z4606 ≤ 19) : (21 - (z3103 + 1)) < N := by omega
theorem vc_X12_three_30 {z4617 z4625 : Int} (h0 : ¬ z4625 = 0) (h1 : (z4625 = 1 → 0 ≤ z4617)) (h2 : (z4625 = 0 → z4617 < 0)) (h3 : (-1) ≤ z4617 ∧ z4617 ≤ 9) (h4 : 0 ≤ z4625 ∧ z4625 ≤ 1) : 1 ≤ z4625 ∧ z4625 ≤ 1 := by omega
theorem vc_X12_three_31 {z4617 z4625 : Int} (h0 : (z4625 = 1 → 0 ≤ z4617)) (h1 : (z4625 = 0 → z4617 < 0)) (h2 : ¬ z4625 = 0) (h3 : (-1) ≤ z4617 ∧ z4617 ≤ 9) (h4 : 1 ≤ z4625 ∧ z4625 ≤ 1) : z4625 = 1 := by omega
theorem vc_X12_three_32 {z4617 z4625 : Int} (h0 : 0 ≤ z4617) (h1 : (z4625 = 1 → 0 ≤ z4617)) (h2 : (z4625 = 0 → z4617 < 0)) (h3 : (-1) ≤ z4617 ∧ z4617 ≤ 9) (h4 : 1 ≤ z4625 ∧ z4625 ≤ 1) : 0 ≤ z4617 ∧ z4617 ≤ 9 := by omega
theorem vc_X12_three_33 {N z3103 z3111 z4606 : Int} (h0 : (21 - z4606) < N + 1) (h1 : z4606 < z3111) (h2 : z4606 = z3103) (h3 : z3103 < z3111) (h4 : 0 ≤ z3103 ∧ z3103 ≤ 19) (h5 : 1 ≤ z3111 ∧ z3111 ≤ 20) (h6 : 0 ≤ z4606 ∧ z4606 ≤ 19) : (21 - (z4606 + 1)) < N := by omega
theorem vc_X12_three_34 {z3103 z3111 z4606 : Int} (h0 : z4606 < z3111) (h1 : ¬ z4606 = z3103) (h2 : z3103 < z3111) (h3 : 0 ≤ z3103 ∧ z3103 ≤ 19) (h4 : 1 ≤ z3111 ∧ z3111 ≤ 20) (h5 : 0 ≤ z4606 ∧ z4606 ≤ 19) : 0 ≤ (40 * (4 + z4606)) := by omega
theorem vc_X12_three_35 {z3103 z3111 z4606 : Int} (h0 : z4606 < z3111) (h1 : ¬ z4606 = z3103) (h2 : z3103 < z3111) (h3 : 0 ≤ z3103 ∧ z3103 ≤ 19) (h4 : 1 ≤ z3111 ∧ z3111 ≤ 20) (h5 : 0 ≤ z4606 ∧ z4606 ≤ 19) : (40 * (4 + z4606)) % 40 = 0 := by omega
theorem vc_X12_three_36 {z4634 z4642 : Int} (h0 : z4642 = 0) (h1 : (z4642 = 1 → 0 ≤ z4634)) (h2 : (z4642 = 0 → z4634 < 0)) (h3 : (-1) ≤ z4634 ∧ z4634 ≤ 9) (h4 : 0 ≤ z4642 ∧ z4642 ≤ 1) : 0 ≤ z4642 ∧ z4642 ≤ 0 := by omega
theorem vc_X12_three_37 {z4634 z4642 : Int} (h0 : (z4642 = 1 → 0 ≤ z4634)) (h1 : (z4642 = 0 → z4634 < 0)) (h2 : z4642 = 0) (h3 : (-1) ≤ z4634 ∧ z4634 ≤ 9) (h4 : 0 ≤ z4642 ∧ z4642 ≤ 0) : z4642 = 0 := by omega
theorem vc_X12_three_38 {z4634 z4642 : Int} (h0 : z4634 < 0) (h1 : (z4642 = 1 → 0 ≤ z4634)) (h2 : (z4642 = 0 → z4634 < 0)) (h3 : (-1) ≤ z4634 ∧ z4634 ≤ 9) (h4 : 0 ≤ z4642 ∧ z4642 ≤ 0) : (-1) ≤ z4634 ∧ z4634 ≤ (-1) := by omega
theorem vc_X12_three_39 {N z3103 z3111 z4606 : Int} (h0 : (21 - z4606) < N + 1) (h1 : z4606 < z3111) (h2 : ¬ z4606 = z3103) (h3 : z3103 < z3111) (h4 : 0 ≤ z3103 ∧ z3103 ≤ 19) (h5 : 1 ≤ z3111 ∧ z3111 ≤ 20) (h6 : 0 ≤ z4606 ∧ z4606 ≤ 19) : (21 - (z4606 + 1)) < N := by omega
theorem vc_X12_three_40 {z4634 z4642 : Int} (h0 : ¬ z4642 = 0) (h1 : (z4642 = 1 → 0 ≤ z4634)) (h2 : (z4642 = 0 → z4634 < 0)) (h3 : (-1) ≤ z4634 ∧ z4634 ≤ 9) (h4 : 0 ≤ z4642 ∧ z4642 ≤ 1) : 1 ≤ z4642 ∧ z4642 ≤ 1 := by omega
theorem vc_X12_three_41 {z4634 z4642 : Int} (h0 : (z4642 = 1 → 0 ≤ z4634)) (h1 : (z4642 = 0 → z4634 < 0)) (h2 : ¬ z4642 = 0) (h3 : (-1) ≤ z4634 ∧ z4634 ≤ 9) (h4 : 1 ≤ z4642 ∧ z4642 ≤ 1) : z4642 = 1 := by omega
theorem vc_X12_three_42 {z4634 z4642 : Int} (h0 : 0 ≤ z4634) (h1 : (z4642 = 1 → 0 ≤ z4634)) (h2 : (z4642 = 0 → z4634 < 0)) (h3 : (-1) ≤ z4634 ∧ z4634 ≤ 9) (h4 : 1 ≤ z4642 ∧ z4642 ≤ 1) : 0 ≤ z4634 ∧ z4634 ≤ 9 := by omega
theorem vc_X12_three_43 {z4654 : Int} (h0 : ¬ z4654 = 0) (h1 : 0 ≤ z4654 ∧ z4654 ≤ 1) : 1 ≤ z4654 ∧ z4654 ≤ 1 := by omega
theorem vc_X12_three_44 {z5145 : Int} (h0 : (21 - z5145) < ((0 : Nat) : Int)) (h1 : 0 ≤ z5145 ∧ z5145 ≤ 20) : False := by omega
theorem vc_X12_three_45 {z3103 z3111 z4606 z5145 : Int} (h0 : z3111 ≤ z5145) (h1 : z3103 < z3111) (h2 : z4606 < z3111) (h3 : 0 ≤ z3103 ∧ z3103 ≤ 19) (h4 : 1 ≤ z3111 ∧ z3111 ≤ 20) (h5 : 0 ≤ z4606 ∧ z4606 ≤ 19) (h6 : 0 ≤ z5145 ∧ z5145 ≤ 20) : 1 ≤ z5145 ∧ z5145 ≤ 20 := by omega
theorem vc_X12_three_46 {N z3103 z3111 z4606 z5145 : Int} (h0 : (21 - z4606) < N + 1) (h1 : z4606 < z3111) (h2 : ¬ z4606 = z3103) (h3 : z3103 < z3111) (h4 : z3111 ≤ z5145) (h5 : 0 ≤ z3103 ∧ z3103 ≤ 19) (h6 : 1 ≤ z3111 ∧ z3111 ≤ 20) (h7 : 0 ≤ z4606 ∧ z4606 ≤ 19) (h8 : 1 ≤ z5145 ∧ z5145 ≤ 20) : (21 - (z4606 + 1)) < N := by omega
theorem vc_X12_three_47 {z3103 z3111 z4606 z5145 : Int} (h0 : z5145 < z3111) (h1 : z3103 < z3111) (h2 : z4606 < z3111) (h3 : 0 ≤ z3103 ∧ z3103 ≤ 19) (h4 : 1 ≤ z3111 ∧ z3111 ≤ 20) (h5 : 0 ≤ z4606 ∧ z4606 ≤ 19) (h6 : 0 ≤ z5145 ∧ z5145 ≤ 20) : 0 ≤ z5145 ∧ z5145 ≤ 19 := by omega
theorem vc_X12_three_48 {N z3103 z3111 z4606 z5145 : Int} (h0 : (21 - z5145) < N + 1) (h1 : z5145 < z3111) (h2 : z5145 = z3103) (h3 : z3103 < z3111) (h4 : z4606 < z3111) (h5 : ¬ z4606 = z3103) (h6 : 0 ≤ z3103 ∧ z3103 ≤ 19) (h7 : 1 ≤ z3111 ∧ z3111 ≤ 20) (h8 : 0 ≤ z4606 ∧ z4606 ≤ 19) (h9 : 0 ≤ z5145 ∧ z5145 ≤ 19) : (21 - (z5145 + 1)) < N := by omega
theorem vc_X12_three_49 {N z3103 z3111 z4606 z5145 : Int} (h0 : (21 - z5145) < N + 1) (h1 : z5145 < z3111) (h2 : ¬ z5145 = z3103) (h3 : z5145 = z4606) (h4 : z3103 < z3111) (h5 : z4606 < z3111) (h6 : ¬ z4606 = z3103) (h7 : 0 ≤ z3103 ∧ z3103 ≤ 19) (h8 : 1 ≤ z3111 ∧ z3111 ≤ 20) (h9 : 0 ≤ z4606 ∧ z4606 ≤ 19) (h10 : 0 ≤ z5145 ∧ z5145 ≤ 19) : (21 - (z5145 + 1)) < N := by omega
theorem vc_X12_three_50 {z3103 z3111 z4606 z5145 : Int} (h0 : z5145 < z3111) (h1 : ¬ z5145 = z3103) (h2 : ¬ z5145 = z4606) (h3 : z3103 < z3111) (h4 : z4606 < z3111) (h5 : ¬ z4606 = z3103) (h6 : 0 ≤ z3103 ∧ z3103 ≤ 19) (h7 : 1 ≤ z3111 ∧ z3111 ≤ 20) (h8 : 0 ≤ z4606 ∧ z4606 ≤ 19) (h9 : 0 ≤ z5145 ∧ z5145 ≤ 19) : 0 ≤ (40 * (4 + z5145)) := by omega
theorem vc_X12_three_51 {z3103 z3111 z4606 z5145 : Int} (h0 : z5145 < z3111) (h1 : ¬ z5145 = z3103) (h2 : ¬ z5145 = z4606) (h3 : z3103 < z3111) (h4 : z4606 < z3111) (h5 : ¬ z4606 = z3103) (h6 : 0 ≤ z3103 ∧ z3103 ≤ 19) (h7 : 1 ≤ z3111 ∧ z3111 ≤ 20) (h8 : 0 ≤ z4606 ∧ z4606 ≤ 19) (h9 : 0 ≤ z5145 ∧ z5145 ≤ 19) : (40 * (4 + z5145)) % 40 = 0 := by omega
theorem vc_X12_three_52 {z5158 z5166 : Int} (h0 : ¬ z5166 = 0) (h1 : (z5166 = 1 → 0 ≤ z5158)) (h2 : (z5166 = 0 → z5158 < 0)) (h3 : (-1) ≤ z5158 ∧ z5158 ≤ 9) (h4 : 0 ≤ z5166 ∧ z5166 ≤ 1) : 1 ≤ z5166 ∧ z5166 ≤ 1 := by omega
theorem vc_X12_three_53 {z5158 z5166 : Int} (h0 : (z5166 = 1 → 0 ≤ z5158)) (h1 : (z5166 = 0 → z5158 < 0)) (h2 : ¬ z5166 = 0) (h3 : (-1) ≤ z5158 ∧ z5158 ≤ 9) (h4 : 1 ≤ z5166 ∧ z5166 ≤ 1) : z5166 = 1 := by omega
theorem vc_X12_three_54 {z5158 z5166 : Int} (h0 : 0 ≤ z5158) (h1 : (z5166 = 1 → 0 ≤ z5158)) (h2 : (z5166 = 0 → z5158 < 0)) (h3 : (-1) ≤ z5158 ∧ z5158 ≤ 9) (h4 : 1 ≤ z5166 ∧ z5166 ≤ 1) : 0 ≤ z5158 ∧ z5158 ≤ 9 := by omega
theorem vc_X12_three_55 {z5175 : Int} (h0 : z5175 = 0) (h1 : 0 ≤ z5175 ∧ z5175 ≤ 1) : 0 ≤ z5175 ∧ z5175 ≤ 0 := by omega
theorem vc_X12_three_56 {N z3103 z3111 z4606 z5145 : Int} (h0 : (21 - z5145) < N + 1) (h1 : z5145 < z3111) (h2 : ¬ z5145 = z3103) (h3 : ¬ z5145 = z4606) (h4 : z3103 < z3111) (h5 : z4606 < z3111) (h6 : ¬ z4606 = z3103) (h7 : 0 ≤ z3103 ∧ z3103 ≤ 19) (h8 : 1 ≤ z3111 ∧ z3111 ≤ 20) (h9 : 0 ≤ z4606 ∧ z4606 ≤ 19) (h10 : 0 ≤ z5145 ∧ z5145 ≤ 19) : (21 - (z5145 + 1)) < N := by omega
theorem vc_X12_three_57 {z5175 : Int} (h0 : ¬ z5175 = 0) (h1 : 0 ≤ z5175 ∧ z5175 ≤ 1) : 1 ≤ z5175 ∧ z5175 ≤ 1 := by omega
theorem vc_X12_three_58 {z5183 : Int} (h0 : z5183 = 0) (h1 : 0 ≤ z5183 ∧ z5183 ≤ 1) : 0 ≤ z5183 ∧ z5183 ≤ 0 := by omega
theorem vc_X12_three_59 {z5183 : Int} (h0 : ¬ z5183 = 0) (h1 : 0 ≤ z5183 ∧ z5183 ≤ 1) : 1 ≤ z5183 ∧ z5183 ≤ 1 := by omega
theorem vc_X12_three_60 {p3 z38 : Int} (h0 : ¬ p3 = 0) (h1 : (z38 = 1 → (0 : Int) ≤ p3 ∧ p3 ≤ (2 : Int))) (h2 : (z38 = 0 → p3 < (0 : Int) ∨ (2 : Int) < p3)) (h3 : (0 : Int) ≤ p3 ∧ p3 ≤ (2 : Int)) (h4 : 0 ≤ p3 ∧ p3 ≤ 2) (h5 : 1 ≤ z38 ∧ z38 ≤ 1) : 1 ≤ p3 ∧ p3 ≤ 2 := by omega
theorem vc_X12_three_61 {p3 z38 : Int} (h0 : ¬ p3 = 1) (h1 : (z38 = 1 → (0 : Int) ≤ p3 ∧ p3 ≤ (2 : Int))) (h2 : (z38 = 0 → p3 < (0 : Int) ∨ (2 : Int) < p3)) (h3 : (0 : Int) ≤ p3 ∧ p3 ≤ (2 : Int)) (h4 : ¬ p3 = 0) (h5 : 1 ≤ p3 ∧ p3 ≤ 2) (h6 : 1 ≤ z38 ∧ z38 ≤ 1) : 2 ≤ p3 ∧ p3 ≤ 2 := by omega
theorem vc_X12_three_62 {p3 z38 : Int} (h0 : p3 = 1) (h1 : (z38 = 1 → (0 : Int) ≤ p3 ∧ p3 ≤ (2 : Int))) (h2 : (z38 = 0 → p3 < (0 : Int) ∨ (2 : Int) < p3)) (h3 : (0 : Int) ≤ p3 ∧ p3 ≤ (2 : Int)) (h4 : ¬ p3 = 0) (h5 : 1 ≤ p3 ∧ p3 ≤ 2) (h6 : 1 ≤ z38 ∧ z38 ≤ 1) : 1 ≤ p3 ∧ p3 ≤ 1 := by omega
theorem vc_X12_three_63 {p3 z38 : Int} (h0 : p3 = 0) (h1 : (z38 = 1 → (0 : Int) ≤ p3 ∧ p3 ≤ (2 : Int))) (h2 : (z38 = 0 → p3 < (0 : Int) ∨ (2 : Int) < p3)) (h3 : (0 : Int) ≤ p3 ∧ p3 ≤ (2 : Int)) (h4 : 0 ≤ p3 ∧ p3 ≤ 2) (h5 : 1 ≤ z38 ∧ z38 ≤ 1) : 0 ≤ p3 ∧ p3 ≤ 0 := by omega
theorem vc_X12_three_64 {z5158 z5166 : Int} (h0 : z5166 = 0) (h1 : (z5166 = 1 → 0 ≤ z5158)) (h2 : (z5166 = 0 → z5158 < 0)) (h3 : (-1) ≤ z5158 ∧ z5158 ≤ 9) (h4 : 0 ≤ z5166 ∧ z5166 ≤ 1) : 0 ≤ z5166 ∧ z5166 ≤ 0 := by omega
theorem vc_X12_three_65 {z5158 z5166 : Int} (h0 : (z5166 = 1 → 0 ≤ z5158)) (h1 : (z5166 = 0 → z5158 < 0)) (h2 : z5166 = 0) (h3 : (-1) ≤ z5158 ∧ z5158 ≤ 9) (h4 : 0 ≤ z5166 ∧ z5166 ≤ 0) : z5166 = 0 := by omega
theorem vc_X12_three_66 {z5158 z5166 : Int} (h0 : z5158 < 0) (h1 : (z5166 = 1 → 0 ≤ z5158)) (h2 : (z5166 = 0 → z5158 < 0)) (h3 : (-1) ≤ z5158 ∧ z5158 ≤ 9) (h4 : 0 ≤ z5166 ∧ z5166 ≤ 0) : (-1) ≤ z5158 ∧ z5158 ≤ (-1) := by omega
theorem vc_X12_three_67  : (21 - 0) < ((22 : Nat) : Int) := by omega
theorem vc_X12_three_68 {z4654 : Int} (h0 : z4654 = 0) (h1 : 0 ≤ z4654 ∧ z4654 ≤ 1) : 0 ≤ z4654 ∧ z4654 ≤ 0 := by omega
theorem vc_X12_three_69 {p3 z38 : Int} (h0 : z38 = 0) (h1 : (z38 = 1 → (0 : Int) ≤ p3 ∧ p3 ≤ (2 : Int))) (h2 : (z38 = 0 → p3 < (0 : Int) ∨ (2 : Int) < p3)) (h3 : (-2147483648) ≤ p3 ∧ p3 ≤ 2147483647) (h4 : 0 ≤ z38 ∧ z38 ≤ 1) : 0 ≤ z38 ∧ z38 ≤ 0 := by omega
theorem vc_X12_three_70 {p3 z38 : Int} (h0 : (z38 = 1 → (0 : Int) ≤ p3 ∧ p3 ≤ (2 : Int))) (h1 : (z38 = 0 → p3 < (0 : Int) ∨ (2 : Int) < p3)) (h2 : z38 = 0) (h3 : (-2147483648) ≤ p3 ∧ p3 ≤ 2147483647) (h4 : 0 ≤ z38 ∧ z38 ≤ 0) : z38 = 0 := by omega
theorem vc_X12_three_71 {p2 z16 z23 : Int} (h0 : z23 = 0) (h1 : (z23 = 1 → 0 ≤ p2 ∧ p2 < z16)) (h2 : (z23 = 0 → p2 < 0 ∨ z16 ≤ p2)) (h3 : (-2147483648) ≤ p2 ∧ p2 ≤ 2147483647) (h4 : 0 ≤ z16 ∧ z16 ≤ 10) (h5 : 0 ≤ z23 ∧ z23 ≤ 1) : 0 ≤ z23 ∧ z23 ≤ 0 := by omega
theorem vc_X12_three_72 {p2 z16 z23 : Int} (h0 : (z23 = 1 → 0 ≤ p2 ∧ p2 < z16)) (h1 : (z23 = 0 → p2 < 0 ∨ z16 ≤ p2)) (h2 : z23 = 0) (h3 : (-2147483648) ≤ p2 ∧ p2 ≤ 2147483647) (h4 : 0 ≤ z16 ∧ z16 ≤ 10) (h5 : 0 ≤ z23 ∧ z23 ≤ 0) : z23 = 0 := by omega
set_option maxRecDepth 4000 in
set_option maxHeartbeats 4000000 in
theorem c_X12_three {l : Launch} {D : va_G} {c : Nat → ClassId} {H0 : Heap} {sa : Nat × Nat × (Nat → Int32)} {w : mW} {μ : mM} (hw : mWF w) (hT : mT w μ) {p1 : Int} (hp1 : (-2147483648) ≤ p1 ∧ p1 ≤ 2147483647) {p2 : Int} (hp2 : (-2147483648) ≤ p2 ∧ p2 ≤ 2147483647) {p3 : Int} (hp3 : (-2147483648) ≤ p3 ∧ p3 ≤ 2147483647) (hIG1 : G1 μ) (hIEV : EV μ) (hIPK : PK μ) : sC (gG l D c H0 sa) mX12_three 9 0 0 [.ref 106, iv p1, iv p2, iv p3] (mk w μ) (qI w [106026, 106027, 106028, 106029, 106030, 106031, 126999, 151999, 152999, 153999] μ (fun z μ1 => ((-2147483648) ≤ z ∧ z ≤ 2147483647) ∧ G1 μ1 ∧ EV μ1 ∧ True)) := by
  refine sC.of rfl (by decide) (le_t rfl) ?_
  refine mr_lvE (lv' := [(0, .ref 106), (1, iv p1), (2, iv p2), (3, iv p3)]) rfl ?_
  refine sv_aload_n (pc := 0) dX12_three_0 rfl rfl ?_
  refine mr_iload_n (pc := 1) (z := p1) dX12_three_1 rfl rfl ?_
  obtain ⟨z1, q2⟩ : ∃ z, μ 106 5 = z := ⟨_, rfl⟩
  have h3 : (0 ≤ z1 ∧ z1 ≤ 10) := by rw [← q2]; exact hT 106 106 (A_106 hw) 5
  refine mr_cVP (pc := 2) (c_X12_isDomain hw hT hp1 q2) (gOk _ _ _ _ _) dX12_three_2 (tX12_isDomain _ _ _ _ _) ⟨wV_X12_isDomain, wL_X12_isDomain⟩ wM_X12_49 (gCX12 _ _ _ _ _) rfl (A_106 hw) rfl ⟨le_t rfl, le_t rfl⟩ ⟨le_t rfl, le_t rfl⟩ rfl (le_t rfl) fun z8 h7 => ?_
  refine mr_if_eq (pc := 5) (tgt := 16) dX12_three_5 (by decide) (r32 h7.1 rfl) (fun h9 => ?_) (fun h9 => ?_)
  · have h10 : 0 ≤ z8 ∧ z8 ≤ 0 := (vc_X12_three_1 h9 h7.2.1 h7.2.2.1 hp1 h3 h7.1)
    have h11 : p1 < 0 ∨ z1 ≤ p1 := (h7.2.2.1 (vc_X12_three_2 h7.2.1 h7.2.2.1 h9 hp1 h3 h10))
    refine mr_iconst (pc := 16) (z := (-1)) dX12_three_16 ?_
    exact mr_iret dX12_three_17 rfl (le_t rfl) (le_t rfl) hT mF.refl ⟨(rW (c := (-2147483648)) (d := 2147483647) (rR (x := (-1))) rfl), hIG1, hIEV, trivial⟩
  have h12 : 1 ≤ z8 ∧ z8 ≤ 1 := (vc_X12_three_3 h9 h7.2.1 h7.2.2.1 hp1 h3 h7.1)
  have h13 : 0 ≤ p1 ∧ p1 < z1 := (h7.2.1 (vc_X12_three_4 h7.2.1 h7.2.2.1 h9 hp1 h3 h12))
  have h14 : 0 ≤ p1 ∧ p1 ≤ 9 := (vc_X12_three_5 h13 h7.2.1 h7.2.2.1 hp1 h3 h12)
  have h15 : 1 ≤ z1 ∧ z1 ≤ 10 := (vc_X12_three_6 h13 h7.2.1 h7.2.2.1 h14 h3 h12)
  refine sv_aload_n (pc := 8) dX12_three_8 rfl rfl ?_
  refine mr_iload_n (pc := 9) (z := p2) dX12_three_9 rfl rfl ?_
  obtain ⟨z16, q17⟩ : ∃ z, μ 106 2 = z := ⟨_, rfl⟩
  have h18 : (0 ≤ z16 ∧ z16 ≤ 10) := by rw [← q17]; exact hT 106 106 (A_106 hw) 2
  refine mr_cVP (pc := 10) (c_X12_isPrefix hw hT hp2 q17) (gOk _ _ _ _ _) dX12_three_10 (tX12_isPrefix _ _ _ _ _) ⟨wV_X12_isPrefix, wL_X12_isPrefix⟩ wM_X12_92 (gCX12 _ _ _ _ _) rfl (A_106 hw) rfl ⟨le_t rfl, le_t rfl⟩ ⟨le_t rfl, le_t rfl⟩ rfl (le_t rfl) fun z23 h22 => ?_
  refine mr_if_ne (pc := 13) (tgt := 18) dX12_three_13 (by decide) (r32 h22.1 rfl) (fun h24 => ?_) (fun h24 => ?_)
  · have h25 : 1 ≤ z23 ∧ z23 ≤ 1 := (vc_X12_three_7 h24 h22.2.1 h22.2.2.1 hp2 h18 h22.1)
    have h26 : 0 ≤ p2 ∧ p2 < z16 := (h22.2.1 (vc_X12_three_8 h22.2.1 h22.2.2.1 h24 hp2 h18 h25))
    have h27 : 0 ≤ p2 ∧ p2 ≤ 9 := (vc_X12_three_9 h26 h22.2.1 h22.2.2.1 hp2 h18 h25)
    refine sv_aload_n (pc := 18) dX12_three_18 rfl rfl ?_
    refine gf_X12_82 (pc := 19) dX12_three_19 wF_X12_448 (A_106 hw) hT ?_
    refine mr_bipush (pc := 22) (z := 10) dX12_three_22 (by decide) ?_
    refine mr_iload_n (pc := 24) (z := p1) dX12_three_24 rfl rfl ?_
    refine mr_imul (pc := 25) (x := 10) (y := p1) dX12_three_25 ?_
    refine mr_iload_n (pc := 26) (z := p2) dX12_three_26 rfl rfl ?_
    refine mr_iadd (pc := 27) (x := (10 * p1)) (y := p2) dX12_three_27 ?_
    refine la_162 (pc := 28) dX12_three_28 (A_162 hw) hT (rIx (n := 100) (rAdd (e := 0) (f := 99) (rMulL (n := 10) (e := 0) (f := 90) h14 rfl) h27 rfl) rfl) fun z28 q29 h30 => ?_
    refine mr_if_ge (pc := 29) (tgt := 41) dX12_three_29 (by decide) (r32 h30 rfl) (fun h31 => ?_) (fun h31 => ?_)
    · have h32 : 0 ≤ z28 ∧ z28 ≤ 2 := (vc_X12_three_10 h31 h30)
      refine mr_ldc (pc := 41) (z := (-99999999)) dX12_three_41 wG_X12_29 (by decide) ?_
      exact mr_iret dX12_three_43 rfl (le_t rfl) (le_t rfl) hT mF.refl ⟨(rW (c := (-2147483648)) (d := 2147483647) (rR (x := (-99999999))) rfl), hIG1, hIEV, trivial⟩
    have h33 : (-1) ≤ z28 ∧ z28 ≤ (-1) := (vc_X12_three_11 h31 h30)
    refine mr_iload_n (pc := 32) (z := p3) dX12_three_32 rfl rfl ?_
    refine mr_iconst (pc := 33) (z := 0) dX12_three_33 ?_
    refine mr_iconst (pc := 34) (z := 2) dX12_three_34 ?_
    refine mr_cSP (pc := 35) (c_X12_in hw hT hp3 (rW (c := (-2147483648)) (d := 2147483647) (rR (x := 0)) rfl) (rW (c := (-2147483648)) (d := 2147483647) (rR (x := 2)) rfl)) (gOk _ _ _ _ _) dX12_three_35 (tX12_in _ _ _ _ _) wS_X12_in wM_X12_18 ⟨le_t rfl, le_t rfl⟩ ⟨le_t rfl, le_t rfl⟩ rfl (le_t rfl) fun z38 h37 => ?_
    refine mr_if_ne (pc := 38) (tgt := 44) dX12_three_38 (by decide) (r32 h37.1 rfl) (fun h39 => ?_) (fun h39 => ?_)
    · have h40 : 1 ≤ z38 ∧ z38 ≤ 1 := (vc_X12_three_12 h39 h37.2.1 h37.2.2.1 hp3 h37.1)
      have h41 : (0 : Int) ≤ p3 ∧ p3 ≤ (2 : Int) := (h37.2.1 (vc_X12_three_13 h37.2.1 h37.2.2.1 h39 hp3 h40))
      have h42 : 0 ≤ p3 ∧ p3 ≤ 2 := (vc_X12_three_14 h41 h37.2.1 h37.2.2.1 hp3 h40)
      refine sv_aload_n (pc := 44) dX12_three_44 rfl rfl ?_
      refine mr_iload_n (pc := 45) (z := p1) dX12_three_45 rfl rfl ?_
      refine mr_iload_n (pc := 46) (z := p2) dX12_three_46 rfl rfl ?_
      refine mr_cVV (pc := 47) (c_X12_candidates hw hT h14 h27 hIPK) (gOk _ _ _ _ _) dX12_three_47 (tX12_candidates _ _ _ _ _) ⟨wV_X12_candidates, wL_X12_candidates⟩ wM_X12_572 (gCX12 _ _ _ _ _) rfl (A_106 hw) rfl ⟨le_t rfl, le_t rfl⟩ ⟨le_t rfl, le_t rfl⟩ rfl (le_t rfl) fun μ43 T44 F45 h46 => ?_
      refine mr_iconst (pc := 50) (z := 0) dX12_three_50 ?_
      refine mr_istore (pc := 51) (lv' := [(4, iv 0), (0, .ref 106), (1, iv p1), (2, iv p2), (3, iv p3)]) dX12_three_51 (by decide) rfl ?_
      have L3104 : ∀ (nL3104 : Nat) (z3103 : Int), True → (0 ≤ z3103 ∧ z3103 ≤ 20) → (21 - z3103) < (nL3104 : Int) → sV (gG l D c H0 sa) mX12_three (sRm 9 0 0) (sZ (gG l D c H0 sa) 0 0 (qI w [106026, 106027, 106028, 106029, 106030, 106031, 126999, 151999, 152999, 153999] μ (fun z μ1 => ((-2147483648) ≤ z ∧ z ≤ 2147483647) ∧ G1 μ1 ∧ EV μ1 ∧ True))) 53 [(0, .ref 106), (1, iv p1), (2, iv p2), (3, iv p3), (4, iv z3103)] [] (mk w μ43) 0 0 := by
        intro nL3104
        induction nL3104 with
        | zero => intro z3103 _ h3105 h3109; exact ((vc_X12_three_15 h3109 h3105)).elim
        | succ nL3104 ih3110 =>
          intro z3103 _ h3105 h3109
          refine mr_iload (pc := 53) (z := z3103) dX12_three_53 rfl ?_
          refine sv_aload_n (pc := 55) dX12_three_55 rfl rfl ?_
          refine gf_X12_6 (pc := 56) dX12_three_56 wF_X12_37 (A_106 hw) T44 fun z3111 q3112 h3113 => ?_
          refine mr_icmp_ge (pc := 59) (tgt := 225) dX12_three_59 (by decide) (r32 h3105 rfl) (r32 h3113 rfl) (fun h3114 => ?_) (fun h3114 => ?_)
          · refine mr_ldc (pc := 225) (z := (-99999999)) dX12_three_225 wG_X12_29 (by decide) ?_
            exact mr_iret dX12_three_227 rfl (le_t rfl) (le_t rfl) T44 (mF.call mF.refl F45 rfl) ⟨(rW (c := (-2147483648)) (d := 2147483647) (rR (x := (-99999999))) rfl), (G1.keep hIG1 hw ((mF.call mF.refl F45 rfl) : mF [106026, 106027, 106028, 106029, 106030, 106031, 126999, 151999, 152999, 153999] w μ μ43) rfl rfl ((mG.call mG.refl h46.1 (List.forall_mem_cons.mpr ⟨⟨_, List.mem_cons_self, vc_X12_three_16⟩, (fun _ h => absurd h List.not_mem_nil)⟩)) : mG [(160, 960)] μ μ43) (List.forall_mem_cons.mpr ⟨vc_X12_three_17, (fun _ h => absurd h List.not_mem_nil)⟩)), (EV.keep hIEV hw ((mF.call mF.refl F45 rfl) : mF [106026, 106027, 106028, 106029, 106030, 106031, 126999, 151999, 152999, 153999] w μ μ43) rfl), trivial⟩
          have h3115 : 0 ≤ z3103 ∧ z3103 ≤ 19 := (vc_X12_three_18 h3114 h3105 h3113)
          have h3116 : 1 ≤ z3111 ∧ z3111 ≤ 20 := (vc_X12_three_19 h3114 h3115 h3113)
          refine mr_iconst (pc := 62) (z := 0) dX12_three_62 ?_
          refine mr_istore (pc := 63) (lv' := [(5, iv 0), (0, .ref 106), (1, iv p1), (2, iv p2), (3, iv p3), (4, iv z3103)]) dX12_three_63 (by decide) rfl ?_
          have L4607 : ∀ (nL4607 : Nat) (z4606 : Int), True → (0 ≤ z4606 ∧ z4606 ≤ 20) → (21 - z4606) < (nL4607 : Int) → sV (gG l D c H0 sa) mX12_three (sRm 9 0 0) (sZ (gG l D c H0 sa) 0 0 (qI w [106026, 106027, 106028, 106029, 106030, 106031, 126999, 151999, 152999, 153999] μ (fun z μ1 => ((-2147483648) ≤ z ∧ z ≤ 2147483647) ∧ G1 μ1 ∧ EV μ1 ∧ True))) 65 [(0, .ref 106), (1, iv p1), (2, iv p2), (3, iv p3), (4, iv z3103), (5, iv z4606)] [] (mk w μ43) 0 0 := by
            intro nL4607
            induction nL4607 with
            | zero => intro z4606 _ h4608 h4612; exact ((vc_X12_three_20 h4612 h4608)).elim
            | succ nL4607 ih4613 =>
              intro z4606 _ h4608 h4612
              refine mr_iload (pc := 65) (z := z4606) dX12_three_65 rfl ?_
              refine sv_aload_n (pc := 67) dX12_three_67 rfl rfl ?_
              refine gk_X12_6 (pc := 68) dX12_three_68 wF_X12_37 (A_106 hw) q3112 ?_
              refine mr_icmp_ge (pc := 71) (tgt := 219) dX12_three_71 (by decide) (r32 h4608 rfl) (r32 h3116 rfl) (fun h4614 => ?_) (fun h4614 => ?_)
              · have h4615 : 1 ≤ z4606 ∧ z4606 ≤ 20 := (vc_X12_three_21 h4614 h3114 h3115 h3116 h4608)
                refine mr_iinc (pc := 219) (lv' := [(4, iv (z3103 + 1)), (0, .ref 106), (1, iv p1), (2, iv p2), (3, iv p3), (5, iv z4606)]) dX12_three_219 rfl (by decide) rfl ?_
                refine sv_goto (pc := 222) (tgt := 53) dX12_three_222 (by decide) ?_
                refine mr_lvS (lv' := [(0, .ref 106), (1, iv p1), (2, iv p2), (3, iv p3), (4, iv (z3103 + 1))]) (List.forall_mem_cons.mpr ⟨rfl, List.forall_mem_cons.mpr ⟨rfl, List.forall_mem_cons.mpr ⟨rfl, List.forall_mem_cons.mpr ⟨rfl, List.forall_mem_cons.mpr ⟨rfl, fun _ h => absurd h List.not_mem_nil⟩⟩⟩⟩⟩) ?_
                exact ih3110 (z3103 + 1) trivial (rW (c := 0) (d := 20) (rAdd (e := 1) (f := 20) h3115 (rR (x := 1)) rfl) rfl) (vc_X12_three_22 (nS h3109) h3114 h4614 h3115 h3116 h4615)
              have h4616 : 0 ≤ z4606 ∧ z4606 ≤ 19 := (vc_X12_three_23 h4614 h3114 h3115 h3116 h4608)
              refine sv_aload_n (pc := 74) dX12_three_74 rfl rfl ?_
              refine mr_iconst (pc := 75) (z := 4) dX12_three_75 ?_
              refine mr_iload (pc := 76) (z := z3103) dX12_three_76 rfl ?_
              refine mr_iadd (pc := 78) (x := 4) (y := z3103) dX12_three_78 ?_
              obtain ⟨z4617, q4618⟩ : ∃ z, μ43 126 ((40 * (4 + z3103)).toNat) = z := ⟨_, rfl⟩
              have h4619 := rt7 T44 (A_126 hw) (vc_X12_three_24 h3114 h4614 h3115 h3116 h4616) q4618
              have h4620 : (-1) ≤ z4617 ∧ z4617 ≤ 9 := h4619.2.1 (vc_X12_three_25 h3114 h4614 h3115 h3116 h4616)
              refine mr_cVP (pc := 79) (c_X12_isThere hw T44 (rW (c := 0) (d := 2099) (rAdd (e := 4) (f := 23) (rR (x := 4)) h3115 rfl) rfl) q4618) (gOk _ _ _ _ _) dX12_three_79 (tX12_isThere _ _ _ _ _) ⟨wV_X12_isThere, wL_X12_isThere⟩ wM_X12_151 (gCX12 _ _ _ _ _) rfl (A_106 hw) rfl ⟨le_t rfl, le_t rfl⟩ ⟨le_t rfl, le_t rfl⟩ rfl (le_t rfl) fun z4625 h4624 => ?_
              refine mr_if_eq (pc := 82) (tgt := 219) dX12_three_82 (by decide) (r32 h4624.1 rfl) (fun h4626 => ?_) (fun h4626 => ?_)
              · have h4627 : 0 ≤ z4625 ∧ z4625 ≤ 0 := (vc_X12_three_26 h4626 h4624.2.1 h4624.2.2.1 h4620 h4624.1)
                have h4628 : z4617 < 0 := (h4624.2.2.1 (vc_X12_three_27 h4624.2.1 h4624.2.2.1 h4626 h4620 h4627))
                have h4629 : (-1) ≤ z4617 ∧ z4617 ≤ (-1) := (vc_X12_three_28 h4628 h4624.2.1 h4624.2.2.1 h4620 h4627)
                refine mr_iinc (pc := 219) (lv' := [(4, iv (z3103 + 1)), (0, .ref 106), (1, iv p1), (2, iv p2), (3, iv p3), (5, iv z4606)]) dX12_three_219 rfl (by decide) rfl ?_
                refine sv_goto (pc := 222) (tgt := 53) dX12_three_222 (by decide) ?_
                refine mr_lvS (lv' := [(0, .ref 106), (1, iv p1), (2, iv p2), (3, iv p3), (4, iv (z3103 + 1))]) (List.forall_mem_cons.mpr ⟨rfl, List.forall_mem_cons.mpr ⟨rfl, List.forall_mem_cons.mpr ⟨rfl, List.forall_mem_cons.mpr ⟨rfl, List.forall_mem_cons.mpr ⟨rfl, fun _ h => absurd h List.not_mem_nil⟩⟩⟩⟩⟩) ?_
                exact ih3110 (z3103 + 1) trivial (rW (c := 0) (d := 20) (rAdd (e := 1) (f := 20) h3115 (rR (x := 1)) rfl) rfl) (vc_X12_three_29 (nS h3109) h3114 h4614 h3115 h3116 h4616)
              have h4630 : 1 ≤ z4625 ∧ z4625 ≤ 1 := (vc_X12_three_30 h4626 h4624.2.1 h4624.2.2.1 h4620 h4624.1)
              have h4631 : 0 ≤ z4617 := (h4624.2.1 (vc_X12_three_31 h4624.2.1 h4624.2.2.1 h4626 h4620 h4630))
              have h4632 : 0 ≤ z4617 ∧ z4617 ≤ 9 := (vc_X12_three_32 h4631 h4624.2.1 h4624.2.2.1 h4620 h4630)
              refine mr_iload (pc := 85) (z := z4606) dX12_three_85 rfl ?_
              refine mr_iload (pc := 87) (z := z3103) dX12_three_87 rfl ?_
              refine mr_icmp_eq (pc := 89) (tgt := 213) dX12_three_89 (by decide) (r32 h4616 rfl) (r32 h3115 rfl) (fun h4633 => ?_) (fun h4633 => ?_)
              · refine mr_iinc (pc := 213) (lv' := [(5, iv (z4606 + 1)), (0, .ref 106), (1, iv p1), (2, iv p2), (3, iv p3), (4, iv z3103)]) dX12_three_213 rfl (by decide) rfl ?_
                refine sv_goto (pc := 216) (tgt := 65) dX12_three_216 (by decide) ?_
                refine mr_lvS (lv' := [(0, .ref 106), (1, iv p1), (2, iv p2), (3, iv p3), (4, iv z3103), (5, iv (z4606 + 1))]) (List.forall_mem_cons.mpr ⟨rfl, List.forall_mem_cons.mpr ⟨rfl, List.forall_mem_cons.mpr ⟨rfl, List.forall_mem_cons.mpr ⟨rfl, List.forall_mem_cons.mpr ⟨rfl, List.forall_mem_cons.mpr ⟨rfl, fun _ h => absurd h List.not_mem_nil⟩⟩⟩⟩⟩⟩) ?_
                exact ih4613 (z4606 + 1) trivial (rW (c := 0) (d := 20) (rAdd (e := 1) (f := 20) h4616 (rR (x := 1)) rfl) rfl) (vc_X12_three_33 (nS h4612) h4614 h4633 h3114 h3115 h3116 h4616)
              refine sv_aload_n (pc := 92) dX12_three_92 rfl rfl ?_
              refine mr_iconst (pc := 93) (z := 4) dX12_three_93 ?_
              refine mr_iload (pc := 94) (z := z4606) dX12_three_94 rfl ?_
              refine mr_iadd (pc := 96) (x := 4) (y := z4606) dX12_three_96 ?_
              obtain ⟨z4634, q4635⟩ : ∃ z, μ43 126 ((40 * (4 + z4606)).toNat) = z := ⟨_, rfl⟩
              have h4636 := rt7 T44 (A_126 hw) (vc_X12_three_34 h4614 h4633 h3114 h3115 h3116 h4616) q4635
              have h4637 : (-1) ≤ z4634 ∧ z4634 ≤ 9 := h4636.2.1 (vc_X12_three_35 h4614 h4633 h3114 h3115 h3116 h4616)
              refine mr_cVP (pc := 97) (c_X12_isThere hw T44 (rW (c := 0) (d := 2099) (rAdd (e := 4) (f := 23) (rR (x := 4)) h4616 rfl) rfl) q4635) (gOk _ _ _ _ _) dX12_three_97 (tX12_isThere _ _ _ _ _) ⟨wV_X12_isThere, wL_X12_isThere⟩ wM_X12_151 (gCX12 _ _ _ _ _) rfl (A_106 hw) rfl ⟨le_t rfl, le_t rfl⟩ ⟨le_t rfl, le_t rfl⟩ rfl (le_t rfl) fun z4642 h4641 => ?_
              refine mr_if_eq (pc := 100) (tgt := 213) dX12_three_100 (by decide) (r32 h4641.1 rfl) (fun h4643 => ?_) (fun h4643 => ?_)
              · have h4644 : 0 ≤ z4642 ∧ z4642 ≤ 0 := (vc_X12_three_36 h4643 h4641.2.1 h4641.2.2.1 h4637 h4641.1)
                have h4645 : z4634 < 0 := (h4641.2.2.1 (vc_X12_three_37 h4641.2.1 h4641.2.2.1 h4643 h4637 h4644))
                have h4646 : (-1) ≤ z4634 ∧ z4634 ≤ (-1) := (vc_X12_three_38 h4645 h4641.2.1 h4641.2.2.1 h4637 h4644)
                refine mr_iinc (pc := 213) (lv' := [(5, iv (z4606 + 1)), (0, .ref 106), (1, iv p1), (2, iv p2), (3, iv p3), (4, iv z3103)]) dX12_three_213 rfl (by decide) rfl ?_
                refine sv_goto (pc := 216) (tgt := 65) dX12_three_216 (by decide) ?_
                refine mr_lvS (lv' := [(0, .ref 106), (1, iv p1), (2, iv p2), (3, iv p3), (4, iv z3103), (5, iv (z4606 + 1))]) (List.forall_mem_cons.mpr ⟨rfl, List.forall_mem_cons.mpr ⟨rfl, List.forall_mem_cons.mpr ⟨rfl, List.forall_mem_cons.mpr ⟨rfl, List.forall_mem_cons.mpr ⟨rfl, List.forall_mem_cons.mpr ⟨rfl, fun _ h => absurd h List.not_mem_nil⟩⟩⟩⟩⟩⟩) ?_
                exact ih4613 (z4606 + 1) trivial (rW (c := 0) (d := 20) (rAdd (e := 1) (f := 20) h4616 (rR (x := 1)) rfl) rfl) (vc_X12_three_39 (nS h4612) h4614 h4633 h3114 h3115 h3116 h4616)
              have h4647 : 1 ≤ z4642 ∧ z4642 ≤ 1 := (vc_X12_three_40 h4643 h4641.2.1 h4641.2.2.1 h4637 h4641.1)
              have h4648 : 0 ≤ z4634 := (h4641.2.1 (vc_X12_three_41 h4641.2.1 h4641.2.2.1 h4643 h4637 h4647))
              have h4649 : 0 ≤ z4634 ∧ z4634 ≤ 9 := (vc_X12_three_42 h4648 h4641.2.1 h4641.2.2.1 h4637 h4647)
              refine sv_aload_n (pc := 103) dX12_three_103 rfl rfl ?_
              refine mr_iload_n (pc := 104) (z := p1) dX12_three_104 rfl rfl ?_
              refine mr_iload (pc := 105) (z := z3103) dX12_three_105 rfl ?_
              refine mr_iload (pc := 107) (z := z4606) dX12_three_107 rfl ?_
              refine mr_iload_n (pc := 109) (z := p2) dX12_three_109 rfl rfl ?_
              refine mr_cVP (pc := 110) (c_X12_beats hw T44 h14 h3115 h4616 h27) (gOk _ _ _ _ _) dX12_three_110 (tX12_beats _ _ _ _ _) ⟨wV_X12_beats, wL_X12_beats⟩ wM_X12_568 (gCX12 _ _ _ _ _) rfl (A_106 hw) rfl ⟨le_t rfl, le_t rfl⟩ ⟨le_t rfl, le_t rfl⟩ rfl (le_t rfl) fun z4654 h4653 => ?_
              refine mr_if_ne (pc := 113) (tgt := 119) dX12_three_113 (by decide) (r32 h4653.1 rfl) (fun h4655 => ?_) (fun h4655 => ?_)
              · have h4656 : 1 ≤ z4654 ∧ z4654 ≤ 1 := (vc_X12_three_43 h4655 h4653.1)
                refine mr_iconst (pc := 119) (z := 0) dX12_three_119 ?_
                refine mr_istore (pc := 120) (lv' := [(6, iv 0), (0, .ref 106), (1, iv p1), (2, iv p2), (3, iv p3), (4, iv z3103), (5, iv z4606)]) dX12_three_120 (by decide) rfl ?_
                have L5146 : ∀ (nL5146 : Nat) (z5145 : Int), True → (0 ≤ z5145 ∧ z5145 ≤ 20) → (21 - z5145) < (nL5146 : Int) → sV (gG l D c H0 sa) mX12_three (sRm 9 0 0) (sZ (gG l D c H0 sa) 0 0 (qI w [106026, 106027, 106028, 106029, 106030, 106031, 126999, 151999, 152999, 153999] μ (fun z μ1 => ((-2147483648) ≤ z ∧ z ≤ 2147483647) ∧ G1 μ1 ∧ EV μ1 ∧ True))) 122 [(0, .ref 106), (1, iv p1), (2, iv p2), (3, iv p3), (4, iv z3103), (5, iv z4606), (6, iv z5145)] [] (mk w μ43) 0 0 := by
                  intro nL5146
                  induction nL5146 with
                  | zero => intro z5145 _ h5147 h5151; exact ((vc_X12_three_44 h5151 h5147)).elim
                  | succ nL5146 ih5152 =>
                    intro z5145 _ h5147 h5151
                    refine mr_iload (pc := 122) (z := z5145) dX12_three_122 rfl ?_
                    refine sv_aload_n (pc := 124) dX12_three_124 rfl rfl ?_
                    refine gk_X12_6 (pc := 125) dX12_three_125 wF_X12_37 (A_106 hw) q3112 ?_
                    refine mr_icmp_ge (pc := 128) (tgt := 213) dX12_three_128 (by decide) (r32 h5147 rfl) (r32 h3116 rfl) (fun h5153 => ?_) (fun h5153 => ?_)
                    · have h5154 : 1 ≤ z5145 ∧ z5145 ≤ 20 := (vc_X12_three_45 h5153 h3114 h4614 h3115 h3116 h4616 h5147)
                      refine mr_iinc (pc := 213) (lv' := [(5, iv (z4606 + 1)), (0, .ref 106), (1, iv p1), (2, iv p2), (3, iv p3), (4, iv z3103), (6, iv z5145)]) dX12_three_213 rfl (by decide) rfl ?_
                      refine sv_goto (pc := 216) (tgt := 65) dX12_three_216 (by decide) ?_
                      refine mr_lvS (lv' := [(0, .ref 106), (1, iv p1), (2, iv p2), (3, iv p3), (4, iv z3103), (5, iv (z4606 + 1))]) (List.forall_mem_cons.mpr ⟨rfl, List.forall_mem_cons.mpr ⟨rfl, List.forall_mem_cons.mpr ⟨rfl, List.forall_mem_cons.mpr ⟨rfl, List.forall_mem_cons.mpr ⟨rfl, List.forall_mem_cons.mpr ⟨rfl, fun _ h => absurd h List.not_mem_nil⟩⟩⟩⟩⟩⟩) ?_
                      exact ih4613 (z4606 + 1) trivial (rW (c := 0) (d := 20) (rAdd (e := 1) (f := 20) h4616 (rR (x := 1)) rfl) rfl) (vc_X12_three_46 (nS h4612) h4614 h4633 h3114 h5153 h3115 h3116 h4616 h5154)
                    have h5155 : 0 ≤ z5145 ∧ z5145 ≤ 19 := (vc_X12_three_47 h5153 h3114 h4614 h3115 h3116 h4616 h5147)
                    refine mr_iload (pc := 131) (z := z5145) dX12_three_131 rfl ?_
                    refine mr_iload (pc := 133) (z := z3103) dX12_three_133 rfl ?_
                    refine mr_icmp_eq (pc := 135) (tgt := 207) dX12_three_135 (by decide) (r32 h5155 rfl) (r32 h3115 rfl) (fun h5156 => ?_) (fun h5156 => ?_)
                    · refine mr_iinc (pc := 207) (lv' := [(6, iv (z5145 + 1)), (0, .ref 106), (1, iv p1), (2, iv p2), (3, iv p3), (4, iv z3103), (5, iv z4606)]) dX12_three_207 rfl (by decide) rfl ?_
                      refine sv_goto (pc := 210) (tgt := 122) dX12_three_210 (by decide) ?_
                      refine mr_lvS (lv' := [(0, .ref 106), (1, iv p1), (2, iv p2), (3, iv p3), (4, iv z3103), (5, iv z4606), (6, iv (z5145 + 1))]) (List.forall_mem_cons.mpr ⟨rfl, List.forall_mem_cons.mpr ⟨rfl, List.forall_mem_cons.mpr ⟨rfl, List.forall_mem_cons.mpr ⟨rfl, List.forall_mem_cons.mpr ⟨rfl, List.forall_mem_cons.mpr ⟨rfl, List.forall_mem_cons.mpr ⟨rfl, fun _ h => absurd h List.not_mem_nil⟩⟩⟩⟩⟩⟩⟩) ?_
                      exact ih5152 (z5145 + 1) trivial (rW (c := 0) (d := 20) (rAdd (e := 1) (f := 20) h5155 (rR (x := 1)) rfl) rfl) (vc_X12_three_48 (nS h5151) h5153 h5156 h3114 h4614 h4633 h3115 h3116 h4616 h5155)
                    refine mr_iload (pc := 138) (z := z5145) dX12_three_138 rfl ?_
                    refine mr_iload (pc := 140) (z := z4606) dX12_three_140 rfl ?_
                    refine mr_icmp_eq (pc := 142) (tgt := 207) dX12_three_142 (by decide) (r32 h5155 rfl) (r32 h4616 rfl) (fun h5157 => ?_) (fun h5157 => ?_)
                    · refine mr_iinc (pc := 207) (lv' := [(6, iv (z5145 + 1)), (0, .ref 106), (1, iv p1), (2, iv p2), (3, iv p3), (4, iv z3103), (5, iv z4606)]) dX12_three_207 rfl (by decide) rfl ?_
                      refine sv_goto (pc := 210) (tgt := 122) dX12_three_210 (by decide) ?_
                      refine mr_lvS (lv' := [(0, .ref 106), (1, iv p1), (2, iv p2), (3, iv p3), (4, iv z3103), (5, iv z4606), (6, iv (z5145 + 1))]) (List.forall_mem_cons.mpr ⟨rfl, List.forall_mem_cons.mpr ⟨rfl, List.forall_mem_cons.mpr ⟨rfl, List.forall_mem_cons.mpr ⟨rfl, List.forall_mem_cons.mpr ⟨rfl, List.forall_mem_cons.mpr ⟨rfl, List.forall_mem_cons.mpr ⟨rfl, fun _ h => absurd h List.not_mem_nil⟩⟩⟩⟩⟩⟩⟩) ?_
                      exact ih5152 (z5145 + 1) trivial (rW (c := 0) (d := 20) (rAdd (e := 1) (f := 20) h5155 (rR (x := 1)) rfl) rfl) (vc_X12_three_49 (nS h5151) h5153 h5156 h5157 h3114 h4614 h4633 h3115 h3116 h4616 h5155)
                    refine sv_aload_n (pc := 145) dX12_three_145 rfl rfl ?_
                    refine mr_iconst (pc := 146) (z := 4) dX12_three_146 ?_
                    refine mr_iload (pc := 147) (z := z5145) dX12_three_147 rfl ?_
                    refine mr_iadd (pc := 149) (x := 4) (y := z5145) dX12_three_149 ?_
                    obtain ⟨z5158, q5159⟩ : ∃ z, μ43 126 ((40 * (4 + z5145)).toNat) = z := ⟨_, rfl⟩
                    have h5160 := rt7 T44 (A_126 hw) (vc_X12_three_50 h5153 h5156 h5157 h3114 h4614 h4633 h3115 h3116 h4616 h5155) q5159
                    have h5161 : (-1) ≤ z5158 ∧ z5158 ≤ 9 := h5160.2.1 (vc_X12_three_51 h5153 h5156 h5157 h3114 h4614 h4633 h3115 h3116 h4616 h5155)
                    refine mr_cVP (pc := 150) (c_X12_isThere hw T44 (rW (c := 0) (d := 2099) (rAdd (e := 4) (f := 23) (rR (x := 4)) h5155 rfl) rfl) q5159) (gOk _ _ _ _ _) dX12_three_150 (tX12_isThere _ _ _ _ _) ⟨wV_X12_isThere, wL_X12_isThere⟩ wM_X12_151 (gCX12 _ _ _ _ _) rfl (A_106 hw) rfl ⟨le_t rfl, le_t rfl⟩ ⟨le_t rfl, le_t rfl⟩ rfl (le_t rfl) fun z5166 h5165 => ?_
                    refine mr_if_ne (pc := 153) (tgt := 159) dX12_three_153 (by decide) (r32 h5165.1 rfl) (fun h5167 => ?_) (fun h5167 => ?_)
                    · have h5168 : 1 ≤ z5166 ∧ z5166 ≤ 1 := (vc_X12_three_52 h5167 h5165.2.1 h5165.2.2.1 h5161 h5165.1)
                      have h5169 : 0 ≤ z5158 := (h5165.2.1 (vc_X12_three_53 h5165.2.1 h5165.2.2.1 h5167 h5161 h5168))
                      have h5170 : 0 ≤ z5158 ∧ z5158 ≤ 9 := (vc_X12_three_54 h5169 h5165.2.1 h5165.2.2.1 h5161 h5168)
                      refine sv_aload_n (pc := 159) dX12_three_159 rfl rfl ?_
                      refine mr_iload_n (pc := 160) (z := p1) dX12_three_160 rfl rfl ?_
                      refine mr_iload (pc := 161) (z := z4606) dX12_three_161 rfl ?_
                      refine mr_iload (pc := 163) (z := z5145) dX12_three_163 rfl ?_
                      refine mr_iload_n (pc := 165) (z := p2) dX12_three_165 rfl rfl ?_
                      refine mr_cVP (pc := 166) (c_X12_beats hw T44 h14 h4616 h5155 h27) (gOk _ _ _ _ _) dX12_three_166 (tX12_beats _ _ _ _ _) ⟨wV_X12_beats, wL_X12_beats⟩ wM_X12_568 (gCX12 _ _ _ _ _) rfl (A_106 hw) rfl ⟨le_t rfl, le_t rfl⟩ ⟨le_t rfl, le_t rfl⟩ rfl (le_t rfl) fun z5175 h5174 => ?_
                      refine mr_if_eq (pc := 169) (tgt := 207) dX12_three_169 (by decide) (r32 h5174.1 rfl) (fun h5176 => ?_) (fun h5176 => ?_)
                      · have h5177 : 0 ≤ z5175 ∧ z5175 ≤ 0 := (vc_X12_three_55 h5176 h5174.1)
                        refine mr_iinc (pc := 207) (lv' := [(6, iv (z5145 + 1)), (0, .ref 106), (1, iv p1), (2, iv p2), (3, iv p3), (4, iv z3103), (5, iv z4606)]) dX12_three_207 rfl (by decide) rfl ?_
                        refine sv_goto (pc := 210) (tgt := 122) dX12_three_210 (by decide) ?_
                        refine mr_lvS (lv' := [(0, .ref 106), (1, iv p1), (2, iv p2), (3, iv p3), (4, iv z3103), (5, iv z4606), (6, iv (z5145 + 1))]) (List.forall_mem_cons.mpr ⟨rfl, List.forall_mem_cons.mpr ⟨rfl, List.forall_mem_cons.mpr ⟨rfl, List.forall_mem_cons.mpr ⟨rfl, List.forall_mem_cons.mpr ⟨rfl, List.forall_mem_cons.mpr ⟨rfl, List.forall_mem_cons.mpr ⟨rfl, fun _ h => absurd h List.not_mem_nil⟩⟩⟩⟩⟩⟩⟩) ?_
                        exact ih5152 (z5145 + 1) trivial (rW (c := 0) (d := 20) (rAdd (e := 1) (f := 20) h5155 (rR (x := 1)) rfl) rfl) (vc_X12_three_56 (nS h5151) h5153 h5156 h5157 h3114 h4614 h4633 h3115 h3116 h4616 h5155)
                      have h5178 : 1 ≤ z5175 ∧ z5175 ≤ 1 := (vc_X12_three_57 h5176 h5174.1)
                      refine sv_aload_n (pc := 172) dX12_three_172 rfl rfl ?_
                      refine mr_iload_n (pc := 173) (z := p1) dX12_three_173 rfl rfl ?_
                      refine mr_iload (pc := 174) (z := z5145) dX12_three_174 rfl ?_
                      refine mr_iload (pc := 176) (z := z3103) dX12_three_176 rfl ?_
                      refine mr_iload_n (pc := 178) (z := p2) dX12_three_178 rfl rfl ?_
                      refine mr_cVP (pc := 179) (c_X12_beats hw T44 h14 h5155 h3115 h27) (gOk _ _ _ _ _) dX12_three_179 (tX12_beats _ _ _ _ _) ⟨wV_X12_beats, wL_X12_beats⟩ wM_X12_568 (gCX12 _ _ _ _ _) rfl (A_106 hw) rfl ⟨le_t rfl, le_t rfl⟩ ⟨le_t rfl, le_t rfl⟩ rfl (le_t rfl) fun z5183 h5182 => ?_
                      refine mr_if_eq (pc := 182) (tgt := 207) dX12_three_182 (by decide) (r32 h5182.1 rfl) (fun h5184 => ?_) (fun h5184 => ?_)
                      · have h5185 : 0 ≤ z5183 ∧ z5183 ≤ 0 := (vc_X12_three_58 h5184 h5182.1)
                        refine mr_iinc (pc := 207) (lv' := [(6, iv (z5145 + 1)), (0, .ref 106), (1, iv p1), (2, iv p2), (3, iv p3), (4, iv z3103), (5, iv z4606)]) dX12_three_207 rfl (by decide) rfl ?_
                        refine sv_goto (pc := 210) (tgt := 122) dX12_three_210 (by decide) ?_
                        refine mr_lvS (lv' := [(0, .ref 106), (1, iv p1), (2, iv p2), (3, iv p3), (4, iv z3103), (5, iv z4606), (6, iv (z5145 + 1))]) (List.forall_mem_cons.mpr ⟨rfl, List.forall_mem_cons.mpr ⟨rfl, List.forall_mem_cons.mpr ⟨rfl, List.forall_mem_cons.mpr ⟨rfl, List.forall_mem_cons.mpr ⟨rfl, List.forall_mem_cons.mpr ⟨rfl, List.forall_mem_cons.mpr ⟨rfl, fun _ h => absurd h List.not_mem_nil⟩⟩⟩⟩⟩⟩⟩) ?_
                        exact ih5152 (z5145 + 1) trivial (rW (c := 0) (d := 20) (rAdd (e := 1) (f := 20) h5155 (rR (x := 1)) rfl) rfl) (vc_X12_three_56 (nS h5151) h5153 h5156 h5157 h3114 h4614 h4633 h3115 h3116 h4616 h5155)
                      have h5186 : 1 ≤ z5183 ∧ z5183 ≤ 1 := (vc_X12_three_59 h5184 h5182.1)
                      refine mr_iload_n (pc := 185) (z := p3) dX12_three_185 rfl rfl ?_
                      refine mr_if_ne (pc := 186) (tgt := 194) dX12_three_186 (by decide) (r32 h42 rfl) (fun h5191 => ?_) (fun h5191 => ?_)
                      · have h5192 : 1 ≤ p3 ∧ p3 ≤ 2 := (vc_X12_three_60 h5191 h37.2.1 h37.2.2.1 h41 h42 h40)
                        refine mr_iload_n (pc := 194) (z := p3) dX12_three_194 rfl rfl ?_
                        refine mr_iconst (pc := 195) (z := 1) dX12_three_195 ?_
                        refine mr_icmp_ne (pc := 196) (tgt := 204) dX12_three_196 (by decide) (r32 h5192 rfl) (r32 (rR (x := 1)) rfl) (fun h5195 => ?_) (fun h5195 => ?_)
                        · have h5196 : 2 ≤ p3 ∧ p3 ≤ 2 := (vc_X12_three_61 h5195 h37.2.1 h37.2.2.1 h41 h5191 h5192 h40)
                          refine mr_iload (pc := 204) (z := z5145) dX12_three_204 rfl ?_
                          exact mr_iret dX12_three_206 rfl (le_t rfl) (le_t rfl) T44 (mF.call mF.refl F45 rfl) ⟨(rW (c := (-2147483648)) (d := 2147483647) h5155 rfl), (G1.keep hIG1 hw ((mF.call mF.refl F45 rfl) : mF [106026, 106027, 106028, 106029, 106030, 106031, 126999, 151999, 152999, 153999] w μ μ43) rfl rfl ((mG.call mG.refl h46.1 (List.forall_mem_cons.mpr ⟨⟨_, List.mem_cons_self, vc_X12_three_16⟩, (fun _ h => absurd h List.not_mem_nil)⟩)) : mG [(160, 960)] μ μ43) (List.forall_mem_cons.mpr ⟨vc_X12_three_17, (fun _ h => absurd h List.not_mem_nil)⟩)), (EV.keep hIEV hw ((mF.call mF.refl F45 rfl) : mF [106026, 106027, 106028, 106029, 106030, 106031, 126999, 151999, 152999, 153999] w μ μ43) rfl), trivial⟩
                        have h5197 : 1 ≤ p3 ∧ p3 ≤ 1 := (vc_X12_three_62 h5195 h37.2.1 h37.2.2.1 h41 h5191 h5192 h40)
                        refine mr_iload (pc := 199) (z := z4606) dX12_three_199 rfl ?_
                        refine sv_goto (pc := 201) (tgt := 206) dX12_three_201 (by decide) ?_
                        exact mr_iret dX12_three_206 rfl (le_t rfl) (le_t rfl) T44 (mF.call mF.refl F45 rfl) ⟨(rW (c := (-2147483648)) (d := 2147483647) h4616 rfl), (G1.keep hIG1 hw ((mF.call mF.refl F45 rfl) : mF [106026, 106027, 106028, 106029, 106030, 106031, 126999, 151999, 152999, 153999] w μ μ43) rfl rfl ((mG.call mG.refl h46.1 (List.forall_mem_cons.mpr ⟨⟨_, List.mem_cons_self, vc_X12_three_16⟩, (fun _ h => absurd h List.not_mem_nil)⟩)) : mG [(160, 960)] μ μ43) (List.forall_mem_cons.mpr ⟨vc_X12_three_17, (fun _ h => absurd h List.not_mem_nil)⟩)), (EV.keep hIEV hw ((mF.call mF.refl F45 rfl) : mF [106026, 106027, 106028, 106029, 106030, 106031, 126999, 151999, 152999, 153999] w μ μ43) rfl), trivial⟩
                      have h5198 : 0 ≤ p3 ∧ p3 ≤ 0 := (vc_X12_three_63 h5191 h37.2.1 h37.2.2.1 h41 h42 h40)
                      refine mr_iload (pc := 189) (z := z3103) dX12_three_189 rfl ?_
                      refine sv_goto (pc := 191) (tgt := 206) dX12_three_191 (by decide) ?_
                      exact mr_iret dX12_three_206 rfl (le_t rfl) (le_t rfl) T44 (mF.call mF.refl F45 rfl) ⟨(rW (c := (-2147483648)) (d := 2147483647) h3115 rfl), (G1.keep hIG1 hw ((mF.call mF.refl F45 rfl) : mF [106026, 106027, 106028, 106029, 106030, 106031, 126999, 151999, 152999, 153999] w μ μ43) rfl rfl ((mG.call mG.refl h46.1 (List.forall_mem_cons.mpr ⟨⟨_, List.mem_cons_self, vc_X12_three_16⟩, (fun _ h => absurd h List.not_mem_nil)⟩)) : mG [(160, 960)] μ μ43) (List.forall_mem_cons.mpr ⟨vc_X12_three_17, (fun _ h => absurd h List.not_mem_nil)⟩)), (EV.keep hIEV hw ((mF.call mF.refl F45 rfl) : mF [106026, 106027, 106028, 106029, 106030, 106031, 126999, 151999, 152999, 153999] w μ μ43) rfl), trivial⟩
                    have h5199 : 0 ≤ z5166 ∧ z5166 ≤ 0 := (vc_X12_three_64 h5167 h5165.2.1 h5165.2.2.1 h5161 h5165.1)
                    have h5200 : z5158 < 0 := (h5165.2.2.1 (vc_X12_three_65 h5165.2.1 h5165.2.2.1 h5167 h5161 h5199))
                    have h5201 : (-1) ≤ z5158 ∧ z5158 ≤ (-1) := (vc_X12_three_66 h5200 h5165.2.1 h5165.2.2.1 h5161 h5199)
                    refine sv_goto (pc := 156) (tgt := 207) dX12_three_156 (by decide) ?_
                    refine mr_iinc (pc := 207) (lv' := [(6, iv (z5145 + 1)), (0, .ref 106), (1, iv p1), (2, iv p2), (3, iv p3), (4, iv z3103), (5, iv z4606)]) dX12_three_207 rfl (by decide) rfl ?_
                    refine sv_goto (pc := 210) (tgt := 122) dX12_three_210 (by decide) ?_
                    refine mr_lvS (lv' := [(0, .ref 106), (1, iv p1), (2, iv p2), (3, iv p3), (4, iv z3103), (5, iv z4606), (6, iv (z5145 + 1))]) (List.forall_mem_cons.mpr ⟨rfl, List.forall_mem_cons.mpr ⟨rfl, List.forall_mem_cons.mpr ⟨rfl, List.forall_mem_cons.mpr ⟨rfl, List.forall_mem_cons.mpr ⟨rfl, List.forall_mem_cons.mpr ⟨rfl, List.forall_mem_cons.mpr ⟨rfl, fun _ h => absurd h List.not_mem_nil⟩⟩⟩⟩⟩⟩⟩) ?_
                    exact ih5152 (z5145 + 1) trivial (rW (c := 0) (d := 20) (rAdd (e := 1) (f := 20) h5155 (rR (x := 1)) rfl) rfl) (vc_X12_three_56 (nS h5151) h5153 h5156 h5157 h3114 h4614 h4633 h3115 h3116 h4616 h5155)
                refine mr_lvS (lv' := [(0, .ref 106), (1, iv p1), (2, iv p2), (3, iv p3), (4, iv z3103), (5, iv z4606), (6, iv 0)]) (List.forall_mem_cons.mpr ⟨rfl, List.forall_mem_cons.mpr ⟨rfl, List.forall_mem_cons.mpr ⟨rfl, List.forall_mem_cons.mpr ⟨rfl, List.forall_mem_cons.mpr ⟨rfl, List.forall_mem_cons.mpr ⟨rfl, List.forall_mem_cons.mpr ⟨rfl, fun _ h => absurd h List.not_mem_nil⟩⟩⟩⟩⟩⟩⟩) ?_
                exact L5146 22 0 trivial (rW (c := 0) (d := 20) (rR (x := 0)) rfl) vc_X12_three_67
              have h5202 : 0 ≤ z4654 ∧ z4654 ≤ 0 := (vc_X12_three_68 h4655 h4653.1)
              refine sv_goto (pc := 116) (tgt := 213) dX12_three_116 (by decide) ?_
              refine mr_iinc (pc := 213) (lv' := [(5, iv (z4606 + 1)), (0, .ref 106), (1, iv p1), (2, iv p2), (3, iv p3), (4, iv z3103)]) dX12_three_213 rfl (by decide) rfl ?_
              refine sv_goto (pc := 216) (tgt := 65) dX12_three_216 (by decide) ?_
              refine mr_lvS (lv' := [(0, .ref 106), (1, iv p1), (2, iv p2), (3, iv p3), (4, iv z3103), (5, iv (z4606 + 1))]) (List.forall_mem_cons.mpr ⟨rfl, List.forall_mem_cons.mpr ⟨rfl, List.forall_mem_cons.mpr ⟨rfl, List.forall_mem_cons.mpr ⟨rfl, List.forall_mem_cons.mpr ⟨rfl, List.forall_mem_cons.mpr ⟨rfl, fun _ h => absurd h List.not_mem_nil⟩⟩⟩⟩⟩⟩) ?_
              exact ih4613 (z4606 + 1) trivial (rW (c := 0) (d := 20) (rAdd (e := 1) (f := 20) h4616 (rR (x := 1)) rfl) rfl) (vc_X12_three_39 (nS h4612) h4614 h4633 h3114 h3115 h3116 h4616)
          refine mr_lvS (lv' := [(0, .ref 106), (1, iv p1), (2, iv p2), (3, iv p3), (4, iv z3103), (5, iv 0)]) (List.forall_mem_cons.mpr ⟨rfl, List.forall_mem_cons.mpr ⟨rfl, List.forall_mem_cons.mpr ⟨rfl, List.forall_mem_cons.mpr ⟨rfl, List.forall_mem_cons.mpr ⟨rfl, List.forall_mem_cons.mpr ⟨rfl, fun _ h => absurd h List.not_mem_nil⟩⟩⟩⟩⟩⟩) ?_
          exact L4607 22 0 trivial (rW (c := 0) (d := 20) (rR (x := 0)) rfl) vc_X12_three_67
      refine mr_lvS (lv' := [(0, .ref 106), (1, iv p1), (2, iv p2), (3, iv p3), (4, iv 0)]) (List.forall_mem_cons.mpr ⟨rfl, List.forall_mem_cons.mpr ⟨rfl, List.forall_mem_cons.mpr ⟨rfl, List.forall_mem_cons.mpr ⟨rfl, List.forall_mem_cons.mpr ⟨rfl, fun _ h => absurd h List.not_mem_nil⟩⟩⟩⟩⟩) ?_
      exact L3104 22 0 trivial (rW (c := 0) (d := 20) (rR (x := 0)) rfl) vc_X12_three_67
    have h5203 : 0 ≤ z38 ∧ z38 ≤ 0 := (vc_X12_three_69 h39 h37.2.1 h37.2.2.1 hp3 h37.1)
    have h5204 : p3 < (0 : Int) ∨ (2 : Int) < p3 := (h37.2.2.1 (vc_X12_three_70 h37.2.1 h37.2.2.1 h39 hp3 h5203))
    refine mr_ldc (pc := 41) (z := (-99999999)) dX12_three_41 wG_X12_29 (by decide) ?_
    exact mr_iret dX12_three_43 rfl (le_t rfl) (le_t rfl) hT mF.refl ⟨(rW (c := (-2147483648)) (d := 2147483647) (rR (x := (-99999999))) rfl), hIG1, hIEV, trivial⟩
  have h5205 : 0 ≤ z23 ∧ z23 ≤ 0 := (vc_X12_three_71 h24 h22.2.1 h22.2.2.1 hp2 h18 h22.1)
  have h5206 : p2 < 0 ∨ z16 ≤ p2 := (h22.2.2.1 (vc_X12_three_72 h22.2.1 h22.2.2.1 h24 hp2 h18 h5205))
  refine mr_iconst (pc := 16) (z := (-1)) dX12_three_16 ?_
  exact mr_iret dX12_three_17 rfl (le_t rfl) (le_t rfl) hT mF.refl ⟨(rW (c := (-2147483648)) (d := 2147483647) (rR (x := (-1))) rfl), hIG1, hIEV, trivial⟩
theorem vc_X12_hear_1 {p1 z1 z8 : Int} (h0 : z8 = 0) (h1 : (z8 = 1 → 0 ≤ p1 ∧ p1 < z1)) (h2 : (z8 = 0 → p1 < 0 ∨ z1 ≤ p1)) (h3 : (-2147483648) ≤ p1 ∧ p1 ≤ 2147483647) (h4 : 0 ≤ z1 ∧ z1 ≤ 20) (h5 : 0 ≤ z8 ∧ z8 ≤ 1) : 0 ≤ z8 ∧ z8 ≤ 0 := by omega
theorem vc_X12_hear_2 {p1 z1 z8 : Int} (h0 : (z8 = 1 → 0 ≤ p1 ∧ p1 < z1)) (h1 : (z8 = 0 → p1 < 0 ∨ z1 ≤ p1)) (h2 : z8 = 0) (h3 : (-2147483648) ≤ p1 ∧ p1 ≤ 2147483647) (h4 : 0 ≤ z1 ∧ z1 ≤ 20) (h5 : 0 ≤ z8 ∧ z8 ≤ 0) : z8 = 0 := by omega
theorem vc_X12_hear_3 {p1 z1 z8 : Int} (h0 : ¬ z8 = 0) (h1 : (z8 = 1 → 0 ≤ p1 ∧ p1 < z1)) (h2 : (z8 = 0 → p1 < 0 ∨ z1 ≤ p1)) (h3 : (-2147483648) ≤ p1 ∧ p1 ≤ 2147483647) (h4 : 0 ≤ z1 ∧ z1 ≤ 20) (h5 : 0 ≤ z8 ∧ z8 ≤ 1) : 1 ≤ z8 ∧ z8 ≤ 1 := by omega
theorem vc_X12_hear_4 {p1 z1 z8 : Int} (h0 : (z8 = 1 → 0 ≤ p1 ∧ p1 < z1)) (h1 : (z8 = 0 → p1 < 0 ∨ z1 ≤ p1)) (h2 : ¬ z8 = 0) (h3 : (-2147483648) ≤ p1 ∧ p1 ≤ 2147483647) (h4 : 0 ≤ z1 ∧ z1 ≤ 20) (h5 : 1 ≤ z8 ∧ z8 ≤ 1) : z8 = 1 := by omega
theorem vc_X12_hear_5 {p1 z1 z8 : Int} (h0 : 0 ≤ p1 ∧ p1 < z1) (h1 : (z8 = 1 → 0 ≤ p1 ∧ p1 < z1)) (h2 : (z8 = 0 → p1 < 0 ∨ z1 ≤ p1)) (h3 : (-2147483648) ≤ p1 ∧ p1 ≤ 2147483647) (h4 : 0 ≤ z1 ∧ z1 ≤ 20) (h5 : 1 ≤ z8 ∧ z8 ≤ 1) : 0 ≤ p1 ∧ p1 ≤ 19 := by omega
theorem vc_X12_hear_6 {p1 z1 z8 : Int} (h0 : 0 ≤ p1 ∧ p1 < z1) (h1 : (z8 = 1 → 0 ≤ p1 ∧ p1 < z1)) (h2 : (z8 = 0 → p1 < 0 ∨ z1 ≤ p1)) (h3 : 0 ≤ p1 ∧ p1 ≤ 19) (h4 : 0 ≤ z1 ∧ z1 ≤ 20) (h5 : 1 ≤ z8 ∧ z8 ≤ 1) : 1 ≤ z1 ∧ z1 ≤ 20 := by omega
theorem vc_X12_hear_7 {p2 z20 : Int} (h0 : ¬ z20 = 0) (h1 : (z20 = 1 → (0 : Int) ≤ p2 ∧ p2 ≤ (1 : Int))) (h2 : (z20 = 0 → p2 < (0 : Int) ∨ (1 : Int) < p2)) (h3 : (-2147483648) ≤ p2 ∧ p2 ≤ 2147483647) (h4 : 0 ≤ z20 ∧ z20 ≤ 1) : 1 ≤ z20 ∧ z20 ≤ 1 := by omega
theorem vc_X12_hear_8 {p2 z20 : Int} (h0 : (z20 = 1 → (0 : Int) ≤ p2 ∧ p2 ≤ (1 : Int))) (h1 : (z20 = 0 → p2 < (0 : Int) ∨ (1 : Int) < p2)) (h2 : ¬ z20 = 0) (h3 : (-2147483648) ≤ p2 ∧ p2 ≤ 2147483647) (h4 : 1 ≤ z20 ∧ z20 ≤ 1) : z20 = 1 := by omega
theorem vc_X12_hear_9 {p2 z20 : Int} (h0 : (0 : Int) ≤ p2 ∧ p2 ≤ (1 : Int)) (h1 : (z20 = 1 → (0 : Int) ≤ p2 ∧ p2 ≤ (1 : Int))) (h2 : (z20 = 0 → p2 < (0 : Int) ∨ (1 : Int) < p2)) (h3 : (-2147483648) ≤ p2 ∧ p2 ≤ 2147483647) (h4 : 1 ≤ z20 ∧ z20 ≤ 1) : 0 ≤ p2 ∧ p2 ≤ 1 := by omega
theorem vc_X12_hear_10 {z25 : Int} (h0 : z25 = 0) (h1 : 0 ≤ z25 ∧ z25 ≤ 1) : 0 ≤ z25 ∧ z25 ≤ 0 := by omega
theorem vc_X12_hear_11 {z25 : Int} (h0 : ¬ z25 = 0) (h1 : 0 ≤ z25 ∧ z25 ≤ 1) : 1 ≤ z25 ∧ z25 ≤ 1 := by omega
theorem vc_X12_hear_12 {z31 : Int} (h0 : ¬ z31 = 0) (h1 : 0 ≤ z31 ∧ z31 ≤ 1) : 1 ≤ z31 ∧ z31 ≤ 1 := by omega
theorem vc_X12_hear_13 {z31 : Int} (h0 : z31 = 0) (h1 : 0 ≤ z31 ∧ z31 ≤ 1) : 0 ≤ z31 ∧ z31 ≤ 0 := by omega
theorem vc_X12_hear_14 {z37 : Int} (h0 : ¬ z37 = 0) (h1 : 0 ≤ z37 ∧ z37 ≤ 1) : 1 ≤ z37 ∧ z37 ≤ 1 := by omega
theorem vc_X12_hear_15 {z2347 : Int} (h0 : (2001 - z2347) < ((0 : Nat) : Int)) (h1 : 0 ≤ z2347 ∧ z2347 ≤ 2000) : False := by omega
theorem vc_X12_hear_16 {z2347 z2361 z2364 : Int} (h0 : z2347 < (z2361 + z2364)) (h1 : 0 ≤ z2347 ∧ z2347 ≤ 2000) (h2 : 0 ≤ z2361 ∧ z2361 ≤ 1000) (h3 : 0 ≤ z2364 ∧ z2364 ≤ 1000) : 0 ≤ z2347 ∧ z2347 ≤ 1999 := by omega
theorem vc_X12_hear_17 {z2481 : Int} (h0 : ¬ z2481 = (-99999999)) (h1 : (-99999999) ≤ z2481 ∧ z2481 ≤ 9) (h2 : z2481 = (-99999999) ∨ (0 ≤ z2481 ∧ z2481 ≤ 9)) : 0 ≤ z2481 ∧ z2481 ≤ 9 := by omega
theorem vc_X12_hear_18 {p1 p2 z1 z20 z2481 z2551 z8 : Int} (h0 : z2551 = (((20 * p1) + (10 * p2)) + z2481)) (h1 : (z8 = 1 → 0 ≤ p1 ∧ p1 < z1)) (h2 : (z8 = 0 → p1 < 0 ∨ z1 ≤ p1)) (h3 : 0 ≤ p1 ∧ p1 < z1) (h4 : (z20 = 1 → (0 : Int) ≤ p2 ∧ p2 ≤ (1 : Int))) (h5 : (z20 = 0 → p2 < (0 : Int) ∨ (1 : Int) < p2)) (h6 : (0 : Int) ≤ p2 ∧ p2 ≤ (1 : Int)) (h7 : ¬ z2481 = (-99999999)) (h8 : 0 ≤ p1 ∧ p1 ≤ 19) (h9 : 0 ≤ p2 ∧ p2 ≤ 1) (h10 : 1 ≤ z1 ∧ z1 ≤ 20) (h11 : 1 ≤ z20 ∧ z20 ≤ 1) (h12 : 0 ≤ z2481 ∧ z2481 ≤ 9) (h13 : z2481 = (-99999999) ∨ (0 ≤ z2481 ∧ z2481 ≤ 9)) (h14 : 0 ≤ z2551 ∧ z2551 ≤ 449) (h15 : 1 ≤ z8 ∧ z8 ≤ 1) : 0 ≤ z2551 ∧ z2551 ≤ 399 := by omega
theorem vc_X12_hear_19 {N z2347 z2361 z2364 : Int} (h0 : (2001 - z2347) < N + 1) (h1 : z2347 < (z2361 + z2364)) (h2 : 0 ≤ z2347 ∧ z2347 ≤ 1999) (h3 : 0 ≤ z2361 ∧ z2361 ≤ 1000) (h4 : 0 ≤ z2364 ∧ z2364 ≤ 1000) : (2001 - (z2347 + 1)) < N := by omega
theorem vc_X12_hear_20  : (0 : Int) ≤ ((40 : Int) * (24 : Int)) := by omega
theorem vc_X12_hear_21  : (((40 : Int) * (24 : Int)) : Int) % (40 : Int) = (0 : Int) := by omega
theorem vc_X12_hear_22 {p1 p2 z1 z20 z2481 z2551 z8 : Int} (h0 : z2551 = (((20 * p1) + (10 * p2)) + z2481)) (h1 : (z8 = 1 → 0 ≤ p1 ∧ p1 < z1)) (h2 : (z8 = 0 → p1 < 0 ∨ z1 ≤ p1)) (h3 : 0 ≤ p1 ∧ p1 < z1) (h4 : (z20 = 1 → (0 : Int) ≤ p2 ∧ p2 ≤ (1 : Int))) (h5 : (z20 = 0 → p2 < (0 : Int) ∨ (1 : Int) < p2)) (h6 : (0 : Int) ≤ p2 ∧ p2 ≤ (1 : Int)) (h7 : ¬ z2481 = (-99999999)) (h8 : 0 ≤ p1 ∧ p1 ≤ 19) (h9 : 0 ≤ p2 ∧ p2 ≤ 1) (h10 : 1 ≤ z1 ∧ z1 ≤ 20) (h11 : 1 ≤ z20 ∧ z20 ≤ 1) (h12 : 0 ≤ z2481 ∧ z2481 ≤ 9) (h13 : z2481 = (-99999999) ∨ (0 ≤ z2481 ∧ z2481 ≤ 9)) (h14 : 0 ≤ z2551 ∧ z2551 ≤ 399) (h15 : 1 ≤ z8 ∧ z8 ≤ 1) : (24 : Int) < (130 + z2551) ∨ (130 + z2551) < (24 : Int) := by omega
theorem vc_X12_hear_23 {p1 p2 z1 z20 z2481 z2551 z8 : Int} (h0 : z2551 = (((20 * p1) + (10 * p2)) + z2481)) (h1 : (z8 = 1 → 0 ≤ p1 ∧ p1 < z1)) (h2 : (z8 = 0 → p1 < 0 ∨ z1 ≤ p1)) (h3 : 0 ≤ p1 ∧ p1 < z1) (h4 : (z20 = 1 → (0 : Int) ≤ p2 ∧ p2 ≤ (1 : Int))) (h5 : (z20 = 0 → p2 < (0 : Int) ∨ (1 : Int) < p2)) (h6 : (0 : Int) ≤ p2 ∧ p2 ≤ (1 : Int)) (h7 : ¬ z2481 = (-99999999)) (h8 : 0 ≤ p1 ∧ p1 ≤ 19) (h9 : 0 ≤ p2 ∧ p2 ≤ 1) (h10 : 1 ≤ z1 ∧ z1 ≤ 20) (h11 : 1 ≤ z20 ∧ z20 ≤ 1) (h12 : 0 ≤ z2481 ∧ z2481 ≤ 9) (h13 : z2481 = (-99999999) ∨ (0 ≤ z2481 ∧ z2481 ≤ 9)) (h14 : 0 ≤ z2551 ∧ z2551 ≤ 399) (h15 : 1 ≤ z8 ∧ z8 ≤ 1) : 0 ≤ (40 * (130 + z2551)) := by omega
theorem vc_X12_hear_24 {p1 p2 z1 z20 z2481 z2551 z8 : Int} (h0 : z2551 = (((20 * p1) + (10 * p2)) + z2481)) (h1 : (z8 = 1 → 0 ≤ p1 ∧ p1 < z1)) (h2 : (z8 = 0 → p1 < 0 ∨ z1 ≤ p1)) (h3 : 0 ≤ p1 ∧ p1 < z1) (h4 : (z20 = 1 → (0 : Int) ≤ p2 ∧ p2 ≤ (1 : Int))) (h5 : (z20 = 0 → p2 < (0 : Int) ∨ (1 : Int) < p2)) (h6 : (0 : Int) ≤ p2 ∧ p2 ≤ (1 : Int)) (h7 : ¬ z2481 = (-99999999)) (h8 : 0 ≤ p1 ∧ p1 ≤ 19) (h9 : 0 ≤ p2 ∧ p2 ≤ 1) (h10 : 1 ≤ z1 ∧ z1 ≤ 20) (h11 : 1 ≤ z20 ∧ z20 ≤ 1) (h12 : 0 ≤ z2481 ∧ z2481 ≤ 9) (h13 : z2481 = (-99999999) ∨ (0 ≤ z2481 ∧ z2481 ≤ 9)) (h14 : 0 ≤ z2551 ∧ z2551 ≤ 399) (h15 : 1 ≤ z8 ∧ z8 ≤ 1) : (40 * (130 + z2551)) % 40 = 0 := by omega
theorem vc_X12_hear_25 {p1 p2 z1 z20 z2481 z2551 z8 : Int} (h0 : ¬ z2481 = (-99999999)) (h1 : z2551 = (((20 * p1) + (10 * p2)) + z2481)) (h2 : (z8 = 1 → 0 ≤ p1 ∧ p1 < z1)) (h3 : (z8 = 0 → p1 < 0 ∨ z1 ≤ p1)) (h4 : 0 ≤ p1 ∧ p1 < z1) (h5 : (z20 = 1 → (0 : Int) ≤ p2 ∧ p2 ≤ (1 : Int))) (h6 : (z20 = 0 → p2 < (0 : Int) ∨ (1 : Int) < p2)) (h7 : (0 : Int) ≤ p2 ∧ p2 ≤ (1 : Int)) (h8 : 0 ≤ p1 ∧ p1 ≤ 19) (h9 : 0 ≤ p2 ∧ p2 ≤ 1) (h10 : 1 ≤ z1 ∧ z1 ≤ 20) (h11 : 1 ≤ z20 ∧ z20 ≤ 1) (h12 : 0 ≤ z2481 ∧ z2481 ≤ 9) (h13 : z2481 = (-99999999) ∨ (0 ≤ z2481 ∧ z2481 ≤ 9)) (h14 : 0 ≤ z2551 ∧ z2551 ≤ 399) (h15 : 1 ≤ z8 ∧ z8 ≤ 1) : (-2147483648 ≤ z2481 ∧ z2481 ≤ 2147483647) ∧ ((40 * (130 + z2551)) % 40 = 0 → -1 ≤ z2481 ∧ z2481 ≤ 9) ∧ ((40 * (130 + z2551)) % 40 = 4 → 0 ≤ z2481 ∧ z2481 ≤ 20) ∧ ((40 * (130 + z2551)) % 40 = 5 → 0 ≤ z2481 ∧ z2481 ≤ 8) := by omega
theorem vc_X12_hear_26 {p1 p2 z1 z20 z2481 z2551 z8 : Int} (h0 : z2551 = (((20 * p1) + (10 * p2)) + z2481)) (h1 : (z8 = 1 → 0 ≤ p1 ∧ p1 < z1)) (h2 : (z8 = 0 → p1 < 0 ∨ z1 ≤ p1)) (h3 : 0 ≤ p1 ∧ p1 < z1) (h4 : (z20 = 1 → (0 : Int) ≤ p2 ∧ p2 ≤ (1 : Int))) (h5 : (z20 = 0 → p2 < (0 : Int) ∨ (1 : Int) < p2)) (h6 : (0 : Int) ≤ p2 ∧ p2 ≤ (1 : Int)) (h7 : ¬ z2481 = (-99999999)) (h8 : 0 ≤ p1 ∧ p1 ≤ 19) (h9 : 0 ≤ p2 ∧ p2 ≤ 1) (h10 : 1 ≤ z1 ∧ z1 ≤ 20) (h11 : 1 ≤ z20 ∧ z20 ≤ 1) (h12 : 0 ≤ z2481 ∧ z2481 ≤ 9) (h13 : z2481 = (-99999999) ∨ (0 ≤ z2481 ∧ z2481 ≤ 9)) (h14 : 0 ≤ z2551 ∧ z2551 ≤ 399) (h15 : 1 ≤ z8 ∧ z8 ≤ 1) : (40 * (130 + z2551)) ≤ (40 * (130 + z2551)) ∧ ((40 * (130 + z2551)) + 40) ≤ ((40 * (130 + z2551)) + 40) := by omega
theorem vc_X12_hear_27 {p1 p2 z1 z20 z2481 z2551 z8 : Int} (h0 : z2551 = (((20 * p1) + (10 * p2)) + z2481)) (h1 : (z8 = 1 → 0 ≤ p1 ∧ p1 < z1)) (h2 : (z8 = 0 → p1 < 0 ∨ z1 ≤ p1)) (h3 : 0 ≤ p1 ∧ p1 < z1) (h4 : (z20 = 1 → (0 : Int) ≤ p2 ∧ p2 ≤ (1 : Int))) (h5 : (z20 = 0 → p2 < (0 : Int) ∨ (1 : Int) < p2)) (h6 : (0 : Int) ≤ p2 ∧ p2 ≤ (1 : Int)) (h7 : ¬ z2481 = (-99999999)) (h8 : 0 ≤ p1 ∧ p1 ≤ 19) (h9 : 0 ≤ p2 ∧ p2 ≤ 1) (h10 : 1 ≤ z1 ∧ z1 ≤ 20) (h11 : 1 ≤ z20 ∧ z20 ≤ 1) (h12 : 0 ≤ z2481 ∧ z2481 ≤ 9) (h13 : z2481 = (-99999999) ∨ (0 ≤ z2481 ∧ z2481 ≤ 9)) (h14 : 0 ≤ z2551 ∧ z2551 ≤ 399) (h15 : 1 ≤ z8 ∧ z8 ≤ 1) : 0 ≤ (40 * (130 + z2551)) ∧ (40 * (130 + z2551)) ≤ (40 * (130 + z2551)) ∧ (40 * (130 + z2551)) < ((40 * (130 + z2551)) + 40) := by omega
theorem vc_X12_hear_28 {p1 p2 z1 z20 z2481 z2551 z8 : Int} (h0 : z2551 = (((20 * p1) + (10 * p2)) + z2481)) (h1 : (z8 = 1 → 0 ≤ p1 ∧ p1 < z1)) (h2 : (z8 = 0 → p1 < 0 ∨ z1 ≤ p1)) (h3 : 0 ≤ p1 ∧ p1 < z1) (h4 : (z20 = 1 → (0 : Int) ≤ p2 ∧ p2 ≤ (1 : Int))) (h5 : (z20 = 0 → p2 < (0 : Int) ∨ (1 : Int) < p2)) (h6 : (0 : Int) ≤ p2 ∧ p2 ≤ (1 : Int)) (h7 : ¬ z2481 = (-99999999)) (h8 : 0 ≤ p1 ∧ p1 ≤ 19) (h9 : 0 ≤ p2 ∧ p2 ≤ 1) (h10 : 1 ≤ z1 ∧ z1 ≤ 20) (h11 : 1 ≤ z20 ∧ z20 ≤ 1) (h12 : 0 ≤ z2481 ∧ z2481 ≤ 9) (h13 : z2481 = (-99999999) ∨ (0 ≤ z2481 ∧ z2481 ≤ 9)) (h14 : 0 ≤ z2551 ∧ z2551 ≤ 399) (h15 : 1 ≤ z8 ∧ z8 ≤ 1) : (1 ≤ (40 * (130 + z2551)) ∧ ((40 * (130 + z2551)) + 1) ≤ 1200) ∨ 5200 ≤ (40 * (130 + z2551)) := by omega
theorem vc_X12_hear_29 {p1 p2 z1 z20 z2481 z2551 z8 : Int} (h0 : z2551 = (((20 * p1) + (10 * p2)) + z2481)) (h1 : (z8 = 1 → 0 ≤ p1 ∧ p1 < z1)) (h2 : (z8 = 0 → p1 < 0 ∨ z1 ≤ p1)) (h3 : 0 ≤ p1 ∧ p1 < z1) (h4 : (z20 = 1 → (0 : Int) ≤ p2 ∧ p2 ≤ (1 : Int))) (h5 : (z20 = 0 → p2 < (0 : Int) ∨ (1 : Int) < p2)) (h6 : (0 : Int) ≤ p2 ∧ p2 ≤ (1 : Int)) (h7 : ¬ z2481 = (-99999999)) (h8 : 0 ≤ p1 ∧ p1 ≤ 19) (h9 : 0 ≤ p2 ∧ p2 ≤ 1) (h10 : 1 ≤ z1 ∧ z1 ≤ 20) (h11 : 1 ≤ z20 ∧ z20 ≤ 1) (h12 : 0 ≤ z2481 ∧ z2481 ≤ 9) (h13 : z2481 = (-99999999) ∨ (0 ≤ z2481 ∧ z2481 ≤ 9)) (h14 : 0 ≤ z2551 ∧ z2551 ≤ 399) (h15 : 1 ≤ z8 ∧ z8 ≤ 1) : (1 ≤ (40 * (130 + z2551)) ∧ ((40 * (130 + z2551)) + 40) ≤ 1200) ∨ 5200 ≤ (40 * (130 + z2551)) := by omega
theorem vc_X12_hear_30 {z2347 z2361 z2364 : Int} (h0 : z2347 < z2361) (h1 : z2347 < (z2361 + z2364)) (h2 : 0 ≤ z2347 ∧ z2347 ≤ 1999) (h3 : 0 ≤ z2361 ∧ z2361 ≤ 1000) (h4 : 0 ≤ z2364 ∧ z2364 ≤ 1000) : 0 ≤ z2347 ∧ z2347 ≤ 999 := by omega
theorem vc_X12_hear_31 {z2347 z2361 z2364 : Int} (h0 : z2347 < z2361) (h1 : z2347 < (z2361 + z2364)) (h2 : 0 ≤ z2347 ∧ z2347 ≤ 999) (h3 : 0 ≤ z2361 ∧ z2361 ≤ 1000) (h4 : 0 ≤ z2364 ∧ z2364 ≤ 1000) : 1 ≤ z2361 ∧ z2361 ≤ 1000 := by omega
theorem vc_X12_hear_32 {z2630 : Int} (h0 : z2630 = -1) (h1 : (-1) ≤ z2630 ∧ z2630 ≤ 9) : (-1) ≤ z2630 ∧ z2630 ≤ (-1) := by omega
theorem vc_X12_hear_33 {p1 p2 z1 z20 z2481 z2551 z8 : Int} (h0 : z2551 = (((20 * p1) + (10 * p2)) + z2481)) (h1 : (z8 = 1 → 0 ≤ p1 ∧ p1 < z1)) (h2 : (z8 = 0 → p1 < 0 ∨ z1 ≤ p1)) (h3 : 0 ≤ p1 ∧ p1 < z1) (h4 : (z20 = 1 → (0 : Int) ≤ p2 ∧ p2 ≤ (1 : Int))) (h5 : (z20 = 0 → p2 < (0 : Int) ∨ (1 : Int) < p2)) (h6 : (0 : Int) ≤ p2 ∧ p2 ≤ (1 : Int)) (h7 : ¬ z2481 = (-99999999)) (h8 : 0 ≤ p1 ∧ p1 ≤ 19) (h9 : 0 ≤ p2 ∧ p2 ≤ 1) (h10 : 1 ≤ z1 ∧ z1 ≤ 20) (h11 : 1 ≤ z20 ∧ z20 ≤ 1) (h12 : 0 ≤ z2481 ∧ z2481 ≤ 9) (h13 : z2481 = (-99999999) ∨ (0 ≤ z2481 ∧ z2481 ≤ 9)) (h14 : 0 ≤ z2551 ∧ z2551 ≤ 399) (h15 : 1 ≤ z8 ∧ z8 ≤ 1) : (40 * (130 + z2551)) ≤ (40 * (130 + z2551)) ∧ ((40 * (130 + z2551)) + 1) ≤ ((40 * (130 + z2551)) + 1) := by omega
theorem vc_X12_hear_34 {z2481 : Int} (h0 : z2481 = (-99999999)) (h1 : (-99999999) ≤ z2481 ∧ z2481 ≤ 9) (h2 : z2481 = (-99999999) ∨ (0 ≤ z2481 ∧ z2481 ≤ 9)) : (-99999999) ≤ z2481 ∧ z2481 ≤ (-99999999) := by omega
theorem vc_X12_hear_35 {z2347 z2361 z2364 : Int} (h0 : z2347 < (z2361 + z2364)) (h1 : z2361 ≤ z2347) (h2 : 0 ≤ z2347 ∧ z2347 ≤ 1999) (h3 : 0 ≤ z2361 ∧ z2361 ≤ 1000) (h4 : 0 ≤ z2364 ∧ z2364 ≤ 1000) : 0 ≤ (z2347 - z2361) ∧ (z2347 - z2361) < 1000 := by omega
theorem vc_X12_hear_36 {z2649 : Int} (h0 : z2649 = -99999999 ∨ (0 ≤ z2649 ∧ z2649 ≤ 9)) (h1 : (-99999999) ≤ z2649 ∧ z2649 ≤ 9) : z2649 = (-99999999) ∨ (0 ≤ z2649 ∧ z2649 ≤ 9) := by omega
theorem vc_X12_hear_37 {z2662 : Int} (h0 : z2662 = -99999999 ∨ (0 ≤ z2662 ∧ z2662 ≤ 9)) (h1 : (-99999999) ≤ z2662 ∧ z2662 ≤ 9) : z2662 = (-99999999) ∨ (0 ≤ z2662 ∧ z2662 ≤ 9) := by omega
theorem vc_X12_hear_38  : (2001 - 0) < ((2002 : Nat) : Int) := by omega
theorem vc_X12_hear_39 {z37 : Int} (h0 : z37 = 0) (h1 : 0 ≤ z37 ∧ z37 ≤ 1) : 0 ≤ z37 ∧ z37 ≤ 0 := by omega
theorem vc_X12_hear_40 {p2 z20 : Int} (h0 : z20 = 0) (h1 : (z20 = 1 → (0 : Int) ≤ p2 ∧ p2 ≤ (1 : Int))) (h2 : (z20 = 0 → p2 < (0 : Int) ∨ (1 : Int) < p2)) (h3 : (-2147483648) ≤ p2 ∧ p2 ≤ 2147483647) (h4 : 0 ≤ z20 ∧ z20 ≤ 1) : 0 ≤ z20 ∧ z20 ≤ 0 := by omega
theorem vc_X12_hear_41 {p2 z20 : Int} (h0 : (z20 = 1 → (0 : Int) ≤ p2 ∧ p2 ≤ (1 : Int))) (h1 : (z20 = 0 → p2 < (0 : Int) ∨ (1 : Int) < p2)) (h2 : z20 = 0) (h3 : (-2147483648) ≤ p2 ∧ p2 ≤ 2147483647) (h4 : 0 ≤ z20 ∧ z20 ≤ 0) : z20 = 0 := by omega
set_option maxRecDepth 4000 in
set_option maxHeartbeats 4000000 in
theorem c_X12_hear {l : Launch} {D : va_G} {c : Nat → ClassId} {H0 : Heap} {sa : Nat × Nat × (Nat → Int32)} {w : mW} {μ : mM} (hw : mWF w) (hT : mT w μ) {p1 : Int} (hp1 : (-2147483648) ≤ p1 ∧ p1 ≤ 2147483647) {p2 : Int} (hp2 : (-2147483648) ≤ p2 ∧ p2 ≤ 2147483647) (hIG1 : G1 μ) (hIEV : EV μ) (hIPK : PK μ) : sC (gG l D c H0 sa) mX12_hear 11 0 0 [.ref 106, iv p1, iv p2] (mk w μ) (qI w [106026, 106027, 106028, 106029, 106030, 106031, 106072, 126999, 151999, 152999, 153999, 154999, 155999, 156999, 157999, 158999, 159999, 160999, 161999, 165999] μ (fun z μ1 => ((-2147483648) ≤ z ∧ z ≤ 2147483647) ∧ G1 μ1 ∧ EV μ1 ∧ True)) := by
  refine sC.of rfl (by decide) (le_t rfl) ?_
  refine mr_lvE (lv' := [(0, .ref 106), (1, iv p1), (2, iv p2)]) rfl ?_
  refine sv_aload_n (pc := 0) dX12_hear_0 rfl rfl ?_
  refine mr_iload_n (pc := 1) (z := p1) dX12_hear_1 rfl rfl ?_
  obtain ⟨z1, q2⟩ : ∃ z, μ 106 6 = z := ⟨_, rfl⟩
  have h3 : (0 ≤ z1 ∧ z1 ≤ 20) := by rw [← q2]; exact hT 106 106 (A_106 hw) 6
  refine mr_cVP (pc := 2) (c_X12_isTie hw hT hp1 q2) (gOk _ _ _ _ _) dX12_hear_2 (tX12_isTie _ _ _ _ _) ⟨wV_X12_isTie, wL_X12_isTie⟩ wM_X12_66 (gCX12 _ _ _ _ _) rfl (A_106 hw) rfl ⟨le_t rfl, le_t rfl⟩ ⟨le_t rfl, le_t rfl⟩ rfl (le_t rfl) fun z8 h7 => ?_
  refine mr_if_eq (pc := 5) (tgt := 17) dX12_hear_5 (by decide) (r32 h7.1 rfl) (fun h9 => ?_) (fun h9 => ?_)
  · have h10 : 0 ≤ z8 ∧ z8 ≤ 0 := (vc_X12_hear_1 h9 h7.2.1 h7.2.2.1 hp1 h3 h7.1)
    have h11 : p1 < 0 ∨ z1 ≤ p1 := (h7.2.2.1 (vc_X12_hear_2 h7.2.1 h7.2.2.1 h9 hp1 h3 h10))
    refine mr_iconst (pc := 17) (z := (-1)) dX12_hear_17 ?_
    exact mr_iret dX12_hear_18 rfl (le_t rfl) (le_t rfl) hT mF.refl ⟨(rW (c := (-2147483648)) (d := 2147483647) (rR (x := (-1))) rfl), hIG1, hIEV, trivial⟩
  have h12 : 1 ≤ z8 ∧ z8 ≤ 1 := (vc_X12_hear_3 h9 h7.2.1 h7.2.2.1 hp1 h3 h7.1)
  have h13 : 0 ≤ p1 ∧ p1 < z1 := (h7.2.1 (vc_X12_hear_4 h7.2.1 h7.2.2.1 h9 hp1 h3 h12))
  have h14 : 0 ≤ p1 ∧ p1 ≤ 19 := (vc_X12_hear_5 h13 h7.2.1 h7.2.2.1 hp1 h3 h12)
  have h15 : 1 ≤ z1 ∧ z1 ≤ 20 := (vc_X12_hear_6 h13 h7.2.1 h7.2.2.1 h14 h3 h12)
  refine mr_iload_n (pc := 8) (z := p2) dX12_hear_8 rfl rfl ?_
  refine mr_iconst (pc := 9) (z := 0) dX12_hear_9 ?_
  refine mr_iconst (pc := 10) (z := 1) dX12_hear_10 ?_
  refine mr_cSP (pc := 11) (c_X12_in hw hT hp2 (rW (c := (-2147483648)) (d := 2147483647) (rR (x := 0)) rfl) (rW (c := (-2147483648)) (d := 2147483647) (rR (x := 1)) rfl)) (gOk _ _ _ _ _) dX12_hear_11 (tX12_in _ _ _ _ _) wS_X12_in wM_X12_18 ⟨le_t rfl, le_t rfl⟩ ⟨le_t rfl, le_t rfl⟩ rfl (le_t rfl) fun z20 h19 => ?_
  refine mr_if_ne (pc := 14) (tgt := 19) dX12_hear_14 (by decide) (r32 h19.1 rfl) (fun h21 => ?_) (fun h21 => ?_)
  · have h22 : 1 ≤ z20 ∧ z20 ≤ 1 := (vc_X12_hear_7 h21 h19.2.1 h19.2.2.1 hp2 h19.1)
    have h23 : (0 : Int) ≤ p2 ∧ p2 ≤ (1 : Int) := (h19.2.1 (vc_X12_hear_8 h19.2.1 h19.2.2.1 h21 hp2 h22))
    have h24 : 0 ≤ p2 ∧ p2 ≤ 1 := (vc_X12_hear_9 h23 h19.2.1 h19.2.2.1 hp2 h22)
    refine sv_aload_n (pc := 19) dX12_hear_19 rfl rfl ?_
    refine gf_X12_96 (pc := 20) dX12_hear_20 wF_X12_655 (A_106 hw) hT fun z25 q26 h27 => ?_
    refine mr_if_eq (pc := 23) (tgt := 42) dX12_hear_23 (by decide) (r32 h27 rfl) (fun h28 => ?_) (fun h28 => ?_)
    · have h29 : 0 ≤ z25 ∧ z25 ≤ 0 := (vc_X12_hear_10 h28 h27)
      refine mr_bipush (pc := 42) (z := (-2)) dX12_hear_42 (by decide) ?_
      exact mr_iret dX12_hear_44 rfl (le_t rfl) (le_t rfl) hT mF.refl ⟨(rW (c := (-2147483648)) (d := 2147483647) (rR (x := (-2))) rfl), hIG1, hIEV, trivial⟩
    have h30 : 1 ≤ z25 ∧ z25 ≤ 1 := (vc_X12_hear_11 h28 h27)
    refine sv_aload_n (pc := 26) dX12_hear_26 rfl rfl ?_
    refine gf_X12_97 (pc := 27) dX12_hear_27 wF_X12_665 (A_106 hw) hT fun z31 q32 h33 => ?_
    refine mr_if_ne (pc := 30) (tgt := 42) dX12_hear_30 (by decide) (r32 h33 rfl) (fun h34 => ?_) (fun h34 => ?_)
    · have h35 : 1 ≤ z31 ∧ z31 ≤ 1 := (vc_X12_hear_12 h34 h33)
      refine mr_bipush (pc := 42) (z := (-2)) dX12_hear_42 (by decide) ?_
      exact mr_iret dX12_hear_44 rfl (le_t rfl) (le_t rfl) hT mF.refl ⟨(rW (c := (-2147483648)) (d := 2147483647) (rR (x := (-2))) rfl), hIG1, hIEV, trivial⟩
    have h36 : 0 ≤ z31 ∧ z31 ≤ 0 := (vc_X12_hear_13 h34 h33)
    refine sv_aload_n (pc := 33) dX12_hear_33 rfl rfl ?_
    refine gf_X12_9 (pc := 34) dX12_hear_34 wF_X12_53 (A_106 hw) hT ?_
    refine mr_iload_n (pc := 37) (z := p1) dX12_hear_37 rfl rfl ?_
    refine la_112 (pc := 38) dX12_hear_38 (A_112 hw) hT (rIx (n := 20) h14 rfl) fun z37 q38 h39 => ?_
    refine mr_if_ne (pc := 39) (tgt := 45) dX12_hear_39 (by decide) (r32 h39 rfl) (fun h40 => ?_) (fun h40 => ?_)
    · have h41 : 1 ≤ z37 ∧ z37 ≤ 1 := (vc_X12_hear_14 h40 h39)
      refine mr_iconst (pc := 45) (z := 0) dX12_hear_45 ?_
      refine mr_istore_n (pc := 46) (lv' := [(3, iv 0), (0, .ref 106), (1, iv p1), (2, iv p2)]) dX12_hear_46 rfl (by decide) rfl ?_
      refine mr_iconst (pc := 47) (z := 0) dX12_hear_47 ?_
      refine mr_istore (pc := 48) (lv' := [(4, iv 0), (3, iv 0), (0, .ref 106), (1, iv p1), (2, iv p2)]) dX12_hear_48 (by decide) rfl ?_
      have L2350 : ∀ (nL2350 : Nat) (z2348 z2347 : Int) (μ2349 : mM), mT w μ2349 → mF [106026, 106027, 106028, 106029, 106030, 106031, 106072, 126999, 151999, 152999, 153999, 154999, 155999, 156999, 157999, 158999, 159999, 160999, 161999, 165999] w μ μ2349 → ((-2147483648) ≤ z2348 ∧ z2348 ≤ 2147483647) → (0 ≤ z2347 ∧ z2347 ≤ 2000) → G1 μ2349 → EV μ2349 → PK μ2349 → (2001 - z2347) < (nL2350 : Int) → sV (gG l D c H0 sa) mX12_hear (sRm 11 0 0) (sZ (gG l D c H0 sa) 0 0 (qI w [106026, 106027, 106028, 106029, 106030, 106031, 106072, 126999, 151999, 152999, 153999, 154999, 155999, 156999, 157999, 158999, 159999, 160999, 161999, 165999] μ (fun z μ1 => ((-2147483648) ≤ z ∧ z ≤ 2147483647) ∧ G1 μ1 ∧ EV μ1 ∧ True))) 50 [(0, .ref 106), (1, iv p1), (2, iv p2), (3, iv z2348), (4, iv z2347)] [] (mk w μ2349) 0 0 := by
        intro nL2350
        induction nL2350 with
        | zero => intro z2348 z2347 μ2349 T2353 F2354 h2351 h2352 I2356 I2357 I2358 h2359; exact ((vc_X12_hear_15 h2359 h2352)).elim
        | succ nL2350 ih2360 =>
          intro z2348 z2347 μ2349 T2353 F2354 h2351 h2352 I2356 I2357 I2358 h2359
          refine mr_iload (pc := 50) (z := z2347) dX12_hear_50 rfl ?_
          refine sv_aload_n (pc := 52) dX12_hear_52 rfl rfl ?_
          refine gf_X12_88 (pc := 53) dX12_hear_53 wF_X12_625 (A_106 hw) T2353 fun z2361 q2362 h2363 => ?_
          refine sv_aload_n (pc := 56) dX12_hear_56 rfl rfl ?_
          refine gf_X12_91 (pc := 57) dX12_hear_57 wF_X12_628 (A_106 hw) T2353 fun z2364 q2365 h2366 => ?_
          refine mr_iadd (pc := 60) (x := z2361) (y := z2364) dX12_hear_60 ?_
          refine mr_icmp_ge (pc := 61) (tgt := 229) dX12_hear_61 (by decide) (r32 h2352 rfl) (r32 (rAdd (e := 0) (f := 2000) h2363 h2366 rfl) rfl) (fun h2455 => ?_) (fun h2455 => ?_)
          · refine mr_iload_n (pc := 229) (z := z2348) dX12_hear_229 rfl rfl ?_
            exact mr_iret dX12_hear_230 rfl (le_t rfl) (le_t rfl) T2353 (mF.call mF.refl F2354 rfl) ⟨h2351, I2356, I2357, trivial⟩
          have h2456 : 0 ≤ z2347 ∧ z2347 ≤ 1999 := (vc_X12_hear_16 h2455 h2352 h2363 h2366)
          refine mr_iload (pc := 64) (z := z2347) dX12_hear_64 rfl ?_
          refine sv_aload_n (pc := 66) dX12_hear_66 rfl rfl ?_
          refine gk_X12_88 (pc := 67) dX12_hear_67 wF_X12_625 (A_106 hw) q2362 ?_
          have J2484 : ∀ (z2481 : Int), (((-99999999) ≤ z2481 ∧ z2481 ≤ 9)) → ((z2481 = (-99999999) ∨ (0 ≤ z2481 ∧ z2481 ≤ 9))) → sV (gG l D c H0 sa) mX12_hear (sRm 11 0 0) (sZ (gG l D c H0 sa) 0 0 (qI w [106026, 106027, 106028, 106029, 106030, 106031, 106072, 126999, 151999, 152999, 153999, 154999, 155999, 156999, 157999, 158999, 159999, 160999, 161999, 165999] μ (fun z μ1 => ((-2147483648) ≤ z ∧ z ≤ 2147483647) ∧ G1 μ1 ∧ EV μ1 ∧ True))) 122 [(0, .ref 106), (1, iv p1), (2, iv p2), (3, iv z2348), (4, iv z2347)] [iv z2481] (mk w μ2349) 0 0 := by
            intro z2481 h2482 h2483
            refine mr_istore (pc := 122) (lv' := [(5, iv z2481), (0, .ref 106), (1, iv p1), (2, iv p2), (3, iv z2348), (4, iv z2347)]) dX12_hear_122 (by decide) rfl ?_
            refine mr_iload (pc := 124) (z := z2481) dX12_hear_124 rfl ?_
            refine mr_ldc (pc := 126) (z := (-99999999)) dX12_hear_126 wG_X12_29 (by decide) ?_
            refine mr_icmp_ne (pc := 128) (tgt := 134) dX12_hear_128 (by decide) (r32 h2482 rfl) (r32 (rR (x := (-99999999))) rfl) (fun h2545 => ?_) (fun h2545 => ?_)
            · have h2546 : 0 ≤ z2481 ∧ z2481 ≤ 9 := (vc_X12_hear_17 h2545 h2482 h2483)
              refine mr_iload_n (pc := 134) (z := p1) dX12_hear_134 rfl rfl ?_
              refine mr_iload_n (pc := 135) (z := p2) dX12_hear_135 rfl rfl ?_
              refine mr_iload (pc := 136) (z := z2481) dX12_hear_136 rfl ?_
              refine mr_cSP (pc := 138) (c_X12_slot hw T2353 (rW (c := 0) (d := 20) h14 rfl) (rW (c := 0) (d := 2) h24 rfl) h2546) (gOk _ _ _ _ _) dX12_hear_138 (tX12_slot _ _ _ _ _) wS_X12_slot wM_X12_545 ⟨le_t rfl, le_t rfl⟩ ⟨le_t rfl, le_t rfl⟩ rfl (le_t rfl) fun z2551 h2550 => ?_
              have h2552 : 0 ≤ z2551 ∧ z2551 ≤ 399 := (vc_X12_hear_18 h2550.2.1 h7.2.1 h7.2.2.1 h13 h19.2.1 h19.2.2.1 h23 h2545 h14 h24 h15 h22 h2546 h2483 h2550.1 h12)
              refine mr_istore (pc := 141) (lv' := [(6, iv z2551), (5, iv z2481), (0, .ref 106), (1, iv p1), (2, iv p2), (3, iv z2348), (4, iv z2347)]) dX12_hear_141 (by decide) rfl ?_
              refine mr_iload (pc := 143) (z := z2347) dX12_hear_143 rfl ?_
              refine sv_aload_n (pc := 145) dX12_hear_145 rfl rfl ?_
              refine gk_X12_88 (pc := 146) dX12_hear_146 wF_X12_625 (A_106 hw) q2362 ?_
              have J2590 : ∀ (μ2583 : mM), (mT w μ2583) → (mF [126999] w μ2349 μ2583) → (G1 μ2583) → (EV μ2583) → (PK μ2583) → sV (gG l D c H0 sa) mX12_hear (sRm 11 0 0) (sZ (gG l D c H0 sa) 0 0 (qI w [106026, 106027, 106028, 106029, 106030, 106031, 106072, 126999, 151999, 152999, 153999, 154999, 155999, 156999, 157999, 158999, 159999, 160999, 161999, 165999] μ (fun z μ1 => ((-2147483648) ≤ z ∧ z ≤ 2147483647) ∧ G1 μ1 ∧ EV μ1 ∧ True))) 193 [(0, .ref 106), (1, iv p1), (2, iv p2), (3, iv z2348), (4, iv z2347), (5, iv z2481), (6, iv z2551)] [] (mk w μ2583) 0 0 := by
                intro μ2583 T2584 F2585 I2587 I2588 I2589
                refine sv_aload_n (pc := 193) dX12_hear_193 rfl rfl ?_
                refine gf_X12_74 (pc := 194) dX12_hear_194 wF_X12_424 (A_106 hw) T2584 ?_
                refine mr_iload (pc := 197) (z := z2551) dX12_hear_197 rfl ?_
                refine sv_aload_n (pc := 199) dX12_hear_199 rfl rfl ?_
                refine gf_X12_71 (pc := 200) dX12_hear_200 wF_X12_591 (A_106 hw) T2584 fun z2591 q2592 h2593 => ?_
                refine ss_154 (pc := 203) dX12_hear_203 (A_154 hw) T2584 (rIx (n := 400) h2552 rfl) h2593 fun μ2594 u2595 T2596 => ?_
                refine mr_iincW (pc := 204) dX12_hear_204 rfl (by decide) fun z2597 h2598 => mr_lvE (lv' := [(3, iv z2597), (0, .ref 106), (1, iv p1), (2, iv p2), (4, iv z2347), (5, iv z2481), (6, iv z2551)]) rfl ?_
                refine sv_aload_n (pc := 207) dX12_hear_207 rfl rfl ?_
                refine sv_aload_n (pc := 208) dX12_hear_208 rfl rfl ?_
                refine gf_X12_7 (pc := 209) dX12_hear_209 wF_X12_40 (A_106 hw) T2596 ?_
                refine mr_iconst (pc := 212) (z := 2) dX12_hear_212 ?_
                refine mr_iload_n (pc := 213) (z := p1) dX12_hear_213 rfl rfl ?_
                refine mr_imul (pc := 214) (x := 2) (y := p1) dX12_hear_214 ?_
                refine mr_iload_n (pc := 215) (z := p2) dX12_hear_215 rfl rfl ?_
                refine mr_iadd (pc := 216) (x := (2 * p1)) (y := p2) dX12_hear_216 ?_
                refine la_110 (pc := 217) dX12_hear_217 (A_110 hw) T2596 (rIx (n := 40) (rAdd (e := 0) (f := 39) (rMulL (n := 2) (e := 0) (f := 38) h14 rfl) h24 rfl) rfl) fun z2599 q2600 h2601 => ?_
                refine mr_iload (pc := 218) (z := z2481) dX12_hear_218 rfl ?_
                refine mr_cVV (pc := 220) (c_X12_look hw T2596 h2601 h2546 (G1.keep I2587 hw ((mF.up mF.refl (A_154 hw) u2595 rfl) : mF [154999] w μ2583 μ2594) rfl rfl ((mG.upO mG.refl u2595 rfl) : mG [] μ2583 μ2594) (fun _ h => absurd h List.not_mem_nil)) (EV.keep I2588 hw ((mF.up mF.refl (A_154 hw) u2595 rfl) : mF [154999] w μ2583 μ2594) rfl) (PK.keep I2589 hw ((mF.up mF.refl (A_154 hw) u2595 rfl) : mF [154999] w μ2583 μ2594) rfl)) (gOk _ _ _ _ _) dX12_hear_220 (tX12_look _ _ _ _ _) ⟨wV_X12_look, wL_X12_look⟩ wM_X12_597 (gCX12 _ _ _ _ _) rfl (A_106 hw) rfl ⟨le_t rfl, le_t rfl⟩ ⟨le_t rfl, le_t rfl⟩ rfl (le_t rfl) fun μ2602 T2603 F2604 h2605 => ?_
                refine mr_iinc (pc := 223) (lv' := [(4, iv (z2347 + 1)), (3, iv z2597), (0, .ref 106), (1, iv p1), (2, iv p2), (5, iv z2481), (6, iv z2551)]) dX12_hear_223 rfl (by decide) rfl ?_
                refine sv_goto (pc := 226) (tgt := 50) dX12_hear_226 (by decide) ?_
                refine mr_lvS (lv' := [(0, .ref 106), (1, iv p1), (2, iv p2), (3, iv z2597), (4, iv (z2347 + 1))]) (List.forall_mem_cons.mpr ⟨rfl, List.forall_mem_cons.mpr ⟨rfl, List.forall_mem_cons.mpr ⟨rfl, List.forall_mem_cons.mpr ⟨rfl, List.forall_mem_cons.mpr ⟨rfl, fun _ h => absurd h List.not_mem_nil⟩⟩⟩⟩⟩) ?_
                exact ih2360 z2597 (z2347 + 1) μ2602 T2603 (mF.call (mF.up (mF.call (mF.call mF.refl F2354 rfl) F2585 rfl) (A_154 hw) u2595 rfl) F2604 rfl) h2598 (rW (c := 0) (d := 2000) (rAdd (e := 1) (f := 2000) h2456 (rR (x := 1)) rfl) rfl) h2605.2.1 h2605.2.2.1 (PK.keep I2589 hw ((mF.call (mF.up mF.refl (A_154 hw) u2595 rfl) F2604 rfl) : mF [106026, 106027, 106028, 106029, 106030, 106031, 106072, 126999, 151999, 152999, 153999, 154999, 155999, 156999, 157999, 158999, 159999, 160999, 161999, 165999] w μ2583 μ2602) rfl) (vc_X12_hear_19 (nS h2359) h2455 h2456 h2363 h2366)
              refine mr_icmp_ge (pc := 149) (tgt := 165) dX12_hear_149 (by decide) (r32 h2456 rfl) (r32 h2363 rfl) (fun h2606 => ?_) (fun h2606 => ?_)
              · refine sv_aload_n (pc := 165) dX12_hear_165 rfl rfl ?_
                refine mr_bipush (pc := 166) (z := 24) dX12_hear_166 (by decide) ?_
                refine mr_sipush (pc := 168) (z := 130) dX12_hear_168 (by decide) ?_
                refine mr_iload (pc := 171) (z := z2551) dX12_hear_171 rfl ?_
                refine mr_iadd (pc := 173) (x := 130) (y := z2551) dX12_hear_173 ?_
                obtain ⟨z2607, q2608⟩ : ∃ z, μ2349 126 (((40 * 24) : Int).toNat) = z := ⟨_, rfl⟩
                have h2609 := rt7 T2353 (A_126 hw) vc_X12_hear_20 q2608
                have h2610 : (-1) ≤ z2607 ∧ z2607 ≤ 9 := h2609.2.1 vc_X12_hear_21
                refine mr_cVV (pc := 174) (c_X12_copy hw T2353 (rW (c := 0) (d := 2099) (rR (x := 24)) rfl) (rW (c := 0) (d := 2099) (rAdd (e := 130) (f := 529) (rR (x := 130)) h2552 rfl) rfl) q2608 (vc_X12_hear_22 h2550.2.1 h7.2.1 h7.2.2.1 h13 h19.2.1 h19.2.2.1 h23 h2545 h14 h24 h15 h22 h2546 h2483 h2552 h12)) (gOk _ _ _ _ _) dX12_hear_174 (tX12_copy _ _ _ _ _) ⟨wV_X12_copy, wL_X12_copy⟩ wM_X12_559 (gCX12 _ _ _ _ _) rfl (A_106 hw) rfl ⟨le_t rfl, le_t rfl⟩ ⟨le_t rfl, le_t rfl⟩ rfl (le_t rfl) fun μ2611 T2612 F2613 h2614 => ?_
                obtain ⟨z2615, q2616, h2617⟩ := h2614
                have h2618 := rt7 T2612 (A_126 hw) (vc_X12_hear_23 h2550.2.1 h7.2.1 h7.2.2.1 h13 h19.2.1 h19.2.2.1 h23 h2545 h14 h24 h15 h22 h2546 h2483 h2552 h12) q2616
                have h2619 : (-1) ≤ z2615 ∧ z2615 ≤ 9 := h2618.2.1 (vc_X12_hear_24 h2550.2.1 h7.2.1 h7.2.2.1 h13 h19.2.1 h19.2.2.1 h23 h2545 h14 h24 h15 h22 h2546 h2483 h2552 h12)
                have q2620 : μ2611 126 ((40 * (130 + z2551)).toNat) = z2607 := q2616.trans h2617.2.1
                refine sv_aload_n (pc := 177) dX12_hear_177 rfl rfl ?_
                refine gf_X12_32 (pc := 178) dX12_hear_178 wF_X12_148 (A_106 hw) T2612 ?_
                refine mr_bipush (pc := 181) (z := 40) dX12_hear_181 (by decide) ?_
                refine mr_sipush (pc := 183) (z := 130) dX12_hear_183 (by decide) ?_
                refine mr_iload (pc := 186) (z := z2551) dX12_hear_186 rfl ?_
                refine mr_iadd (pc := 188) (x := 130) (y := z2551) dX12_hear_188 ?_
                refine mr_imul (pc := 189) (x := 40) (y := (130 + z2551)) dX12_hear_189 ?_
                refine mr_iload (pc := 190) (z := z2481) dX12_hear_190 rfl ?_
                refine ss_126 (pc := 192) dX12_hear_192 (A_126 hw) T2612 (rIx (n := 84000) (rMulL (n := 40) (e := 5200) (f := 21160) (rAdd (e := 130) (f := 529) (rR (x := 130)) h2552 rfl) rfl) rfl) (vc_X12_hear_25 h2545 h2550.2.1 h7.2.1 h7.2.2.1 h13 h19.2.1 h19.2.2.1 h23 h14 h24 h15 h22 h2546 h2483 h2552 h12) fun μ2621 u2622 T2623 => ?_
                refine mr_lvS (lv' := [(0, .ref 106), (1, iv p1), (2, iv p2), (3, iv z2348), (4, iv z2347), (5, iv z2481), (6, iv z2551)]) (List.forall_mem_cons.mpr ⟨rfl, List.forall_mem_cons.mpr ⟨rfl, List.forall_mem_cons.mpr ⟨rfl, List.forall_mem_cons.mpr ⟨rfl, List.forall_mem_cons.mpr ⟨rfl, List.forall_mem_cons.mpr ⟨rfl, List.forall_mem_cons.mpr ⟨rfl, fun _ h => absurd h List.not_mem_nil⟩⟩⟩⟩⟩⟩⟩) ?_
                exact J2590 μ2621 T2623 (mF.up (mF.call mF.refl F2613 rfl) (A_126 hw) u2622 rfl) (G1.keep I2356 hw ((mF.up (mF.call mF.refl F2613 rfl) (A_126 hw) u2622 rfl) : mF [126999] w μ2349 μ2621) rfl rfl ((mG.up (mG.call mG.refl h2617.1 (List.forall_mem_cons.mpr ⟨⟨_, List.mem_cons_self, (vc_X12_hear_26 h2550.2.1 h7.2.1 h7.2.2.1 h13 h19.2.1 h19.2.2.1 h23 h2545 h14 h24 h15 h22 h2546 h2483 h2552 h12)⟩, (fun _ h => absurd h List.not_mem_nil)⟩)) u2622 List.mem_cons_self (vc_X12_hear_27 h2550.2.1 h7.2.1 h7.2.2.1 h13 h19.2.1 h19.2.2.1 h23 h2545 h14 h24 h15 h22 h2546 h2483 h2552 h12)) : mG [((40 * (130 + z2551)), ((40 * (130 + z2551)) + 40)), ((40 * (130 + z2551)), ((40 * (130 + z2551)) + 1))] μ2349 μ2621) (List.forall_mem_cons.mpr ⟨(vc_X12_hear_29 h2550.2.1 h7.2.1 h7.2.2.1 h13 h19.2.1 h19.2.2.1 h23 h2545 h14 h24 h15 h22 h2546 h2483 h2552 h12), (List.forall_mem_cons.mpr ⟨(vc_X12_hear_28 h2550.2.1 h7.2.1 h7.2.2.1 h13 h19.2.1 h19.2.2.1 h23 h2545 h14 h24 h15 h22 h2546 h2483 h2552 h12), (fun _ h => absurd h List.not_mem_nil)⟩)⟩)) (EV.keep I2357 hw ((mF.up (mF.call mF.refl F2613 rfl) (A_126 hw) u2622 rfl) : mF [126999] w μ2349 μ2621) rfl) (PK.keep I2358 hw ((mF.up (mF.call mF.refl F2613 rfl) (A_126 hw) u2622 rfl) : mF [126999] w μ2349 μ2621) rfl)
              have h2624 : 0 ≤ z2347 ∧ z2347 ≤ 999 := (vc_X12_hear_30 h2606 h2455 h2456 h2363 h2366)
              have h2625 : 1 ≤ z2361 ∧ z2361 ≤ 1000 := (vc_X12_hear_31 h2606 h2455 h2624 h2363 h2366)
              refine sv_aload_n (pc := 152) dX12_hear_152 rfl rfl ?_
              refine mr_sipush (pc := 153) (z := 130) dX12_hear_153 (by decide) ?_
              refine mr_iload (pc := 156) (z := z2551) dX12_hear_156 rfl ?_
              refine mr_iadd (pc := 158) (x := 130) (y := z2551) dX12_hear_158 ?_
              refine mr_cVV (pc := 159) (c_X12_nothing hw T2353 (rW (c := 0) (d := 2099) (rAdd (e := 130) (f := 529) (rR (x := 130)) h2552 rfl) rfl)) (gOk _ _ _ _ _) dX12_hear_159 (tX12_nothing _ _ _ _ _) ⟨wV_X12_nothing, wL_X12_nothing⟩ wM_X12_539 (gCX12 _ _ _ _ _) rfl (A_106 hw) rfl ⟨le_t rfl, le_t rfl⟩ ⟨le_t rfl, le_t rfl⟩ rfl (le_t rfl) fun μ2626 T2627 F2628 h2629 => ?_
              obtain ⟨z2630, q2631, h2632⟩ := h2629
              have h2633 := rt7 T2627 (A_126 hw) (vc_X12_hear_23 h2550.2.1 h7.2.1 h7.2.2.1 h13 h19.2.1 h19.2.2.1 h23 h2545 h14 h24 h15 h22 h2546 h2483 h2552 h12) q2631
              have h2634 : (-1) ≤ z2630 ∧ z2630 ≤ 9 := h2633.2.1 (vc_X12_hear_24 h2550.2.1 h7.2.1 h7.2.2.1 h13 h19.2.1 h19.2.2.1 h23 h2545 h14 h24 h15 h22 h2546 h2483 h2552 h12)
              have q2635 : μ2626 126 ((40 * (130 + z2551)).toNat) = (-1) := q2631.trans h2632.2.1
              have h2636 : (-1) ≤ z2630 ∧ z2630 ≤ (-1) := (vc_X12_hear_32 h2632.2.1 h2634)
              refine sv_goto (pc := 162) (tgt := 193) dX12_hear_162 (by decide) ?_
              refine mr_lvS (lv' := [(0, .ref 106), (1, iv p1), (2, iv p2), (3, iv z2348), (4, iv z2347), (5, iv z2481), (6, iv z2551)]) (List.forall_mem_cons.mpr ⟨rfl, List.forall_mem_cons.mpr ⟨rfl, List.forall_mem_cons.mpr ⟨rfl, List.forall_mem_cons.mpr ⟨rfl, List.forall_mem_cons.mpr ⟨rfl, List.forall_mem_cons.mpr ⟨rfl, List.forall_mem_cons.mpr ⟨rfl, fun _ h => absurd h List.not_mem_nil⟩⟩⟩⟩⟩⟩⟩) ?_
              exact J2590 μ2626 T2627 (mF.call mF.refl F2628 rfl) (G1.keep I2356 hw ((mF.call mF.refl F2628 rfl) : mF [126999] w μ2349 μ2626) rfl rfl ((mG.call mG.refl h2632.1 (List.forall_mem_cons.mpr ⟨⟨_, List.mem_cons_self, (vc_X12_hear_33 h2550.2.1 h7.2.1 h7.2.2.1 h13 h19.2.1 h19.2.2.1 h23 h2545 h14 h24 h15 h22 h2546 h2483 h2552 h12)⟩, (fun _ h => absurd h List.not_mem_nil)⟩)) : mG [((40 * (130 + z2551)), ((40 * (130 + z2551)) + 1))] μ2349 μ2626) (List.forall_mem_cons.mpr ⟨(vc_X12_hear_28 h2550.2.1 h7.2.1 h7.2.2.1 h13 h19.2.1 h19.2.2.1 h23 h2545 h14 h24 h15 h22 h2546 h2483 h2552 h12), (fun _ h => absurd h List.not_mem_nil)⟩)) (EV.keep I2357 hw ((mF.call mF.refl F2628 rfl) : mF [126999] w μ2349 μ2626) rfl) (PK.keep I2358 hw ((mF.call mF.refl F2628 rfl) : mF [126999] w μ2349 μ2626) rfl)
            have h2637 : (-99999999) ≤ z2481 ∧ z2481 ≤ (-99999999) := (vc_X12_hear_34 h2545 h2482 h2483)
            refine sv_goto (pc := 131) (tgt := 223) dX12_hear_131 (by decide) ?_
            refine mr_iinc (pc := 223) (lv' := [(4, iv (z2347 + 1)), (5, iv z2481), (0, .ref 106), (1, iv p1), (2, iv p2), (3, iv z2348)]) dX12_hear_223 rfl (by decide) rfl ?_
            refine sv_goto (pc := 226) (tgt := 50) dX12_hear_226 (by decide) ?_
            refine mr_lvS (lv' := [(0, .ref 106), (1, iv p1), (2, iv p2), (3, iv z2348), (4, iv (z2347 + 1))]) (List.forall_mem_cons.mpr ⟨rfl, List.forall_mem_cons.mpr ⟨rfl, List.forall_mem_cons.mpr ⟨rfl, List.forall_mem_cons.mpr ⟨rfl, List.forall_mem_cons.mpr ⟨rfl, fun _ h => absurd h List.not_mem_nil⟩⟩⟩⟩⟩) ?_
            exact ih2360 z2348 (z2347 + 1) μ2349 T2353 (mF.call mF.refl F2354 rfl) h2351 (rW (c := 0) (d := 2000) (rAdd (e := 1) (f := 2000) h2456 (rR (x := 1)) rfl) rfl) I2356 I2357 I2358 (vc_X12_hear_19 (nS h2359) h2455 h2456 h2363 h2366)
          refine mr_icmp_ge (pc := 70) (tgt := 94) dX12_hear_70 (by decide) (r32 h2456 rfl) (r32 h2363 rfl) (fun h2638 => ?_) (fun h2638 => ?_)
          · refine sv_aload_n (pc := 94) dX12_hear_94 rfl rfl ?_
            refine sv_aload_n (pc := 95) dX12_hear_95 rfl rfl ?_
            refine gf_X12_89 (pc := 96) dX12_hear_96 wF_X12_466 (A_106 hw) T2353 ?_
            refine mr_iload (pc := 99) (z := z2347) dX12_hear_99 rfl ?_
            refine sv_aload_n (pc := 101) dX12_hear_101 rfl rfl ?_
            refine gk_X12_88 (pc := 102) dX12_hear_102 wF_X12_625 (A_106 hw) q2362 ?_
            refine mr_isub (pc := 105) (x := z2347) (y := z2361) dX12_hear_105 ?_
            refine la_168 (pc := 106) dX12_hear_106 (A_168 hw) T2353 (vc_X12_hear_35 h2455 h2638 h2456 h2363 h2366) fun z2639 q2640 h2641 => ?_
            refine sv_aload_n (pc := 107) dX12_hear_107 rfl rfl ?_
            refine gf_X12_90 (pc := 108) dX12_hear_108 wF_X12_469 (A_106 hw) T2353 ?_
            refine mr_iload (pc := 111) (z := z2347) dX12_hear_111 rfl ?_
            refine sv_aload_n (pc := 113) dX12_hear_113 rfl rfl ?_
            refine gk_X12_88 (pc := 114) dX12_hear_114 wF_X12_625 (A_106 hw) q2362 ?_
            refine mr_isub (pc := 117) (x := z2347) (y := z2361) dX12_hear_117 ?_
            refine la_169 (pc := 118) dX12_hear_118 (A_169 hw) T2353 (vc_X12_hear_35 h2455 h2638 h2456 h2363 h2366) fun z2642 q2643 h2644 => ?_
            refine mr_cVP (pc := 119) (c_X12_prefixOf hw T2353 h2641 h2644) (gOk _ _ _ _ _) dX12_hear_119 (tX12_prefixOf _ _ _ _ _) ⟨wV_X12_prefixOf, wL_X12_prefixOf⟩ wM_X12_30 (gCX12 _ _ _ _ _) rfl (A_106 hw) rfl ⟨le_t rfl, le_t rfl⟩ ⟨le_t rfl, le_t rfl⟩ rfl (le_t rfl) fun z2649 h2648 => ?_
            exact J2484 z2649 h2648.1 (vc_X12_hear_36 h2648.2.1 h2648.1)
          have h2650 : 0 ≤ z2347 ∧ z2347 ≤ 999 := (vc_X12_hear_30 h2638 h2455 h2456 h2363 h2366)
          have h2651 : 1 ≤ z2361 ∧ z2361 ≤ 1000 := (vc_X12_hear_31 h2638 h2455 h2650 h2363 h2366)
          refine sv_aload_n (pc := 73) dX12_hear_73 rfl rfl ?_
          refine sv_aload_n (pc := 74) dX12_hear_74 rfl rfl ?_
          refine gf_X12_86 (pc := 75) dX12_hear_75 wF_X12_460 (A_106 hw) T2353 ?_
          refine mr_iload (pc := 78) (z := z2347) dX12_hear_78 rfl ?_
          refine la_166 (pc := 80) dX12_hear_80 (A_166 hw) T2353 (rIx (n := 1000) h2650 rfl) fun z2652 q2653 h2654 => ?_
          refine sv_aload_n (pc := 81) dX12_hear_81 rfl rfl ?_
          refine gf_X12_87 (pc := 82) dX12_hear_82 wF_X12_463 (A_106 hw) T2353 ?_
          refine mr_iload (pc := 85) (z := z2347) dX12_hear_85 rfl ?_
          refine la_167 (pc := 87) dX12_hear_87 (A_167 hw) T2353 (rIx (n := 1000) h2650 rfl) fun z2655 q2656 h2657 => ?_
          refine mr_cVP (pc := 88) (c_X12_prefixOf hw T2353 h2654 h2657) (gOk _ _ _ _ _) dX12_hear_88 (tX12_prefixOf _ _ _ _ _) ⟨wV_X12_prefixOf, wL_X12_prefixOf⟩ wM_X12_30 (gCX12 _ _ _ _ _) rfl (A_106 hw) rfl ⟨le_t rfl, le_t rfl⟩ ⟨le_t rfl, le_t rfl⟩ rfl (le_t rfl) fun z2662 h2661 => ?_
          refine sv_goto (pc := 91) (tgt := 122) dX12_hear_91 (by decide) ?_
          exact J2484 z2662 h2661.1 (vc_X12_hear_37 h2661.2.1 h2661.1)
      refine mr_lvS (lv' := [(0, .ref 106), (1, iv p1), (2, iv p2), (3, iv 0), (4, iv 0)]) (List.forall_mem_cons.mpr ⟨rfl, List.forall_mem_cons.mpr ⟨rfl, List.forall_mem_cons.mpr ⟨rfl, List.forall_mem_cons.mpr ⟨rfl, List.forall_mem_cons.mpr ⟨rfl, fun _ h => absurd h List.not_mem_nil⟩⟩⟩⟩⟩) ?_
      exact L2350 2002 0 0 μ hT mF.refl (rW (c := (-2147483648)) (d := 2147483647) (rR (x := 0)) rfl) (rW (c := 0) (d := 2000) (rR (x := 0)) rfl) hIG1 hIEV hIPK vc_X12_hear_38
    have h2663 : 0 ≤ z37 ∧ z37 ≤ 0 := (vc_X12_hear_39 h40 h39)
    refine mr_bipush (pc := 42) (z := (-2)) dX12_hear_42 (by decide) ?_
    exact mr_iret dX12_hear_44 rfl (le_t rfl) (le_t rfl) hT mF.refl ⟨(rW (c := (-2147483648)) (d := 2147483647) (rR (x := (-2))) rfl), hIG1, hIEV, trivial⟩
  have h2664 : 0 ≤ z20 ∧ z20 ≤ 0 := (vc_X12_hear_40 h21 h19.2.1 h19.2.2.1 hp2 h19.1)
  have h2665 : p2 < (0 : Int) ∨ (1 : Int) < p2 := (h19.2.2.1 (vc_X12_hear_41 h19.2.1 h19.2.2.1 h21 hp2 h2664))
  refine mr_iconst (pc := 17) (z := (-1)) dX12_hear_17 ?_
  exact mr_iret dX12_hear_18 rfl (le_t rfl) (le_t rfl) hT mF.refl ⟨(rW (c := (-2147483648)) (d := 2147483647) (rR (x := (-1))) rfl), hIG1, hIEV, trivial⟩
