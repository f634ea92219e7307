theorem vc_X11_today_v_1 {p1 : Int} (h0 : 0 ≤ p1) (h1 : (-2147483648) ≤ p1 ∧ p1 ≤ 2147483647) : 0 ≤ p1 ∧ p1 ≤ 2147483647 := by omega
theorem vc_X11_today_v_2 {f_q p1 : Int} (h0 : 0 ≤ p1) (h1 : 0 ≤ f_q ∧ f_q ≤ 2147483647) (h2 : 0 ≤ p1 ∧ p1 ≤ 2147483647) : p1 < 0 → f_q = -1 ∧ p1 = f_q := by omega
theorem vc_X11_today_v_3 {f_q p1 : Int} (h0 : 0 ≤ p1) (h1 : 0 ≤ f_q ∧ f_q ≤ 2147483647) (h2 : 0 ≤ p1 ∧ p1 ≤ 2147483647) : 0 ≤ p1 → f_q = f_q ∧ p1 = p1 := by omega
theorem vc_X11_today_v_4 {p1 : Int} (h0 : p1 < 0) (h1 : (-2147483648) ≤ p1 ∧ p1 ≤ 2147483647) : (-2147483648) ≤ p1 ∧ p1 ≤ (-1) := by omega
theorem vc_X11_today_v_5 {f_q p1 : Int} (h0 : p1 < 0) (h1 : 0 ≤ f_q ∧ f_q ≤ 2147483647) (h2 : (-2147483648) ≤ p1 ∧ p1 ≤ (-1)) : p1 < 0 → (-1 : Int) = -1 ∧ f_q = f_q := by omega
theorem vc_X11_today_v_6 {f_q p1 : Int} (h0 : p1 < 0) (h1 : 0 ≤ f_q ∧ f_q ≤ 2147483647) (h2 : (-2147483648) ≤ p1 ∧ p1 ≤ (-1)) : 0 ≤ p1 → (-1 : Int) = f_q ∧ f_q = p1 := by omega
set_option maxRecDepth 4000 in
set_option maxHeartbeats 4000000 in
theorem c_X11_today_v {l : Launch} {D : va_G} {c : Nat → ClassId} {H0 : Heap} {sa : Nat × Nat × (Nat → Int32)} {w : mW} {μ : mM} (hw : mWF w) (hT : mT w μ) {p1 : Int} (hp1 : (-2147483648) ≤ p1 ∧ p1 ≤ 2147483647) {f_q : Int} (q_f_q : μ 6 18 = f_q) (hIPC : PC w μ) : sC (gG l D c H0 sa) mX11_today 44 0 0 [.ref 0, iv p1] (mk w μ) (qI w [6018, 21002, 21003, 21004, 21005, 21006, 21007, 32009, 32010, 33999, 34999, 66999, 200002, 200003, 200004, 200005, 200006, 200007, 200008, 200009, 200010, 200011, 201999, 202999, 213999] μ (fun z μ1 => ∃ o_q : Int, μ1 6 18 = o_q ∧ ((-2147483648) ≤ z ∧ z ≤ 2147483647) ∧ (p1 < 0 → z = -1 ∧ o_q = f_q) ∧ (0 ≤ p1 → z = f_q ∧ o_q = p1) ∧ True)) := by
  refine sC.of rfl (by decide) (le_t rfl) ?_
  have ht_f_q : (0 ≤ f_q ∧ f_q ≤ 2147483647) := by rw [← q_f_q]; exact hT 6 6 (A_6 hw) 18
  refine mr_lvE (lv' := [(0, .ref 0), (1, iv p1)]) rfl ?_
  refine mr_iload_n (pc := 0) (z := p1) dX11_today_0 rfl rfl ?_
  refine mr_if_ge (pc := 1) (tgt := 6) dX11_today_1 (by decide) hp1 (fun h28 => ?_) (fun h28 => ?_)
  · have h29 : 0 ≤ p1 ∧ p1 ≤ 2147483647 := (vc_X11_today_v_1 h28 hp1)
    refine sv_aload_n (pc := 6) dX11_today_6 rfl rfl ?_
    refine gf_X11_3 (pc := 7) dX11_today_7 wF_X11_26 (A_0 hw) hT ?_
    refine gk_X10_18 (pc := 10) dX11_today_10 wF_X11_176 (A_6 hw) q_f_q ?_
    refine mr_istore_n (pc := 13) (lv' := [(2, iv f_q), (0, .ref 0), (1, iv p1)]) dX11_today_13 rfl (by decide) rfl ?_
    refine sv_aload_n (pc := 14) dX11_today_14 rfl rfl ?_
    refine gf_X11_3 (pc := 15) dX11_today_15 wF_X11_26 (A_0 hw) hT ?_
    refine mr_iload_n (pc := 18) (z := p1) dX11_today_18 rfl rfl ?_
    refine pf_X10_18 (pc := 19) dX11_today_19 wF_X11_176 (A_6 hw) hT h29 fun μ30 u31 T32 => ?_
    refine sv_aload_n (pc := 22) dX11_today_22 rfl rfl ?_
    refine gf_X11_6 (pc := 23) dX11_today_23 wF_X11_51 (A_0 hw) T32 ?_
    refine mr_cVV (pc := 26) (c_X8_tellAllAnew hw T32 (PC.keep hIPC hw ((mF.up mF.refl (A_6 hw) u31 rfl) : mF [6018] w μ μ30) rfl)) (gOk _ _ _ _ _) dX11_today_26 (tX8_tellAllAnew _ _ _ _ _) ⟨wV_X8_tellAllAnew, wL_X8_tellAllAnew⟩ wM_X11_179 (gCX8 _ _ _ _ _) rfl (A_32 hw) rfl ⟨le_t rfl, le_t rfl⟩ ⟨le_t rfl, le_t rfl⟩ rfl (le_t rfl) fun μ33 T34 F35 h36 => ?_
    refine mr_iload_n (pc := 29) (z := f_q) dX11_today_29 rfl rfl ?_
    exact mr_iret dX11_today_30 rfl (le_t rfl) (le_t rfl) T34 (mF.call (mF.up mF.refl (A_6 hw) u31 rfl) F35 rfl) ⟨p1, (F35.f (A_6 hw) rfl u31.1), (rW (c := (-2147483648)) (d := 2147483647) ht_f_q rfl), (vc_X11_today_v_2 h28 ht_f_q h29), (vc_X11_today_v_3 h28 ht_f_q h29), trivial⟩
  have h37 : (-2147483648) ≤ p1 ∧ p1 ≤ (-1) := (vc_X11_today_v_4 h28 hp1)
  refine mr_iconst (pc := 4) (z := (-1)) dX11_today_4 ?_
  exact mr_iret dX11_today_5 rfl (le_t rfl) (le_t rfl) hT mF.refl ⟨f_q, q_f_q, (rW (c := (-2147483648)) (d := 2147483647) (rR (x := (-1))) rfl), (vc_X11_today_v_5 h28 ht_f_q h37), (vc_X11_today_v_6 h28 ht_f_q h37), trivial⟩
theorem vc_X12_today_v_1 {p1 : Int} (h0 : 0 ≤ p1) (h1 : (-2147483648) ≤ p1 ∧ p1 ≤ 2147483647) : 0 ≤ p1 ∧ p1 ≤ 2147483647 := by omega
theorem vc_X12_today_v_2  : (80 : Int) ≤ (80 : Int) ∧ (5200 : Int) ≤ (5200 : Int) := by omega
theorem vc_X12_today_v_3  : (21200 : Int) ≤ (21200 : Int) ∧ (53200 : Int) ≤ (53200 : Int) := by omega
theorem vc_X12_today_v_4  : ((53200 : Int) : Int) ≤ (5200 : Int) ∨ (21200 : Int) ≤ ((21200 : Int) : Int) := by omega
theorem vc_X12_today_v_5  : ((5200 : Int) : Int) ≤ (5200 : Int) ∨ (21200 : Int) ≤ ((80 : Int) : Int) := by omega
theorem vc_X12_today_v_6 {f_q p1 : Int} (h0 : 0 ≤ p1) (h1 : 0 ≤ f_q ∧ f_q ≤ 2147483647) (h2 : 0 ≤ p1 ∧ p1 ≤ 2147483647) : p1 < 0 → f_q = -1 ∧ p1 = f_q := by omega
theorem vc_X12_today_v_7 {f_q p1 : Int} (h0 : 0 ≤ p1) (h1 : 0 ≤ f_q ∧ f_q ≤ 2147483647) (h2 : 0 ≤ p1 ∧ p1 ≤ 2147483647) : 0 ≤ p1 → f_q = f_q ∧ p1 = p1 := by omega
theorem vc_X12_today_v_8 {p1 : Int} (h0 : p1 < 0) (h1 : (-2147483648) ≤ p1 ∧ p1 ≤ 2147483647) : (-2147483648) ≤ p1 ∧ p1 ≤ (-1) := by omega
theorem vc_X12_today_v_9 {f_q p1 : Int} (h0 : p1 < 0) (h1 : 0 ≤ f_q ∧ f_q ≤ 2147483647) (h2 : (-2147483648) ≤ p1 ∧ p1 ≤ (-1)) : p1 < 0 → (-1 : Int) = -1 ∧ f_q = f_q := by omega
theorem vc_X12_today_v_10 {f_q p1 : Int} (h0 : p1 < 0) (h1 : 0 ≤ f_q ∧ f_q ≤ 2147483647) (h2 : (-2147483648) ≤ p1 ∧ p1 ≤ (-1)) : 0 ≤ p1 → (-1 : Int) = f_q ∧ f_q = p1 := by omega
set_option maxRecDepth 4000 in
set_option maxHeartbeats 4000000 in
theorem c_X12_today_v {l : Launch} {D : va_G} {c : Nat → ClassId} {H0 : Heap} {sa : Nat × Nat × (Nat → Int32)} {w : mW} {μ : mM} (hw : mWF w) (hT : mT w μ) {p1 : Int} (hp1 : (-2147483648) ≤ p1 ∧ p1 ≤ 2147483647) {f_q : Int} (q_f_q : μ 106 17 = f_q) (hIJC : JC l D c H0 sa μ) (hIRP : RP μ) (hIEP : EP μ) (hIHP : HP μ) (hIUP : UP l D c H0 sa μ) (hIG1 : G1 μ) (hIEV : EV μ) (hIPK : PK μ) : sC (gG l D c H0 sa) mX12_today 13 0 0 [.ref 106, iv p1] (mk w μ) (qI w [106017, 106026, 106027, 106028, 106029, 106030, 106031, 106072, 126999, 151999, 152999, 153999, 155999, 156999, 157999, 158999, 159999, 160999, 161999, 165999] μ (fun z μ1 => ∃ o_q : Int, μ1 106 17 = o_q ∧ ((-2147483648) ≤ z ∧ z ≤ 2147483647) ∧ JC l D c H0 sa μ1 ∧ RP μ1 ∧ EP μ1 ∧ HP μ1 ∧ UP l D c H0 sa μ1 ∧ G1 μ1 ∧ EV μ1 ∧ (p1 < 0 → z = -1 ∧ o_q = f_q) ∧ (0 ≤ p1 → z = f_q ∧ o_q = p1) ∧ True)) := by
  refine sC.of rfl (by decide) (le_t rfl) ?_
  have ht_f_q : (0 ≤ f_q ∧ f_q ≤ 2147483647) := by rw [← q_f_q]; exact hT 106 106 (A_106 hw) 17
  refine mr_lvE (lv' := [(0, .ref 106), (1, iv p1)]) rfl ?_
  refine mr_iload_n (pc := 0) (z := p1) dX12_today_0 rfl rfl ?_
  refine mr_if_ge (pc := 1) (tgt := 6) dX12_today_1 (by decide) hp1 (fun h37 => ?_) (fun h37 => ?_)
  · have h38 : 0 ≤ p1 ∧ p1 ≤ 2147483647 := (vc_X12_today_v_1 h37 hp1)
    refine sv_aload_n (pc := 6) dX12_today_6 rfl rfl ?_
    refine gk_X12_17 (pc := 7) dX12_today_7 wF_X12_85 (A_106 hw) q_f_q ?_
    refine mr_istore_n (pc := 10) (lv' := [(2, iv f_q), (0, .ref 106), (1, iv p1)]) dX12_today_10 rfl (by decide) rfl ?_
    refine sv_aload_n (pc := 11) dX12_today_11 rfl rfl ?_
    refine mr_iload_n (pc := 12) (z := p1) dX12_today_12 rfl rfl ?_
    refine pf_X12_17 (pc := 13) dX12_today_13 wF_X12_85 (A_106 hw) hT h38 fun μ39 u40 T41 => ?_
    refine sv_aload_n (pc := 16) dX12_today_16 rfl rfl ?_
    obtain ⟨z42, q43⟩ : ∃ z, μ39 106 2 = z := ⟨_, rfl⟩
    have h44 : (0 ≤ z42 ∧ z42 ≤ 10) := by rw [← q43]; exact T41 106 106 (A_106 hw) 2
    refine mr_cVV (pc := 17) (c_X12_rethink_u hw T41 q43 (JC.keepJ hIJC hw ((mF.up mF.refl (A_106 hw) u40 rfl) : mF [106017] w μ μ39) rfl) (RP.keep hIRP hw ((mF.up mF.refl (A_106 hw) u40 rfl) : mF [106017] w μ μ39) rfl ((mG.upO mG.refl u40 rfl) : mG [] μ μ39) (fun _ h => absurd h List.not_mem_nil)) (EP.keep hIEP hw ((mF.up mF.refl (A_106 hw) u40 rfl) : mF [106017] w μ μ39) rfl) (G1.keep hIG1 hw ((mF.up mF.refl (A_106 hw) u40 rfl) : mF [106017] w μ μ39) rfl rfl ((mG.upO mG.refl u40 rfl) : mG [] μ μ39) (fun _ h => absurd h List.not_mem_nil)) (EV.keep hIEV hw ((mF.up mF.refl (A_106 hw) u40 rfl) : mF [106017] w μ μ39) rfl) (PK.keep hIPK hw ((mF.up mF.refl (A_106 hw) u40 rfl) : mF [106017] w μ μ39) rfl)) (gOk _ _ _ _ _) dX12_today_17 (tX12_rethink _ _ _ _ _) ⟨wV_X12_rethink, wL_X12_rethink⟩ wM_X12_88 (gCX12 _ _ _ _ _) rfl (A_106 hw) rfl ⟨le_t rfl, le_t rfl⟩ ⟨le_t rfl, le_t rfl⟩ rfl (le_t rfl) fun μ45 T46 F47 h48 => ?_
    refine mr_iload_n (pc := 20) (z := f_q) dX12_today_20 rfl rfl ?_
    exact mr_iret dX12_today_21 rfl (le_t rfl) (le_t rfl) T46 (mF.call (mF.up mF.refl (A_106 hw) u40 rfl) F47 rfl) ⟨p1, (F47.f (A_106 hw) rfl u40.1), (rW (c := (-2147483648)) (d := 2147483647) ht_f_q rfl), h48.2.1, h48.2.2.1, h48.2.2.2.1, (HP.keep hIHP hw ((mF.call (mF.up mF.refl (A_106 hw) u40 rfl) F47 rfl) : mF [106017, 106026, 106027, 106028, 106029, 106030, 106031, 106072, 126999, 151999, 152999, 153999, 155999, 156999, 157999, 158999, 159999, 160999, 161999, 165999] w μ μ45) rfl ((mG.call (mG.upO mG.refl u40 rfl) h48.1 (List.forall_mem_cons.mpr ⟨⟨_, List.mem_cons_self, vc_X12_today_v_2⟩, (List.forall_mem_cons.mpr ⟨⟨_, (List.mem_cons_of_mem _ List.mem_cons_self), vc_X12_today_v_3⟩, (fun _ h => absurd h List.not_mem_nil)⟩)⟩)) : mG [(80, 5200), (21200, 53200)] μ μ45) (List.forall_mem_cons.mpr ⟨vc_X12_today_v_5, (List.forall_mem_cons.mpr ⟨vc_X12_today_v_4, (fun _ h => absurd h List.not_mem_nil)⟩)⟩)), h48.2.2.2.2.2.2.1, h48.2.2.2.2.1, h48.2.2.2.2.2.1, (vc_X12_today_v_6 h37 ht_f_q h38), (vc_X12_today_v_7 h37 ht_f_q h38), trivial⟩
  have h49 : (-2147483648) ≤ p1 ∧ p1 ≤ (-1) := (vc_X12_today_v_8 h37 hp1)
  refine mr_iconst (pc := 4) (z := (-1)) dX12_today_4 ?_
  exact mr_iret dX12_today_5 rfl (le_t rfl) (le_t rfl) hT mF.refl ⟨f_q, q_f_q, (rW (c := (-2147483648)) (d := 2147483647) (rR (x := (-1))) rfl), hIJC, hIRP, hIEP, hIHP, hIUP, hIG1, hIEV, (vc_X12_today_v_9 h37 ht_f_q h49), (vc_X12_today_v_10 h37 ht_f_q h49), trivial⟩
