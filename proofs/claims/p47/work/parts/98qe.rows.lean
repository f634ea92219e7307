set_option maxRecDepth 4000 in
set_option maxHeartbeats 4000000 in
theorem c_X12_verdict_u {l : Launch} {D : va_G} {c : Nat → ClassId} {H0 : Heap} {sa : Nat × Nat × (Nat → Int32)} {w : mW} {μ : mM} (hw : mWF w) (hT : mT w μ) {p1 : Int} (hp1 : (-2147483648) ≤ p1 ∧ p1 ≤ 2147483647) {p2 : Int} (hp2 : (-2147483648) ≤ p2 ∧ p2 ≤ 2147483647) {p3 : Int} (hp3 : (-2147483648) ≤ p3 ∧ p3 ≤ 2147483647) {p4 : Int} (hp4 : (-2147483648) ≤ p4 ∧ p4 ≤ 2147483647) (hIJC : JC l D c H0 sa μ) (hIRP : RP μ) (hIEP : EP μ) (hIHP : HP μ) (hIUP : UP l D c H0 sa μ) : sC (gG l D c H0 sa) mX12_verdict 5 0 0 [.ref 106, iv p1, iv p2, iv p3, iv p4] (mk w μ) (qI w [106026, 106027, 106028, 106029, 106030, 106031] μ (fun z μ1 => ((-2147483648) ≤ z ∧ z ≤ 2147483647) ∧ JC l D c H0 sa μ1 ∧ RP μ1 ∧ EP μ1 ∧ HP μ1 ∧ UP l D c H0 sa μ1 ∧ True)) := by
  refine sC.of rfl (by decide) (le_t rfl) ?_
  refine mr_lvE (lv' := [(0, .ref 106), (1, iv p1), (2, iv p2), (3, iv p3), (4, iv p4)]) rfl ?_
  refine sv_aload_n (pc := 0) dX12_verdict_0 rfl rfl ?_
  refine mr_iload_n (pc := 1) (z := p1) dX12_verdict_1 rfl rfl ?_
  obtain ⟨z1, q2⟩ : ∃ z, μ 106 2 = z := ⟨_, rfl⟩
  have h3 : (0 ≤ z1 ∧ z1 ≤ 10) := by rw [← q2]; exact hT 106 106 (A_106 hw) 2
  refine mr_cVP (pc := 2) (c_X12_isPrefix hw hT hp1 q2) (gOk _ _ _ _ _) dX12_verdict_2 (tX12_isPrefix _ _ _ _ _) ⟨wV_X12_isPrefix, wL_X12_isPrefix⟩ wM_X12_92 (gCX12 _ _ _ _ _) rfl (A_106 hw) rfl ⟨le_t rfl, le_t rfl⟩ ⟨le_t rfl, le_t rfl⟩ rfl (le_t rfl) fun z8 h7 => ?_
  refine mr_if_eq (pc := 5) (tgt := 17) dX12_verdict_5 (by decide) (r32 h7.1 rfl) (fun h9 => ?_) (fun h9 => ?_)
  · have h10 : 0 ≤ z8 ∧ z8 ≤ 0 := (vc_X12_write_78 h9 h7.2.1 h7.2.2.1 hp1 h3 h7.1)
    have h11 : p1 < 0 ∨ z1 ≤ p1 := (h7.2.2.1 (vc_X12_write_79 h7.2.1 h7.2.2.1 h9 hp1 h3 h10))
    refine mr_iconst (pc := 17) (z := (-1)) dX12_verdict_17 ?_
    exact mr_iret dX12_verdict_18 rfl (le_t rfl) (le_t rfl) hT mF.refl ⟨(rW (c := (-2147483648)) (d := 2147483647) (rR (x := (-1))) rfl), hIJC, hIRP, hIEP, hIHP, hIUP, trivial⟩
  have h12 : 1 ≤ z8 ∧ z8 ≤ 1 := (vc_X12_write_12 h9 h7.2.1 h7.2.2.1 hp1 h3 h7.1)
  have h13 : 0 ≤ p1 ∧ p1 < z1 := (h7.2.1 (vc_X12_write_13 h7.2.1 h7.2.2.1 h9 hp1 h3 h12))
  have h14 : 0 ≤ p1 ∧ p1 ≤ 9 := (vc_X12_write_14 h13 h7.2.1 h7.2.2.1 hp1 h3 h12)
  have h15 : 1 ≤ z1 ∧ z1 ≤ 10 := (vc_X12_write_15 h13 h7.2.1 h7.2.2.1 h14 h3 h12)
  refine mr_iload_n (pc := 8) (z := p3) dX12_verdict_8 rfl rfl ?_
  refine mr_if_lt (pc := 9) (tgt := 17) dX12_verdict_9 (by decide) hp3 (fun h16 => ?_) (fun h16 => ?_)
  · have h17 : (-2147483648) ≤ p3 ∧ p3 ≤ (-1) := (vc_X12_cut_1 h16 hp3)
    refine mr_iconst (pc := 17) (z := (-1)) dX12_verdict_17 ?_
    exact mr_iret dX12_verdict_18 rfl (le_t rfl) (le_t rfl) hT mF.refl ⟨(rW (c := (-2147483648)) (d := 2147483647) (rR (x := (-1))) rfl), hIJC, hIRP, hIEP, hIHP, hIUP, trivial⟩
  have h18 : 0 ≤ p3 ∧ p3 ≤ 2147483647 := (vc_X12_cut_2 h16 hp3)
  refine mr_iload (pc := 12) (z := p4) dX12_verdict_12 rfl ?_
  refine mr_if_ge (pc := 14) (tgt := 19) dX12_verdict_14 (by decide) hp4 (fun h19 => ?_) (fun h19 => ?_)
  · have h20 : 0 ≤ p4 ∧ p4 ≤ 2147483647 := (vc_X12_cut_2 h19 hp4)
    refine sv_aload_n (pc := 19) dX12_verdict_19 rfl rfl ?_
    refine mr_iload_n (pc := 20) (z := p1) dX12_verdict_20 rfl rfl ?_
    refine mr_iload_n (pc := 21) (z := p2) dX12_verdict_21 rfl rfl ?_
    refine mr_iload_n (pc := 22) (z := p3) dX12_verdict_22 rfl rfl ?_
    refine mr_iload (pc := 23) (z := p4) dX12_verdict_23 rfl ?_
    refine mr_cVI (pc := 25) (c_X12_judged_u hw hT h14 hp2 (rW (c := (-2147483648)) (d := 2147483647) h18 rfl) (rW (c := (-2147483648)) (d := 2147483647) h20 rfl) q2 (vc_X12_right_u_24 h7.2.1 h7.2.2.1 h13 h9 h14 h15 h12) hIJC) (gOk _ _ _ _ _) dX12_verdict_25 (tX12_judged _ _ _ _ _) ⟨wV_X12_judged, wL_X12_judged⟩ wM_X12_145 (gCX12 _ _ _ _ _) rfl (A_106 hw) rfl ⟨le_t rfl, le_t rfl⟩ ⟨le_t rfl, le_t rfl⟩ rfl (le_t rfl) fun z25 μ21 T22 F23 h24 => ?_
    exact mr_iret dX12_verdict_28 rfl (le_t rfl) (le_t rfl) T22 (mF.call mF.refl F23 rfl) ⟨(rW (c := (-2147483648)) (d := 2147483647) h24.1 rfl), h24.2.1, (RP.keep hIRP hw ((mF.call mF.refl F23 rfl) : mF [106026, 106027, 106028, 106029, 106030, 106031] w μ μ21) rfl ((mG.fr mG.refl F23 (A_126 hw) rfl) : mG [] μ μ21) (fun _ h => absurd h List.not_mem_nil)), (EP.keep hIEP hw ((mF.call mF.refl F23 rfl) : mF [106026, 106027, 106028, 106029, 106030, 106031] w μ μ21) rfl), (HP.keep hIHP hw ((mF.call mF.refl F23 rfl) : mF [106026, 106027, 106028, 106029, 106030, 106031] w μ μ21) rfl ((mG.fr mG.refl F23 (A_126 hw) rfl) : mG [] μ μ21) (fun _ h => absurd h List.not_mem_nil)), (UPg.fr hIUP hw T22 rfl ((mF.call mF.refl F23 rfl) : mF [106026, 106027, 106028, 106029, 106030, 106031] w μ μ21) rfl rfl rfl ((mG.fr mG.refl F23 (A_126 hw) rfl) : mG [] μ μ21) (fun _ h => absurd h List.not_mem_nil)), trivial⟩
  have h26 : (-2147483648) ≤ p4 ∧ p4 ≤ (-1) := (vc_X12_cut_1 h19 hp4)
  refine mr_iconst (pc := 17) (z := (-1)) dX12_verdict_17 ?_
  exact mr_iret dX12_verdict_18 rfl (le_t rfl) (le_t rfl) hT mF.refl ⟨(rW (c := (-2147483648)) (d := 2147483647) (rR (x := (-1))) rfl), hIJC, hIRP, hIEP, hIHP, hIUP, trivial⟩
theorem vc_X12_attributes_u_1 {f_c z1201 : Int} (h0 : (1003 - z1201) < ((0 : Nat) : Int)) (h1 : 3 * f_c ≤ z1201) (h2 : 0 ≤ z1201 ∧ z1201 ≤ 1002) : False := by omega
theorem vc_X12_attributes_u_3 {f_c f_size p2 z1201 : Int} (h0 : z1201 < p2) (h1 : p2 ≤ f_size) (h2 : 3 * f_c ≤ z1201) (h3 : 0 ≤ f_c ∧ f_c ≤ 400) (h4 : 0 ≤ f_size ∧ f_size ≤ 1000) (h5 : 0 ≤ p2 ∧ p2 ≤ 1000) (h6 : 0 ≤ z1201 ∧ z1201 ≤ 1002) : 0 ≤ z1201 ∧ z1201 ≤ 999 := by omega
theorem vc_X12_attributes_u_4 {f_c f_size p2 z1201 : Int} (h0 : z1201 < p2) (h1 : p2 ≤ f_size) (h2 : 3 * f_c ≤ z1201) (h3 : 0 ≤ f_c ∧ f_c ≤ 400) (h4 : 0 ≤ f_size ∧ f_size ≤ 1000) (h5 : 0 ≤ p2 ∧ p2 ≤ 1000) (h6 : 0 ≤ z1201 ∧ z1201 ≤ 999) : 1 ≤ p2 ∧ p2 ≤ 1000 := by omega
theorem vc_X12_attributes_u_5 {f_c f_size p2 z1201 : Int} (h0 : p2 ≤ f_size) (h1 : 3 * f_c ≤ z1201) (h2 : z1201 < p2) (h3 : 0 ≤ f_c ∧ f_c ≤ 400) (h4 : 0 ≤ f_size ∧ f_size ≤ 1000) (h5 : 1 ≤ p2 ∧ p2 ≤ 1000) (h6 : 0 ≤ z1201 ∧ z1201 ≤ 999) : z1201 < f_size := by omega
theorem vc_X12_attributes_u_6 {f_c f_size p2 z1201 z1231 : Int} (h0 : (z1201 + z1231) ≤ p2) (h1 : p2 ≤ f_size) (h2 : 3 * f_c ≤ z1201) (h3 : z1201 < p2) (h4 : 0 ≤ f_c ∧ f_c ≤ 400) (h5 : 0 ≤ f_size ∧ f_size ≤ 1000) (h6 : 1 ≤ p2 ∧ p2 ≤ 1000) (h7 : 0 ≤ z1201 ∧ z1201 ≤ 999) (h8 : 3 ≤ z1231 ∧ z1231 ≤ 4) : 0 ≤ z1201 ∧ z1201 ≤ 997 := by omega
theorem vc_X12_attributes_u_7 {f_c f_size p2 z1201 z1231 : Int} (h0 : (z1201 + z1231) ≤ p2) (h1 : p2 ≤ f_size) (h2 : 3 * f_c ≤ z1201) (h3 : z1201 < p2) (h4 : 0 ≤ f_c ∧ f_c ≤ 400) (h5 : 0 ≤ f_size ∧ f_size ≤ 1000) (h6 : 1 ≤ p2 ∧ p2 ≤ 1000) (h7 : 0 ≤ z1201 ∧ z1201 ≤ 997) (h8 : 3 ≤ z1231 ∧ z1231 ≤ 4) : 3 ≤ p2 ∧ p2 ≤ 1000 := by omega
theorem vc_X12_attributes_u_8 {f_c f_size p2 z1201 z1231 : Int} (h0 : p2 ≤ f_size) (h1 : 3 * f_c ≤ z1201) (h2 : z1201 < p2) (h3 : (z1201 + z1231) ≤ p2) (h4 : 0 ≤ f_c ∧ f_c ≤ 400) (h5 : 0 ≤ f_size ∧ f_size ≤ 1000) (h6 : 3 ≤ p2 ∧ p2 ≤ 1000) (h7 : 0 ≤ z1201 ∧ z1201 ≤ 997) (h8 : 3 ≤ z1231 ∧ z1231 ≤ 4) : (z1201 + 2) + (z1231 - 2) ≤ f_size := by omega
theorem vc_X12_attributes_u_9 {f_c f_size p2 z1201 z1231 z1245 : Int} (h0 : ((z1201 + z1231) + z1245) ≤ p2) (h1 : p2 ≤ f_size) (h2 : 3 * f_c ≤ z1201) (h3 : z1201 < p2) (h4 : (z1201 + z1231) ≤ p2) (h5 : 0 ≤ f_c ∧ f_c ≤ 400) (h6 : 0 ≤ f_size ∧ f_size ≤ 1000) (h7 : 3 ≤ p2 ∧ p2 ≤ 1000) (h8 : 0 ≤ z1201 ∧ z1201 ≤ 997) (h9 : 3 ≤ z1231 ∧ z1231 ≤ 4) (h10 : 0 ≤ z1245 ∧ z1245 ≤ 65535) : 0 ≤ z1245 ∧ z1245 ≤ 997 := by omega
theorem vc_X12_attributes_u_10 {f_c f_size p2 z1201 z1231 z1245 : Int} (h0 : p2 ≤ f_size) (h1 : 3 * f_c ≤ z1201) (h2 : z1201 < p2) (h3 : (z1201 + z1231) ≤ p2) (h4 : ((z1201 + z1231) + z1245) ≤ p2) (h5 : 0 ≤ f_c ∧ f_c ≤ 400) (h6 : 0 ≤ f_size ∧ f_size ≤ 1000) (h7 : 3 ≤ p2 ∧ p2 ≤ 1000) (h8 : 0 ≤ z1201 ∧ z1201 ≤ 997) (h9 : 3 ≤ z1231 ∧ z1231 ≤ 4) (h10 : 0 ≤ z1245 ∧ z1245 ≤ 997) : z1201 < f_size := by omega
theorem vc_X12_attributes_u_11 {f_c f_size p2 z1201 z1231 z1245 : Int} (h0 : p2 ≤ f_size) (h1 : 3 * f_c ≤ z1201) (h2 : z1201 < p2) (h3 : (z1201 + z1231) ≤ p2) (h4 : ((z1201 + z1231) + z1245) ≤ p2) (h5 : 0 ≤ f_c ∧ f_c ≤ 400) (h6 : 0 ≤ f_size ∧ f_size ≤ 1000) (h7 : 3 ≤ p2 ∧ p2 ≤ 1000) (h8 : 0 ≤ z1201 ∧ z1201 ≤ 997) (h9 : 3 ≤ z1231 ∧ z1231 ≤ 4) (h10 : 0 ≤ z1245 ∧ z1245 ≤ 997) : (z1201 + 1) < f_size := by omega
theorem vc_X12_attributes_u_12 {f_c f_size p2 z1201 z1231 z1245 : Int} (h0 : p2 ≤ f_size) (h1 : 3 * f_c ≤ z1201) (h2 : z1201 < p2) (h3 : (z1201 + z1231) ≤ p2) (h4 : ((z1201 + z1231) + z1245) ≤ p2) (h5 : 0 ≤ f_c ∧ f_c ≤ 400) (h6 : 0 ≤ f_size ∧ f_size ≤ 1000) (h7 : 3 ≤ p2 ∧ p2 ≤ 1000) (h8 : 0 ≤ z1201 ∧ z1201 ≤ 997) (h9 : 3 ≤ z1231 ∧ z1231 ≤ 4) (h10 : 0 ≤ z1245 ∧ z1245 ≤ 997) : (z1201 + 2) + (z1231 - 2) ≤ f_size := by omega
theorem vc_X12_attributes_u_13 {p2 z1201 z1231 z1245 z1262 : Int} (h0 : z1262 = z1245) (h1 : ((z1201 + z1231) + z1245) ≤ p2) (h2 : 3 ≤ p2 ∧ p2 ≤ 1000) (h3 : 0 ≤ z1201 ∧ z1201 ≤ 997) (h4 : 3 ≤ z1231 ∧ z1231 ≤ 4) (h5 : 0 ≤ z1245 ∧ z1245 ≤ 997) (h6 : 0 ≤ z1262 ∧ z1262 ≤ 65535) : 0 ≤ z1262 ∧ z1262 ≤ 997 := by omega
theorem vc_X12_attributes_u_16 {f_c f_size p2 z1201 z1231 z1245 z1262 z1443 : Int} (h0 : 3 * f_c ≤ z1201) (h1 : z1201 < p2) (h2 : (z1201 + z1231) ≤ p2) (h3 : ((z1201 + z1231) + z1245) ≤ p2) (h4 : z1262 = z1245) (h5 : 3 * z1443 ≤ (z1201 + z1231)) (h6 : p2 ≤ f_size) (h7 : 0 ≤ f_c ∧ f_c ≤ 400) (h8 : 0 ≤ f_size ∧ f_size ≤ 1000) (h9 : 3 ≤ p2 ∧ p2 ≤ 1000) (h10 : 0 ≤ z1201 ∧ z1201 ≤ 997) (h11 : 3 ≤ z1231 ∧ z1231 ≤ 4) (h12 : 0 ≤ z1245 ∧ z1245 ≤ 997) (h13 : 0 ≤ z1262 ∧ z1262 ≤ 997) (h14 : 0 ≤ z1443 ∧ z1443 ≤ 400) : 0 ≤ ((z1201 + z1231) + z1262) ∧ ((z1201 + z1231) + z1262) ≤ 1002 := by omega
theorem vc_X12_attributes_u_17 {f_c f_size p2 z1201 z1231 z1245 z1262 z1443 : Int} (h0 : 3 * f_c ≤ z1201) (h1 : z1201 < p2) (h2 : (z1201 + z1231) ≤ p2) (h3 : ((z1201 + z1231) + z1245) ≤ p2) (h4 : z1262 = z1245) (h5 : 3 * z1443 ≤ (z1201 + z1231)) (h6 : p2 ≤ f_size) (h7 : 0 ≤ f_c ∧ f_c ≤ 400) (h8 : 0 ≤ f_size ∧ f_size ≤ 1000) (h9 : 3 ≤ p2 ∧ p2 ≤ 1000) (h10 : 0 ≤ z1201 ∧ z1201 ≤ 997) (h11 : 3 ≤ z1231 ∧ z1231 ≤ 4) (h12 : 0 ≤ z1245 ∧ z1245 ≤ 997) (h13 : 0 ≤ z1262 ∧ z1262 ≤ 997) (h14 : 0 ≤ z1443 ∧ z1443 ≤ 400) : 3 * z1443 ≤ ((z1201 + z1231) + z1262) := by omega
theorem vc_X12_attributes_u_18 {N f_c f_size p2 z1201 z1231 z1245 z1262 z1443 : Int} (h0 : (1003 - z1201) < N + 1) (h1 : 3 * f_c ≤ z1201) (h2 : z1201 < p2) (h3 : (z1201 + z1231) ≤ p2) (h4 : ((z1201 + z1231) + z1245) ≤ p2) (h5 : z1262 = z1245) (h6 : 3 * z1443 ≤ (z1201 + z1231)) (h7 : p2 ≤ f_size) (h8 : 0 ≤ f_c ∧ f_c ≤ 400) (h9 : 0 ≤ f_size ∧ f_size ≤ 1000) (h10 : 3 ≤ p2 ∧ p2 ≤ 1000) (h11 : 0 ≤ z1201 ∧ z1201 ≤ 997) (h12 : 3 ≤ z1231 ∧ z1231 ≤ 4) (h13 : 0 ≤ z1245 ∧ z1245 ≤ 997) (h14 : 0 ≤ z1262 ∧ z1262 ≤ 997) (h15 : 0 ≤ z1443 ∧ z1443 ≤ 400) : (1003 - ((z1201 + z1231) + z1262)) < N := by omega
theorem vc_X12_attributes_u_20 {z1369 : Int} (h0 : z1369 < 0) (h1 : (-1) ≤ z1369 ∧ z1369 ≤ 192) : (-1) ≤ z1369 ∧ z1369 ≤ (-1) := by omega
theorem vc_X12_attributes_u_22 {f_c f_size p2 z1201 z1231 z1245 z1262 : Int} (h0 : 3 * f_c ≤ z1201) (h1 : z1201 < p2) (h2 : (z1201 + z1231) ≤ p2) (h3 : ((z1201 + z1231) + z1245) ≤ p2) (h4 : p2 ≤ f_size) (h5 : z1262 = z1245) (h6 : 0 ≤ f_c ∧ f_c ≤ 400) (h7 : 0 ≤ f_size ∧ f_size ≤ 1000) (h8 : 3 ≤ p2 ∧ p2 ≤ 1000) (h9 : 0 ≤ z1201 ∧ z1201 ≤ 997) (h10 : 3 ≤ z1231 ∧ z1231 ≤ 4) (h11 : 0 ≤ z1245 ∧ z1245 ≤ 997) (h12 : 0 ≤ z1262 ∧ z1262 ≤ 997) : 3 * f_c ≤ (z1201 + z1231) := by omega
theorem vc_X12_attributes_u_24 {z1473 : Int} (h0 : z1473 = 0) (h1 : 0 ≤ z1473 ∧ z1473 ≤ 64) : 0 ≤ z1473 ∧ z1473 ≤ 0 := by omega
theorem vc_X12_attributes_u_25 {z1473 : Int} (h0 : ¬ z1473 = 0) (h1 : 0 ≤ z1473 ∧ z1473 ≤ 64) : 1 ≤ z1473 ∧ z1473 ≤ 64 := by omega
theorem vc_X12_attributes_u_26 {f_c p2 z1201 z1231 z1245 : Int} (h0 : 3 * f_c ≤ z1201) (h1 : z1201 < p2) (h2 : (z1201 + z1231) ≤ p2) (h3 : ((z1201 + z1231) + z1245) ≤ p2) (h4 : 0 ≤ f_c ∧ f_c ≤ 400) (h5 : 3 ≤ p2 ∧ p2 ≤ 1000) (h6 : 0 ≤ z1201 ∧ z1201 ≤ 997) (h7 : 3 ≤ z1231 ∧ z1231 ≤ 4) (h8 : 0 ≤ z1245 ∧ z1245 ≤ 997) : 0 ≤ f_c ∧ f_c < 400 := by omega
theorem vc_X12_attributes_u_27 {f_c p2 z1201 z1231 z1245 : Int} (h0 : 3 * f_c ≤ z1201) (h1 : z1201 < p2) (h2 : (z1201 + z1231) ≤ p2) (h3 : ((z1201 + z1231) + z1245) ≤ p2) (h4 : 0 ≤ f_c ∧ f_c ≤ 400) (h5 : 3 ≤ p2 ∧ p2 ≤ 1000) (h6 : 0 ≤ z1201 ∧ z1201 ≤ 997) (h7 : 3 ≤ z1231 ∧ z1231 ≤ 4) (h8 : 0 ≤ z1245 ∧ z1245 ≤ 997) : 0 ≤ (f_c + 1) ∧ (f_c + 1) ≤ 400 := by omega
theorem vc_X12_attributes_u_28 {f_c f_size p2 z1201 z1231 z1245 z1262 : Int} (h0 : 3 * f_c ≤ z1201) (h1 : z1201 < p2) (h2 : (z1201 + z1231) ≤ p2) (h3 : ((z1201 + z1231) + z1245) ≤ p2) (h4 : p2 ≤ f_size) (h5 : z1262 = z1245) (h6 : 0 ≤ f_c ∧ f_c ≤ 400) (h7 : 0 ≤ f_size ∧ f_size ≤ 1000) (h8 : 3 ≤ p2 ∧ p2 ≤ 1000) (h9 : 0 ≤ z1201 ∧ z1201 ≤ 997) (h10 : 3 ≤ z1231 ∧ z1231 ≤ 4) (h11 : 0 ≤ z1245 ∧ z1245 ≤ 997) (h12 : 0 ≤ z1262 ∧ z1262 ≤ 997) : 3 * (f_c + 1) ≤ (z1201 + z1231) := by omega
theorem vc_X12_attributes_u_31 {z1369 : Int} (h0 : 0 ≤ z1369) (h1 : (-1) ≤ z1369 ∧ z1369 ≤ 192) : 0 ≤ z1369 ∧ z1369 ≤ 192 := by omega
theorem vc_X12_attributes_u_32 {z1369 z1489 : Int} (h0 : z1489 = z1369) (h1 : 0 ≤ z1369) (h2 : 0 ≤ z1369 ∧ z1369 ≤ 192) (h3 : 0 ≤ z1489 ∧ z1489 ≤ 255) : 0 ≤ z1489 ∧ z1489 ≤ 192 := by omega
theorem vc_X12_attributes_u_33 {f_c f_size p2 z1201 z1231 z1245 z1262 : Int} (h0 : 3 * f_c ≤ z1201) (h1 : z1201 < p2) (h2 : (z1201 + z1231) ≤ p2) (h3 : ((z1201 + z1231) + z1245) ≤ p2) (h4 : p2 ≤ f_size) (h5 : z1262 = z1245) (h6 : 0 ≤ f_c ∧ f_c ≤ 400) (h7 : 0 ≤ f_size ∧ f_size ≤ 1000) (h8 : 3 ≤ p2 ∧ p2 ≤ 1000) (h9 : 0 ≤ z1201 ∧ z1201 ≤ 997) (h10 : 3 ≤ z1231 ∧ z1231 ≤ 4) (h11 : 0 ≤ z1245 ∧ z1245 ≤ 997) (h12 : 0 ≤ z1262 ∧ z1262 ≤ 997) : 0 ≤ (z1201 + z1231) ∧ (z1201 + z1231) ≤ 1000 := by omega
theorem vc_X12_attributes_u_34 {f_c f_size p2 z1201 z1231 z1245 z1262 : Int} (h0 : p2 ≤ f_size) (h1 : 3 * f_c ≤ z1201) (h2 : z1201 < p2) (h3 : (z1201 + z1231) ≤ p2) (h4 : ((z1201 + z1231) + z1245) ≤ p2) (h5 : z1262 = z1245) (h6 : 0 ≤ f_c ∧ f_c ≤ 400) (h7 : 0 ≤ f_size ∧ f_size ≤ 1000) (h8 : 3 ≤ p2 ∧ p2 ≤ 1000) (h9 : 0 ≤ z1201 ∧ z1201 ≤ 997) (h10 : 3 ≤ z1231 ∧ z1231 ≤ 4) (h11 : 0 ≤ z1245 ∧ z1245 ≤ 997) (h12 : 0 ≤ z1262 ∧ z1262 ≤ 997) : (z1201 + z1231) + z1262 ≤ f_size := by omega
theorem vc_X12_attributes_u_37 {z1257 : Int} (h0 : z1257 = 4) (h1 : ¬ z1257 = 1) (h2 : ¬ z1257 = 2) (h3 : 0 ≤ z1257 ∧ z1257 ≤ 255) : 4 ≤ z1257 ∧ z1257 ≤ 4 := by omega
theorem vc_X12_attributes_u_39  : (961 : Int) ≤ (963 : Int) ∧ (964 : Int) ≤ (1000 : Int) := by omega
theorem vc_X12_attributes_u_43  : (961 : Int) ≤ (964 : Int) ∧ (986 : Int) ≤ (1000 : Int) := by omega
theorem vc_X12_attributes_u_47  : (961 : Int) ≤ (962 : Int) ∧ (963 : Int) ≤ (1000 : Int) := by omega
theorem vc_X12_attributes_u_49 {z1257 : Int} (h0 : z1257 = 8) (h1 : ¬ z1257 = 1) (h2 : ¬ z1257 = 2) (h3 : ¬ z1257 = 4) (h4 : 0 ≤ z1257 ∧ z1257 ≤ 255) : 8 ≤ z1257 ∧ z1257 ≤ 8 := by omega
theorem vc_X12_attributes_u_51 {f_c f_size p2 z1201 z1231 z1245 z1262 : Int} (h0 : 3 * f_c ≤ z1201) (h1 : z1201 < p2) (h2 : (z1201 + z1231) ≤ p2) (h3 : ((z1201 + z1231) + z1245) ≤ p2) (h4 : z1262 = z1245) (h5 : p2 ≤ f_size) (h6 : 0 ≤ f_c ∧ f_c ≤ 400) (h7 : 0 ≤ f_size ∧ f_size ≤ 1000) (h8 : 3 ≤ p2 ∧ p2 ≤ 1000) (h9 : 0 ≤ z1201 ∧ z1201 ≤ 997) (h10 : 3 ≤ z1231 ∧ z1231 ≤ 4) (h11 : 0 ≤ z1245 ∧ z1245 ≤ 997) (h12 : 0 ≤ z1262 ∧ z1262 ≤ 997) : 0 ≤ ((z1201 + z1231) + z1262) ∧ ((z1201 + z1231) + z1262) ≤ 1002 := by omega
theorem vc_X12_attributes_u_52 {f_c f_size p2 z1201 z1231 z1245 z1262 : Int} (h0 : 3 * f_c ≤ z1201) (h1 : z1201 < p2) (h2 : (z1201 + z1231) ≤ p2) (h3 : ((z1201 + z1231) + z1245) ≤ p2) (h4 : z1262 = z1245) (h5 : p2 ≤ f_size) (h6 : 0 ≤ f_c ∧ f_c ≤ 400) (h7 : 0 ≤ f_size ∧ f_size ≤ 1000) (h8 : 3 ≤ p2 ∧ p2 ≤ 1000) (h9 : 0 ≤ z1201 ∧ z1201 ≤ 997) (h10 : 3 ≤ z1231 ∧ z1231 ≤ 4) (h11 : 0 ≤ z1245 ∧ z1245 ≤ 997) (h12 : 0 ≤ z1262 ∧ z1262 ≤ 997) : 3 * f_c ≤ ((z1201 + z1231) + z1262) := by omega
theorem vc_X12_attributes_u_53 {N f_c f_size p2 z1201 z1231 z1245 z1262 : Int} (h0 : (1003 - z1201) < N + 1) (h1 : 3 * f_c ≤ z1201) (h2 : z1201 < p2) (h3 : (z1201 + z1231) ≤ p2) (h4 : ((z1201 + z1231) + z1245) ≤ p2) (h5 : z1262 = z1245) (h6 : p2 ≤ f_size) (h7 : 0 ≤ f_c ∧ f_c ≤ 400) (h8 : 0 ≤ f_size ∧ f_size ≤ 1000) (h9 : 3 ≤ p2 ∧ p2 ≤ 1000) (h10 : 0 ≤ z1201 ∧ z1201 ≤ 997) (h11 : 3 ≤ z1231 ∧ z1231 ≤ 4) (h12 : 0 ≤ z1245 ∧ z1245 ≤ 997) (h13 : 0 ≤ z1262 ∧ z1262 ≤ 997) : (1003 - ((z1201 + z1231) + z1262)) < N := by omega
theorem vc_X12_attributes_u_58 {f_c0 p1 : Int} (h0 : 3 * f_c0 ≤ p1) (h1 : 0 ≤ f_c0 ∧ f_c0 ≤ 400) (h2 : 0 ≤ p1 ∧ p1 ≤ 1002) : 3 * f_c0 ≤ p1 := by omega
theorem vc_X12_attributes_u_59 {f_c0 p1 : Int} (h0 : 3 * f_c0 ≤ p1) (h1 : 0 ≤ f_c0 ∧ f_c0 ≤ 400) (h2 : 0 ≤ p1 ∧ p1 ≤ 1002) : (1003 - p1) < ((1004 : Nat) : Int) := by omega
set_option maxRecDepth 4000 in
set_option maxHeartbeats 4000000 in
theorem c_X12_attributes_u {l : Launch} {D : va_G} {c : Nat → ClassId} {H0 : Heap} {sa : Nat × Nat × (Nat → Int32)} {w : mW} {μ : mM} (hw : mWF w) (hT : mT w μ) {p1 : Int} (hp1 : 0 ≤ p1 ∧ p1 ≤ 1002) {p2 : Int} (hp2 : 0 ≤ p2 ∧ p2 ≤ 1000) {f_size : Int} (q_f_size : μ 106 1 = f_size) {f_c0 : Int} (q_f_c0 : μ 106 93 = f_c0) (hq0 : p2 ≤ f_size) (hq1 : 3 * f_c0 ≤ p1) : sC (gG l D c H0 sa) mX12_attributes 4 0 0 [.ref 106, iv p1, iv p2] (mk w μ) (qV w [106093, 106098, 106099, 106101, 126999, 170999, 171999, 172999, 173999] μ (fun μ1 => mG [(961, 1000)] μ μ1 ∧ True)) := by
  refine sC.of rfl (by decide) (le_t rfl) ?_
  have ht_f_size : (0 ≤ f_size ∧ f_size ≤ 1000) := by rw [← q_f_size]; exact hT 106 106 (A_106 hw) 1
  have ht_f_c0 : (0 ≤ f_c0 ∧ f_c0 ≤ 400) := by rw [← q_f_c0]; exact hT 106 106 (A_106 hw) 93
  refine mr_lvE (lv' := [(0, .ref 106), (1, iv p1), (2, iv p2)]) rfl ?_
  refine mr_iload_n (pc := 0) (z := p1) dX12_attributes_0 rfl rfl ?_
  refine mr_istore_n (pc := 1) (lv' := [(3, iv p1), (0, .ref 106), (1, iv p1), (2, iv p2)]) dX12_attributes_1 rfl (by decide) rfl ?_
  have L1203 : ∀ (nL1203 : Nat) (z1201 : Int) (μ1202 : mM) (f_c : Int), mT w μ1202 → mF [106093, 106098, 106099, 106101, 126999, 170999, 171999, 172999, 173999] w μ μ1202 → mG [(961, 1000)] μ μ1202 → μ1202 106 (93) = f_c → (0 ≤ z1201 ∧ z1201 ≤ 1002) → (3 * f_c ≤ z1201) → (1003 - z1201) < (nL1203 : Int) → sV (gG l D c H0 sa) mX12_attributes (sRm 4 0 0) (sZ (gG l D c H0 sa) 0 0 (qV w [106093, 106098, 106099, 106101, 126999, 170999, 171999, 172999, 173999] μ (fun μ1 => mG [(961, 1000)] μ μ1 ∧ True))) 2 [(0, .ref 106), (2, iv p2), (3, iv z1201)] [] (mk w μ1202) 0 0 := by
    intro nL1203
    induction nL1203 with
    | zero => intro z1201 μ1202 f_c T1205 F1206 G1207 q1210 h1204 h1208 h1209; exact ((vc_X12_attributes_u_1 h1209 h1208 h1204)).elim
    | succ nL1203 ih1211 =>
      intro z1201 μ1202 f_c T1205 F1206 G1207 q1210 h1204 h1208 h1209
      have h1212 : (0 ≤ f_c ∧ f_c ≤ 400) := by rw [← q1210]; exact T1205 106 106 (A_106 hw) (93)
      refine mr_iload_n (pc := 2) (z := z1201) dX12_attributes_2 rfl rfl ?_
      refine mr_iload_n (pc := 3) (z := p2) dX12_attributes_3 rfl rfl ?_
      refine mr_icmp_ge (pc := 4) (tgt := 345) dX12_attributes_4 (by decide) (r32 h1204 rfl) (r32 hp2 rfl) (fun h1213 => ?_) (fun h1213 => ?_)
      · exact mr_vret dX12_attributes_345 rfl (le_t rfl) (le_t rfl) T1205 (mF.call mF.refl F1206 rfl) ⟨(mG.call mG.refl G1207 (List.forall_mem_cons.mpr ⟨⟨_, List.mem_cons_self, vc_X12_marksRight_f_4⟩, (fun _ h => absurd h List.not_mem_nil)⟩)), trivial⟩
      have h1214 : 0 ≤ z1201 ∧ z1201 ≤ 999 := (vc_X12_attributes_u_3 h1213 hq0 h1208 h1212 ht_f_size hp2 h1204)
      have h1215 : 1 ≤ p2 ∧ p2 ≤ 1000 := (vc_X12_attributes_u_4 h1213 hq0 h1208 h1212 ht_f_size hp2 h1214)
      refine sv_aload_n (pc := 7) dX12_attributes_7 rfl rfl ?_
      refine mr_iload_n (pc := 8) (z := z1201) dX12_attributes_8 rfl rfl ?_
      refine mr_cVP (pc := 9) (c_X12_byteAt_f hw T1205 (rW (c := 0) (d := 2147483647) h1214 rfl) (F1206.f (A_106 hw) rfl q_f_size) (vc_X12_attributes_u_5 hq0 h1208 h1213 h1212 ht_f_size h1215 h1214)) (gOk _ _ _ _ _) dX12_attributes_9 (tX12_byteAt _ _ _ _ _) ⟨wV_X12_byteAt, wL_X12_byteAt⟩ wM_X12_227 (gCX12 _ _ _ _ _) rfl (A_106 hw) rfl ⟨le_t rfl, le_t rfl⟩ ⟨le_t rfl, le_t rfl⟩ rfl (le_t rfl) fun z1220 h1219 => ?_
      refine mr_bipush (pc := 12) (z := 16) dX12_attributes_12 (by decide) ?_
      refine mr_iand (pc := 14) (x := z1220) (y := 16) dX12_attributes_14 ?_
      refine mr_gen (P := fun z => 0 ≤ z ∧ z ≤ 16) (rAndR (rR (x := 16)) rfl) fun z1221 q1222 h1223 => ?_
      have J1228 : ∀ (z1226 : Int), ((0 ≤ z1226 ∧ z1226 ≤ 1)) → sV (gG l D c H0 sa) mX12_attributes (sRm 4 0 0) (sZ (gG l D c H0 sa) 0 0 (qV w [106093, 106098, 106099, 106101, 126999, 170999, 171999, 172999, 173999] μ (fun μ1 => mG [(961, 1000)] μ μ1 ∧ True))) 23 [(0, .ref 106), (2, iv p2), (3, iv z1201)] [iv z1226] (mk w μ1202) 0 0 := by
        intro z1226 h1227
        refine mr_istore (pc := 23) (lv' := [(4, iv z1226), (0, .ref 106), (2, iv p2), (3, iv z1201)]) dX12_attributes_23 (by decide) rfl ?_
        refine mr_iload (pc := 25) (z := z1226) dX12_attributes_25 rfl ?_
        have J1233 : ∀ (z1231 : Int), ((3 ≤ z1231 ∧ z1231 ≤ 4)) → sV (gG l D c H0 sa) mX12_attributes (sRm 4 0 0) (sZ (gG l D c H0 sa) 0 0 (qV w [106093, 106098, 106099, 106101, 126999, 170999, 171999, 172999, 173999] μ (fun μ1 => mG [(961, 1000)] μ μ1 ∧ True))) 35 [(0, .ref 106), (2, iv p2), (3, iv z1201)] [iv z1231] (mk w μ1202) 0 0 := by
          intro z1231 h1232
          refine mr_istore (pc := 35) (lv' := [(5, iv z1231), (0, .ref 106), (2, iv p2), (3, iv z1201)]) dX12_attributes_35 (by decide) rfl ?_
          refine mr_iload_n (pc := 37) (z := z1201) dX12_attributes_37 rfl rfl ?_
          refine mr_iload (pc := 38) (z := z1231) dX12_attributes_38 rfl ?_
          refine mr_iadd (pc := 40) (x := z1201) (y := z1231) dX12_attributes_40 ?_
          refine mr_iload_n (pc := 41) (z := p2) dX12_attributes_41 rfl rfl ?_
          refine mr_icmp_gt (pc := 42) (tgt := 65) dX12_attributes_42 (by decide) (r32 (rAdd (e := 3) (f := 1003) h1214 h1232 rfl) rfl) (r32 h1215 rfl) (fun h1234 => ?_) (fun h1234 => ?_)
          · refine sv_aload_n (pc := 65) dX12_attributes_65 rfl rfl ?_
            refine mr_iconst (pc := 66) (z := 2) dX12_attributes_66 ?_
            refine mr_iload_n (pc := 67) (z := z1201) dX12_attributes_67 rfl rfl ?_
            refine mr_cVV (pc := 68) (c_X12_fails hw T1205 (rW (c := 0) (d := 3) (rR (x := 2)) rfl) (rW (c := (-2147483648)) (d := 2147483647) h1214 rfl)) (gOk _ _ _ _ _) dX12_attributes_68 (tX12_fails _ _ _ _ _) ⟨wV_X12_fails, wL_X12_fails⟩ wM_X12_620 (gCX12 _ _ _ _ _) rfl (A_106 hw) rfl ⟨le_t rfl, le_t rfl⟩ ⟨le_t rfl, le_t rfl⟩ rfl (le_t rfl) fun μ1235 T1236 F1237 h1238 => ?_
            exact mr_vret dX12_attributes_71 rfl (le_t rfl) (le_t rfl) T1236 (mF.call (mF.call mF.refl F1206 rfl) F1237 rfl) ⟨(mG.fr (mG.call mG.refl G1207 (List.forall_mem_cons.mpr ⟨⟨_, List.mem_cons_self, vc_X12_marksRight_f_4⟩, (fun _ h => absurd h List.not_mem_nil)⟩)) F1237 (A_126 hw) rfl), trivial⟩
          have h1239 : 0 ≤ z1201 ∧ z1201 ≤ 997 := (vc_X12_attributes_u_6 h1234 hq0 h1208 h1213 h1212 ht_f_size h1215 h1214 h1232)
          have h1240 : 3 ≤ p2 ∧ p2 ≤ 1000 := (vc_X12_attributes_u_7 h1234 hq0 h1208 h1213 h1212 ht_f_size h1215 h1239 h1232)
          refine mr_iload_n (pc := 45) (z := z1201) dX12_attributes_45 rfl rfl ?_
          refine mr_iload (pc := 46) (z := z1231) dX12_attributes_46 rfl ?_
          refine mr_iadd (pc := 48) (x := z1201) (y := z1231) dX12_attributes_48 ?_
          refine sv_aload_n (pc := 49) dX12_attributes_49 rfl rfl ?_
          refine mr_iload_n (pc := 50) (z := z1201) dX12_attributes_50 rfl rfl ?_
          refine mr_iconst (pc := 51) (z := 2) dX12_attributes_51 ?_
          refine mr_iadd (pc := 52) (x := z1201) (y := 2) dX12_attributes_52 ?_
          refine mr_iload (pc := 53) (z := z1231) dX12_attributes_53 rfl ?_
          refine mr_iconst (pc := 55) (z := 2) dX12_attributes_55 ?_
          refine mr_isub (pc := 56) (x := z1231) (y := 2) dX12_attributes_56 ?_
          refine mr_cVP (pc := 57) (c_X12_number_f2 hw T1205 (rW (c := 0) (d := 1000) (rAdd (e := 2) (f := 999) h1239 (rR (x := 2)) rfl) rfl) (rW (c := 0) (d := 2) (rSub (e := 1) (f := 2) h1232 (rR (x := 2)) rfl) rfl) (F1206.f (A_106 hw) rfl q_f_size) (vc_X12_attributes_u_8 hq0 h1208 h1213 h1234 h1212 ht_f_size h1240 h1239 h1232)) (gOk _ _ _ _ _) dX12_attributes_57 (tX12_number _ _ _ _ _) ⟨wV_X12_number, wL_X12_number⟩ wM_X12_623 (gCX12 _ _ _ _ _) rfl (A_106 hw) rfl ⟨le_t rfl, le_t rfl⟩ ⟨le_t rfl, le_t rfl⟩ rfl (le_t rfl) fun z1245 h1244 => ?_
          refine mr_iadd (pc := 60) (x := (z1201 + z1231)) (y := z1245) dX12_attributes_60 ?_
          refine mr_iload_n (pc := 61) (z := p2) dX12_attributes_61 rfl rfl ?_
          refine mr_icmp_le (pc := 62) (tgt := 72) dX12_attributes_62 (by decide) (r32 (rAdd (e := 3) (f := 66536) (rAdd (e := 3) (f := 1001) h1239 h1232 rfl) h1244.1 rfl) rfl) (r32 h1240 rfl) (fun h1246 => ?_) (fun h1246 => ?_)
          · have h1247 : 0 ≤ z1245 ∧ z1245 ≤ 997 := (vc_X12_attributes_u_9 h1246 hq0 h1208 h1213 h1234 h1212 ht_f_size h1240 h1239 h1232 h1244.1)
            refine sv_aload_n (pc := 72) dX12_attributes_72 rfl rfl ?_
            refine mr_iload_n (pc := 73) (z := z1201) dX12_attributes_73 rfl rfl ?_
            refine mr_cVP (pc := 74) (c_X12_byteAt_f hw T1205 (rW (c := 0) (d := 2147483647) h1239 rfl) (F1206.f (A_106 hw) rfl q_f_size) (vc_X12_attributes_u_10 hq0 h1208 h1213 h1234 h1246 h1212 ht_f_size h1240 h1239 h1232 h1247)) (gOk _ _ _ _ _) dX12_attributes_74 (tX12_byteAt _ _ _ _ _) ⟨wV_X12_byteAt, wL_X12_byteAt⟩ wM_X12_227 (gCX12 _ _ _ _ _) rfl (A_106 hw) rfl ⟨le_t rfl, le_t rfl⟩ ⟨le_t rfl, le_t rfl⟩ rfl (le_t rfl) fun z1252 h1251 => ?_
            refine mr_istore (pc := 77) (lv' := [(6, iv z1252), (5, iv z1231), (0, .ref 106), (2, iv p2), (3, iv z1201)]) dX12_attributes_77 (by decide) rfl ?_
            refine sv_aload_n (pc := 79) dX12_attributes_79 rfl rfl ?_
            refine mr_iload_n (pc := 80) (z := z1201) dX12_attributes_80 rfl rfl ?_
            refine mr_iconst (pc := 81) (z := 1) dX12_attributes_81 ?_
            refine mr_iadd (pc := 82) (x := z1201) (y := 1) dX12_attributes_82 ?_
            refine mr_cVP (pc := 83) (c_X12_byteAt_f hw T1205 (rW (c := 0) (d := 2147483647) (rAdd (e := 1) (f := 998) h1239 (rR (x := 1)) rfl) rfl) (F1206.f (A_106 hw) rfl q_f_size) (vc_X12_attributes_u_11 hq0 h1208 h1213 h1234 h1246 h1212 ht_f_size h1240 h1239 h1232 h1247)) (gOk _ _ _ _ _) dX12_attributes_83 (tX12_byteAt _ _ _ _ _) ⟨wV_X12_byteAt, wL_X12_byteAt⟩ wM_X12_227 (gCX12 _ _ _ _ _) rfl (A_106 hw) rfl ⟨le_t rfl, le_t rfl⟩ ⟨le_t rfl, le_t rfl⟩ rfl (le_t rfl) fun z1257 h1256 => ?_
            refine mr_istore (pc := 86) (lv' := [(7, iv z1257), (6, iv z1252), (5, iv z1231), (0, .ref 106), (2, iv p2), (3, iv z1201)]) dX12_attributes_86 (by decide) rfl ?_
            refine sv_aload_n (pc := 88) dX12_attributes_88 rfl rfl ?_
            refine mr_iload_n (pc := 89) (z := z1201) dX12_attributes_89 rfl rfl ?_
            refine mr_iconst (pc := 90) (z := 2) dX12_attributes_90 ?_
            refine mr_iadd (pc := 91) (x := z1201) (y := 2) dX12_attributes_91 ?_
            refine mr_iload (pc := 92) (z := z1231) dX12_attributes_92 rfl ?_
            refine mr_iconst (pc := 94) (z := 2) dX12_attributes_94 ?_
            refine mr_isub (pc := 95) (x := z1231) (y := 2) dX12_attributes_95 ?_
            refine mr_cVP (pc := 96) (c_X12_number_f2 hw T1205 (rW (c := 0) (d := 1000) (rAdd (e := 2) (f := 999) h1239 (rR (x := 2)) rfl) rfl) (rW (c := 0) (d := 2) (rSub (e := 1) (f := 2) h1232 (rR (x := 2)) rfl) rfl) (F1206.f (A_106 hw) rfl q_f_size) (vc_X12_attributes_u_12 hq0 h1208 h1213 h1234 h1246 h1212 ht_f_size h1240 h1239 h1232 h1247)) (gOk _ _ _ _ _) dX12_attributes_96 (tX12_number _ _ _ _ _) ⟨wV_X12_number, wL_X12_number⟩ wM_X12_623 (gCX12 _ _ _ _ _) rfl (A_106 hw) rfl ⟨le_t rfl, le_t rfl⟩ ⟨le_t rfl, le_t rfl⟩ rfl (le_t rfl) fun z1262 h1261 => ?_
            have h1263 : 0 ≤ z1262 ∧ z1262 ≤ 997 := (vc_X12_attributes_u_13 (h1261.2.1.trans h1244.2.1.symm) h1246 h1240 h1239 h1232 h1247 h1261.1)
            refine mr_istore (pc := 99) (lv' := [(8, iv z1262), (7, iv z1257), (6, iv z1252), (5, iv z1231), (0, .ref 106), (2, iv p2), (3, iv z1201)]) dX12_attributes_99 (by decide) rfl ?_
            refine mr_iload_n (pc := 101) (z := z1201) dX12_attributes_101 rfl rfl ?_
            refine mr_iload (pc := 102) (z := z1231) dX12_attributes_102 rfl ?_
            refine mr_iadd (pc := 104) (x := z1201) (y := z1231) dX12_attributes_104 ?_
            refine mr_istore (pc := 105) (lv' := [(9, iv (z1201 + z1231)), (8, iv z1262), (7, iv z1257), (6, iv z1252), (5, iv z1231), (0, .ref 106), (2, iv p2), (3, iv z1201)]) dX12_attributes_105 (by decide) rfl ?_
            refine sv_aload_n (pc := 107) dX12_attributes_107 rfl rfl ?_
            refine gf_X12_94 (pc := 108) dX12_attributes_108 wF_X12_475 (A_106 hw) T1205 ?_
            refine mr_iload (pc := 111) (z := z1257) dX12_attributes_111 rfl ?_
            refine la_171 (pc := 113) dX12_attributes_113 (A_171 hw) T1205 (rIx (n := 256) h1256.1 rfl) fun z1264 q1265 h1266 => ?_
            refine mr_if_eq (pc := 114) (tgt := 126) dX12_attributes_114 (by decide) (r32 h1266 rfl) (fun h1360 => ?_) (fun h1360 => ?_)
            · have h1361 : 0 ≤ z1264 ∧ z1264 ≤ 0 := (vc_X12_ring_22 h1360 h1266)
              refine sv_aload_n (pc := 126) dX12_attributes_126 rfl rfl ?_
              refine gf_X12_94 (pc := 127) dX12_attributes_127 wF_X12_475 (A_106 hw) T1205 ?_
              refine mr_iload (pc := 130) (z := z1257) dX12_attributes_130 rfl ?_
              refine mr_iconst (pc := 132) (z := 1) dX12_attributes_132 ?_
              refine ss_171 (pc := 133) dX12_attributes_133 (A_171 hw) T1205 (rIx (n := 256) h1256.1 rfl) (rW (c := 0) (d := 1) (rR (x := 1)) rfl) fun μ1362 u1363 T1364 => ?_
              refine mr_iload (pc := 134) (z := z1257) dX12_attributes_134 rfl ?_
              refine mr_iconst (pc := 136) (z := 1) dX12_attributes_136 ?_
              have J1371 : ∀ (z1369 : Int), (((-1) ≤ z1369 ∧ z1369 ≤ 192)) → sV (gG l D c H0 sa) mX12_attributes (sRm 4 0 0) (sZ (gG l D c H0 sa) 0 0 (qV w [106093, 106098, 106099, 106101, 126999, 170999, 171999, 172999, 173999] μ (fun μ1 => mG [(961, 1000)] μ μ1 ∧ True))) 177 [(0, .ref 106), (2, iv p2), (3, iv z1201), (6, iv z1252), (7, iv z1257), (8, iv z1262), (9, iv (z1201 + z1231))] [iv z1369] (mk w μ1362) 0 0 := by
                intro z1369 h1370
                refine mr_istore (pc := 177) (lv' := [(10, iv z1369), (0, .ref 106), (2, iv p2), (3, iv z1201), (6, iv z1252), (7, iv z1257), (8, iv z1262), (9, iv (z1201 + z1231))]) dX12_attributes_177 (by decide) rfl ?_
                refine mr_iload (pc := 179) (z := z1369) dX12_attributes_179 rfl ?_
                have J1442 : ∀ (z1435 : Int) (μ1437 : mM), (mT w μ1437) → (mF [106093, 106098, 106099, 106101, 126999, 170999, 173999] w μ1362 μ1437) → (mG [(961, 1000)] μ1362 μ1437) → ((0 ≤ z1435 ∧ z1435 ≤ 1)) → ((3 * μ1437 106 (93) ≤ (z1201 + z1231))) → sV (gG l D c H0 sa) mX12_attributes (sRm 4 0 0) (sZ (gG l D c H0 sa) 0 0 (qV w [106093, 106098, 106099, 106101, 126999, 170999, 171999, 172999, 173999] μ (fun μ1 => mG [(961, 1000)] μ μ1 ∧ True))) 325 [(0, .ref 106), (2, iv p2), (3, iv z1201), (8, iv z1262), (9, iv (z1201 + z1231)), (11, iv z1435)] [] (mk w μ1437) 0 0 := by
                  intro z1435 μ1437 T1438 F1439 G1440 h1436 h1441
                  obtain ⟨z1443, q1444⟩ : ∃ z, μ1437 106 93 = z := ⟨_, rfl⟩
                  have h1445 : (0 ≤ z1443 ∧ z1443 ≤ 400) := by rw [← q1444]; exact T1438 106 106 (A_106 hw) 93
                  have h1446 : 3 * z1443 ≤ (z1201 + z1231) := q1444 ▸ h1441
                  refine mr_iload (pc := 325) (z := z1435) dX12_attributes_325 rfl ?_
                  refine mr_if_ne (pc := 327) (tgt := 336) dX12_attributes_327 (by decide) (r32 h1436 rfl) (fun h1453 => ?_) (fun h1453 => ?_)
                  · have h1454 : 1 ≤ z1435 ∧ z1435 ≤ 1 := (vc_X12_ring_24 h1453 h1436)
                    refine mr_iload (pc := 336) (z := (z1201 + z1231)) dX12_attributes_336 rfl ?_
                    refine mr_iload (pc := 338) (z := z1262) dX12_attributes_338 rfl ?_
                    refine mr_iadd (pc := 340) (x := (z1201 + z1231)) (y := z1262) dX12_attributes_340 ?_
                    refine mr_istore_n (pc := 341) (lv' := [(3, iv ((z1201 + z1231) + z1262)), (0, .ref 106), (2, iv p2), (8, iv z1262), (9, iv (z1201 + z1231)), (11, iv z1435)]) dX12_attributes_341 rfl (by decide) rfl ?_
                    refine sv_goto (pc := 342) (tgt := 2) dX12_attributes_342 (by decide) ?_
                    refine mr_lvS (lv' := [(0, .ref 106), (2, iv p2), (3, iv ((z1201 + z1231) + z1262))]) (List.forall_mem_cons.mpr ⟨rfl, List.forall_mem_cons.mpr ⟨rfl, List.forall_mem_cons.mpr ⟨rfl, fun _ h => absurd h List.not_mem_nil⟩⟩⟩) ?_
                    exact ih1211 ((z1201 + z1231) + z1262) μ1437 z1443 T1438 (mF.call (mF.up (mF.call mF.refl F1206 rfl) (A_171 hw) u1363 rfl) F1439 rfl) (mG.call (mG.upO (mG.call mG.refl G1207 (List.forall_mem_cons.mpr ⟨⟨_, List.mem_cons_self, vc_X12_marksRight_f_4⟩, (fun _ h => absurd h List.not_mem_nil)⟩)) u1363 rfl) G1440 (List.forall_mem_cons.mpr ⟨⟨_, List.mem_cons_self, vc_X12_marksRight_f_4⟩, (fun _ h => absurd h List.not_mem_nil)⟩)) q1444 (vc_X12_attributes_u_16 h1208 h1213 h1234 h1246 (h1261.2.1.trans h1244.2.1.symm) h1446 hq0 h1212 ht_f_size h1240 h1239 h1232 h1247 h1263 h1445) (vc_X12_attributes_u_17 h1208 h1213 h1234 h1246 (h1261.2.1.trans h1244.2.1.symm) h1446 hq0 h1212 ht_f_size h1240 h1239 h1232 h1247 h1263 h1445) (vc_X12_attributes_u_18 (nS h1209) h1208 h1213 h1234 h1246 (h1261.2.1.trans h1244.2.1.symm) h1446 hq0 h1212 ht_f_size h1240 h1239 h1232 h1247 h1263 h1445)
                  have h1455 : 0 ≤ z1435 ∧ z1435 ≤ 0 := (vc_X12_ring_22 h1453 h1436)
                  refine sv_aload_n (pc := 330) dX12_attributes_330 rfl rfl ?_
                  refine mr_iconst (pc := 331) (z := 2) dX12_attributes_331 ?_
                  refine mr_iload_n (pc := 332) (z := z1201) dX12_attributes_332 rfl rfl ?_
                  refine mr_cVV (pc := 333) (c_X12_fails hw T1438 (rW (c := 0) (d := 3) (rR (x := 2)) rfl) (rW (c := (-2147483648)) (d := 2147483647) h1239 rfl)) (gOk _ _ _ _ _) dX12_attributes_333 (tX12_fails _ _ _ _ _) ⟨wV_X12_fails, wL_X12_fails⟩ wM_X12_620 (gCX12 _ _ _ _ _) rfl (A_106 hw) rfl ⟨le_t rfl, le_t rfl⟩ ⟨le_t rfl, le_t rfl⟩ rfl (le_t rfl) fun μ1456 T1457 F1458 h1459 => ?_
                  refine mr_iload (pc := 336) (z := (z1201 + z1231)) dX12_attributes_336 rfl ?_
                  refine mr_iload (pc := 338) (z := z1262) dX12_attributes_338 rfl ?_
                  refine mr_iadd (pc := 340) (x := (z1201 + z1231)) (y := z1262) dX12_attributes_340 ?_
                  refine mr_istore_n (pc := 341) (lv' := [(3, iv ((z1201 + z1231) + z1262)), (0, .ref 106), (2, iv p2), (8, iv z1262), (9, iv (z1201 + z1231)), (11, iv z1435)]) dX12_attributes_341 rfl (by decide) rfl ?_
                  refine sv_goto (pc := 342) (tgt := 2) dX12_attributes_342 (by decide) ?_
                  refine mr_lvS (lv' := [(0, .ref 106), (2, iv p2), (3, iv ((z1201 + z1231) + z1262))]) (List.forall_mem_cons.mpr ⟨rfl, List.forall_mem_cons.mpr ⟨rfl, List.forall_mem_cons.mpr ⟨rfl, fun _ h => absurd h List.not_mem_nil⟩⟩⟩) ?_
                  exact ih1211 ((z1201 + z1231) + z1262) μ1456 z1443 T1457 (mF.call (mF.call (mF.up (mF.call mF.refl F1206 rfl) (A_171 hw) u1363 rfl) F1439 rfl) F1458 rfl) (mG.fr (mG.call (mG.upO (mG.call mG.refl G1207 (List.forall_mem_cons.mpr ⟨⟨_, List.mem_cons_self, vc_X12_marksRight_f_4⟩, (fun _ h => absurd h List.not_mem_nil)⟩)) u1363 rfl) G1440 (List.forall_mem_cons.mpr ⟨⟨_, List.mem_cons_self, vc_X12_marksRight_f_4⟩, (fun _ h => absurd h List.not_mem_nil)⟩)) F1458 (A_126 hw) rfl) (F1458.f (A_106 hw) rfl q1444) (vc_X12_attributes_u_16 h1208 h1213 h1234 h1246 (h1261.2.1.trans h1244.2.1.symm) h1446 hq0 h1212 ht_f_size h1240 h1239 h1232 h1247 h1263 h1445) (vc_X12_attributes_u_17 h1208 h1213 h1234 h1246 (h1261.2.1.trans h1244.2.1.symm) h1446 hq0 h1212 ht_f_size h1240 h1239 h1232 h1247 h1263 h1445) (vc_X12_attributes_u_18 (nS h1209) h1208 h1213 h1234 h1246 (h1261.2.1.trans h1244.2.1.symm) h1446 hq0 h1212 ht_f_size h1240 h1239 h1232 h1247 h1263 h1445)
                refine mr_if_lt (pc := 181) (tgt := 275) dX12_attributes_181 (by decide) (r32 h1370 rfl) (fun h1460 => ?_) (fun h1460 => ?_)
                · have h1461 : (-1) ≤ z1369 ∧ z1369 ≤ (-1) := (vc_X12_attributes_u_20 h1460 h1370)
                  refine mr_iload (pc := 275) (z := z1252) dX12_attributes_275 rfl ?_
                  refine mr_sipush (pc := 277) (z := 128) dX12_attributes_277 (by decide) ?_
                  refine mr_iand (pc := 280) (x := z1252) (y := 128) dX12_attributes_280 ?_
                  refine mr_gen (P := fun z => 0 ≤ z ∧ z ≤ 128) (rAndR (rR (x := 128)) rfl) fun z1462 q1463 h1464 => ?_
                  have J1469 : ∀ (z1467 : Int), ((0 ≤ z1467 ∧ z1467 ≤ 1)) → sV (gG l D c H0 sa) mX12_attributes (sRm 4 0 0) (sZ (gG l D c H0 sa) 0 0 (qV w [106093, 106098, 106099, 106101, 126999, 170999, 171999, 172999, 173999] μ (fun μ1 => mG [(961, 1000)] μ μ1 ∧ True))) 289 [(0, .ref 106), (2, iv p2), (3, iv z1201), (6, iv z1252), (7, iv z1257), (8, iv z1262), (9, iv (z1201 + z1231))] [iv z1467] (mk w μ1362) 0 0 := by
                    intro z1467 h1468
                    refine mr_istore (pc := 289) (lv' := [(11, iv z1467), (0, .ref 106), (2, iv p2), (3, iv z1201), (6, iv z1252), (7, iv z1257), (8, iv z1262), (9, iv (z1201 + z1231))]) dX12_attributes_289 (by decide) rfl ?_
                    refine mr_iload (pc := 291) (z := z1467) dX12_attributes_291 rfl ?_
                    refine mr_if_eq (pc := 293) (tgt := 325) dX12_attributes_293 (by decide) (r32 h1468 rfl) (fun h1470 => ?_) (fun h1470 => ?_)
                    · have h1471 : 0 ≤ z1467 ∧ z1467 ≤ 0 := (vc_X12_ring_22 h1470 h1468)
                      refine mr_lvS (lv' := [(0, .ref 106), (2, iv p2), (3, iv z1201), (8, iv z1262), (9, iv (z1201 + z1231)), (11, iv z1467)]) (List.forall_mem_cons.mpr ⟨rfl, List.forall_mem_cons.mpr ⟨rfl, List.forall_mem_cons.mpr ⟨rfl, List.forall_mem_cons.mpr ⟨rfl, List.forall_mem_cons.mpr ⟨rfl, List.forall_mem_cons.mpr ⟨rfl, fun _ h => absurd h List.not_mem_nil⟩⟩⟩⟩⟩⟩) ?_
                      exact J1442 z1467 μ1362 T1364 mF.refl mG.refl (rW (c := 0) (d := 1) h1471 rfl) (by rw [(u1363.f (Or.inl (mAt.ne (A_171 hw) (A_106 hw) rfl)) q1210)]; exact (vc_X12_attributes_u_22 h1208 h1213 h1234 h1246 hq0 (h1261.2.1.trans h1244.2.1.symm) h1212 ht_f_size h1240 h1239 h1232 h1247 h1263))
                    have h1472 : 1 ≤ z1467 ∧ z1467 ≤ 1 := (vc_X12_ring_24 h1470 h1468)
                    refine mr_iload (pc := 296) (z := z1252) dX12_attributes_296 rfl ?_
                    refine mr_bipush (pc := 298) (z := 64) dX12_attributes_298 (by decide) ?_
                    refine mr_iand (pc := 300) (x := z1252) (y := 64) dX12_attributes_300 ?_
                    refine mr_gen (P := fun z => 0 ≤ z ∧ z ≤ 64) (rAndR (rR (x := 64)) rfl) fun z1473 q1474 h1475 => ?_
                    refine mr_if_eq (pc := 301) (tgt := 325) dX12_attributes_301 (by decide) (r32 h1475 rfl) (fun h1476 => ?_) (fun h1476 => ?_)
                    · have h1477 : 0 ≤ z1473 ∧ z1473 ≤ 0 := (vc_X12_attributes_u_24 h1476 h1475)
                      refine mr_lvS (lv' := [(0, .ref 106), (2, iv p2), (3, iv z1201), (8, iv z1262), (9, iv (z1201 + z1231)), (11, iv z1467)]) (List.forall_mem_cons.mpr ⟨rfl, List.forall_mem_cons.mpr ⟨rfl, List.forall_mem_cons.mpr ⟨rfl, List.forall_mem_cons.mpr ⟨rfl, List.forall_mem_cons.mpr ⟨rfl, List.forall_mem_cons.mpr ⟨rfl, fun _ h => absurd h List.not_mem_nil⟩⟩⟩⟩⟩⟩) ?_
                      exact J1442 z1467 μ1362 T1364 mF.refl mG.refl (rW (c := 0) (d := 1) h1472 rfl) (by rw [(u1363.f (Or.inl (mAt.ne (A_171 hw) (A_106 hw) rfl)) q1210)]; exact (vc_X12_attributes_u_22 h1208 h1213 h1234 h1246 hq0 (h1261.2.1.trans h1244.2.1.symm) h1212 ht_f_size h1240 h1239 h1232 h1247 h1263))
                    have h1478 : 1 ≤ z1473 ∧ z1473 ≤ 64 := (vc_X12_attributes_u_25 h1476 h1475)
                    refine sv_aload_n (pc := 304) dX12_attributes_304 rfl rfl ?_
                    refine gf_X12_92 (pc := 305) dX12_attributes_305 wF_X12_472 (A_106 hw) T1364 ?_
                    refine sv_aload_n (pc := 308) dX12_attributes_308 rfl rfl ?_
                    refine gk_X12_93 (pc := 309) dX12_attributes_309 wF_X12_652 (A_106 hw) (u1363.f (Or.inl (mAt.ne (A_171 hw) (A_106 hw) rfl)) q1210) ?_
                    refine mr_iload (pc := 312) (z := z1257) dX12_attributes_312 rfl ?_
                    refine ss_170 (pc := 314) dX12_attributes_314 (A_170 hw) T1364 (vc_X12_attributes_u_26 h1208 h1213 h1234 h1246 h1212 h1240 h1239 h1232 h1247) (rW (c := (-2147483648)) (d := 2147483647) h1256.1 rfl) fun μ1479 u1480 T1481 => ?_
                    refine sv_aload_n (pc := 315) dX12_attributes_315 rfl rfl ?_
                    refine sv_dup (pc := 316) dX12_attributes_316 rfl ?_
                    refine gk_X12_93 (pc := 317) dX12_attributes_317 wF_X12_652 (A_106 hw) (u1480.f (Or.inl (mAt.ne (A_170 hw) (A_106 hw) rfl)) (u1363.f (Or.inl (mAt.ne (A_171 hw) (A_106 hw) rfl)) q1210)) ?_
                    refine mr_iconst (pc := 320) (z := 1) dX12_attributes_320 ?_
                    refine mr_iadd (pc := 321) (x := f_c) (y := 1) dX12_attributes_321 ?_
                    refine pf_X12_93 (pc := 322) dX12_attributes_322 wF_X12_652 (A_106 hw) T1481 (vc_X12_attributes_u_27 h1208 h1213 h1234 h1246 h1212 h1240 h1239 h1232 h1247) fun μ1482 u1483 T1484 => ?_
                    refine mr_lvS (lv' := [(0, .ref 106), (2, iv p2), (3, iv z1201), (8, iv z1262), (9, iv (z1201 + z1231)), (11, iv z1467)]) (List.forall_mem_cons.mpr ⟨rfl, List.forall_mem_cons.mpr ⟨rfl, List.forall_mem_cons.mpr ⟨rfl, List.forall_mem_cons.mpr ⟨rfl, List.forall_mem_cons.mpr ⟨rfl, List.forall_mem_cons.mpr ⟨rfl, fun _ h => absurd h List.not_mem_nil⟩⟩⟩⟩⟩⟩) ?_
                    exact J1442 z1467 μ1482 T1484 (mF.up (mF.up mF.refl (A_170 hw) u1480 rfl) (A_106 hw) u1483 rfl) (mG.upO (mG.upO mG.refl u1480 rfl) u1483 rfl) (rW (c := 0) (d := 1) h1472 rfl) (by rw [u1483.1]; exact (vc_X12_attributes_u_28 h1208 h1213 h1234 h1246 hq0 (h1261.2.1.trans h1244.2.1.symm) h1212 ht_f_size h1240 h1239 h1232 h1247 h1263))
                  refine mr_if_eq (pc := 281) (tgt := 288) dX12_attributes_281 (by decide) (r32 h1464 rfl) (fun h1485 => ?_) (fun h1485 => ?_)
                  · have h1486 : 0 ≤ z1462 ∧ z1462 ≤ 0 := (vc_X3_readAttribute_20 h1485 h1464)
                    refine mr_iconst (pc := 288) (z := 0) dX12_attributes_288 ?_
                    refine mr_lvS (lv' := [(0, .ref 106), (2, iv p2), (3, iv z1201), (6, iv z1252), (7, iv z1257), (8, iv z1262), (9, iv (z1201 + z1231))]) (List.forall_mem_cons.mpr ⟨rfl, List.forall_mem_cons.mpr ⟨rfl, List.forall_mem_cons.mpr ⟨rfl, List.forall_mem_cons.mpr ⟨rfl, List.forall_mem_cons.mpr ⟨rfl, List.forall_mem_cons.mpr ⟨rfl, List.forall_mem_cons.mpr ⟨rfl, fun _ h => absurd h List.not_mem_nil⟩⟩⟩⟩⟩⟩⟩) ?_
                    exact J1469 0 (rW (c := 0) (d := 1) (rR (x := 0)) rfl)
                  have h1487 : 1 ≤ z1462 ∧ z1462 ≤ 128 := (vc_X3_readAttribute_21 h1485 h1464)
                  refine mr_iconst (pc := 284) (z := 1) dX12_attributes_284 ?_
                  refine sv_goto (pc := 285) (tgt := 289) dX12_attributes_285 (by decide) ?_
                  refine mr_lvS (lv' := [(0, .ref 106), (2, iv p2), (3, iv z1201), (6, iv z1252), (7, iv z1257), (8, iv z1262), (9, iv (z1201 + z1231))]) (List.forall_mem_cons.mpr ⟨rfl, List.forall_mem_cons.mpr ⟨rfl, List.forall_mem_cons.mpr ⟨rfl, List.forall_mem_cons.mpr ⟨rfl, List.forall_mem_cons.mpr ⟨rfl, List.forall_mem_cons.mpr ⟨rfl, List.forall_mem_cons.mpr ⟨rfl, fun _ h => absurd h List.not_mem_nil⟩⟩⟩⟩⟩⟩⟩) ?_
                  exact J1469 1 (rW (c := 0) (d := 1) (rR (x := 1)) rfl)
                have h1488 : 0 ≤ z1369 ∧ z1369 ≤ 192 := (vc_X12_attributes_u_31 h1460 h1370)
                refine mr_iload (pc := 184) (z := z1252) dX12_attributes_184 rfl ?_
                refine mr_bipush (pc := 186) (z := (-49)) dX12_attributes_186 (by decide) ?_
                refine mr_iand (pc := 188) (x := z1252) (y := (-49)) dX12_attributes_188 ?_
                refine mr_gen (P := fun z => 0 ≤ z ∧ z ≤ 255) (rAndL h1251.1 rfl) fun z1489 q1490 h1491 => ?_
                refine mr_iload (pc := 189) (z := z1369) dX12_attributes_189 rfl ?_
                have J1530 : ∀ (z1524 : Int) (μ1526 : mM), (mT w μ1526) → (mF [106098, 106099, 106101, 126999, 173999] w μ1362 μ1526) → (mG [(961, 1000)] μ1362 μ1526) → ((0 ≤ z1524 ∧ z1524 ≤ 1)) → sV (gG l D c H0 sa) mX12_attributes (sRm 4 0 0) (sZ (gG l D c H0 sa) 0 0 (qV w [106093, 106098, 106099, 106101, 126999, 170999, 171999, 172999, 173999] μ (fun μ1 => mG [(961, 1000)] μ μ1 ∧ True))) 270 [(0, .ref 106), (2, iv p2), (3, iv z1201), (8, iv z1262), (9, iv (z1201 + z1231))] [iv z1524] (mk w μ1526) 0 0 := by
                  intro z1524 μ1526 T1527 F1528 G1529 h1525
                  refine mr_istore (pc := 270) (lv' := [(11, iv z1524), (0, .ref 106), (2, iv p2), (3, iv z1201), (8, iv z1262), (9, iv (z1201 + z1231))]) dX12_attributes_270 (by decide) rfl ?_
                  refine sv_goto (pc := 272) (tgt := 325) dX12_attributes_272 (by decide) ?_
                  refine mr_lvS (lv' := [(0, .ref 106), (2, iv p2), (3, iv z1201), (8, iv z1262), (9, iv (z1201 + z1231)), (11, iv z1524)]) (List.forall_mem_cons.mpr ⟨rfl, List.forall_mem_cons.mpr ⟨rfl, List.forall_mem_cons.mpr ⟨rfl, List.forall_mem_cons.mpr ⟨rfl, List.forall_mem_cons.mpr ⟨rfl, List.forall_mem_cons.mpr ⟨rfl, fun _ h => absurd h List.not_mem_nil⟩⟩⟩⟩⟩⟩) ?_
                  exact J1442 z1524 μ1526 T1527 (mF.call mF.refl F1528 rfl) (mG.call mG.refl G1529 (List.forall_mem_cons.mpr ⟨⟨_, List.mem_cons_self, vc_X12_marksRight_f_4⟩, (fun _ h => absurd h List.not_mem_nil)⟩)) h1525 (by rw [(F1528.f (A_106 hw) rfl (u1363.f (Or.inl (mAt.ne (A_171 hw) (A_106 hw) rfl)) q1210))]; exact (vc_X12_attributes_u_22 h1208 h1213 h1234 h1246 hq0 (h1261.2.1.trans h1244.2.1.symm) h1212 ht_f_size h1240 h1239 h1232 h1247 h1263))
                refine mr_icmp_ne (pc := 191) (tgt := 269) dX12_attributes_191 (by decide) (r32 h1491 rfl) (r32 h1488 rfl) (fun h1531 => ?_) (fun h1531 => ?_)
                · refine mr_iconst (pc := 269) (z := 0) dX12_attributes_269 ?_
                  refine mr_lvS (lv' := [(0, .ref 106), (2, iv p2), (3, iv z1201), (8, iv z1262), (9, iv (z1201 + z1231))]) (List.forall_mem_cons.mpr ⟨rfl, List.forall_mem_cons.mpr ⟨rfl, List.forall_mem_cons.mpr ⟨rfl, List.forall_mem_cons.mpr ⟨rfl, List.forall_mem_cons.mpr ⟨rfl, fun _ h => absurd h List.not_mem_nil⟩⟩⟩⟩⟩) ?_
                  exact J1530 0 μ1362 T1364 mF.refl mG.refl (rW (c := 0) (d := 1) (rR (x := 0)) rfl)
                have h1532 : 0 ≤ z1489 ∧ z1489 ≤ 192 := (vc_X12_attributes_u_32 h1531 h1460 h1488 h1491)
                refine mr_iload (pc := 194) (z := z1257) dX12_attributes_194 rfl ?_
                refine mr_iconst (pc := 196) (z := 1) dX12_attributes_196 ?_
                refine mr_icmp_ne (pc := 197) (tgt := 214) dX12_attributes_197 (by decide) (r32 h1256.1 rfl) (r32 (rR (x := 1)) rfl) (fun h1533 => ?_) (fun h1533 => ?_)
                · refine mr_iload (pc := 214) (z := z1257) dX12_attributes_214 rfl ?_
                  refine mr_iconst (pc := 216) (z := 2) dX12_attributes_216 ?_
                  refine mr_icmp_ne (pc := 217) (tgt := 234) dX12_attributes_217 (by decide) (r32 h1256.1 rfl) (r32 (rR (x := 2)) rfl) (fun h1534 => ?_) (fun h1534 => ?_)
                  · refine mr_iload (pc := 234) (z := z1257) dX12_attributes_234 rfl ?_
                    refine mr_iconst (pc := 236) (z := 4) dX12_attributes_236 ?_
                    refine mr_icmp_ne (pc := 237) (tgt := 254) dX12_attributes_237 (by decide) (r32 h1256.1 rfl) (r32 (rR (x := 4)) rfl) (fun h1535 => ?_) (fun h1535 => ?_)
                    · refine sv_aload_n (pc := 254) dX12_attributes_254 rfl rfl ?_
                      refine mr_iload (pc := 255) (z := (z1201 + z1231)) dX12_attributes_255 rfl ?_
                      refine mr_iload (pc := 257) (z := z1262) dX12_attributes_257 rfl ?_
                      refine mr_cVI (pc := 259) (c_X12_marksRight_f hw T1364 (vc_X12_attributes_u_33 h1208 h1213 h1234 h1246 hq0 (h1261.2.1.trans h1244.2.1.symm) h1212 ht_f_size h1240 h1239 h1232 h1247 h1263) (rW (c := 0) (d := 1000) h1263 rfl) (u1363.f (Or.inl (mAt.ne (A_171 hw) (A_106 hw) rfl)) (F1206.f (A_106 hw) rfl q_f_size)) (vc_X12_attributes_u_34 hq0 h1208 h1213 h1234 h1246 (h1261.2.1.trans h1244.2.1.symm) h1212 ht_f_size h1240 h1239 h1232 h1247 h1263)) (gOk _ _ _ _ _) dX12_attributes_259 (tX12_marksRight _ _ _ _ _) ⟨wV_X12_marksRight, wL_X12_marksRight⟩ wM_X12_649 (gCX12 _ _ _ _ _) rfl (A_106 hw) rfl ⟨le_t rfl, le_t rfl⟩ ⟨le_t rfl, le_t rfl⟩ rfl (le_t rfl) fun z1540 μ1536 T1537 F1538 h1539 => ?_
                      refine mr_if_eq (pc := 262) (tgt := 269) dX12_attributes_262 (by decide) (r32 h1539.1 rfl) (fun h1541 => ?_) (fun h1541 => ?_)
                      · have h1542 : 0 ≤ z1540 ∧ z1540 ≤ 0 := (vc_X12_ring_22 h1541 h1539.1)
                        refine mr_iconst (pc := 269) (z := 0) dX12_attributes_269 ?_
                        refine mr_lvS (lv' := [(0, .ref 106), (2, iv p2), (3, iv z1201), (8, iv z1262), (9, iv (z1201 + z1231))]) (List.forall_mem_cons.mpr ⟨rfl, List.forall_mem_cons.mpr ⟨rfl, List.forall_mem_cons.mpr ⟨rfl, List.forall_mem_cons.mpr ⟨rfl, List.forall_mem_cons.mpr ⟨rfl, fun _ h => absurd h List.not_mem_nil⟩⟩⟩⟩⟩) ?_
                        exact J1530 0 μ1536 T1537 (mF.call mF.refl F1538 rfl) (mG.call mG.refl h1539.2.1 (List.forall_mem_cons.mpr ⟨⟨_, List.mem_cons_self, vc_X12_marksRight_f_4⟩, (fun _ h => absurd h List.not_mem_nil)⟩)) (rW (c := 0) (d := 1) (rR (x := 0)) rfl)
                      have h1543 : 1 ≤ z1540 ∧ z1540 ≤ 1 := (vc_X12_ring_24 h1541 h1539.1)
                      refine mr_iconst (pc := 265) (z := 1) dX12_attributes_265 ?_
                      refine sv_goto (pc := 266) (tgt := 270) dX12_attributes_266 (by decide) ?_
                      refine mr_lvS (lv' := [(0, .ref 106), (2, iv p2), (3, iv z1201), (8, iv z1262), (9, iv (z1201 + z1231))]) (List.forall_mem_cons.mpr ⟨rfl, List.forall_mem_cons.mpr ⟨rfl, List.forall_mem_cons.mpr ⟨rfl, List.forall_mem_cons.mpr ⟨rfl, List.forall_mem_cons.mpr ⟨rfl, fun _ h => absurd h List.not_mem_nil⟩⟩⟩⟩⟩) ?_
                      exact J1530 1 μ1536 T1537 (mF.call mF.refl F1538 rfl) (mG.call mG.refl h1539.2.1 (List.forall_mem_cons.mpr ⟨⟨_, List.mem_cons_self, vc_X12_marksRight_f_4⟩, (fun _ h => absurd h List.not_mem_nil)⟩)) (rW (c := 0) (d := 1) (rR (x := 1)) rfl)
                    have h1544 : 4 ≤ z1257 ∧ z1257 ≤ 4 := (vc_X12_attributes_u_37 h1535 h1533 h1534 h1256.1)
                    refine sv_aload_n (pc := 240) dX12_attributes_240 rfl rfl ?_
                    refine mr_iload (pc := 241) (z := (z1201 + z1231)) dX12_attributes_241 rfl ?_
                    refine mr_iload (pc := 243) (z := z1262) dX12_attributes_243 rfl ?_
                    refine mr_cVI (pc := 245) (c_X12_costRight_f hw T1364 (vc_X12_attributes_u_33 h1208 h1213 h1234 h1246 hq0 (h1261.2.1.trans h1244.2.1.symm) h1212 ht_f_size h1240 h1239 h1232 h1247 h1263) (rW (c := 0) (d := 1000) h1263 rfl) (u1363.f (Or.inl (mAt.ne (A_171 hw) (A_106 hw) rfl)) (F1206.f (A_106 hw) rfl q_f_size)) (vc_X12_attributes_u_34 hq0 h1208 h1213 h1234 h1246 (h1261.2.1.trans h1244.2.1.symm) h1212 ht_f_size h1240 h1239 h1232 h1247 h1263)) (gOk _ _ _ _ _) dX12_attributes_245 (tX12_costRight _ _ _ _ _) ⟨wV_X12_costRight, wL_X12_costRight⟩ wM_X12_646 (gCX12 _ _ _ _ _) rfl (A_106 hw) rfl ⟨le_t rfl, le_t rfl⟩ ⟨le_t rfl, le_t rfl⟩ rfl (le_t rfl) fun z1549 μ1545 T1546 F1547 h1548 => ?_
                    refine mr_if_eq (pc := 248) (tgt := 269) dX12_attributes_248 (by decide) (r32 h1548.1 rfl) (fun h1550 => ?_) (fun h1550 => ?_)
                    · have h1551 : 0 ≤ z1549 ∧ z1549 ≤ 0 := (vc_X12_ring_22 h1550 h1548.1)
                      refine mr_iconst (pc := 269) (z := 0) dX12_attributes_269 ?_
                      refine mr_lvS (lv' := [(0, .ref 106), (2, iv p2), (3, iv z1201), (8, iv z1262), (9, iv (z1201 + z1231))]) (List.forall_mem_cons.mpr ⟨rfl, List.forall_mem_cons.mpr ⟨rfl, List.forall_mem_cons.mpr ⟨rfl, List.forall_mem_cons.mpr ⟨rfl, List.forall_mem_cons.mpr ⟨rfl, fun _ h => absurd h List.not_mem_nil⟩⟩⟩⟩⟩) ?_
                      exact J1530 0 μ1545 T1546 (mF.call mF.refl F1547 rfl) (mG.call mG.refl h1548.2.1 (List.forall_mem_cons.mpr ⟨⟨_, List.mem_cons_self, vc_X12_attributes_u_39⟩, (fun _ h => absurd h List.not_mem_nil)⟩)) (rW (c := 0) (d := 1) (rR (x := 0)) rfl)
                    have h1552 : 1 ≤ z1549 ∧ z1549 ≤ 1 := (vc_X12_ring_24 h1550 h1548.1)
                    refine sv_goto (pc := 251) (tgt := 265) dX12_attributes_251 (by decide) ?_
                    refine mr_iconst (pc := 265) (z := 1) dX12_attributes_265 ?_
                    refine sv_goto (pc := 266) (tgt := 270) dX12_attributes_266 (by decide) ?_
                    refine mr_lvS (lv' := [(0, .ref 106), (2, iv p2), (3, iv z1201), (8, iv z1262), (9, iv (z1201 + z1231))]) (List.forall_mem_cons.mpr ⟨rfl, List.forall_mem_cons.mpr ⟨rfl, List.forall_mem_cons.mpr ⟨rfl, List.forall_mem_cons.mpr ⟨rfl, List.forall_mem_cons.mpr ⟨rfl, fun _ h => absurd h List.not_mem_nil⟩⟩⟩⟩⟩) ?_
                    exact J1530 1 μ1545 T1546 (mF.call mF.refl F1547 rfl) (mG.call mG.refl h1548.2.1 (List.forall_mem_cons.mpr ⟨⟨_, List.mem_cons_self, vc_X12_attributes_u_39⟩, (fun _ h => absurd h List.not_mem_nil)⟩)) (rW (c := 0) (d := 1) (rR (x := 1)) rfl)
                  have h1553 : 2 ≤ z1257 ∧ z1257 ≤ 2 := (vc_X3_readAttribute_10 h1534 h1533 h1256.1)
                  refine sv_aload_n (pc := 220) dX12_attributes_220 rfl rfl ?_
                  refine mr_iload (pc := 221) (z := (z1201 + z1231)) dX12_attributes_221 rfl ?_
                  refine mr_iload (pc := 223) (z := z1262) dX12_attributes_223 rfl ?_
                  refine mr_cVI (pc := 225) (c_X12_wayRight hw T1364 (vc_X12_attributes_u_33 h1208 h1213 h1234 h1246 hq0 (h1261.2.1.trans h1244.2.1.symm) h1212 ht_f_size h1240 h1239 h1232 h1247 h1263) (rW (c := 0) (d := 1000) h1263 rfl) (u1363.f (Or.inl (mAt.ne (A_171 hw) (A_106 hw) rfl)) (F1206.f (A_106 hw) rfl q_f_size)) (vc_X12_attributes_u_34 hq0 h1208 h1213 h1234 h1246 (h1261.2.1.trans h1244.2.1.symm) h1212 ht_f_size h1240 h1239 h1232 h1247 h1263)) (gOk _ _ _ _ _) dX12_attributes_225 (tX12_wayRight _ _ _ _ _) ⟨wV_X12_wayRight, wL_X12_wayRight⟩ wM_X12_643 (gCX12 _ _ _ _ _) rfl (A_106 hw) rfl ⟨le_t rfl, le_t rfl⟩ ⟨le_t rfl, le_t rfl⟩ rfl (le_t rfl) fun z1558 μ1554 T1555 F1556 h1557 => ?_
                  refine mr_if_eq (pc := 228) (tgt := 269) dX12_attributes_228 (by decide) (r32 h1557.1 rfl) (fun h1559 => ?_) (fun h1559 => ?_)
                  · have h1560 : 0 ≤ z1558 ∧ z1558 ≤ 0 := (vc_X12_ring_22 h1559 h1557.1)
                    refine mr_iconst (pc := 269) (z := 0) dX12_attributes_269 ?_
                    refine mr_lvS (lv' := [(0, .ref 106), (2, iv p2), (3, iv z1201), (8, iv z1262), (9, iv (z1201 + z1231))]) (List.forall_mem_cons.mpr ⟨rfl, List.forall_mem_cons.mpr ⟨rfl, List.forall_mem_cons.mpr ⟨rfl, List.forall_mem_cons.mpr ⟨rfl, List.forall_mem_cons.mpr ⟨rfl, fun _ h => absurd h List.not_mem_nil⟩⟩⟩⟩⟩) ?_
                    exact J1530 0 μ1554 T1555 (mF.call mF.refl F1556 rfl) (mG.call mG.refl h1557.2.1 (List.forall_mem_cons.mpr ⟨⟨_, List.mem_cons_self, vc_X12_attributes_u_43⟩, (fun _ h => absurd h List.not_mem_nil)⟩)) (rW (c := 0) (d := 1) (rR (x := 0)) rfl)
                  have h1561 : 1 ≤ z1558 ∧ z1558 ≤ 1 := (vc_X12_ring_24 h1559 h1557.1)
                  refine sv_goto (pc := 231) (tgt := 265) dX12_attributes_231 (by decide) ?_
                  refine mr_iconst (pc := 265) (z := 1) dX12_attributes_265 ?_
                  refine sv_goto (pc := 266) (tgt := 270) dX12_attributes_266 (by decide) ?_
                  refine mr_lvS (lv' := [(0, .ref 106), (2, iv p2), (3, iv z1201), (8, iv z1262), (9, iv (z1201 + z1231))]) (List.forall_mem_cons.mpr ⟨rfl, List.forall_mem_cons.mpr ⟨rfl, List.forall_mem_cons.mpr ⟨rfl, List.forall_mem_cons.mpr ⟨rfl, List.forall_mem_cons.mpr ⟨rfl, fun _ h => absurd h List.not_mem_nil⟩⟩⟩⟩⟩) ?_
                  exact J1530 1 μ1554 T1555 (mF.call mF.refl F1556 rfl) (mG.call mG.refl h1557.2.1 (List.forall_mem_cons.mpr ⟨⟨_, List.mem_cons_self, vc_X12_attributes_u_43⟩, (fun _ h => absurd h List.not_mem_nil)⟩)) (rW (c := 0) (d := 1) (rR (x := 1)) rfl)
                have h1562 : 1 ≤ z1257 ∧ z1257 ≤ 1 := (vc_X12_wayRight_28 h1533 h1256.1)
                refine sv_aload_n (pc := 200) dX12_attributes_200 rfl rfl ?_
                refine mr_iload (pc := 201) (z := (z1201 + z1231)) dX12_attributes_201 rfl ?_
                refine mr_iload (pc := 203) (z := z1262) dX12_attributes_203 rfl ?_
                refine mr_cVI (pc := 205) (c_X12_originRight_f hw T1364 (vc_X12_attributes_u_33 h1208 h1213 h1234 h1246 hq0 (h1261.2.1.trans h1244.2.1.symm) h1212 ht_f_size h1240 h1239 h1232 h1247 h1263) (rW (c := 0) (d := 1000) h1263 rfl) (u1363.f (Or.inl (mAt.ne (A_171 hw) (A_106 hw) rfl)) (F1206.f (A_106 hw) rfl q_f_size)) (vc_X12_attributes_u_34 hq0 h1208 h1213 h1234 h1246 (h1261.2.1.trans h1244.2.1.symm) h1212 ht_f_size h1240 h1239 h1232 h1247 h1263)) (gOk _ _ _ _ _) dX12_attributes_205 (tX12_originRight _ _ _ _ _) ⟨wV_X12_originRight, wL_X12_originRight⟩ wM_X12_640 (gCX12 _ _ _ _ _) rfl (A_106 hw) rfl ⟨le_t rfl, le_t rfl⟩ ⟨le_t rfl, le_t rfl⟩ rfl (le_t rfl) fun z1567 μ1563 T1564 F1565 h1566 => ?_
                refine mr_if_eq (pc := 208) (tgt := 269) dX12_attributes_208 (by decide) (r32 h1566.1 rfl) (fun h1568 => ?_) (fun h1568 => ?_)
                · have h1569 : 0 ≤ z1567 ∧ z1567 ≤ 0 := (vc_X12_ring_22 h1568 h1566.1)
                  refine mr_iconst (pc := 269) (z := 0) dX12_attributes_269 ?_
                  refine mr_lvS (lv' := [(0, .ref 106), (2, iv p2), (3, iv z1201), (8, iv z1262), (9, iv (z1201 + z1231))]) (List.forall_mem_cons.mpr ⟨rfl, List.forall_mem_cons.mpr ⟨rfl, List.forall_mem_cons.mpr ⟨rfl, List.forall_mem_cons.mpr ⟨rfl, List.forall_mem_cons.mpr ⟨rfl, fun _ h => absurd h List.not_mem_nil⟩⟩⟩⟩⟩) ?_
                  exact J1530 0 μ1563 T1564 (mF.call mF.refl F1565 rfl) (mG.call mG.refl h1566.2.1 (List.forall_mem_cons.mpr ⟨⟨_, List.mem_cons_self, vc_X12_attributes_u_47⟩, (fun _ h => absurd h List.not_mem_nil)⟩)) (rW (c := 0) (d := 1) (rR (x := 0)) rfl)
                have h1570 : 1 ≤ z1567 ∧ z1567 ≤ 1 := (vc_X12_ring_24 h1568 h1566.1)
                refine sv_goto (pc := 211) (tgt := 265) dX12_attributes_211 (by decide) ?_
                refine mr_iconst (pc := 265) (z := 1) dX12_attributes_265 ?_
                refine sv_goto (pc := 266) (tgt := 270) dX12_attributes_266 (by decide) ?_
                refine mr_lvS (lv' := [(0, .ref 106), (2, iv p2), (3, iv z1201), (8, iv z1262), (9, iv (z1201 + z1231))]) (List.forall_mem_cons.mpr ⟨rfl, List.forall_mem_cons.mpr ⟨rfl, List.forall_mem_cons.mpr ⟨rfl, List.forall_mem_cons.mpr ⟨rfl, List.forall_mem_cons.mpr ⟨rfl, fun _ h => absurd h List.not_mem_nil⟩⟩⟩⟩⟩) ?_
                exact J1530 1 μ1563 T1564 (mF.call mF.refl F1565 rfl) (mG.call mG.refl h1566.2.1 (List.forall_mem_cons.mpr ⟨⟨_, List.mem_cons_self, vc_X12_attributes_u_47⟩, (fun _ h => absurd h List.not_mem_nil)⟩)) (rW (c := 0) (d := 1) (rR (x := 1)) rfl)
              refine mr_icmp_eq (pc := 137) (tgt := 146) dX12_attributes_137 (by decide) (r32 h1256.1 rfl) (r32 (rR (x := 1)) rfl) (fun h1571 => ?_) (fun h1571 => ?_)
              · have h1572 : 1 ≤ z1257 ∧ z1257 ≤ 1 := (vc_X12_wayRight_28 h1571 h1256.1)
                refine mr_bipush (pc := 146) (z := 64) dX12_attributes_146 (by decide) ?_
                refine sv_goto (pc := 148) (tgt := 177) dX12_attributes_148 (by decide) ?_
                refine mr_lvS (lv' := [(0, .ref 106), (2, iv p2), (3, iv z1201), (6, iv z1252), (7, iv z1257), (8, iv z1262), (9, iv (z1201 + z1231))]) (List.forall_mem_cons.mpr ⟨rfl, List.forall_mem_cons.mpr ⟨rfl, List.forall_mem_cons.mpr ⟨rfl, List.forall_mem_cons.mpr ⟨rfl, List.forall_mem_cons.mpr ⟨rfl, List.forall_mem_cons.mpr ⟨rfl, List.forall_mem_cons.mpr ⟨rfl, fun _ h => absurd h List.not_mem_nil⟩⟩⟩⟩⟩⟩⟩) ?_
                exact J1371 64 (rW (c := (-1)) (d := 192) (rR (x := 64)) rfl)
              refine mr_iload (pc := 140) (z := z1257) dX12_attributes_140 rfl ?_
              refine mr_iconst (pc := 142) (z := 2) dX12_attributes_142 ?_
              refine mr_icmp_ne (pc := 143) (tgt := 151) dX12_attributes_143 (by decide) (r32 h1256.1 rfl) (r32 (rR (x := 2)) rfl) (fun h1573 => ?_) (fun h1573 => ?_)
              · refine mr_iload (pc := 151) (z := z1257) dX12_attributes_151 rfl ?_
                refine mr_iconst (pc := 153) (z := 4) dX12_attributes_153 ?_
                refine mr_icmp_ne (pc := 154) (tgt := 163) dX12_attributes_154 (by decide) (r32 h1256.1 rfl) (r32 (rR (x := 4)) rfl) (fun h1574 => ?_) (fun h1574 => ?_)
                · refine mr_iload (pc := 163) (z := z1257) dX12_attributes_163 rfl ?_
                  refine mr_bipush (pc := 165) (z := 8) dX12_attributes_165 (by decide) ?_
                  refine mr_icmp_ne (pc := 167) (tgt := 176) dX12_attributes_167 (by decide) (r32 h1256.1 rfl) (r32 (rR (x := 8)) rfl) (fun h1575 => ?_) (fun h1575 => ?_)
                  · refine mr_iconst (pc := 176) (z := (-1)) dX12_attributes_176 ?_
                    refine mr_lvS (lv' := [(0, .ref 106), (2, iv p2), (3, iv z1201), (6, iv z1252), (7, iv z1257), (8, iv z1262), (9, iv (z1201 + z1231))]) (List.forall_mem_cons.mpr ⟨rfl, List.forall_mem_cons.mpr ⟨rfl, List.forall_mem_cons.mpr ⟨rfl, List.forall_mem_cons.mpr ⟨rfl, List.forall_mem_cons.mpr ⟨rfl, List.forall_mem_cons.mpr ⟨rfl, List.forall_mem_cons.mpr ⟨rfl, fun _ h => absurd h List.not_mem_nil⟩⟩⟩⟩⟩⟩⟩) ?_
                    exact J1371 (-1) (rW (c := (-1)) (d := 192) (rR (x := (-1))) rfl)
                  have h1576 : 8 ≤ z1257 ∧ z1257 ≤ 8 := (vc_X12_attributes_u_49 h1575 h1571 h1573 h1574 h1256.1)
                  refine mr_sipush (pc := 170) (z := 192) dX12_attributes_170 (by decide) ?_
                  refine sv_goto (pc := 173) (tgt := 177) dX12_attributes_173 (by decide) ?_
                  refine mr_lvS (lv' := [(0, .ref 106), (2, iv p2), (3, iv z1201), (6, iv z1252), (7, iv z1257), (8, iv z1262), (9, iv (z1201 + z1231))]) (List.forall_mem_cons.mpr ⟨rfl, List.forall_mem_cons.mpr ⟨rfl, List.forall_mem_cons.mpr ⟨rfl, List.forall_mem_cons.mpr ⟨rfl, List.forall_mem_cons.mpr ⟨rfl, List.forall_mem_cons.mpr ⟨rfl, List.forall_mem_cons.mpr ⟨rfl, fun _ h => absurd h List.not_mem_nil⟩⟩⟩⟩⟩⟩⟩) ?_
                  exact J1371 192 (rW (c := (-1)) (d := 192) (rR (x := 192)) rfl)
                have h1577 : 4 ≤ z1257 ∧ z1257 ≤ 4 := (vc_X12_attributes_u_37 h1574 h1571 h1573 h1256.1)
                refine mr_sipush (pc := 157) (z := 128) dX12_attributes_157 (by decide) ?_
                refine sv_goto (pc := 160) (tgt := 177) dX12_attributes_160 (by decide) ?_
                refine mr_lvS (lv' := [(0, .ref 106), (2, iv p2), (3, iv z1201), (6, iv z1252), (7, iv z1257), (8, iv z1262), (9, iv (z1201 + z1231))]) (List.forall_mem_cons.mpr ⟨rfl, List.forall_mem_cons.mpr ⟨rfl, List.forall_mem_cons.mpr ⟨rfl, List.forall_mem_cons.mpr ⟨rfl, List.forall_mem_cons.mpr ⟨rfl, List.forall_mem_cons.mpr ⟨rfl, List.forall_mem_cons.mpr ⟨rfl, fun _ h => absurd h List.not_mem_nil⟩⟩⟩⟩⟩⟩⟩) ?_
                exact J1371 128 (rW (c := (-1)) (d := 192) (rR (x := 128)) rfl)
              have h1578 : 2 ≤ z1257 ∧ z1257 ≤ 2 := (vc_X3_readAttribute_10 h1573 h1571 h1256.1)
              refine mr_bipush (pc := 146) (z := 64) dX12_attributes_146 (by decide) ?_
              refine sv_goto (pc := 148) (tgt := 177) dX12_attributes_148 (by decide) ?_
              refine mr_lvS (lv' := [(0, .ref 106), (2, iv p2), (3, iv z1201), (6, iv z1252), (7, iv z1257), (8, iv z1262), (9, iv (z1201 + z1231))]) (List.forall_mem_cons.mpr ⟨rfl, List.forall_mem_cons.mpr ⟨rfl, List.forall_mem_cons.mpr ⟨rfl, List.forall_mem_cons.mpr ⟨rfl, List.forall_mem_cons.mpr ⟨rfl, List.forall_mem_cons.mpr ⟨rfl, List.forall_mem_cons.mpr ⟨rfl, fun _ h => absurd h List.not_mem_nil⟩⟩⟩⟩⟩⟩⟩) ?_
              exact J1371 64 (rW (c := (-1)) (d := 192) (rR (x := 64)) rfl)
            have h1579 : 1 ≤ z1264 ∧ z1264 ≤ 1 := (vc_X12_ring_24 h1360 h1266)
            refine sv_aload_n (pc := 117) dX12_attributes_117 rfl rfl ?_
            refine mr_iconst (pc := 118) (z := 3) dX12_attributes_118 ?_
            refine mr_iload_n (pc := 119) (z := z1201) dX12_attributes_119 rfl rfl ?_
            refine mr_cVV (pc := 120) (c_X12_fails hw T1205 (rW (c := 0) (d := 3) (rR (x := 3)) rfl) (rW (c := (-2147483648)) (d := 2147483647) h1239 rfl)) (gOk _ _ _ _ _) dX12_attributes_120 (tX12_fails _ _ _ _ _) ⟨wV_X12_fails, wL_X12_fails⟩ wM_X12_620 (gCX12 _ _ _ _ _) rfl (A_106 hw) rfl ⟨le_t rfl, le_t rfl⟩ ⟨le_t rfl, le_t rfl⟩ rfl (le_t rfl) fun μ1580 T1581 F1582 h1583 => ?_
            refine sv_goto (pc := 123) (tgt := 336) dX12_attributes_123 (by decide) ?_
            refine mr_iload (pc := 336) (z := (z1201 + z1231)) dX12_attributes_336 rfl ?_
            refine mr_iload (pc := 338) (z := z1262) dX12_attributes_338 rfl ?_
            refine mr_iadd (pc := 340) (x := (z1201 + z1231)) (y := z1262) dX12_attributes_340 ?_
            refine mr_istore_n (pc := 341) (lv' := [(3, iv ((z1201 + z1231) + z1262)), (9, iv (z1201 + z1231)), (8, iv z1262), (7, iv z1257), (6, iv z1252), (5, iv z1231), (0, .ref 106), (2, iv p2)]) dX12_attributes_341 rfl (by decide) rfl ?_
            refine sv_goto (pc := 342) (tgt := 2) dX12_attributes_342 (by decide) ?_
            refine mr_lvS (lv' := [(0, .ref 106), (2, iv p2), (3, iv ((z1201 + z1231) + z1262))]) (List.forall_mem_cons.mpr ⟨rfl, List.forall_mem_cons.mpr ⟨rfl, List.forall_mem_cons.mpr ⟨rfl, fun _ h => absurd h List.not_mem_nil⟩⟩⟩) ?_
            exact ih1211 ((z1201 + z1231) + z1262) μ1580 f_c T1581 (mF.call (mF.call mF.refl F1206 rfl) F1582 rfl) (mG.fr (mG.call mG.refl G1207 (List.forall_mem_cons.mpr ⟨⟨_, List.mem_cons_self, vc_X12_marksRight_f_4⟩, (fun _ h => absurd h List.not_mem_nil)⟩)) F1582 (A_126 hw) rfl) (F1582.f (A_106 hw) rfl q1210) (vc_X12_attributes_u_51 h1208 h1213 h1234 h1246 (h1261.2.1.trans h1244.2.1.symm) hq0 h1212 ht_f_size h1240 h1239 h1232 h1247 h1263) (vc_X12_attributes_u_52 h1208 h1213 h1234 h1246 (h1261.2.1.trans h1244.2.1.symm) hq0 h1212 ht_f_size h1240 h1239 h1232 h1247 h1263) (vc_X12_attributes_u_53 (nS h1209) h1208 h1213 h1234 h1246 (h1261.2.1.trans h1244.2.1.symm) hq0 h1212 ht_f_size h1240 h1239 h1232 h1247 h1263)
          refine sv_aload_n (pc := 65) dX12_attributes_65 rfl rfl ?_
          refine mr_iconst (pc := 66) (z := 2) dX12_attributes_66 ?_
          refine mr_iload_n (pc := 67) (z := z1201) dX12_attributes_67 rfl rfl ?_
          refine mr_cVV (pc := 68) (c_X12_fails hw T1205 (rW (c := 0) (d := 3) (rR (x := 2)) rfl) (rW (c := (-2147483648)) (d := 2147483647) h1239 rfl)) (gOk _ _ _ _ _) dX12_attributes_68 (tX12_fails _ _ _ _ _) ⟨wV_X12_fails, wL_X12_fails⟩ wM_X12_620 (gCX12 _ _ _ _ _) rfl (A_106 hw) rfl ⟨le_t rfl, le_t rfl⟩ ⟨le_t rfl, le_t rfl⟩ rfl (le_t rfl) fun μ1584 T1585 F1586 h1587 => ?_
          exact mr_vret dX12_attributes_71 rfl (le_t rfl) (le_t rfl) T1585 (mF.call (mF.call mF.refl F1206 rfl) F1586 rfl) ⟨(mG.fr (mG.call mG.refl G1207 (List.forall_mem_cons.mpr ⟨⟨_, List.mem_cons_self, vc_X12_marksRight_f_4⟩, (fun _ h => absurd h List.not_mem_nil)⟩)) F1586 (A_126 hw) rfl), trivial⟩
        refine mr_if_eq (pc := 27) (tgt := 34) dX12_attributes_27 (by decide) (r32 h1227 rfl) (fun h1588 => ?_) (fun h1588 => ?_)
        · have h1589 : 0 ≤ z1226 ∧ z1226 ≤ 0 := (vc_X12_ring_22 h1588 h1227)
          refine mr_iconst (pc := 34) (z := 3) dX12_attributes_34 ?_
          refine mr_lvS (lv' := [(0, .ref 106), (2, iv p2), (3, iv z1201)]) (List.forall_mem_cons.mpr ⟨rfl, List.forall_mem_cons.mpr ⟨rfl, List.forall_mem_cons.mpr ⟨rfl, fun _ h => absurd h List.not_mem_nil⟩⟩⟩) ?_
          exact J1233 3 (rW (c := 3) (d := 4) (rR (x := 3)) rfl)
        have h1590 : 1 ≤ z1226 ∧ z1226 ≤ 1 := (vc_X12_ring_24 h1588 h1227)
        refine mr_iconst (pc := 30) (z := 4) dX12_attributes_30 ?_
        refine sv_goto (pc := 31) (tgt := 35) dX12_attributes_31 (by decide) ?_
        refine mr_lvS (lv' := [(0, .ref 106), (2, iv p2), (3, iv z1201)]) (List.forall_mem_cons.mpr ⟨rfl, List.forall_mem_cons.mpr ⟨rfl, List.forall_mem_cons.mpr ⟨rfl, fun _ h => absurd h List.not_mem_nil⟩⟩⟩) ?_
        exact J1233 4 (rW (c := 3) (d := 4) (rR (x := 4)) rfl)
      refine mr_if_eq (pc := 15) (tgt := 22) dX12_attributes_15 (by decide) (r32 h1223 rfl) (fun h1591 => ?_) (fun h1591 => ?_)
      · have h1592 : 0 ≤ z1221 ∧ z1221 ≤ 0 := (vc_X3_readAttributes_5 h1591 h1223)
        refine mr_iconst (pc := 22) (z := 0) dX12_attributes_22 ?_
        exact J1228 0 (rW (c := 0) (d := 1) (rR (x := 0)) rfl)
      have h1593 : 1 ≤ z1221 ∧ z1221 ≤ 16 := (vc_X3_readAttributes_13 h1591 h1223)
      refine mr_iconst (pc := 18) (z := 1) dX12_attributes_18 ?_
      refine sv_goto (pc := 19) (tgt := 23) dX12_attributes_19 (by decide) ?_
      exact J1228 1 (rW (c := 0) (d := 1) (rR (x := 1)) rfl)
  refine mr_lvS (lv' := [(0, .ref 106), (2, iv p2), (3, iv p1)]) (List.forall_mem_cons.mpr ⟨rfl, List.forall_mem_cons.mpr ⟨rfl, List.forall_mem_cons.mpr ⟨rfl, fun _ h => absurd h List.not_mem_nil⟩⟩⟩) ?_
  exact L1203 1004 p1 μ f_c0 hT mF.refl mG.refl q_f_c0 hp1 (vc_X12_attributes_u_58 hq1 ht_f_c0 hp1) (vc_X12_attributes_u_59 hq1 ht_f_c0 hp1)
theorem vc_X12_message_u_3 {z2889 : Int} (h0 : (257 - z2889) < ((0 : Nat) : Int)) (h1 : 0 ≤ z2889 ∧ z2889 ≤ 256) : False := by omega
theorem vc_X12_message_u_5  : (-(2147483648 : Int) ≤ ((0 : Int) : Int) ∧ ((0 : Int) : Int) ≤ (2147483647 : Int)) ∧ (((960 : Int) : Int) % (40 : Int) = (0 : Int) → -(1 : Int) ≤ ((0 : Int) : Int) ∧ ((0 : Int) : Int) ≤ (9 : Int)) ∧ (((960 : Int) : Int) % (40 : Int) = (4 : Int) → (0 : Int) ≤ ((0 : Int) : Int) ∧ ((0 : Int) : Int) ≤ (20 : Int)) ∧ (((960 : Int) : Int) % (40 : Int) = (5 : Int) → (0 : Int) ≤ ((0 : Int) : Int) ∧ ((0 : Int) : Int) ≤ (8 : Int)) := by omega
theorem vc_X12_message_u_6  : (0 : Int) ≤ ((960 : Int) : Int) := by omega
theorem vc_X12_message_u_7 {z2932 : Int} (h0 : 0 ≤ z2932 ∧ z2932 ≤ 10) : ¬ (960 : Int) % 40 = 0 ∨ 56000 ≤ (960 : Int) ∨ ((960 : Int) = 960 ∧ (0 : Int) ≤ 0) ∨ (¬ (960 : Int) = 960 ∧ (0 : Int) < z2932) := by omega
theorem vc_X12_message_u_8  : (-(2147483648 : Int) ≤ ((100 : Int) : Int) ∧ ((100 : Int) : Int) ≤ (2147483647 : Int)) ∧ ((((960 : Int) + (1 : Int)) : Int) % (40 : Int) = (0 : Int) → -(1 : Int) ≤ ((100 : Int) : Int) ∧ ((100 : Int) : Int) ≤ (9 : Int)) ∧ ((((960 : Int) + (1 : Int)) : Int) % (40 : Int) = (4 : Int) → (0 : Int) ≤ ((100 : Int) : Int) ∧ ((100 : Int) : Int) ≤ (20 : Int)) ∧ ((((960 : Int) + (1 : Int)) : Int) % (40 : Int) = (5 : Int) → (0 : Int) ≤ ((100 : Int) : Int) ∧ ((100 : Int) : Int) ≤ (8 : Int)) := by omega
theorem vc_X12_message_u_9  : (0 : Int) ≤ (((960 : Int) + (1 : Int)) : Int) := by omega
theorem vc_X12_message_u_10 {z2932 : Int} (h0 : 0 ≤ z2932 ∧ z2932 ≤ 10) : ¬ ((960 + 1) : Int) % 40 = 0 ∨ 56000 ≤ ((960 + 1) : Int) ∨ (((960 + 1) : Int) = 960 ∧ (100 : Int) ≤ 0) ∨ (¬ ((960 + 1) : Int) = 960 ∧ (100 : Int) < z2932) := by omega
theorem vc_X12_message_u_11 {z3386 : Int} (h0 : (7 - z3386) < ((0 : Nat) : Int)) (h1 : 2 ≤ z3386 ∧ z3386 ≤ 6) : False := by omega
theorem vc_X12_message_u_12 {z3386 : Int} (h0 : 6 ≤ z3386) (h1 : 2 ≤ z3386 ∧ z3386 ≤ 6) : 6 ≤ z3386 ∧ z3386 ≤ 6 := by omega
theorem vc_X12_message_u_13  : (0 : Int) ≤ (960 : Int) ∧ (960 : Int) ≤ (960 : Int) ∧ (960 : Int) < (1000 : Int) := by omega
theorem vc_X12_message_u_14  : (0 : Int) ≤ ((960 : Int) + (1 : Int)) ∧ (960 : Int) ≤ ((960 : Int) + (1 : Int)) ∧ ((960 : Int) + (1 : Int)) < (1000 : Int) := by omega
theorem vc_X12_message_u_15  : (960 : Int) ≤ (960 : Int) ∧ (1000 : Int) ≤ (1000 : Int) := by omega
theorem vc_X12_message_u_22 {f_c f_g z4291 : Int} (h0 : (1001 - z4291) < ((0 : Nat) : Int)) (h1 : f_g + f_c ≤ 1000 + z4291) (h2 : z4291 ≤ f_c) (h3 : 0 ≤ z4291 ∧ z4291 ≤ 1000) : False := by omega
theorem vc_X12_message_u_23 {f_c f_g z4291 : Int} (h0 : z4291 < f_c) (h1 : f_g + f_c ≤ 1000 + z4291) (h2 : z4291 ≤ f_c) (h3 : 0 ≤ f_c ∧ f_c ≤ 1000) (h4 : 0 ≤ f_g ∧ f_g ≤ 1000) (h5 : 0 ≤ z4291 ∧ z4291 ≤ 1000) : 0 ≤ z4291 ∧ z4291 ≤ 999 := by omega
theorem vc_X12_message_u_24 {f_c f_g z4291 : Int} (h0 : z4291 < f_c) (h1 : f_g + f_c ≤ 1000 + z4291) (h2 : z4291 ≤ f_c) (h3 : 0 ≤ f_c ∧ f_c ≤ 1000) (h4 : 0 ≤ f_g ∧ f_g ≤ 1000) (h5 : 0 ≤ z4291 ∧ z4291 ≤ 999) : 1 ≤ f_c ∧ f_c ≤ 1000 := by omega
theorem vc_X12_message_u_25 {f_c f_g z4291 : Int} (h0 : f_g + f_c ≤ 1000 + z4291) (h1 : z4291 ≤ f_c) (h2 : z4291 < f_c) (h3 : 1 ≤ f_c ∧ f_c ≤ 1000) (h4 : 0 ≤ f_g ∧ f_g ≤ 1000) (h5 : 0 ≤ z4291 ∧ z4291 ≤ 999) : 0 ≤ f_g ∧ f_g < 1000 := by omega
theorem vc_X12_message_u_26 {f_c f_g z4291 : Int} (h0 : f_g + f_c ≤ 1000 + z4291) (h1 : z4291 ≤ f_c) (h2 : z4291 < f_c) (h3 : 1 ≤ f_c ∧ f_c ≤ 1000) (h4 : 0 ≤ f_g ∧ f_g ≤ 1000) (h5 : 0 ≤ z4291 ∧ z4291 ≤ 999) : 0 ≤ (f_g + 1) ∧ (f_g + 1) ≤ 1000 := by omega
theorem vc_X12_message_u_27 {f_c f_g z4291 : Int} (h0 : f_g + f_c ≤ 1000 + z4291) (h1 : z4291 ≤ f_c) (h2 : z4291 < f_c) (h3 : 1 ≤ f_c ∧ f_c ≤ 1000) (h4 : 0 ≤ f_g ∧ f_g ≤ 1000) (h5 : 0 ≤ z4291 ∧ z4291 ≤ 999) : (f_g + 1) + f_c ≤ 1000 + (z4291 + 1) := by omega
theorem vc_X12_message_u_28 {f_c f_g z4291 : Int} (h0 : f_g + f_c ≤ 1000 + z4291) (h1 : z4291 ≤ f_c) (h2 : z4291 < f_c) (h3 : 1 ≤ f_c ∧ f_c ≤ 1000) (h4 : 0 ≤ f_g ∧ f_g ≤ 1000) (h5 : 0 ≤ z4291 ∧ z4291 ≤ 999) : (z4291 + 1) ≤ f_c := by omega
theorem vc_X12_message_u_29 {N f_c f_g z4291 : Int} (h0 : (1001 - z4291) < N + 1) (h1 : f_g + f_c ≤ 1000 + z4291) (h2 : z4291 ≤ f_c) (h3 : z4291 < f_c) (h4 : 1 ≤ f_c ∧ f_c ≤ 1000) (h5 : 0 ≤ f_g ∧ f_g ≤ 1000) (h6 : 0 ≤ z4291 ∧ z4291 ≤ 999) : (1001 - (z4291 + 1)) < N := by omega
theorem vc_X12_message_u_30 {z3517 z3520 : Int} (h0 : z3517 + z3520 ≤ 1000) (h1 : 0 ≤ z3517 ∧ z3517 ≤ 1000) (h2 : 0 ≤ z3520 ∧ z3520 ≤ 1000) : z3517 + z3520 ≤ 1000 + (0 : Int) := by omega
theorem vc_X12_message_u_31 {z3517 z3520 : Int} (h0 : z3517 + z3520 ≤ 1000) (h1 : 0 ≤ z3517 ∧ z3517 ≤ 1000) (h2 : 0 ≤ z3520 ∧ z3520 ≤ 1000) : (0 : Int) ≤ z3520 := by omega
theorem vc_X12_message_u_34  : ((0 : Int) : Int) + ((0 : Int) : Int) ≤ (1000 : Int) := by omega
theorem vc_X12_message_u_36 {z3411 z3421 : Int} (h0 : (2 + z3421) ≤ z3411) (h1 : 2 ≤ z3411) (h2 : 2 ≤ z3411 ∧ z3411 ≤ 1000) (h3 : 0 ≤ z3421 ∧ z3421 ≤ 65535) : 0 ≤ z3421 ∧ z3421 ≤ 998 := by omega
theorem vc_X12_message_u_37 {z3411 z3421 : Int} (h0 : (2 + z3421) ≤ z3411) (h1 : 2 ≤ z3411) (h2 : 2 ≤ z3411 ∧ z3411 ≤ 1000) (h3 : 0 ≤ z3421 ∧ z3421 ≤ 998) : (2 : Int) ≤ (2 + z3421) := by omega
theorem vc_X12_message_u_38 {z3411 z3421 : Int} (h0 : 2 ≤ z3411) (h1 : (2 + z3421) ≤ z3411) (h2 : 2 ≤ z3411 ∧ z3411 ≤ 1000) (h3 : 0 ≤ z3421 ∧ z3421 ≤ 998) : (2 + z3421) ≤ z3411 := by omega
theorem vc_X12_message_u_39 {z3411 z3421 : Int} (h0 : (2 + z3421) ≤ z3411) (h1 : 2 ≤ z3411) (h2 : 2 ≤ z3411 ∧ z3411 ≤ 1000) (h3 : 0 ≤ z3421 ∧ z3421 ≤ 998) : (0 : Int) + (0 : Int) + (2 + z3421) - (2 : Int) ≤ 1000 := by omega
theorem vc_X12_message_u_40 {z3411 z3421 z4366 z4368 : Int} (h0 : z4366 + z4368 ≤ (0 : Int) + (0 : Int) + (2 + z3421) - (2 : Int)) (h1 : (2 + z3421) ≤ z3411) (h2 : z3411 < ((2 + z3421) + 2)) (h3 : 2 ≤ z3411 ∧ z3411 ≤ 1000) (h4 : 0 ≤ z3421 ∧ z3421 ≤ 998) (h5 : 0 ≤ z4366 ∧ z4366 ≤ 1000) (h6 : 0 ≤ z4368 ∧ z4368 ≤ 1000) : z4366 + z4368 ≤ 1000 := by omega
theorem vc_X12_message_u_41 {z3411 z3421 z4366 z4368 : Int} (h0 : ((2 + z3421) + 2) ≤ z3411) (h1 : 2 ≤ z3411) (h2 : (2 + z3421) ≤ z3411) (h3 : z4366 + z4368 ≤ (0 : Int) + (0 : Int) + (2 + z3421) - (2 : Int)) (h4 : 2 ≤ z3411 ∧ z3411 ≤ 1000) (h5 : 0 ≤ z3421 ∧ z3421 ≤ 998) (h6 : 0 ≤ z4366 ∧ z4366 ≤ 1000) (h7 : 0 ≤ z4368 ∧ z4368 ≤ 1000) : 0 ≤ z3421 ∧ z3421 ≤ 996 := by omega
theorem vc_X12_message_u_42 {z3411 z3421 z4366 z4368 : Int} (h0 : ((2 + z3421) + 2) ≤ z3411) (h1 : 2 ≤ z3411) (h2 : (2 + z3421) ≤ z3411) (h3 : z4366 + z4368 ≤ (0 : Int) + (0 : Int) + (2 + z3421) - (2 : Int)) (h4 : 2 ≤ z3411 ∧ z3411 ≤ 1000) (h5 : 0 ≤ z3421 ∧ z3421 ≤ 996) (h6 : 0 ≤ z4366 ∧ z4366 ≤ 1000) (h7 : 0 ≤ z4368 ∧ z4368 ≤ 1000) : 4 ≤ z3411 ∧ z3411 ≤ 1000 := by omega
theorem vc_X12_message_u_43 {z3411 z3421 z4366 z4368 z4380 : Int} (h0 : (((2 + z3421) + 2) + z4380) ≤ z3411) (h1 : 2 ≤ z3411) (h2 : (2 + z3421) ≤ z3411) (h3 : z4366 + z4368 ≤ (0 : Int) + (0 : Int) + (2 + z3421) - (2 : Int)) (h4 : ((2 + z3421) + 2) ≤ z3411) (h5 : 4 ≤ z3411 ∧ z3411 ≤ 1000) (h6 : 0 ≤ z3421 ∧ z3421 ≤ 996) (h7 : 0 ≤ z4366 ∧ z4366 ≤ 1000) (h8 : 0 ≤ z4368 ∧ z4368 ≤ 1000) (h9 : 0 ≤ z4380 ∧ z4380 ≤ 65535) : 0 ≤ z4380 ∧ z4380 ≤ 996 := by omega
theorem vc_X12_message_u_44 {z3411 z3421 z4366 z4368 z4380 : Int} (h0 : (2 + z3421) ≤ z3411) (h1 : z4366 + z4368 ≤ (0 : Int) + (0 : Int) + (2 + z3421) - (2 : Int)) (h2 : ((2 + z3421) + 2) ≤ z3411) (h3 : (((2 + z3421) + 2) + z4380) ≤ z3411) (h4 : 2 ≤ z3411) (h5 : 4 ≤ z3411 ∧ z3411 ≤ 1000) (h6 : 0 ≤ z3421 ∧ z3421 ≤ 996) (h7 : 0 ≤ z4366 ∧ z4366 ≤ 1000) (h8 : 0 ≤ z4368 ∧ z4368 ≤ 1000) (h9 : 0 ≤ z4380 ∧ z4380 ≤ 996) : 0 ≤ (((2 + z3421) + 2) + z4380) ∧ (((2 + z3421) + 2) + z4380) ≤ 1000 := by omega
theorem vc_X12_message_u_45 {z3411 z3421 z4366 z4368 z4380 : Int} (h0 : 2 ≤ z3411) (h1 : (2 + z3421) ≤ z3411) (h2 : z4366 + z4368 ≤ (0 : Int) + (0 : Int) + (2 + z3421) - (2 : Int)) (h3 : ((2 + z3421) + 2) ≤ z3411) (h4 : (((2 + z3421) + 2) + z4380) ≤ z3411) (h5 : 4 ≤ z3411 ∧ z3411 ≤ 1000) (h6 : 0 ≤ z3421 ∧ z3421 ≤ 996) (h7 : 0 ≤ z4366 ∧ z4366 ≤ 1000) (h8 : 0 ≤ z4368 ∧ z4368 ≤ 1000) (h9 : 0 ≤ z4380 ∧ z4380 ≤ 996) : (((2 + z3421) + 2) + z4380) ≤ z3411 := by omega
theorem vc_X12_message_u_46 {z3411 z3421 z4366 z4368 z4380 : Int} (h0 : (2 + z3421) ≤ z3411) (h1 : z4366 + z4368 ≤ (0 : Int) + (0 : Int) + (2 + z3421) - (2 : Int)) (h2 : ((2 + z3421) + 2) ≤ z3411) (h3 : (((2 + z3421) + 2) + z4380) ≤ z3411) (h4 : 2 ≤ z3411) (h5 : 4 ≤ z3411 ∧ z3411 ≤ 1000) (h6 : 0 ≤ z3421 ∧ z3421 ≤ 996) (h7 : 0 ≤ z4366 ∧ z4366 ≤ 1000) (h8 : 0 ≤ z4368 ∧ z4368 ≤ 1000) (h9 : 0 ≤ z4380 ∧ z4380 ≤ 996) : 3 * (0 : Int) ≤ ((2 + z3421) + 2) := by omega
theorem vc_X12_message_u_47 {z3411 z3421 z4366 z4368 z4380 : Int} (h0 : 2 ≤ z3411) (h1 : (2 + z3421) ≤ z3411) (h2 : ((2 + z3421) + 2) ≤ z3411) (h3 : (((2 + z3421) + 2) + z4380) ≤ z3411) (h4 : z4366 + z4368 ≤ (0 : Int) + (0 : Int) + (2 + z3421) - (2 : Int)) (h5 : 4 ≤ z3411 ∧ z3411 ≤ 1000) (h6 : 0 ≤ z3421 ∧ z3421 ≤ 996) (h7 : 0 ≤ z4366 ∧ z4366 ≤ 1000) (h8 : 0 ≤ z4368 ∧ z4368 ≤ 1000) (h9 : 0 ≤ z4380 ∧ z4380 ≤ 996) : z3411 ≤ z3411 := by omega
theorem vc_X12_message_u_48 {z3411 z3421 z4366 z4368 z4380 : Int} (h0 : 2 ≤ z3411) (h1 : (2 + z3421) ≤ z3411) (h2 : z4366 + z4368 ≤ (0 : Int) + (0 : Int) + (2 + z3421) - (2 : Int)) (h3 : ((2 + z3421) + 2) ≤ z3411) (h4 : (((2 + z3421) + 2) + z4380) ≤ z3411) (h5 : 4 ≤ z3411 ∧ z3411 ≤ 1000) (h6 : 0 ≤ z3421 ∧ z3421 ≤ 996) (h7 : 0 ≤ z4366 ∧ z4366 ≤ 1000) (h8 : 0 ≤ z4368 ∧ z4368 ≤ 1000) (h9 : 0 ≤ z4380 ∧ z4380 ≤ 996) : z4366 + z4368 + z3411 - (((2 + z3421) + 2) + z4380) ≤ 1000 := by omega
theorem vc_X12_message_u_49  : (960 : Int) ≤ (961 : Int) ∧ (1000 : Int) ≤ (1000 : Int) := by omega
theorem vc_X12_message_u_51  : (40 : Int) * ((((1000 : Int) : Int) - (1 : Int)) / (40 : Int)) < ((961 : Int) : Int) := by omega
theorem vc_X12_message_u_52  : ((1000 : Int) : Int) ≤ (5200 : Int) ∨ (21200 : Int) ≤ ((961 : Int) : Int) := by omega
theorem vc_X12_message_u_53  : ((1 : Int) ≤ ((961 : Int) : Int) ∧ ((1000 : Int) : Int) ≤ (1200 : Int)) ∨ (5200 : Int) ≤ ((961 : Int) : Int) := by omega
theorem vc_X12_message_u_54 {z3411 z3421 z4366 z4368 z4380 z4401 z4403 : Int} (h0 : z4401 + z4403 ≤ z4366 + z4368 + z3411 - (((2 + z3421) + 2) + z4380)) (h1 : 2 ≤ z3411) (h2 : (2 + z3421) ≤ z3411) (h3 : z4366 + z4368 ≤ (0 : Int) + (0 : Int) + (2 + z3421) - (2 : Int)) (h4 : ((2 + z3421) + 2) ≤ z3411) (h5 : (((2 + z3421) + 2) + z4380) ≤ z3411) (h6 : z3411 ≤ (((2 + z3421) + 2) + z4380)) (h7 : 4 ≤ z3411 ∧ z3411 ≤ 1000) (h8 : 0 ≤ z3421 ∧ z3421 ≤ 996) (h9 : 0 ≤ z4366 ∧ z4366 ≤ 1000) (h10 : 0 ≤ z4368 ∧ z4368 ≤ 1000) (h11 : 0 ≤ z4380 ∧ z4380 ≤ 996) (h12 : 0 ≤ z4401 ∧ z4401 ≤ 1000) (h13 : 0 ≤ z4403 ∧ z4403 ≤ 1000) : z4401 + z4403 ≤ 1000 := by omega
theorem vc_X12_message_u_55 {z3411 z3421 z4366 z4368 z4380 z4401 z4403 : Int} (h0 : (((2 + z3421) + 2) + z4380) < z3411) (h1 : 2 ≤ z3411) (h2 : (2 + z3421) ≤ z3411) (h3 : z4366 + z4368 ≤ (0 : Int) + (0 : Int) + (2 + z3421) - (2 : Int)) (h4 : ((2 + z3421) + 2) ≤ z3411) (h5 : (((2 + z3421) + 2) + z4380) ≤ z3411) (h6 : z4401 + z4403 ≤ z4366 + z4368 + z3411 - (((2 + z3421) + 2) + z4380)) (h7 : 4 ≤ z3411 ∧ z3411 ≤ 1000) (h8 : 0 ≤ z3421 ∧ z3421 ≤ 996) (h9 : 0 ≤ z4366 ∧ z4366 ≤ 1000) (h10 : 0 ≤ z4368 ∧ z4368 ≤ 1000) (h11 : 0 ≤ z4380 ∧ z4380 ≤ 996) (h12 : 0 ≤ z4401 ∧ z4401 ≤ 1000) (h13 : 0 ≤ z4403 ∧ z4403 ≤ 1000) : 5 ≤ z3411 ∧ z3411 ≤ 1000 := by omega
theorem vc_X12_message_u_56 {z3411 z3421 z4366 z4368 z4380 z4401 z4403 : Int} (h0 : (((2 + z3421) + 2) + z4380) < z3411) (h1 : 2 ≤ z3411) (h2 : (2 + z3421) ≤ z3411) (h3 : z4366 + z4368 ≤ (0 : Int) + (0 : Int) + (2 + z3421) - (2 : Int)) (h4 : ((2 + z3421) + 2) ≤ z3411) (h5 : (((2 + z3421) + 2) + z4380) ≤ z3411) (h6 : z4401 + z4403 ≤ z4366 + z4368 + z3411 - (((2 + z3421) + 2) + z4380)) (h7 : 5 ≤ z3411 ∧ z3411 ≤ 1000) (h8 : 0 ≤ z3421 ∧ z3421 ≤ 996) (h9 : 0 ≤ z4366 ∧ z4366 ≤ 1000) (h10 : 0 ≤ z4368 ∧ z4368 ≤ 1000) (h11 : 0 ≤ z4380 ∧ z4380 ≤ 996) (h12 : 0 ≤ z4401 ∧ z4401 ≤ 1000) (h13 : 0 ≤ z4403 ∧ z4403 ≤ 1000) : 0 ≤ z3421 ∧ z3421 ≤ 995 := by omega
theorem vc_X12_message_u_57 {z3411 z3421 z4366 z4368 z4380 z4401 z4403 : Int} (h0 : (((2 + z3421) + 2) + z4380) < z3411) (h1 : 2 ≤ z3411) (h2 : (2 + z3421) ≤ z3411) (h3 : z4366 + z4368 ≤ (0 : Int) + (0 : Int) + (2 + z3421) - (2 : Int)) (h4 : ((2 + z3421) + 2) ≤ z3411) (h5 : (((2 + z3421) + 2) + z4380) ≤ z3411) (h6 : z4401 + z4403 ≤ z4366 + z4368 + z3411 - (((2 + z3421) + 2) + z4380)) (h7 : 5 ≤ z3411 ∧ z3411 ≤ 1000) (h8 : 0 ≤ z3421 ∧ z3421 ≤ 995) (h9 : 0 ≤ z4366 ∧ z4366 ≤ 1000) (h10 : 0 ≤ z4368 ∧ z4368 ≤ 1000) (h11 : 0 ≤ z4380 ∧ z4380 ≤ 996) (h12 : 0 ≤ z4401 ∧ z4401 ≤ 1000) (h13 : 0 ≤ z4403 ∧ z4403 ≤ 1000) : 0 ≤ z4380 ∧ z4380 ≤ 995 := by omega
theorem vc_X12_message_u_59 {z3411 z3421 z4366 z4368 z4380 z4401 z4403 : Int} (h0 : z4401 + z4403 ≤ z4366 + z4368 + z3411 - (((2 + z3421) + 2) + z4380)) (h1 : 2 ≤ z3411) (h2 : (2 + z3421) ≤ z3411) (h3 : z4366 + z4368 ≤ (0 : Int) + (0 : Int) + (2 + z3421) - (2 : Int)) (h4 : ((2 + z3421) + 2) ≤ z3411) (h5 : (((2 + z3421) + 2) + z4380) ≤ z3411) (h6 : (((2 + z3421) + 2) + z4380) < z3411) (h7 : 5 ≤ z3411 ∧ z3411 ≤ 1000) (h8 : 0 ≤ z3421 ∧ z3421 ≤ 995) (h9 : 0 ≤ z4366 ∧ z4366 ≤ 1000) (h10 : 0 ≤ z4368 ∧ z4368 ≤ 1000) (h11 : 0 ≤ z4380 ∧ z4380 ≤ 995) (h12 : 0 ≤ z4401 ∧ z4401 ≤ 1000) (h13 : 0 ≤ z4403 ∧ z4403 ≤ 1000) : z4401 + z4403 ≤ 1000 := by omega
theorem vc_X12_message_u_63 {z3411 z3421 z4366 z4368 z4380 : Int} (h0 : z4366 + z4368 ≤ (0 : Int) + (0 : Int) + (2 + z3421) - (2 : Int)) (h1 : (2 + z3421) ≤ z3411) (h2 : ((2 + z3421) + 2) ≤ z3411) (h3 : z3411 < (((2 + z3421) + 2) + z4380)) (h4 : 4 ≤ z3411 ∧ z3411 ≤ 1000) (h5 : 0 ≤ z3421 ∧ z3421 ≤ 996) (h6 : 0 ≤ z4366 ∧ z4366 ≤ 1000) (h7 : 0 ≤ z4368 ∧ z4368 ≤ 1000) (h8 : 0 ≤ z4380 ∧ z4380 ≤ 65535) : z4366 + z4368 ≤ 1000 := by omega
theorem vc_X12_message_u_64 {z3411 z3421 z4366 z4368 : Int} (h0 : 2 ≤ z3411) (h1 : (2 + z3421) ≤ z3411) (h2 : z4366 + z4368 ≤ (0 : Int) + (0 : Int) + (2 + z3421) - (2 : Int)) (h3 : ((2 + z3421) + 2) ≤ z3411) (h4 : 4 ≤ z3411 ∧ z3411 ≤ 1000) (h5 : 0 ≤ z3421 ∧ z3421 ≤ 996) (h6 : 0 ≤ z4366 ∧ z4366 ≤ 1000) (h7 : 0 ≤ z4368 ∧ z4368 ≤ 1000) : (2 + z3421) + (2 : Int) ≤ z3411 := by omega
theorem vc_X12_message_u_65 {z3411 z3421 : Int} (h0 : z3411 < (2 + z3421)) (h1 : 2 ≤ z3411) (h2 : 2 ≤ z3411 ∧ z3411 ≤ 1000) (h3 : 0 ≤ z3421 ∧ z3421 ≤ 65535) : 1 ≤ z3421 ∧ z3421 ≤ 65535 := by omega
theorem vc_X12_message_u_66 {z3411 : Int} (h0 : 2 ≤ z3411) (h1 : 2 ≤ z3411 ∧ z3411 ≤ 1000) : (0 : Int) + (2 : Int) ≤ z3411 := by omega
theorem vc_X12_message_u_67 {z3386 : Int} (h0 : z3386 < 6) (h1 : 2 ≤ z3386 ∧ z3386 ≤ 6) : 2 ≤ z3386 ∧ z3386 ≤ 5 := by omega
theorem vc_X12_message_u_68 {z3386 : Int} (h0 : z3386 < 6) (h1 : 2 ≤ z3386 ∧ z3386 ≤ 5) : (-2147483648 ≤ (0 : Int) ∧ (0 : Int) ≤ 2147483647) ∧ ((960 + z3386) % 40 = 0 → -1 ≤ (0 : Int) ∧ (0 : Int) ≤ 9) ∧ ((960 + z3386) % 40 = 4 → 0 ≤ (0 : Int) ∧ (0 : Int) ≤ 20) ∧ ((960 + z3386) % 40 = 5 → 0 ≤ (0 : Int) ∧ (0 : Int) ≤ 8) := by omega
theorem vc_X12_message_u_69 {z3386 : Int} (h0 : z3386 < 6) (h1 : 2 ≤ z3386 ∧ z3386 ≤ 5) : 0 ≤ (960 + z3386) := by omega
theorem vc_X12_message_u_70 {z2932 z3386 : Int} (h0 : z3386 < 6) (h1 : 0 ≤ z2932 ∧ z2932 ≤ 10) (h2 : 2 ≤ z3386 ∧ z3386 ≤ 5) : ¬ (960 + z3386) % 40 = 0 ∨ 56000 ≤ (960 + z3386) ∨ ((960 + z3386) = 960 ∧ (0 : Int) ≤ 0) ∨ (¬ (960 + z3386) = 960 ∧ (0 : Int) < z2932) := by omega
theorem vc_X12_message_u_71 {N z3386 : Int} (h0 : (7 - z3386) < N + 1) (h1 : z3386 < 6) (h2 : 2 ≤ z3386 ∧ z3386 ≤ 5) : (7 - (z3386 + 1)) < N := by omega
theorem vc_X12_message_u_72 {z3386 : Int} (h0 : z3386 < 6) (h1 : 2 ≤ z3386 ∧ z3386 ≤ 5) : 0 ≤ (960 + z3386) ∧ 960 ≤ (960 + z3386) ∧ (960 + z3386) < 1000 := by omega
theorem vc_X12_message_u_73 {z3386 : Int} (h0 : z3386 < 6) (h1 : 2 ≤ z3386 ∧ z3386 ≤ 5) : 0 ≤ (960 + z3386) ∧ (960 + z3386) ≤ (960 + z3386) ∧ (960 + z3386) < ((960 + z3386) + 1) := by omega
theorem vc_X12_message_u_74 {z3386 : Int} (h0 : z3386 < 6) (h1 : 2 ≤ z3386 ∧ z3386 ≤ 5) : ((960 + z3386) + 1) ≤ 5200 ∨ 21200 ≤ (960 + z3386) := by omega
theorem vc_X12_message_u_75 {z3386 : Int} (h0 : z3386 < 6) (h1 : 2 ≤ z3386 ∧ z3386 ≤ 5) : (1 ≤ (960 + z3386) ∧ ((960 + z3386) + 1) ≤ 1200) ∨ 5200 ≤ (960 + z3386) := by omega
theorem vc_X12_message_u_76  : (7 - 2) < ((6 : Nat) : Int) := by omega
theorem vc_X12_message_u_77  : (0 : Int) ≤ (960 : Int) ∧ (960 : Int) ≤ (960 : Int) ∧ (960 : Int) < ((960 : Int) + (1 : Int)) := by omega
theorem vc_X12_message_u_78  : (0 : Int) ≤ ((960 : Int) + (1 : Int)) ∧ ((960 : Int) + (1 : Int)) ≤ ((960 : Int) + (1 : Int)) ∧ ((960 : Int) + (1 : Int)) < (((960 : Int) + (1 : Int)) + (1 : Int)) := by omega
theorem vc_X12_message_u_79  : ((((960 : Int) + (1 : Int)) + (1 : Int)) : Int) ≤ (5200 : Int) ∨ (21200 : Int) ≤ (((960 : Int) + (1 : Int)) : Int) := by omega
theorem vc_X12_message_u_80  : (((960 : Int) + (1 : Int)) : Int) ≤ (5200 : Int) ∨ (21200 : Int) ≤ ((960 : Int) : Int) := by omega
theorem vc_X12_message_u_81  : ((1 : Int) ≤ (((960 : Int) + (1 : Int)) : Int) ∧ ((((960 : Int) + (1 : Int)) + (1 : Int)) : Int) ≤ (1200 : Int)) ∨ (5200 : Int) ≤ (((960 : Int) + (1 : Int)) : Int) := by omega
theorem vc_X12_message_u_82  : ((1 : Int) ≤ ((960 : Int) : Int) ∧ (((960 : Int) + (1 : Int)) : Int) ≤ (1200 : Int)) ∨ (5200 : Int) ≤ ((960 : Int) : Int) := by omega
theorem vc_X12_message_u_84 {N z2889 : Int} (h0 : (257 - z2889) < N + 1) (h1 : z2889 < 256) (h2 : 0 ≤ z2889 ∧ z2889 ≤ 255) : (257 - (z2889 + 1)) < N := by omega
theorem vc_X12_message_u_85  : (257 - 0) < ((258 : Nat) : Int) := by omega
theorem vc_X12_message_u_87 {N z1863 : Int} (h0 : (5 - z1863) < N + 1) (h1 : z1863 < 4) (h2 : 0 ≤ z1863 ∧ z1863 ≤ 3) : (5 - (z1863 + 1)) < N := by omega
set_option maxRecDepth 4000 in
set_option maxHeartbeats 4000000 in
theorem c_X12_message_u {l : Launch} {D : va_G} {c : Nat → ClassId} {H0 : Heap} {sa : Nat × Nat × (Nat → Int32)} {w : mW} {μ : mM} (hw : mWF w) (hT : mT w μ) (hIJC : JC l D c H0 sa μ) (hIRP : RP μ) (hIEP : EP μ) (hIHP : HP μ) (hIUP : UP l D c H0 sa μ) (hIG1 : G1 μ) : sC (gG l D c H0 sa) mX12_message 5 0 0 [.ref 106] (mk w μ) (qI w [106001, 106088, 106091, 106093, 106096, 106097, 106098, 106099, 106101, 106102, 126999, 166999, 167999, 168999, 169999, 170999, 171999, 172999, 173999] μ (fun z μ1 => ((-2147483648) ≤ z ∧ z ≤ 2147483647) ∧ mG [(960, 1000)] μ μ1 ∧ JC l D c H0 sa μ1 ∧ RP μ1 ∧ EP μ1 ∧ HP μ1 ∧ UP l D c H0 sa μ1 ∧ G1 μ1 ∧ True)) := by
  refine sC.of rfl (by decide) (le_t rfl) ?_
  refine mr_lvE (lv' := [(0, .ref 106)]) rfl ?_
  refine mr_iconst (pc := 0) (z := 0) dX12_message_0 ?_
  refine mr_istore_n (pc := 1) (lv' := [(1, iv 0), (0, .ref 106)]) dX12_message_1 rfl (by decide) rfl ?_
  have L1865 : ∀ (nL1865 : Nat) (z1863 : Int) (μ1864 : mM), mT w μ1864 → mF [172999] w μ μ1864 → (0 ≤ z1863 ∧ z1863 ≤ 4) → JC l D c H0 sa μ1864 → RP μ1864 → EP μ1864 → HP μ1864 → UP l D c H0 sa μ1864 → G1 μ1864 → (5 - z1863) < (nL1865 : Int) → sV (gG l D c H0 sa) mX12_message (sRm 5 0 0) (sZ (gG l D c H0 sa) 0 0 (qI w [106001, 106088, 106091, 106093, 106096, 106097, 106098, 106099, 106101, 106102, 126999, 166999, 167999, 168999, 169999, 170999, 171999, 172999, 173999] μ (fun z μ1 => ((-2147483648) ≤ z ∧ z ≤ 2147483647) ∧ mG [(960, 1000)] μ μ1 ∧ JC l D c H0 sa μ1 ∧ RP μ1 ∧ EP μ1 ∧ HP μ1 ∧ UP l D c H0 sa μ1 ∧ G1 μ1 ∧ True))) 2 [(0, .ref 106), (1, iv z1863)] [] (mk w μ1864) 0 0 := by
    intro nL1865
    induction nL1865 with
    | zero => intro z1863 μ1864 T1867 F1868 h1866 I1870 I1871 I1872 I1873 I1874 I1875 h1876; exact ((vc_X3_putPrefix_2 h1876 h1866)).elim
    | succ nL1865 ih1877 =>
      intro z1863 μ1864 T1867 F1868 h1866 I1870 I1871 I1872 I1873 I1874 I1875 h1876
      refine mr_iload_n (pc := 2) (z := z1863) dX12_message_2 rfl rfl ?_
      refine mr_iconst (pc := 3) (z := 4) dX12_message_3 ?_
      refine mr_icmp_ge (pc := 4) (tgt := 21) dX12_message_4 (by decide) (r32 h1866 rfl) (r32 (rR (x := 4)) rfl) (fun h1883 => ?_) (fun h1883 => ?_)
      · have h1884 : 4 ≤ z1863 ∧ z1863 ≤ 4 := (vc_X12_addressRead_74 h1883 h1866)
        refine mr_iconst (pc := 21) (z := 0) dX12_message_21 ?_
        refine mr_istore_n (pc := 22) (lv' := [(1, iv 0), (0, .ref 106)]) dX12_message_22 rfl (by decide) rfl ?_
        have L2891 : ∀ (nL2891 : Nat) (z2889 : Int) (μ2890 : mM), mT w μ2890 → mF [171999] w μ1864 μ2890 → (0 ≤ z2889 ∧ z2889 ≤ 256) → JC l D c H0 sa μ2890 → RP μ2890 → EP μ2890 → HP μ2890 → UP l D c H0 sa μ2890 → G1 μ2890 → (257 - z2889) < (nL2891 : Int) → sV (gG l D c H0 sa) mX12_message (sRm 5 0 0) (sZ (gG l D c H0 sa) 0 0 (qI w [106001, 106088, 106091, 106093, 106096, 106097, 106098, 106099, 106101, 106102, 126999, 166999, 167999, 168999, 169999, 170999, 171999, 172999, 173999] μ (fun z μ1 => ((-2147483648) ≤ z ∧ z ≤ 2147483647) ∧ mG [(960, 1000)] μ μ1 ∧ JC l D c H0 sa μ1 ∧ RP μ1 ∧ EP μ1 ∧ HP μ1 ∧ UP l D c H0 sa μ1 ∧ G1 μ1 ∧ True))) 23 [(0, .ref 106), (1, iv z2889)] [] (mk w μ2890) 0 0 := by
          intro nL2891
          induction nL2891 with
          | zero => intro z2889 μ2890 T2893 F2894 h2892 I2896 I2897 I2898 I2899 I2900 I2901 h2902; exact ((vc_X12_message_u_3 h2902 h2892)).elim
          | succ nL2891 ih2903 =>
            intro z2889 μ2890 T2893 F2894 h2892 I2896 I2897 I2898 I2899 I2900 I2901 h2902
            refine mr_iload_n (pc := 23) (z := z2889) dX12_message_23 rfl rfl ?_
            refine mr_sipush (pc := 24) (z := 256) dX12_message_24 (by decide) ?_
            refine mr_icmp_ge (pc := 27) (tgt := 43) dX12_message_27 (by decide) (r32 h2892 rfl) (r32 (rR (x := 256)) rfl) (fun h2909 => ?_) (fun h2909 => ?_)
            · have h2910 : 256 ≤ z2889 ∧ z2889 ≤ 256 := (vc_X3_putNumber_4 h2909 h2892)
              refine sv_aload_n (pc := 43) dX12_message_43 rfl rfl ?_
              refine mr_iconst (pc := 44) (z := 0) dX12_message_44 ?_
              refine pf_X12_88 (pc := 45) dX12_message_45 wF_X12_625 (A_106 hw) T2893 (rW (c := 0) (d := 1000) (rR (x := 0)) rfl) fun μ2911 u2912 T2913 => ?_
              refine sv_aload_n (pc := 48) dX12_message_48 rfl rfl ?_
              refine mr_iconst (pc := 49) (z := 0) dX12_message_49 ?_
              refine pf_X12_91 (pc := 50) dX12_message_50 wF_X12_628 (A_106 hw) T2913 (rW (c := 0) (d := 1000) (rR (x := 0)) rfl) fun μ2914 u2915 T2916 => ?_
              refine sv_aload_n (pc := 53) dX12_message_53 rfl rfl ?_
              refine mr_iconst (pc := 54) (z := 0) dX12_message_54 ?_
              refine pf_X12_93 (pc := 55) dX12_message_55 wF_X12_652 (A_106 hw) T2916 (rW (c := 0) (d := 400) (rR (x := 0)) rfl) fun μ2917 u2918 T2919 => ?_
              refine sv_aload_n (pc := 58) dX12_message_58 rfl rfl ?_
              refine mr_iconst (pc := 59) (z := 0) dX12_message_59 ?_
              refine pf_X12_101 (pc := 60) dX12_message_60 wF_X12_637 (A_106 hw) T2919 (rW (c := 0) (d := 8) (rR (x := 0)) rfl) fun μ2920 u2921 T2922 => ?_
              refine sv_aload_n (pc := 63) dX12_message_63 rfl rfl ?_
              refine mr_iconst (pc := 64) (z := 0) dX12_message_64 ?_
              refine pf_X12_98 (pc := 65) dX12_message_65 wF_X12_631 (A_106 hw) T2922 (rW (c := 0) (d := 1) (rR (x := 0)) rfl) fun μ2923 u2924 T2925 => ?_
              refine sv_aload_n (pc := 68) dX12_message_68 rfl rfl ?_
              refine mr_iconst (pc := 69) (z := 0) dX12_message_69 ?_
              refine pf_X12_99 (pc := 70) dX12_message_70 wF_X12_634 (A_106 hw) T2925 (rW (c := 0) (d := 1) (rR (x := 0)) rfl) fun μ2926 u2927 T2928 => ?_
              refine mr_sipush (pc := 73) (z := 960) dX12_message_73 (by decide) ?_
              refine mr_istore_n (pc := 76) (lv' := [(1, iv 960), (0, .ref 106)]) dX12_message_76 rfl (by decide) rfl ?_
              refine sv_aload_n (pc := 77) dX12_message_77 rfl rfl ?_
              refine gf_X12_32 (pc := 78) dX12_message_78 wF_X12_148 (A_106 hw) T2928 ?_
              refine mr_iload_n (pc := 81) (z := 960) dX12_message_81 rfl rfl ?_
              refine mr_iconst (pc := 82) (z := 0) dX12_message_82 ?_
              refine ss_126 (pc := 83) dX12_message_83 (A_126 hw) T2928 (rIx (n := 84000) (rR (x := 960)) rfl) vc_X12_message_u_5 fun μ2929 u2930 T2931 => ?_
              obtain ⟨z2932, q2933⟩ : ∃ z, μ2929 106 2 = z := ⟨_, rfl⟩
              have h2934 : (0 ≤ z2932 ∧ z2932 ≤ 10) := by rw [← q2933]; exact T2931 106 106 (A_106 hw) 2
              have I2935 : RP μ2929 := RP.up (RP.keep I2897 hw ((mF.up (mF.up (mF.up (mF.up (mF.up (mF.up mF.refl (A_106 hw) u2912 rfl) (A_106 hw) u2915 rfl) (A_106 hw) u2918 rfl) (A_106 hw) u2921 rfl) (A_106 hw) u2924 rfl) (A_106 hw) u2927 rfl) : mF [106088, 106091, 106093, 106098, 106099, 106101] w μ2890 μ2926) rfl ((mG.upO (mG.upO (mG.upO (mG.upO (mG.upO (mG.upO mG.refl u2912 rfl) u2915 rfl) u2918 rfl) u2921 rfl) u2924 rfl) u2927 rfl) : mG [] μ2890 μ2926) (fun _ h => absurd h List.not_mem_nil)) u2930 q2933 vc_X12_message_u_6 (vc_X12_message_u_7 h2934)
              refine sv_aload_n (pc := 84) dX12_message_84 rfl rfl ?_
              refine gf_X12_32 (pc := 85) dX12_message_85 wF_X12_148 (A_106 hw) T2931 ?_
              refine mr_iload_n (pc := 88) (z := 960) dX12_message_88 rfl rfl ?_
              refine mr_iconst (pc := 89) (z := 1) dX12_message_89 ?_
              refine mr_iadd (pc := 90) (x := 960) (y := 1) dX12_message_90 ?_
              refine mr_bipush (pc := 91) (z := 100) dX12_message_91 (by decide) ?_
              refine ss_126 (pc := 93) dX12_message_93 (A_126 hw) T2931 (rIx (n := 84000) (rAdd (e := 961) (f := 961) (rR (x := 960)) (rR (x := 1)) rfl) rfl) vc_X12_message_u_8 fun μ2936 u2937 T2938 => ?_
              have I2939 : RP μ2936 := RP.up I2935 u2937 (u2937.f (Or.inl (mAt.ne (A_126 hw) (A_106 hw) rfl)) q2933) vc_X12_message_u_9 (vc_X12_message_u_10 h2934)
              refine mr_iconst (pc := 94) (z := 2) dX12_message_94 ?_
              refine mr_istore_n (pc := 95) (lv' := [(2, iv 2), (1, iv 960), (0, .ref 106)]) dX12_message_95 rfl (by decide) rfl ?_
              have L3388 : ∀ (nL3388 : Nat) (z3386 : Int) (μ3387 : mM), mT w μ3387 → mF [126999] w μ2936 μ3387 → mG [(960, 1000)] μ2936 μ3387 → (2 ≤ z3386 ∧ z3386 ≤ 6) → JC l D c H0 sa μ3387 → RP μ3387 → EP μ3387 → HP μ3387 → UP l D c H0 sa μ3387 → G1 μ3387 → (7 - z3386) < (nL3388 : Int) → sV (gG l D c H0 sa) mX12_message (sRm 5 0 0) (sZ (gG l D c H0 sa) 0 0 (qI w [106001, 106088, 106091, 106093, 106096, 106097, 106098, 106099, 106101, 106102, 126999, 166999, 167999, 168999, 169999, 170999, 171999, 172999, 173999] μ (fun z μ1 => ((-2147483648) ≤ z ∧ z ≤ 2147483647) ∧ mG [(960, 1000)] μ μ1 ∧ JC l D c H0 sa μ1 ∧ RP μ1 ∧ EP μ1 ∧ HP μ1 ∧ UP l D c H0 sa μ1 ∧ G1 μ1 ∧ True))) 96 [(0, .ref 106), (1, iv 960), (2, iv z3386)] [] (mk w μ3387) 0 0 := by
                intro nL3388
                induction nL3388 with
                | zero => intro z3386 μ3387 T3390 F3391 G3392 h3389 I3393 I3394 I3395 I3396 I3397 I3398 h3399; exact ((vc_X12_message_u_11 h3399 h3389)).elim
                | succ nL3388 ih3400 =>
                  intro z3386 μ3387 T3390 F3391 G3392 h3389 I3393 I3394 I3395 I3396 I3397 I3398 h3399
                  refine mr_iload_n (pc := 96) (z := z3386) dX12_message_96 rfl rfl ?_
                  refine mr_bipush (pc := 97) (z := 6) dX12_message_97 (by decide) ?_
                  refine mr_icmp_ge (pc := 99) (tgt := 117) dX12_message_99 (by decide) (r32 h3389 rfl) (r32 (rR (x := 6)) rfl) (fun h3406 => ?_) (fun h3406 => ?_)
                  · have h3407 : 6 ≤ z3386 ∧ z3386 ≤ 6 := (vc_X12_message_u_12 h3406 h3389)
                    refine sv_aload_n (pc := 117) dX12_message_117 rfl rfl ?_
                    refine mr_iconst (pc := 118) (z := 1) dX12_message_118 ?_
                    refine pf_X12_96 (pc := 119) dX12_message_119 wF_X12_655 (A_106 hw) T3390 (rW (c := 0) (d := 1) (rR (x := 1)) rfl) fun μ3408 u3409 T3410 => ?_
                    refine sv_aload_n (pc := 122) dX12_message_122 rfl rfl ?_
                    refine gf_X12_1 (pc := 123) dX12_message_123 wF_X12_1 (A_106 hw) T3410 fun z3411 q3412 h3413 => ?_
                    refine mr_iconst (pc := 126) (z := 2) dX12_message_126 ?_
                    have J3423 : ∀ (z3421 : Int), ((0 ≤ z3421 ∧ z3421 ≤ 65535)) → sV (gG l D c H0 sa) mX12_message (sRm 5 0 0) (sZ (gG l D c H0 sa) 0 0 (qI w [106001, 106088, 106091, 106093, 106096, 106097, 106098, 106099, 106101, 106102, 126999, 166999, 167999, 168999, 169999, 170999, 171999, 172999, 173999] μ (fun z μ1 => ((-2147483648) ≤ z ∧ z ≤ 2147483647) ∧ mG [(960, 1000)] μ μ1 ∧ JC l D c H0 sa μ1 ∧ RP μ1 ∧ EP μ1 ∧ HP μ1 ∧ UP l D c H0 sa μ1 ∧ G1 μ1 ∧ True))) 140 [(0, .ref 106)] [iv z3421] (mk w μ3408) 0 0 := by
                      intro z3421 h3422
                      refine mr_istore_n (pc := 140) (lv' := [(2, iv z3421), (0, .ref 106)]) dX12_message_140 rfl (by decide) rfl ?_
                      refine sv_aload_n (pc := 141) dX12_message_141 rfl rfl ?_
                      refine gk_X12_1 (pc := 142) dX12_message_142 wF_X12_1 (A_106 hw) q3412 ?_
                      refine mr_iconst (pc := 145) (z := 2) dX12_message_145 ?_
                      have J3516 : ∀ (μ3505 : mM), (mT w μ3505) → (mF [106088, 106091, 106093, 106098, 106099, 106101, 126999, 166999, 167999, 168999, 169999, 170999, 171999, 172999, 173999] w μ3408 μ3505) → (mG [(960, 1000)] μ3408 μ3505) → (JC l D c H0 sa μ3505) → (RP μ3505) → (EP μ3505) → (HP μ3505) → (UP l D c H0 sa μ3505) → (G1 μ3505) → ((μ3505 106 (88) + μ3505 106 (91) ≤ 1000)) → sV (gG l D c H0 sa) mX12_message (sRm 5 0 0) (sZ (gG l D c H0 sa) 0 0 (qI w [106001, 106088, 106091, 106093, 106096, 106097, 106098, 106099, 106101, 106102, 126999, 166999, 167999, 168999, 169999, 170999, 171999, 172999, 173999] μ (fun z μ1 => ((-2147483648) ≤ z ∧ z ≤ 2147483647) ∧ mG [(960, 1000)] μ μ1 ∧ JC l D c H0 sa μ1 ∧ RP μ1 ∧ EP μ1 ∧ HP μ1 ∧ UP l D c H0 sa μ1 ∧ G1 μ1 ∧ True))) 303 [(0, .ref 106)] [] (mk w μ3505) 0 0 := by
                        intro μ3505 T3506 F3507 G3508 I3509 I3510 I3511 I3512 I3513 I3514 h3515
                        obtain ⟨z3517, q3518⟩ : ∃ z, μ3505 106 88 = z := ⟨_, rfl⟩
                        have h3519 : (0 ≤ z3517 ∧ z3517 ≤ 1000) := by rw [← q3518]; exact T3506 106 106 (A_106 hw) 88
                        obtain ⟨z3520, q3521⟩ : ∃ z, μ3505 106 91 = z := ⟨_, rfl⟩
                        have h3522 : (0 ≤ z3520 ∧ z3520 ≤ 1000) := by rw [← q3521]; exact T3506 106 106 (A_106 hw) 91
                        have h3523 : z3517 + z3520 ≤ 1000 := by have h := h3515; rw [q3518, q3521] at h; exact h
                        refine sv_aload_n (pc := 303) dX12_message_303 rfl rfl ?_
                        refine mr_iconst (pc := 304) (z := 0) dX12_message_304 ?_
                        refine pf_X12_1 (pc := 305) dX12_message_305 wF_X12_1 (A_106 hw) T3506 (rW (c := 0) (d := 1000) (rR (x := 0)) rfl) fun μ3524 u3525 T3526 => ?_
                        refine sv_aload_n (pc := 308) dX12_message_308 rfl rfl ?_
                        refine sv_aload_n (pc := 309) dX12_message_309 rfl rfl ?_
                        refine gf_X12_95 (pc := 310) dX12_message_310 wF_X12_478 (A_106 hw) T3526 ?_
                        refine mr_iconst (pc := 313) (z := 1) dX12_message_313 ?_
                        refine la_172 (pc := 314) dX12_message_314 (A_172 hw) T3526 (rIx (n := 4) (rR (x := 1)) rfl) fun z3527 q3528 h3529 => ?_
                        refine mr_ldc (pc := 315) (z := (-99999999)) dX12_message_315 wG_X12_29 (by decide) ?_
                        have J3533 : ∀ (z3531 : Int), ((0 ≤ z3531 ∧ z3531 ≤ 1)) → sV (gG l D c H0 sa) mX12_message (sRm 5 0 0) (sZ (gG l D c H0 sa) 0 0 (qI w [106001, 106088, 106091, 106093, 106096, 106097, 106098, 106099, 106101, 106102, 126999, 166999, 167999, 168999, 169999, 170999, 171999, 172999, 173999] μ (fun z μ1 => ((-2147483648) ≤ z ∧ z ≤ 2147483647) ∧ mG [(960, 1000)] μ μ1 ∧ JC l D c H0 sa μ1 ∧ RP μ1 ∧ EP μ1 ∧ HP μ1 ∧ UP l D c H0 sa μ1 ∧ G1 μ1 ∧ True))) 325 [(0, .ref 106)] [iv z3531, .ref 106] (mk w μ3524) 0 0 := by
                          intro z3531 h3532
                          refine pf_X12_97 (pc := 325) dX12_message_325 wF_X12_665 (A_106 hw) T3526 h3532 fun μ3534 u3535 T3536 => ?_
                          refine sv_aload_n (pc := 328) dX12_message_328 rfl rfl ?_
                          refine gk_X12_97 (pc := 329) dX12_message_329 wF_X12_665 (A_106 hw) u3535.1 ?_
                          have J3605 : ∀ (μ3595 : mM), (mT w μ3595) → (mF [106088, 106091, 166999, 167999] w μ3534 μ3595) → (JC l D c H0 sa μ3595) → (RP μ3595) → (EP μ3595) → (HP μ3595) → (UP l D c H0 sa μ3595) → (G1 μ3595) → sV (gG l D c H0 sa) mX12_message (sRm 5 0 0) (sZ (gG l D c H0 sa) 0 0 (qI w [106001, 106088, 106091, 106093, 106096, 106097, 106098, 106099, 106101, 106102, 126999, 166999, 167999, 168999, 169999, 170999, 171999, 172999, 173999] μ (fun z μ1 => ((-2147483648) ≤ z ∧ z ≤ 2147483647) ∧ mG [(960, 1000)] μ μ1 ∧ JC l D c H0 sa μ1 ∧ RP μ1 ∧ EP μ1 ∧ HP μ1 ∧ UP l D c H0 sa μ1 ∧ G1 μ1 ∧ True))) 407 [(0, .ref 106)] [] (mk w μ3595) 0 0 := by
                            intro μ3595 T3596 F3597 I3599 I3600 I3601 I3602 I3603 I3604
                            refine sv_aload_n (pc := 407) dX12_message_407 rfl rfl ?_
                            refine sv_aload_n (pc := 408) dX12_message_408 rfl rfl ?_
                            refine gf_X12_95 (pc := 409) dX12_message_409 wF_X12_478 (A_106 hw) T3596 ?_
                            refine mr_iconst (pc := 412) (z := 1) dX12_message_412 ?_
                            refine lk_172 (pc := 413) dX12_message_413 (A_172 hw) (rIx (n := 4) (rR (x := 1)) rfl) (F3597.f (A_172 hw) rfl (u3535.f (Or.inl (mAt.ne (A_106 hw) (A_172 hw) rfl)) q3528)) ?_
                            refine mr_ldc (pc := 414) (z := (-99999999)) dX12_message_414 wG_X12_29 (by decide) ?_
                            have J3617 : ∀ (z3615 : Int), ((0 ≤ z3615 ∧ z3615 ≤ 3)) → sV (gG l D c H0 sa) mX12_message (sRm 5 0 0) (sZ (gG l D c H0 sa) 0 0 (qI w [106001, 106088, 106091, 106093, 106096, 106097, 106098, 106099, 106101, 106102, 126999, 166999, 167999, 168999, 169999, 170999, 171999, 172999, 173999] μ (fun z μ1 => ((-2147483648) ≤ z ∧ z ≤ 2147483647) ∧ mG [(960, 1000)] μ μ1 ∧ JC l D c H0 sa μ1 ∧ RP μ1 ∧ EP μ1 ∧ HP μ1 ∧ UP l D c H0 sa μ1 ∧ G1 μ1 ∧ True))) 454 [(0, .ref 106)] [iv z3615, .ref 106] (mk w μ3595) 0 0 := by
                              intro z3615 h3616
                              refine pf_X12_102 (pc := 454) dX12_message_454 wF_X12_668 (A_106 hw) T3596 h3616 fun μ3618 u3619 T3620 => ?_
                              refine sv_aload_n (pc := 457) dX12_message_457 rfl rfl ?_
                              refine gk_X12_102 (pc := 458) dX12_message_458 wF_X12_668 (A_106 hw) u3619.1 ?_
                              exact mr_iret dX12_message_461 rfl (le_t rfl) (le_t rfl) T3620 (mF.up (mF.call (mF.up (mF.up (mF.call (mF.up (mF.call (mF.up (mF.up (mF.up (mF.up (mF.up (mF.up (mF.up (mF.up (mF.call (mF.call mF.refl F1868 rfl) F2894 rfl) (A_106 hw) u2912 rfl) (A_106 hw) u2915 rfl) (A_106 hw) u2918 rfl) (A_106 hw) u2921 rfl) (A_106 hw) u2924 rfl) (A_106 hw) u2927 rfl) (A_126 hw) u2930 rfl) (A_126 hw) u2937 rfl) F3391 rfl) (A_106 hw) u3409 rfl) F3507 rfl) (A_106 hw) u3525 rfl) (A_106 hw) u3535 rfl) F3597 rfl) (A_106 hw) u3619 rfl) ⟨(rW (c := (-2147483648)) (d := 2147483647) h3616 rfl), (mG.upO (mG.fr (mG.upO (mG.upO (mG.call (mG.upO (mG.call (mG.up (mG.up (mG.upO (mG.upO (mG.upO (mG.upO (mG.upO (mG.upO (mG.fr (mG.fr mG.refl F1868 (A_126 hw) rfl) F2894 (A_126 hw) rfl) u2912 rfl) u2915 rfl) u2918 rfl) u2921 rfl) u2924 rfl) u2927 rfl) u2930 List.mem_cons_self vc_X12_message_u_13) u2937 List.mem_cons_self vc_X12_message_u_14) G3392 (List.forall_mem_cons.mpr ⟨⟨_, List.mem_cons_self, vc_X12_message_u_15⟩, (fun _ h => absurd h List.not_mem_nil)⟩)) u3409 rfl) G3508 (List.forall_mem_cons.mpr ⟨⟨_, List.mem_cons_self, vc_X12_message_u_15⟩, (fun _ h => absurd h List.not_mem_nil)⟩)) u3525 rfl) u3535 rfl) F3597 (A_126 hw) rfl) u3619 rfl), (JC.keepJ I3599 hw ((mF.up mF.refl (A_106 hw) u3619 rfl) : mF [106102] w μ3595 μ3618) rfl), (RP.keep I3600 hw ((mF.up mF.refl (A_106 hw) u3619 rfl) : mF [106102] w μ3595 μ3618) rfl ((mG.upO mG.refl u3619 rfl) : mG [] μ3595 μ3618) (fun _ h => absurd h List.not_mem_nil)), (EP.keep I3601 hw ((mF.up mF.refl (A_106 hw) u3619 rfl) : mF [106102] w μ3595 μ3618) rfl), (HP.keep I3602 hw ((mF.up mF.refl (A_106 hw) u3619 rfl) : mF [106102] w μ3595 μ3618) rfl ((mG.upO mG.refl u3619 rfl) : mG [] μ3595 μ3618) (fun _ h => absurd h List.not_mem_nil)), (UPg.fr I3603 hw T3620 rfl ((mF.up mF.refl (A_106 hw) u3619 rfl) : mF [106102] w μ3595 μ3618) rfl rfl rfl ((mG.upO mG.refl u3619 rfl) : mG [] μ3595 μ3618) (fun _ h => absurd h List.not_mem_nil)), (G1.keep I3604 hw ((mF.up mF.refl (A_106 hw) u3619 rfl) : mF [106102] w μ3595 μ3618) rfl rfl ((mG.upO mG.refl u3619 rfl) : mG [] μ3595 μ3618) (fun _ h => absurd h List.not_mem_nil)), trivial⟩
                            refine mr_icmp_eq (pc := 416) (tgt := 423) dX12_message_416 (by decide) h3529 (r32 (rR (x := (-99999999))) rfl) (fun h3621 => ?_) (fun h3621 => ?_)
                            · have h3622 : (-99999999) ≤ z3527 ∧ z3527 ≤ (-99999999) := (vc_X12_judgedAnew_21 h3621 h3529)
                              refine sv_aload_n (pc := 423) dX12_message_423 rfl rfl ?_
                              refine gf_X12_95 (pc := 424) dX12_message_424 wF_X12_478 (A_106 hw) T3596 ?_
                              refine mr_iconst (pc := 427) (z := 2) dX12_message_427 ?_
                              refine la_172 (pc := 428) dX12_message_428 (A_172 hw) T3596 (rIx (n := 4) (rR (x := 2)) rfl) fun z3623 q3624 h3625 => ?_
                              refine mr_ldc (pc := 429) (z := (-99999999)) dX12_message_429 wG_X12_29 (by decide) ?_
                              refine mr_icmp_eq (pc := 431) (tgt := 438) dX12_message_431 (by decide) h3625 (r32 (rR (x := (-99999999))) rfl) (fun h3626 => ?_) (fun h3626 => ?_)
                              · have h3627 : (-99999999) ≤ z3623 ∧ z3623 ≤ (-99999999) := (vc_X12_judgedAnew_21 h3626 h3625)
                                refine sv_aload_n (pc := 438) dX12_message_438 rfl rfl ?_
                                refine gf_X12_95 (pc := 439) dX12_message_439 wF_X12_478 (A_106 hw) T3596 ?_
                                refine mr_iconst (pc := 442) (z := 3) dX12_message_442 ?_
                                refine la_172 (pc := 443) dX12_message_443 (A_172 hw) T3596 (rIx (n := 4) (rR (x := 3)) rfl) fun z3628 q3629 h3630 => ?_
                                refine mr_ldc (pc := 444) (z := (-99999999)) dX12_message_444 wG_X12_29 (by decide) ?_
                                refine mr_icmp_eq (pc := 446) (tgt := 453) dX12_message_446 (by decide) h3630 (r32 (rR (x := (-99999999))) rfl) (fun h3631 => ?_) (fun h3631 => ?_)
                                · have h3632 : (-99999999) ≤ z3628 ∧ z3628 ≤ (-99999999) := (vc_X12_judgedAnew_21 h3631 h3630)
                                  refine mr_iconst (pc := 453) (z := 0) dX12_message_453 ?_
                                  exact J3617 0 (rW (c := 0) (d := 3) (rR (x := 0)) rfl)
                                refine mr_iconst (pc := 449) (z := 3) dX12_message_449 ?_
                                refine sv_goto (pc := 450) (tgt := 454) dX12_message_450 (by decide) ?_
                                exact J3617 3 (rW (c := 0) (d := 3) (rR (x := 3)) rfl)
                              refine mr_iconst (pc := 434) (z := 2) dX12_message_434 ?_
                              refine sv_goto (pc := 435) (tgt := 454) dX12_message_435 (by decide) ?_
                              exact J3617 2 (rW (c := 0) (d := 3) (rR (x := 2)) rfl)
                            refine mr_iconst (pc := 419) (z := 1) dX12_message_419 ?_
                            refine sv_goto (pc := 420) (tgt := 454) dX12_message_420 (by decide) ?_
                            exact J3617 1 (rW (c := 0) (d := 3) (rR (x := 1)) rfl)
                          refine mr_if_ne (pc := 332) (tgt := 407) dX12_message_332 (by decide) (r32 h3532 rfl) (fun h3633 => ?_) (fun h3633 => ?_)
                          · have h3634 : 1 ≤ z3531 ∧ z3531 ≤ 1 := (vc_X12_ring_24 h3633 h3532)
                            exact J3605 μ3534 T3536 mF.refl (JC.keepJ I3509 hw ((mF.up (mF.up mF.refl (A_106 hw) u3525 rfl) (A_106 hw) u3535 rfl) : mF [106001, 106097] w μ3505 μ3534) rfl) (RP.keep I3510 hw ((mF.up (mF.up mF.refl (A_106 hw) u3525 rfl) (A_106 hw) u3535 rfl) : mF [106001, 106097] w μ3505 μ3534) rfl ((mG.upO (mG.upO mG.refl u3525 rfl) u3535 rfl) : mG [] μ3505 μ3534) (fun _ h => absurd h List.not_mem_nil)) (EP.keep I3511 hw ((mF.up (mF.up mF.refl (A_106 hw) u3525 rfl) (A_106 hw) u3535 rfl) : mF [106001, 106097] w μ3505 μ3534) rfl) (HP.keep I3512 hw ((mF.up (mF.up mF.refl (A_106 hw) u3525 rfl) (A_106 hw) u3535 rfl) : mF [106001, 106097] w μ3505 μ3534) rfl ((mG.upO (mG.upO mG.refl u3525 rfl) u3535 rfl) : mG [] μ3505 μ3534) (fun _ h => absurd h List.not_mem_nil)) (UPg.fr I3513 hw T3536 rfl ((mF.up (mF.up mF.refl (A_106 hw) u3525 rfl) (A_106 hw) u3535 rfl) : mF [106001, 106097] w μ3505 μ3534) rfl rfl rfl ((mG.upO (mG.upO mG.refl u3525 rfl) u3535 rfl) : mG [] μ3505 μ3534) (fun _ h => absurd h List.not_mem_nil)) (G1.keep I3514 hw ((mF.up (mF.up mF.refl (A_106 hw) u3525 rfl) (A_106 hw) u3535 rfl) : mF [106001, 106097] w μ3505 μ3534) rfl rfl ((mG.upO (mG.upO mG.refl u3525 rfl) u3535 rfl) : mG [] μ3505 μ3534) (fun _ h => absurd h List.not_mem_nil))
                          have h3635 : 0 ≤ z3531 ∧ z3531 ≤ 0 := (vc_X12_ring_22 h3633 h3532)
                          refine sv_aload_n (pc := 335) dX12_message_335 rfl rfl ?_
                          refine gf_X12_95 (pc := 336) dX12_message_336 wF_X12_478 (A_106 hw) T3536 ?_
                          refine mr_iconst (pc := 339) (z := 2) dX12_message_339 ?_
                          refine la_172 (pc := 340) dX12_message_340 (A_172 hw) T3536 (rIx (n := 4) (rR (x := 2)) rfl) fun z3636 q3637 h3638 => ?_
                          refine mr_ldc (pc := 341) (z := (-99999999)) dX12_message_341 wG_X12_29 (by decide) ?_
                          refine mr_icmp_eq (pc := 343) (tgt := 407) dX12_message_343 (by decide) h3638 (r32 (rR (x := (-99999999))) rfl) (fun h3639 => ?_) (fun h3639 => ?_)
                          · have h3640 : (-99999999) ≤ z3636 ∧ z3636 ≤ (-99999999) := (vc_X12_judgedAnew_21 h3639 h3638)
                            exact J3605 μ3534 T3536 mF.refl (JC.keepJ I3509 hw ((mF.up (mF.up mF.refl (A_106 hw) u3525 rfl) (A_106 hw) u3535 rfl) : mF [106001, 106097] w μ3505 μ3534) rfl) (RP.keep I3510 hw ((mF.up (mF.up mF.refl (A_106 hw) u3525 rfl) (A_106 hw) u3535 rfl) : mF [106001, 106097] w μ3505 μ3534) rfl ((mG.upO (mG.upO mG.refl u3525 rfl) u3535 rfl) : mG [] μ3505 μ3534) (fun _ h => absurd h List.not_mem_nil)) (EP.keep I3511 hw ((mF.up (mF.up mF.refl (A_106 hw) u3525 rfl) (A_106 hw) u3535 rfl) : mF [106001, 106097] w μ3505 μ3534) rfl) (HP.keep I3512 hw ((mF.up (mF.up mF.refl (A_106 hw) u3525 rfl) (A_106 hw) u3535 rfl) : mF [106001, 106097] w μ3505 μ3534) rfl ((mG.upO (mG.upO mG.refl u3525 rfl) u3535 rfl) : mG [] μ3505 μ3534) (fun _ h => absurd h List.not_mem_nil)) (UPg.fr I3513 hw T3536 rfl ((mF.up (mF.up mF.refl (A_106 hw) u3525 rfl) (A_106 hw) u3535 rfl) : mF [106001, 106097] w μ3505 μ3534) rfl rfl rfl ((mG.upO (mG.upO mG.refl u3525 rfl) u3535 rfl) : mG [] μ3505 μ3534) (fun _ h => absurd h List.not_mem_nil)) (G1.keep I3514 hw ((mF.up (mF.up mF.refl (A_106 hw) u3525 rfl) (A_106 hw) u3535 rfl) : mF [106001, 106097] w μ3505 μ3534) rfl rfl ((mG.upO (mG.upO mG.refl u3525 rfl) u3535 rfl) : mG [] μ3505 μ3534) (fun _ h => absurd h List.not_mem_nil))
                          refine mr_iconst (pc := 346) (z := 0) dX12_message_346 ?_
                          refine mr_istore_n (pc := 347) (lv' := [(3, iv 0), (0, .ref 106)]) dX12_message_347 rfl (by decide) rfl ?_
                          have L4293 : ∀ (nL4293 : Nat) (z4291 : Int) (μ4292 : mM) (f_g : Int) (f_c : Int), mT w μ4292 → mF [106088, 166999, 167999] w μ3534 μ4292 → μ4292 106 (88) = f_g → μ4292 106 (91) = f_c → (0 ≤ z4291 ∧ z4291 ≤ 1000) → (f_g + f_c ≤ 1000 + z4291) → (z4291 ≤ f_c) → JC l D c H0 sa μ4292 → RP μ4292 → EP μ4292 → HP μ4292 → UP l D c H0 sa μ4292 → G1 μ4292 → (1001 - z4291) < (nL4293 : Int) → sV (gG l D c H0 sa) mX12_message (sRm 5 0 0) (sZ (gG l D c H0 sa) 0 0 (qI w [106001, 106088, 106091, 106093, 106096, 106097, 106098, 106099, 106101, 106102, 126999, 166999, 167999, 168999, 169999, 170999, 171999, 172999, 173999] μ (fun z μ1 => ((-2147483648) ≤ z ∧ z ≤ 2147483647) ∧ mG [(960, 1000)] μ μ1 ∧ JC l D c H0 sa μ1 ∧ RP μ1 ∧ EP μ1 ∧ HP μ1 ∧ UP l D c H0 sa μ1 ∧ G1 μ1 ∧ True))) 348 [(0, .ref 106), (3, iv z4291)] [] (mk w μ4292) 0 0 := by
                            intro nL4293
                            induction nL4293 with
                            | zero => intro z4291 μ4292 f_g f_c T4295 F4296 q4307 q4308 h4294 h4298 h4299 I4300 I4301 I4302 I4303 I4304 I4305 h4306; exact ((vc_X12_message_u_22 h4306 h4298 h4299 h4294)).elim
                            | succ nL4293 ih4309 =>
                              intro z4291 μ4292 f_g f_c T4295 F4296 q4307 q4308 h4294 h4298 h4299 I4300 I4301 I4302 I4303 I4304 I4305 h4306
                              have h4310 : (0 ≤ f_g ∧ f_g ≤ 1000) := by rw [← q4307]; exact T4295 106 106 (A_106 hw) (88)
                              have h4311 : (0 ≤ f_c ∧ f_c ≤ 1000) := by rw [← q4308]; exact T4295 106 106 (A_106 hw) (91)
                              refine mr_iload_n (pc := 348) (z := z4291) dX12_message_348 rfl rfl ?_
                              refine sv_aload_n (pc := 349) dX12_message_349 rfl rfl ?_
                              refine gk_X12_91 (pc := 350) dX12_message_350 wF_X12_628 (A_106 hw) q4308 ?_
                              refine mr_icmp_ge (pc := 353) (tgt := 402) dX12_message_353 (by decide) (r32 h4294 rfl) (r32 h4311 rfl) (fun h4329 => ?_) (fun h4329 => ?_)
                              · refine sv_aload_n (pc := 402) dX12_message_402 rfl rfl ?_
                                refine mr_iconst (pc := 403) (z := 0) dX12_message_403 ?_
                                refine pf_X12_91 (pc := 404) dX12_message_404 wF_X12_628 (A_106 hw) T4295 (rW (c := 0) (d := 1000) (rR (x := 0)) rfl) fun μ4330 u4331 T4332 => ?_
                                refine mr_lvS (lv' := [(0, .ref 106)]) (List.forall_mem_cons.mpr ⟨rfl, fun _ h => absurd h List.not_mem_nil⟩) ?_
                                exact J3605 μ4330 T4332 (mF.up (mF.call mF.refl F4296 rfl) (A_106 hw) u4331 rfl) (JC.keepJ I4300 hw ((mF.up mF.refl (A_106 hw) u4331 rfl) : mF [106091] w μ4292 μ4330) rfl) (RP.keep I4301 hw ((mF.up mF.refl (A_106 hw) u4331 rfl) : mF [106091] w μ4292 μ4330) rfl ((mG.upO mG.refl u4331 rfl) : mG [] μ4292 μ4330) (fun _ h => absurd h List.not_mem_nil)) (EP.keep I4302 hw ((mF.up mF.refl (A_106 hw) u4331 rfl) : mF [106091] w μ4292 μ4330) rfl) (HP.keep I4303 hw ((mF.up mF.refl (A_106 hw) u4331 rfl) : mF [106091] w μ4292 μ4330) rfl ((mG.upO mG.refl u4331 rfl) : mG [] μ4292 μ4330) (fun _ h => absurd h List.not_mem_nil)) (UPg.fr I4304 hw T4332 rfl ((mF.up mF.refl (A_106 hw) u4331 rfl) : mF [106091] w μ4292 μ4330) rfl rfl rfl ((mG.upO mG.refl u4331 rfl) : mG [] μ4292 μ4330) (fun _ h => absurd h List.not_mem_nil)) (G1.keep I4305 hw ((mF.up mF.refl (A_106 hw) u4331 rfl) : mF [106091] w μ4292 μ4330) rfl rfl ((mG.upO mG.refl u4331 rfl) : mG [] μ4292 μ4330) (fun _ h => absurd h List.not_mem_nil))
                              have h4333 : 0 ≤ z4291 ∧ z4291 ≤ 999 := (vc_X12_message_u_23 h4329 h4298 h4299 h4311 h4310 h4294)
                              have h4334 : 1 ≤ f_c ∧ f_c ≤ 1000 := (vc_X12_message_u_24 h4329 h4298 h4299 h4311 h4310 h4333)
                              refine sv_aload_n (pc := 356) dX12_message_356 rfl rfl ?_
                              refine gf_X12_86 (pc := 357) dX12_message_357 wF_X12_460 (A_106 hw) T4295 ?_
                              refine sv_aload_n (pc := 360) dX12_message_360 rfl rfl ?_
                              refine gk_X12_88 (pc := 361) dX12_message_361 wF_X12_625 (A_106 hw) q4307 ?_
                              refine sv_aload_n (pc := 364) dX12_message_364 rfl rfl ?_
                              refine gf_X12_89 (pc := 365) dX12_message_365 wF_X12_466 (A_106 hw) T4295 ?_
                              refine mr_iload_n (pc := 368) (z := z4291) dX12_message_368 rfl rfl ?_
                              refine la_168 (pc := 369) dX12_message_369 (A_168 hw) T4295 (rIx (n := 1000) h4333 rfl) fun z4335 q4336 h4337 => ?_
                              refine ss_166 (pc := 370) dX12_message_370 (A_166 hw) T4295 (vc_X12_message_u_25 h4298 h4299 h4329 h4334 h4310 h4333) h4337 fun μ4338 u4339 T4340 => ?_
                              refine sv_aload_n (pc := 371) dX12_message_371 rfl rfl ?_
                              refine gf_X12_87 (pc := 372) dX12_message_372 wF_X12_463 (A_106 hw) T4340 ?_
                              refine sv_aload_n (pc := 375) dX12_message_375 rfl rfl ?_
                              refine gk_X12_88 (pc := 376) dX12_message_376 wF_X12_625 (A_106 hw) (u4339.f (Or.inl (mAt.ne (A_166 hw) (A_106 hw) rfl)) q4307) ?_
                              refine sv_aload_n (pc := 379) dX12_message_379 rfl rfl ?_
                              refine gf_X12_90 (pc := 380) dX12_message_380 wF_X12_469 (A_106 hw) T4340 ?_
                              refine mr_iload_n (pc := 383) (z := z4291) dX12_message_383 rfl rfl ?_
                              refine la_169 (pc := 384) dX12_message_384 (A_169 hw) T4340 (rIx (n := 1000) h4333 rfl) fun z4341 q4342 h4343 => ?_
                              refine ss_167 (pc := 385) dX12_message_385 (A_167 hw) T4340 (vc_X12_message_u_25 h4298 h4299 h4329 h4334 h4310 h4333) h4343 fun μ4344 u4345 T4346 => ?_
                              refine sv_aload_n (pc := 386) dX12_message_386 rfl rfl ?_
                              refine sv_dup (pc := 387) dX12_message_387 rfl ?_
                              refine gk_X12_88 (pc := 388) dX12_message_388 wF_X12_625 (A_106 hw) (u4345.f (Or.inl (mAt.ne (A_167 hw) (A_106 hw) rfl)) (u4339.f (Or.inl (mAt.ne (A_166 hw) (A_106 hw) rfl)) q4307)) ?_
                              refine mr_iconst (pc := 391) (z := 1) dX12_message_391 ?_
                              refine mr_iadd (pc := 392) (x := f_g) (y := 1) dX12_message_392 ?_
                              refine pf_X12_88 (pc := 393) dX12_message_393 wF_X12_625 (A_106 hw) T4346 (vc_X12_message_u_26 h4298 h4299 h4329 h4334 h4310 h4333) fun μ4347 u4348 T4349 => ?_
                              refine mr_iinc (pc := 396) (lv' := [(3, iv (z4291 + 1)), (0, .ref 106)]) dX12_message_396 rfl (by decide) rfl ?_
                              refine sv_goto (pc := 399) (tgt := 348) dX12_message_399 (by decide) ?_
                              refine mr_lvS (lv' := [(0, .ref 106), (3, iv (z4291 + 1))]) (List.forall_mem_cons.mpr ⟨rfl, List.forall_mem_cons.mpr ⟨rfl, fun _ h => absurd h List.not_mem_nil⟩⟩) ?_
                              exact ih4309 (z4291 + 1) μ4347 (f_g + 1) f_c T4349 (mF.up (mF.up (mF.up (mF.call mF.refl F4296 rfl) (A_166 hw) u4339 rfl) (A_167 hw) u4345 rfl) (A_106 hw) u4348 rfl) u4348.1 (u4348.f (Or.inr (by decide)) (u4345.f (Or.inl (mAt.ne (A_167 hw) (A_106 hw) rfl)) (u4339.f (Or.inl (mAt.ne (A_166 hw) (A_106 hw) rfl)) q4308))) (rW (c := 0) (d := 1000) (rAdd (e := 1) (f := 1000) h4333 (rR (x := 1)) rfl) rfl) (vc_X12_message_u_27 h4298 h4299 h4329 h4334 h4310 h4333) (vc_X12_message_u_28 h4298 h4299 h4329 h4334 h4310 h4333) (JC.keepJ I4300 hw ((mF.up (mF.up (mF.up mF.refl (A_166 hw) u4339 rfl) (A_167 hw) u4345 rfl) (A_106 hw) u4348 rfl) : mF [106088, 166999, 167999] w μ4292 μ4347) rfl) (RP.keep I4301 hw ((mF.up (mF.up (mF.up mF.refl (A_166 hw) u4339 rfl) (A_167 hw) u4345 rfl) (A_106 hw) u4348 rfl) : mF [106088, 166999, 167999] w μ4292 μ4347) rfl ((mG.upO (mG.upO (mG.upO mG.refl u4339 rfl) u4345 rfl) u4348 rfl) : mG [] μ4292 μ4347) (fun _ h => absurd h List.not_mem_nil)) (EP.keep I4302 hw ((mF.up (mF.up (mF.up mF.refl (A_166 hw) u4339 rfl) (A_167 hw) u4345 rfl) (A_106 hw) u4348 rfl) : mF [106088, 166999, 167999] w μ4292 μ4347) rfl) (HP.keep I4303 hw ((mF.up (mF.up (mF.up mF.refl (A_166 hw) u4339 rfl) (A_167 hw) u4345 rfl) (A_106 hw) u4348 rfl) : mF [106088, 166999, 167999] w μ4292 μ4347) rfl ((mG.upO (mG.upO (mG.upO mG.refl u4339 rfl) u4345 rfl) u4348 rfl) : mG [] μ4292 μ4347) (fun _ h => absurd h List.not_mem_nil)) (UPg.fr I4304 hw T4349 rfl ((mF.up (mF.up (mF.up mF.refl (A_166 hw) u4339 rfl) (A_167 hw) u4345 rfl) (A_106 hw) u4348 rfl) : mF [106088, 166999, 167999] w μ4292 μ4347) rfl rfl rfl ((mG.upO (mG.upO (mG.upO mG.refl u4339 rfl) u4345 rfl) u4348 rfl) : mG [] μ4292 μ4347) (fun _ h => absurd h List.not_mem_nil)) (G1.keep I4305 hw ((mF.up (mF.up (mF.up mF.refl (A_166 hw) u4339 rfl) (A_167 hw) u4345 rfl) (A_106 hw) u4348 rfl) : mF [106088, 166999, 167999] w μ4292 μ4347) rfl rfl ((mG.upO (mG.upO (mG.upO mG.refl u4339 rfl) u4345 rfl) u4348 rfl) : mG [] μ4292 μ4347) (fun _ h => absurd h List.not_mem_nil)) (vc_X12_message_u_29 (nS h4306) h4298 h4299 h4329 h4334 h4310 h4333)
                          refine mr_lvS (lv' := [(0, .ref 106), (3, iv 0)]) (List.forall_mem_cons.mpr ⟨rfl, List.forall_mem_cons.mpr ⟨rfl, fun _ h => absurd h List.not_mem_nil⟩⟩) ?_
                          exact L4293 1002 0 μ3534 z3517 z3520 T3536 mF.refl (u3535.f (Or.inr (by decide)) (u3525.f (Or.inr (by decide)) q3518)) (u3535.f (Or.inr (by decide)) (u3525.f (Or.inr (by decide)) q3521)) (rW (c := 0) (d := 1000) (rR (x := 0)) rfl) (vc_X12_message_u_30 h3523 h3519 h3522) (vc_X12_message_u_31 h3523 h3519 h3522) (JC.keepJ I3509 hw ((mF.up (mF.up mF.refl (A_106 hw) u3525 rfl) (A_106 hw) u3535 rfl) : mF [106001, 106097] w μ3505 μ3534) rfl) (RP.keep I3510 hw ((mF.up (mF.up mF.refl (A_106 hw) u3525 rfl) (A_106 hw) u3535 rfl) : mF [106001, 106097] w μ3505 μ3534) rfl ((mG.upO (mG.upO mG.refl u3525 rfl) u3535 rfl) : mG [] μ3505 μ3534) (fun _ h => absurd h List.not_mem_nil)) (EP.keep I3511 hw ((mF.up (mF.up mF.refl (A_106 hw) u3525 rfl) (A_106 hw) u3535 rfl) : mF [106001, 106097] w μ3505 μ3534) rfl) (HP.keep I3512 hw ((mF.up (mF.up mF.refl (A_106 hw) u3525 rfl) (A_106 hw) u3535 rfl) : mF [106001, 106097] w μ3505 μ3534) rfl ((mG.upO (mG.upO mG.refl u3525 rfl) u3535 rfl) : mG [] μ3505 μ3534) (fun _ h => absurd h List.not_mem_nil)) (UPg.fr I3513 hw T3536 rfl ((mF.up (mF.up mF.refl (A_106 hw) u3525 rfl) (A_106 hw) u3535 rfl) : mF [106001, 106097] w μ3505 μ3534) rfl rfl rfl ((mG.upO (mG.upO mG.refl u3525 rfl) u3535 rfl) : mG [] μ3505 μ3534) (fun _ h => absurd h List.not_mem_nil)) (G1.keep I3514 hw ((mF.up (mF.up mF.refl (A_106 hw) u3525 rfl) (A_106 hw) u3535 rfl) : mF [106001, 106097] w μ3505 μ3534) rfl rfl ((mG.upO (mG.upO mG.refl u3525 rfl) u3535 rfl) : mG [] μ3505 μ3534) (fun _ h => absurd h List.not_mem_nil)) vc_X1_doActs_12_36
                        refine mr_icmp_eq (pc := 317) (tgt := 324) dX12_message_317 (by decide) h3529 (r32 (rR (x := (-99999999))) rfl) (fun h4350 => ?_) (fun h4350 => ?_)
                        · have h4351 : (-99999999) ≤ z3527 ∧ z3527 ≤ (-99999999) := (vc_X12_judgedAnew_21 h4350 h3529)
                          refine mr_iconst (pc := 324) (z := 0) dX12_message_324 ?_
                          exact J3533 0 (rW (c := 0) (d := 1) (rR (x := 0)) rfl)
                        refine mr_iconst (pc := 320) (z := 1) dX12_message_320 ?_
                        refine sv_goto (pc := 321) (tgt := 325) dX12_message_321 (by decide) ?_
                        exact J3533 1 (rW (c := 0) (d := 1) (rR (x := 1)) rfl)
                      refine mr_icmp_lt (pc := 146) (tgt := 159) dX12_message_146 (by decide) (r32 h3413 rfl) (r32 (rR (x := 2)) rfl) (fun h4352 => ?_) (fun h4352 => ?_)
                      · have h4353 : 0 ≤ z3411 ∧ z3411 ≤ 1 := (vc_X3_readParts_20 h4352 h3413)
                        refine sv_aload_n (pc := 159) dX12_message_159 rfl rfl ?_
                        refine mr_iconst (pc := 160) (z := 1) dX12_message_160 ?_
                        refine mr_iconst (pc := 161) (z := 0) dX12_message_161 ?_
                        refine mr_cVV (pc := 162) (c_X12_fails hw T3410 (rW (c := 0) (d := 3) (rR (x := 1)) rfl) (rW (c := (-2147483648)) (d := 2147483647) (rR (x := 0)) rfl)) (gOk _ _ _ _ _) dX12_message_162 (tX12_fails _ _ _ _ _) ⟨wV_X12_fails, wL_X12_fails⟩ wM_X12_620 (gCX12 _ _ _ _ _) rfl (A_106 hw) rfl ⟨le_t rfl, le_t rfl⟩ ⟨le_t rfl, le_t rfl⟩ rfl (le_t rfl) fun μ4354 T4355 F4356 h4357 => ?_
                        refine sv_goto (pc := 165) (tgt := 303) dX12_message_165 (by decide) ?_
                        refine mr_lvS (lv' := [(0, .ref 106)]) (List.forall_mem_cons.mpr ⟨rfl, fun _ h => absurd h List.not_mem_nil⟩) ?_
                        exact J3516 μ4354 T4355 (mF.call mF.refl F4356 rfl) (mG.fr mG.refl F4356 (A_126 hw) rfl) (JC.keepJ I3393 hw ((mF.call (mF.up mF.refl (A_106 hw) u3409 rfl) F4356 rfl) : mF [106096, 172999] w μ3387 μ4354) rfl) (RP.keep I3394 hw ((mF.call (mF.up mF.refl (A_106 hw) u3409 rfl) F4356 rfl) : mF [106096, 172999] w μ3387 μ4354) rfl ((mG.fr (mG.upO mG.refl u3409 rfl) F4356 (A_126 hw) rfl) : mG [] μ3387 μ4354) (fun _ h => absurd h List.not_mem_nil)) (EP.keep I3395 hw ((mF.call (mF.up mF.refl (A_106 hw) u3409 rfl) F4356 rfl) : mF [106096, 172999] w μ3387 μ4354) rfl) (HP.keep I3396 hw ((mF.call (mF.up mF.refl (A_106 hw) u3409 rfl) F4356 rfl) : mF [106096, 172999] w μ3387 μ4354) rfl ((mG.fr (mG.upO mG.refl u3409 rfl) F4356 (A_126 hw) rfl) : mG [] μ3387 μ4354) (fun _ h => absurd h List.not_mem_nil)) (UPg.fr I3397 hw T4355 rfl ((mF.call (mF.up mF.refl (A_106 hw) u3409 rfl) F4356 rfl) : mF [106096, 172999] w μ3387 μ4354) rfl rfl rfl ((mG.fr (mG.upO mG.refl u3409 rfl) F4356 (A_126 hw) rfl) : mG [] μ3387 μ4354) (fun _ h => absurd h List.not_mem_nil)) (G1.keep I3398 hw ((mF.call (mF.up mF.refl (A_106 hw) u3409 rfl) F4356 rfl) : mF [106096, 172999] w μ3387 μ4354) rfl rfl ((mG.fr (mG.upO mG.refl u3409 rfl) F4356 (A_126 hw) rfl) : mG [] μ3387 μ4354) (fun _ h => absurd h List.not_mem_nil)) (by rw [(F4356.f (A_106 hw) rfl (u3409.f (Or.inr (by decide)) (F3391.f (A_106 hw) rfl (u2937.f (Or.inl (mAt.ne (A_126 hw) (A_106 hw) rfl)) (u2930.f (Or.inl (mAt.ne (A_126 hw) (A_106 hw) rfl)) (u2927.f (Or.inr (by decide)) (u2924.f (Or.inr (by decide)) (u2921.f (Or.inr (by decide)) (u2918.f (Or.inr (by decide)) (u2915.f (Or.inr (by decide)) u2912.1)))))))))), (F4356.f (A_106 hw) rfl (u3409.f (Or.inr (by decide)) (F3391.f (A_106 hw) rfl (u2937.f (Or.inl (mAt.ne (A_126 hw) (A_106 hw) rfl)) (u2930.f (Or.inl (mAt.ne (A_126 hw) (A_106 hw) rfl)) (u2927.f (Or.inr (by decide)) (u2924.f (Or.inr (by decide)) (u2921.f (Or.inr (by decide)) (u2918.f (Or.inr (by decide)) u2915.1)))))))))]; exact vc_X12_message_u_34)
                      have h4358 : 2 ≤ z3411 ∧ z3411 ≤ 1000 := (vc_X3_readParts_21 h4352 h3413)
                      refine mr_iconst (pc := 149) (z := 2) dX12_message_149 ?_
                      refine mr_iload_n (pc := 150) (z := z3421) dX12_message_150 rfl rfl ?_
                      refine mr_iadd (pc := 151) (x := 2) (y := z3421) dX12_message_151 ?_
                      refine sv_aload_n (pc := 152) dX12_message_152 rfl rfl ?_
                      refine gk_X12_1 (pc := 153) dX12_message_153 wF_X12_1 (A_106 hw) q3412 ?_
                      refine mr_icmp_le (pc := 156) (tgt := 168) dX12_message_156 (by decide) (r32 (rAdd (e := 2) (f := 65537) (rR (x := 2)) h3422 rfl) rfl) (r32 h4358 rfl) (fun h4359 => ?_) (fun h4359 => ?_)
                      · have h4360 : 0 ≤ z3421 ∧ z3421 ≤ 998 := (vc_X12_message_u_36 h4359 h4352 h4358 h3422)
                        refine sv_aload_n (pc := 168) dX12_message_168 rfl rfl ?_
                        refine mr_iconst (pc := 169) (z := 2) dX12_message_169 ?_
                        refine mr_iconst (pc := 170) (z := 2) dX12_message_170 ?_
                        refine mr_iload_n (pc := 171) (z := z3421) dX12_message_171 rfl rfl ?_
                        refine mr_iadd (pc := 172) (x := 2) (y := z3421) dX12_message_172 ?_
                        refine mr_iconst (pc := 173) (z := 1) dX12_message_173 ?_
                        refine mr_cVI (pc := 174) (c_X12_partOf hw T3410 (rW (c := 0) (d := 1000) (rR (x := 2)) rfl) (rW (c := 0) (d := 1000) (rAdd (e := 2) (f := 1000) (rR (x := 2)) h4360 rfl) rfl) (rW (c := 0) (d := 1) (rR (x := 1)) rfl) q3412 (u3409.f (Or.inr (by decide)) (F3391.f (A_106 hw) rfl (u2937.f (Or.inl (mAt.ne (A_126 hw) (A_106 hw) rfl)) (u2930.f (Or.inl (mAt.ne (A_126 hw) (A_106 hw) rfl)) (u2927.f (Or.inr (by decide)) (u2924.f (Or.inr (by decide)) (u2921.f (Or.inr (by decide)) (u2918.f (Or.inr (by decide)) (u2915.f (Or.inr (by decide)) u2912.1))))))))) (u3409.f (Or.inr (by decide)) (F3391.f (A_106 hw) rfl (u2937.f (Or.inl (mAt.ne (A_126 hw) (A_106 hw) rfl)) (u2930.f (Or.inl (mAt.ne (A_126 hw) (A_106 hw) rfl)) (u2927.f (Or.inr (by decide)) (u2924.f (Or.inr (by decide)) (u2921.f (Or.inr (by decide)) (u2918.f (Or.inr (by decide)) u2915.1)))))))) (vc_X12_message_u_37 h4359 h4352 h4358 h4360) (vc_X12_message_u_38 h4352 h4359 h4358 h4360) (vc_X12_message_u_39 h4359 h4352 h4358 h4360)) (gOk _ _ _ _ _) dX12_message_174 (tX12_partOf _ _ _ _ _) ⟨wV_X12_partOf, wL_X12_partOf⟩ wM_X12_658 (gCX12 _ _ _ _ _) rfl (A_106 hw) rfl ⟨le_t rfl, le_t rfl⟩ ⟨le_t rfl, le_t rfl⟩ rfl (le_t rfl) fun z4365 μ4361 T4362 F4363 h4364 => ?_
                        obtain ⟨z4366, z4368, q4367, q4369, h4370⟩ := h4364
                        have h4371 : (0 ≤ z4366 ∧ z4366 ≤ 1000) := by rw [← q4367]; exact T4362 106 106 (A_106 hw) 88
                        have h4372 : (0 ≤ z4368 ∧ z4368 ≤ 1000) := by rw [← q4369]; exact T4362 106 106 (A_106 hw) 91
                        refine sv_pop (pc := 177) dX12_message_177 rfl ?_
                        refine mr_iconst (pc := 178) (z := 2) dX12_message_178 ?_
                        refine mr_iload_n (pc := 179) (z := z3421) dX12_message_179 rfl rfl ?_
                        refine mr_iadd (pc := 180) (x := 2) (y := z3421) dX12_message_180 ?_
                        refine mr_istore_n (pc := 181) (lv' := [(3, iv (2 + z3421)), (2, iv z3421), (0, .ref 106)]) dX12_message_181 rfl (by decide) rfl ?_
                        refine mr_iload_n (pc := 182) (z := (2 + z3421)) dX12_message_182 rfl rfl ?_
                        refine mr_iconst (pc := 183) (z := 2) dX12_message_183 ?_
                        refine mr_iadd (pc := 184) (x := (2 + z3421)) (y := 2) dX12_message_184 ?_
                        refine sv_aload_n (pc := 185) dX12_message_185 rfl rfl ?_
                        refine gk_X12_1 (pc := 186) dX12_message_186 wF_X12_1 (A_106 hw) (F4363.f (A_106 hw) rfl q3412) ?_
                        have J4382 : ∀ (z4380 : Int), ((0 ≤ z4380 ∧ z4380 ≤ 65535)) → sV (gG l D c H0 sa) mX12_message (sRm 5 0 0) (sZ (gG l D c H0 sa) 0 0 (qI w [106001, 106088, 106091, 106093, 106096, 106097, 106098, 106099, 106101, 106102, 126999, 166999, 167999, 168999, 169999, 170999, 171999, 172999, 173999] μ (fun z μ1 => ((-2147483648) ≤ z ∧ z ≤ 2147483647) ∧ mG [(960, 1000)] μ μ1 ∧ JC l D c H0 sa μ1 ∧ RP μ1 ∧ EP μ1 ∧ HP μ1 ∧ UP l D c H0 sa μ1 ∧ G1 μ1 ∧ True))) 202 [(0, .ref 106), (3, iv (2 + z3421))] [iv z4380] (mk w μ4361) 0 0 := by
                          intro z4380 h4381
                          refine mr_istore (pc := 202) (lv' := [(4, iv z4380), (0, .ref 106), (3, iv (2 + z3421))]) dX12_message_202 (by decide) rfl ?_
                          refine mr_iload_n (pc := 204) (z := (2 + z3421)) dX12_message_204 rfl rfl ?_
                          refine mr_iconst (pc := 205) (z := 2) dX12_message_205 ?_
                          refine mr_iadd (pc := 206) (x := (2 + z3421)) (y := 2) dX12_message_206 ?_
                          refine sv_aload_n (pc := 207) dX12_message_207 rfl rfl ?_
                          refine gk_X12_1 (pc := 208) dX12_message_208 wF_X12_1 (A_106 hw) (F4363.f (A_106 hw) rfl q3412) ?_
                          refine mr_icmp_gt (pc := 211) (tgt := 227) dX12_message_211 (by decide) (r32 (rAdd (e := 4) (f := 1002) (rAdd (e := 2) (f := 1000) (rR (x := 2)) h4360 rfl) (rR (x := 2)) rfl) rfl) (r32 h4358 rfl) (fun h4383 => ?_) (fun h4383 => ?_)
                          · refine sv_aload_n (pc := 227) dX12_message_227 rfl rfl ?_
                            refine mr_iconst (pc := 228) (z := 1) dX12_message_228 ?_
                            refine mr_iload_n (pc := 229) (z := (2 + z3421)) dX12_message_229 rfl rfl ?_
                            refine mr_cVV (pc := 230) (c_X12_fails hw T4362 (rW (c := 0) (d := 3) (rR (x := 1)) rfl) (rW (c := (-2147483648)) (d := 2147483647) (rAdd (e := 2) (f := 1000) (rR (x := 2)) h4360 rfl) rfl)) (gOk _ _ _ _ _) dX12_message_230 (tX12_fails _ _ _ _ _) ⟨wV_X12_fails, wL_X12_fails⟩ wM_X12_620 (gCX12 _ _ _ _ _) rfl (A_106 hw) rfl ⟨le_t rfl, le_t rfl⟩ ⟨le_t rfl, le_t rfl⟩ rfl (le_t rfl) fun μ4384 T4385 F4386 h4387 => ?_
                            refine sv_goto (pc := 233) (tgt := 303) dX12_message_233 (by decide) ?_
                            refine mr_lvS (lv' := [(0, .ref 106)]) (List.forall_mem_cons.mpr ⟨rfl, fun _ h => absurd h List.not_mem_nil⟩) ?_
                            exact J3516 μ4384 T4385 (mF.call (mF.call mF.refl F4363 rfl) F4386 rfl) (mG.fr (mG.fr mG.refl F4363 (A_126 hw) rfl) F4386 (A_126 hw) rfl) (JC.keepJ I3393 hw ((mF.call (mF.call (mF.up mF.refl (A_106 hw) u3409 rfl) F4363 rfl) F4386 rfl) : mF [106088, 106091, 106096, 166999, 167999, 168999, 169999, 172999] w μ3387 μ4384) rfl) (RP.keep I3394 hw ((mF.call (mF.call (mF.up mF.refl (A_106 hw) u3409 rfl) F4363 rfl) F4386 rfl) : mF [106088, 106091, 106096, 166999, 167999, 168999, 169999, 172999] w μ3387 μ4384) rfl ((mG.fr (mG.fr (mG.upO mG.refl u3409 rfl) F4363 (A_126 hw) rfl) F4386 (A_126 hw) rfl) : mG [] μ3387 μ4384) (fun _ h => absurd h List.not_mem_nil)) (EP.keep I3395 hw ((mF.call (mF.call (mF.up mF.refl (A_106 hw) u3409 rfl) F4363 rfl) F4386 rfl) : mF [106088, 106091, 106096, 166999, 167999, 168999, 169999, 172999] w μ3387 μ4384) rfl) (HP.keep I3396 hw ((mF.call (mF.call (mF.up mF.refl (A_106 hw) u3409 rfl) F4363 rfl) F4386 rfl) : mF [106088, 106091, 106096, 166999, 167999, 168999, 169999, 172999] w μ3387 μ4384) rfl ((mG.fr (mG.fr (mG.upO mG.refl u3409 rfl) F4363 (A_126 hw) rfl) F4386 (A_126 hw) rfl) : mG [] μ3387 μ4384) (fun _ h => absurd h List.not_mem_nil)) (UPg.fr I3397 hw T4385 rfl ((mF.call (mF.call (mF.up mF.refl (A_106 hw) u3409 rfl) F4363 rfl) F4386 rfl) : mF [106088, 106091, 106096, 166999, 167999, 168999, 169999, 172999] w μ3387 μ4384) rfl rfl rfl ((mG.fr (mG.fr (mG.upO mG.refl u3409 rfl) F4363 (A_126 hw) rfl) F4386 (A_126 hw) rfl) : mG [] μ3387 μ4384) (fun _ h => absurd h List.not_mem_nil)) (G1.keep I3398 hw ((mF.call (mF.call (mF.up mF.refl (A_106 hw) u3409 rfl) F4363 rfl) F4386 rfl) : mF [106088, 106091, 106096, 166999, 167999, 168999, 169999, 172999] w μ3387 μ4384) rfl rfl ((mG.fr (mG.fr (mG.upO mG.refl u3409 rfl) F4363 (A_126 hw) rfl) F4386 (A_126 hw) rfl) : mG [] μ3387 μ4384) (fun _ h => absurd h List.not_mem_nil)) (by rw [(F4386.f (A_106 hw) rfl q4367), (F4386.f (A_106 hw) rfl q4369)]; exact (vc_X12_message_u_40 h4370.2.1 h4359 h4383 h4358 h4360 h4371 h4372))
                          have h4388 : 0 ≤ z3421 ∧ z3421 ≤ 996 := (vc_X12_message_u_41 h4383 h4352 h4359 h4370.2.1 h4358 h4360 h4371 h4372)
                          have h4389 : 4 ≤ z3411 ∧ z3411 ≤ 1000 := (vc_X12_message_u_42 h4383 h4352 h4359 h4370.2.1 h4358 h4388 h4371 h4372)
                          refine mr_iload_n (pc := 214) (z := (2 + z3421)) dX12_message_214 rfl rfl ?_
                          refine mr_iconst (pc := 215) (z := 2) dX12_message_215 ?_
                          refine mr_iadd (pc := 216) (x := (2 + z3421)) (y := 2) dX12_message_216 ?_
                          refine mr_iload (pc := 217) (z := z4380) dX12_message_217 rfl ?_
                          refine mr_iadd (pc := 219) (x := ((2 + z3421) + 2)) (y := z4380) dX12_message_219 ?_
                          refine sv_aload_n (pc := 220) dX12_message_220 rfl rfl ?_
                          refine gk_X12_1 (pc := 221) dX12_message_221 wF_X12_1 (A_106 hw) (F4363.f (A_106 hw) rfl q3412) ?_
                          refine mr_icmp_le (pc := 224) (tgt := 236) dX12_message_224 (by decide) (r32 (rAdd (e := 4) (f := 66535) (rAdd (e := 4) (f := 1000) (rAdd (e := 2) (f := 998) (rR (x := 2)) h4388 rfl) (rR (x := 2)) rfl) h4381 rfl) rfl) (r32 h4389 rfl) (fun h4390 => ?_) (fun h4390 => ?_)
                          · have h4391 : 0 ≤ z4380 ∧ z4380 ≤ 996 := (vc_X12_message_u_43 h4390 h4352 h4359 h4370.2.1 h4383 h4389 h4388 h4371 h4372 h4381)
                            refine sv_aload_n (pc := 236) dX12_message_236 rfl rfl ?_
                            refine mr_iload_n (pc := 237) (z := (2 + z3421)) dX12_message_237 rfl rfl ?_
                            refine mr_iconst (pc := 238) (z := 2) dX12_message_238 ?_
                            refine mr_iadd (pc := 239) (x := (2 + z3421)) (y := 2) dX12_message_239 ?_
                            refine mr_iload_n (pc := 240) (z := (2 + z3421)) dX12_message_240 rfl rfl ?_
                            refine mr_iconst (pc := 241) (z := 2) dX12_message_241 ?_
                            refine mr_iadd (pc := 242) (x := (2 + z3421)) (y := 2) dX12_message_242 ?_
                            refine mr_iload (pc := 243) (z := z4380) dX12_message_243 rfl ?_
                            refine mr_iadd (pc := 245) (x := ((2 + z3421) + 2)) (y := z4380) dX12_message_245 ?_
                            refine mr_cVV (pc := 246) (c_X12_attributes_u hw T4362 (rW (c := 0) (d := 1002) (rAdd (e := 4) (f := 1000) (rAdd (e := 2) (f := 998) (rR (x := 2)) h4388 rfl) (rR (x := 2)) rfl) rfl) (vc_X12_message_u_44 h4359 h4370.2.1 h4383 h4390 h4352 h4389 h4388 h4371 h4372 h4391) (F4363.f (A_106 hw) rfl q3412) (F4363.f (A_106 hw) rfl (u3409.f (Or.inr (by decide)) (F3391.f (A_106 hw) rfl (u2937.f (Or.inl (mAt.ne (A_126 hw) (A_106 hw) rfl)) (u2930.f (Or.inl (mAt.ne (A_126 hw) (A_106 hw) rfl)) (u2927.f (Or.inr (by decide)) (u2924.f (Or.inr (by decide)) (u2921.f (Or.inr (by decide)) u2918.1)))))))) (vc_X12_message_u_45 h4352 h4359 h4370.2.1 h4383 h4390 h4389 h4388 h4371 h4372 h4391) (vc_X12_message_u_46 h4359 h4370.2.1 h4383 h4390 h4352 h4389 h4388 h4371 h4372 h4391)) (gOk _ _ _ _ _) dX12_message_246 (tX12_attributes _ _ _ _ _) ⟨wV_X12_attributes, wL_X12_attributes⟩ wM_X12_662 (gCX12 _ _ _ _ _) rfl (A_106 hw) rfl ⟨le_t rfl, le_t rfl⟩ ⟨le_t rfl, le_t rfl⟩ rfl (le_t rfl) fun μ4392 T4393 F4394 h4395 => ?_
                            refine sv_aload_n (pc := 249) dX12_message_249 rfl rfl ?_
                            refine mr_iload_n (pc := 250) (z := (2 + z3421)) dX12_message_250 rfl rfl ?_
                            refine mr_iconst (pc := 251) (z := 2) dX12_message_251 ?_
                            refine mr_iadd (pc := 252) (x := (2 + z3421)) (y := 2) dX12_message_252 ?_
                            refine mr_iload (pc := 253) (z := z4380) dX12_message_253 rfl ?_
                            refine mr_iadd (pc := 255) (x := ((2 + z3421) + 2)) (y := z4380) dX12_message_255 ?_
                            refine sv_aload_n (pc := 256) dX12_message_256 rfl rfl ?_
                            refine gk_X12_1 (pc := 257) dX12_message_257 wF_X12_1 (A_106 hw) (F4394.f (A_106 hw) rfl (F4363.f (A_106 hw) rfl q3412)) ?_
                            refine mr_iconst (pc := 260) (z := 0) dX12_message_260 ?_
                            refine mr_cVI (pc := 261) (c_X12_partOf hw T4393 (vc_X12_message_u_44 h4359 h4370.2.1 h4383 h4390 h4352 h4389 h4388 h4371 h4372 h4391) (rW (c := 0) (d := 1000) h4389 rfl) (rW (c := 0) (d := 1) (rR (x := 0)) rfl) (F4394.f (A_106 hw) rfl (F4363.f (A_106 hw) rfl q3412)) (F4394.f (A_106 hw) rfl q4367) (F4394.f (A_106 hw) rfl q4369) (vc_X12_message_u_45 h4352 h4359 h4370.2.1 h4383 h4390 h4389 h4388 h4371 h4372 h4391) (vc_X12_message_u_47 h4352 h4359 h4383 h4390 h4370.2.1 h4389 h4388 h4371 h4372 h4391) (vc_X12_message_u_48 h4352 h4359 h4370.2.1 h4383 h4390 h4389 h4388 h4371 h4372 h4391)) (gOk _ _ _ _ _) dX12_message_261 (tX12_partOf _ _ _ _ _) ⟨wV_X12_partOf, wL_X12_partOf⟩ wM_X12_658 (gCX12 _ _ _ _ _) rfl (A_106 hw) rfl ⟨le_t rfl, le_t rfl⟩ ⟨le_t rfl, le_t rfl⟩ rfl (le_t rfl) fun z4400 μ4396 T4397 F4398 h4399 => ?_
                            obtain ⟨z4401, z4403, q4402, q4404, h4405⟩ := h4399
                            have h4406 : (0 ≤ z4401 ∧ z4401 ≤ 1000) := by rw [← q4402]; exact T4397 106 106 (A_106 hw) 88
                            have h4407 : (0 ≤ z4403 ∧ z4403 ≤ 1000) := by rw [← q4404]; exact T4397 106 106 (A_106 hw) 91
                            refine sv_pop (pc := 264) dX12_message_264 rfl ?_
                            refine sv_aload_n (pc := 265) dX12_message_265 rfl rfl ?_
                            refine gk_X12_1 (pc := 266) dX12_message_266 wF_X12_1 (A_106 hw) (F4398.f (A_106 hw) rfl (F4394.f (A_106 hw) rfl (F4363.f (A_106 hw) rfl q3412))) ?_
                            refine mr_iload_n (pc := 269) (z := (2 + z3421)) dX12_message_269 rfl rfl ?_
                            refine mr_iconst (pc := 270) (z := 2) dX12_message_270 ?_
                            refine mr_iadd (pc := 271) (x := (2 + z3421)) (y := 2) dX12_message_271 ?_
                            refine mr_iload (pc := 272) (z := z4380) dX12_message_272 rfl ?_
                            refine mr_iadd (pc := 274) (x := ((2 + z3421) + 2)) (y := z4380) dX12_message_274 ?_
                            refine mr_icmp_le (pc := 275) (tgt := 303) dX12_message_275 (by decide) (r32 h4389 rfl) (r32 (rAdd (e := 4) (f := 1996) (rAdd (e := 4) (f := 1000) (rAdd (e := 2) (f := 998) (rR (x := 2)) h4388 rfl) (rR (x := 2)) rfl) h4391 rfl) rfl) (fun h4408 => ?_) (fun h4408 => ?_)
                            · refine mr_lvS (lv' := [(0, .ref 106)]) (List.forall_mem_cons.mpr ⟨rfl, fun _ h => absurd h List.not_mem_nil⟩) ?_
                              exact J3516 μ4396 T4397 (mF.call (mF.call (mF.call mF.refl F4363 rfl) F4394 rfl) F4398 rfl) (mG.fr (mG.call (mG.fr mG.refl F4363 (A_126 hw) rfl) h4395.1 (List.forall_mem_cons.mpr ⟨⟨_, List.mem_cons_self, vc_X12_message_u_49⟩, (fun _ h => absurd h List.not_mem_nil)⟩)) F4398 (A_126 hw) rfl) (JC.keepJ I3393 hw ((mF.call (mF.call (mF.call (mF.up mF.refl (A_106 hw) u3409 rfl) F4363 rfl) F4394 rfl) F4398 rfl) : mF [106088, 106091, 106093, 106096, 106098, 106099, 106101, 126999, 166999, 167999, 168999, 169999, 170999, 171999, 172999, 173999] w μ3387 μ4396) rfl) (RP.keep I3394 hw ((mF.call (mF.call (mF.call (mF.up mF.refl (A_106 hw) u3409 rfl) F4363 rfl) F4394 rfl) F4398 rfl) : mF [106088, 106091, 106093, 106096, 106098, 106099, 106101, 126999, 166999, 167999, 168999, 169999, 170999, 171999, 172999, 173999] w μ3387 μ4396) rfl ((mG.fr (mG.call (mG.fr (mG.upO mG.refl u3409 rfl) F4363 (A_126 hw) rfl) h4395.1 (List.forall_mem_cons.mpr ⟨⟨_, List.mem_cons_self, vc_X12_marksRight_f_4⟩, (fun _ h => absurd h List.not_mem_nil)⟩)) F4398 (A_126 hw) rfl) : mG [(961, 1000)] μ3387 μ4396) (List.forall_mem_cons.mpr ⟨vc_X12_message_u_51, (fun _ h => absurd h List.not_mem_nil)⟩)) (EP.keep I3395 hw ((mF.call (mF.call (mF.call (mF.up mF.refl (A_106 hw) u3409 rfl) F4363 rfl) F4394 rfl) F4398 rfl) : mF [106088, 106091, 106093, 106096, 106098, 106099, 106101, 126999, 166999, 167999, 168999, 169999, 170999, 171999, 172999, 173999] w μ3387 μ4396) rfl) (HP.keep I3396 hw ((mF.call (mF.call (mF.call (mF.up mF.refl (A_106 hw) u3409 rfl) F4363 rfl) F4394 rfl) F4398 rfl) : mF [106088, 106091, 106093, 106096, 106098, 106099, 106101, 126999, 166999, 167999, 168999, 169999, 170999, 171999, 172999, 173999] w μ3387 μ4396) rfl ((mG.fr (mG.call (mG.fr (mG.upO mG.refl u3409 rfl) F4363 (A_126 hw) rfl) h4395.1 (List.forall_mem_cons.mpr ⟨⟨_, List.mem_cons_self, vc_X12_marksRight_f_4⟩, (fun _ h => absurd h List.not_mem_nil)⟩)) F4398 (A_126 hw) rfl) : mG [(961, 1000)] μ3387 μ4396) (List.forall_mem_cons.mpr ⟨vc_X12_message_u_52, (fun _ h => absurd h List.not_mem_nil)⟩)) (UPg.fr I3397 hw T4397 rfl ((mF.call (mF.call (mF.call (mF.up mF.refl (A_106 hw) u3409 rfl) F4363 rfl) F4394 rfl) F4398 rfl) : mF [106088, 106091, 106093, 106096, 106098, 106099, 106101, 126999, 166999, 167999, 168999, 169999, 170999, 171999, 172999, 173999] w μ3387 μ4396) rfl rfl rfl ((mG.fr (mG.call (mG.fr (mG.upO mG.refl u3409 rfl) F4363 (A_126 hw) rfl) h4395.1 (List.forall_mem_cons.mpr ⟨⟨_, List.mem_cons_self, vc_X12_marksRight_f_4⟩, (fun _ h => absurd h List.not_mem_nil)⟩)) F4398 (A_126 hw) rfl) : mG [(961, 1000)] μ3387 μ4396) (List.forall_mem_cons.mpr ⟨vc_X12_message_u_52, (fun _ h => absurd h List.not_mem_nil)⟩)) (G1.keep I3398 hw ((mF.call (mF.call (mF.call (mF.up mF.refl (A_106 hw) u3409 rfl) F4363 rfl) F4394 rfl) F4398 rfl) : mF [106088, 106091, 106093, 106096, 106098, 106099, 106101, 126999, 166999, 167999, 168999, 169999, 170999, 171999, 172999, 173999] w μ3387 μ4396) rfl rfl ((mG.fr (mG.call (mG.fr (mG.upO mG.refl u3409 rfl) F4363 (A_126 hw) rfl) h4395.1 (List.forall_mem_cons.mpr ⟨⟨_, List.mem_cons_self, vc_X12_marksRight_f_4⟩, (fun _ h => absurd h List.not_mem_nil)⟩)) F4398 (A_126 hw) rfl) : mG [(961, 1000)] μ3387 μ4396) (List.forall_mem_cons.mpr ⟨vc_X12_message_u_53, (fun _ h => absurd h List.not_mem_nil)⟩)) (by rw [q4402, q4404]; exact (vc_X12_message_u_54 h4405.2.1 h4352 h4359 h4370.2.1 h4383 h4390 h4408 h4389 h4388 h4371 h4372 h4391 h4406 h4407))
                            have h4409 : 5 ≤ z3411 ∧ z3411 ≤ 1000 := (vc_X12_message_u_55 h4408 h4352 h4359 h4370.2.1 h4383 h4390 h4405.2.1 h4389 h4388 h4371 h4372 h4391 h4406 h4407)
                            have h4410 : 0 ≤ z3421 ∧ z3421 ≤ 995 := (vc_X12_message_u_56 h4408 h4352 h4359 h4370.2.1 h4383 h4390 h4405.2.1 h4409 h4388 h4371 h4372 h4391 h4406 h4407)
                            have h4411 : 0 ≤ z4380 ∧ z4380 ≤ 995 := (vc_X12_message_u_57 h4408 h4352 h4359 h4370.2.1 h4383 h4390 h4405.2.1 h4409 h4410 h4371 h4372 h4391 h4406 h4407)
                            refine sv_aload_n (pc := 278) dX12_message_278 rfl rfl ?_
                            refine gf_X12_98 (pc := 279) dX12_message_279 wF_X12_631 (A_106 hw) T4397 fun z4412 q4413 h4414 => ?_
                            refine mr_if_eq (pc := 282) (tgt := 292) dX12_message_282 (by decide) (r32 h4414 rfl) (fun h4415 => ?_) (fun h4415 => ?_)
                            · have h4416 : 0 ≤ z4412 ∧ z4412 ≤ 0 := (vc_X12_ring_22 h4415 h4414)
                              refine sv_aload_n (pc := 292) dX12_message_292 rfl rfl ?_
                              refine mr_iconst (pc := 293) (z := 2) dX12_message_293 ?_
                              refine mr_iload_n (pc := 294) (z := (2 + z3421)) dX12_message_294 rfl rfl ?_
                              refine mr_iconst (pc := 295) (z := 2) dX12_message_295 ?_
                              refine mr_iadd (pc := 296) (x := (2 + z3421)) (y := 2) dX12_message_296 ?_
                              refine mr_iload (pc := 297) (z := z4380) dX12_message_297 rfl ?_
                              refine mr_iadd (pc := 299) (x := ((2 + z3421) + 2)) (y := z4380) dX12_message_299 ?_
                              refine mr_cVV (pc := 300) (c_X12_fails hw T4397 (rW (c := 0) (d := 3) (rR (x := 2)) rfl) (rW (c := (-2147483648)) (d := 2147483647) (rAdd (e := 4) (f := 1994) (rAdd (e := 4) (f := 999) (rAdd (e := 2) (f := 997) (rR (x := 2)) h4410 rfl) (rR (x := 2)) rfl) h4411 rfl) rfl)) (gOk _ _ _ _ _) dX12_message_300 (tX12_fails _ _ _ _ _) ⟨wV_X12_fails, wL_X12_fails⟩ wM_X12_620 (gCX12 _ _ _ _ _) rfl (A_106 hw) rfl ⟨le_t rfl, le_t rfl⟩ ⟨le_t rfl, le_t rfl⟩ rfl (le_t rfl) fun μ4417 T4418 F4419 h4420 => ?_
                              refine mr_lvS (lv' := [(0, .ref 106)]) (List.forall_mem_cons.mpr ⟨rfl, fun _ h => absurd h List.not_mem_nil⟩) ?_
                              exact J3516 μ4417 T4418 (mF.call (mF.call (mF.call (mF.call mF.refl F4363 rfl) F4394 rfl) F4398 rfl) F4419 rfl) (mG.fr (mG.fr (mG.call (mG.fr mG.refl F4363 (A_126 hw) rfl) h4395.1 (List.forall_mem_cons.mpr ⟨⟨_, List.mem_cons_self, vc_X12_message_u_49⟩, (fun _ h => absurd h List.not_mem_nil)⟩)) F4398 (A_126 hw) rfl) F4419 (A_126 hw) rfl) (JC.keepJ I3393 hw ((mF.call (mF.call (mF.call (mF.call (mF.up mF.refl (A_106 hw) u3409 rfl) F4363 rfl) F4394 rfl) F4398 rfl) F4419 rfl) : mF [106088, 106091, 106093, 106096, 106098, 106099, 106101, 126999, 166999, 167999, 168999, 169999, 170999, 171999, 172999, 173999] w μ3387 μ4417) rfl) (RP.keep I3394 hw ((mF.call (mF.call (mF.call (mF.call (mF.up mF.refl (A_106 hw) u3409 rfl) F4363 rfl) F4394 rfl) F4398 rfl) F4419 rfl) : mF [106088, 106091, 106093, 106096, 106098, 106099, 106101, 126999, 166999, 167999, 168999, 169999, 170999, 171999, 172999, 173999] w μ3387 μ4417) rfl ((mG.fr (mG.fr (mG.call (mG.fr (mG.upO mG.refl u3409 rfl) F4363 (A_126 hw) rfl) h4395.1 (List.forall_mem_cons.mpr ⟨⟨_, List.mem_cons_self, vc_X12_marksRight_f_4⟩, (fun _ h => absurd h List.not_mem_nil)⟩)) F4398 (A_126 hw) rfl) F4419 (A_126 hw) rfl) : mG [(961, 1000)] μ3387 μ4417) (List.forall_mem_cons.mpr ⟨vc_X12_message_u_51, (fun _ h => absurd h List.not_mem_nil)⟩)) (EP.keep I3395 hw ((mF.call (mF.call (mF.call (mF.call (mF.up mF.refl (A_106 hw) u3409 rfl) F4363 rfl) F4394 rfl) F4398 rfl) F4419 rfl) : mF [106088, 106091, 106093, 106096, 106098, 106099, 106101, 126999, 166999, 167999, 168999, 169999, 170999, 171999, 172999, 173999] w μ3387 μ4417) rfl) (HP.keep I3396 hw ((mF.call (mF.call (mF.call (mF.call (mF.up mF.refl (A_106 hw) u3409 rfl) F4363 rfl) F4394 rfl) F4398 rfl) F4419 rfl) : mF [106088, 106091, 106093, 106096, 106098, 106099, 106101, 126999, 166999, 167999, 168999, 169999, 170999, 171999, 172999, 173999] w μ3387 μ4417) rfl ((mG.fr (mG.fr (mG.call (mG.fr (mG.upO mG.refl u3409 rfl) F4363 (A_126 hw) rfl) h4395.1 (List.forall_mem_cons.mpr ⟨⟨_, List.mem_cons_self, vc_X12_marksRight_f_4⟩, (fun _ h => absurd h List.not_mem_nil)⟩)) F4398 (A_126 hw) rfl) F4419 (A_126 hw) rfl) : mG [(961, 1000)] μ3387 μ4417) (List.forall_mem_cons.mpr ⟨vc_X12_message_u_52, (fun _ h => absurd h List.not_mem_nil)⟩)) (UPg.fr I3397 hw T4418 rfl ((mF.call (mF.call (mF.call (mF.call (mF.up mF.refl (A_106 hw) u3409 rfl) F4363 rfl) F4394 rfl) F4398 rfl) F4419 rfl) : mF [106088, 106091, 106093, 106096, 106098, 106099, 106101, 126999, 166999, 167999, 168999, 169999, 170999, 171999, 172999, 173999] w μ3387 μ4417) rfl rfl rfl ((mG.fr (mG.fr (mG.call (mG.fr (mG.upO mG.refl u3409 rfl) F4363 (A_126 hw) rfl) h4395.1 (List.forall_mem_cons.mpr ⟨⟨_, List.mem_cons_self, vc_X12_marksRight_f_4⟩, (fun _ h => absurd h List.not_mem_nil)⟩)) F4398 (A_126 hw) rfl) F4419 (A_126 hw) rfl) : mG [(961, 1000)] μ3387 μ4417) (List.forall_mem_cons.mpr ⟨vc_X12_message_u_52, (fun _ h => absurd h List.not_mem_nil)⟩)) (G1.keep I3398 hw ((mF.call (mF.call (mF.call (mF.call (mF.up mF.refl (A_106 hw) u3409 rfl) F4363 rfl) F4394 rfl) F4398 rfl) F4419 rfl) : mF [106088, 106091, 106093, 106096, 106098, 106099, 106101, 126999, 166999, 167999, 168999, 169999, 170999, 171999, 172999, 173999] w μ3387 μ4417) rfl rfl ((mG.fr (mG.fr (mG.call (mG.fr (mG.upO mG.refl u3409 rfl) F4363 (A_126 hw) rfl) h4395.1 (List.forall_mem_cons.mpr ⟨⟨_, List.mem_cons_self, vc_X12_marksRight_f_4⟩, (fun _ h => absurd h List.not_mem_nil)⟩)) F4398 (A_126 hw) rfl) F4419 (A_126 hw) rfl) : mG [(961, 1000)] μ3387 μ4417) (List.forall_mem_cons.mpr ⟨vc_X12_message_u_53, (fun _ h => absurd h List.not_mem_nil)⟩)) (by rw [(F4419.f (A_106 hw) rfl q4402), (F4419.f (A_106 hw) rfl q4404)]; exact (vc_X12_message_u_59 h4405.2.1 h4352 h4359 h4370.2.1 h4383 h4390 h4408 h4409 h4410 h4371 h4372 h4411 h4406 h4407))
                            have h4421 : 1 ≤ z4412 ∧ z4412 ≤ 1 := (vc_X12_ring_24 h4415 h4414)
                            refine sv_aload_n (pc := 285) dX12_message_285 rfl rfl ?_
                            refine gf_X12_99 (pc := 286) dX12_message_286 wF_X12_634 (A_106 hw) T4397 fun z4422 q4423 h4424 => ?_
                            refine mr_if_ne (pc := 289) (tgt := 303) dX12_message_289 (by decide) (r32 h4424 rfl) (fun h4425 => ?_) (fun h4425 => ?_)
                            · have h4426 : 1 ≤ z4422 ∧ z4422 ≤ 1 := (vc_X12_ring_24 h4425 h4424)
                              refine mr_lvS (lv' := [(0, .ref 106)]) (List.forall_mem_cons.mpr ⟨rfl, fun _ h => absurd h List.not_mem_nil⟩) ?_
                              exact J3516 μ4396 T4397 (mF.call (mF.call (mF.call mF.refl F4363 rfl) F4394 rfl) F4398 rfl) (mG.fr (mG.call (mG.fr mG.refl F4363 (A_126 hw) rfl) h4395.1 (List.forall_mem_cons.mpr ⟨⟨_, List.mem_cons_self, vc_X12_message_u_49⟩, (fun _ h => absurd h List.not_mem_nil)⟩)) F4398 (A_126 hw) rfl) (JC.keepJ I3393 hw ((mF.call (mF.call (mF.call (mF.up mF.refl (A_106 hw) u3409 rfl) F4363 rfl) F4394 rfl) F4398 rfl) : mF [106088, 106091, 106093, 106096, 106098, 106099, 106101, 126999, 166999, 167999, 168999, 169999, 170999, 171999, 172999, 173999] w μ3387 μ4396) rfl) (RP.keep I3394 hw ((mF.call (mF.call (mF.call (mF.up mF.refl (A_106 hw) u3409 rfl) F4363 rfl) F4394 rfl) F4398 rfl) : mF [106088, 106091, 106093, 106096, 106098, 106099, 106101, 126999, 166999, 167999, 168999, 169999, 170999, 171999, 172999, 173999] w μ3387 μ4396) rfl ((mG.fr (mG.call (mG.fr (mG.upO mG.refl u3409 rfl) F4363 (A_126 hw) rfl) h4395.1 (List.forall_mem_cons.mpr ⟨⟨_, List.mem_cons_self, vc_X12_marksRight_f_4⟩, (fun _ h => absurd h List.not_mem_nil)⟩)) F4398 (A_126 hw) rfl) : mG [(961, 1000)] μ3387 μ4396) (List.forall_mem_cons.mpr ⟨vc_X12_message_u_51, (fun _ h => absurd h List.not_mem_nil)⟩)) (EP.keep I3395 hw ((mF.call (mF.call (mF.call (mF.up mF.refl (A_106 hw) u3409 rfl) F4363 rfl) F4394 rfl) F4398 rfl) : mF [106088, 106091, 106093, 106096, 106098, 106099, 106101, 126999, 166999, 167999, 168999, 169999, 170999, 171999, 172999, 173999] w μ3387 μ4396) rfl) (HP.keep I3396 hw ((mF.call (mF.call (mF.call (mF.up mF.refl (A_106 hw) u3409 rfl) F4363 rfl) F4394 rfl) F4398 rfl) : mF [106088, 106091, 106093, 106096, 106098, 106099, 106101, 126999, 166999, 167999, 168999, 169999, 170999, 171999, 172999, 173999] w μ3387 μ4396) rfl ((mG.fr (mG.call (mG.fr (mG.upO mG.refl u3409 rfl) F4363 (A_126 hw) rfl) h4395.1 (List.forall_mem_cons.mpr ⟨⟨_, List.mem_cons_self, vc_X12_marksRight_f_4⟩, (fun _ h => absurd h List.not_mem_nil)⟩)) F4398 (A_126 hw) rfl) : mG [(961, 1000)] μ3387 μ4396) (List.forall_mem_cons.mpr ⟨vc_X12_message_u_52, (fun _ h => absurd h List.not_mem_nil)⟩)) (UPg.fr I3397 hw T4397 rfl ((mF.call (mF.call (mF.call (mF.up mF.refl (A_106 hw) u3409 rfl) F4363 rfl) F4394 rfl) F4398 rfl) : mF [106088, 106091, 106093, 106096, 106098, 106099, 106101, 126999, 166999, 167999, 168999, 169999, 170999, 171999, 172999, 173999] w μ3387 μ4396) rfl rfl rfl ((mG.fr (mG.call (mG.fr (mG.upO mG.refl u3409 rfl) F4363 (A_126 hw) rfl) h4395.1 (List.forall_mem_cons.mpr ⟨⟨_, List.mem_cons_self, vc_X12_marksRight_f_4⟩, (fun _ h => absurd h List.not_mem_nil)⟩)) F4398 (A_126 hw) rfl) : mG [(961, 1000)] μ3387 μ4396) (List.forall_mem_cons.mpr ⟨vc_X12_message_u_52, (fun _ h => absurd h List.not_mem_nil)⟩)) (G1.keep I3398 hw ((mF.call (mF.call (mF.call (mF.up mF.refl (A_106 hw) u3409 rfl) F4363 rfl) F4394 rfl) F4398 rfl) : mF [106088, 106091, 106093, 106096, 106098, 106099, 106101, 126999, 166999, 167999, 168999, 169999, 170999, 171999, 172999, 173999] w μ3387 μ4396) rfl rfl ((mG.fr (mG.call (mG.fr (mG.upO mG.refl u3409 rfl) F4363 (A_126 hw) rfl) h4395.1 (List.forall_mem_cons.mpr ⟨⟨_, List.mem_cons_self, vc_X12_marksRight_f_4⟩, (fun _ h => absurd h List.not_mem_nil)⟩)) F4398 (A_126 hw) rfl) : mG [(961, 1000)] μ3387 μ4396) (List.forall_mem_cons.mpr ⟨vc_X12_message_u_53, (fun _ h => absurd h List.not_mem_nil)⟩)) (by rw [q4402, q4404]; exact (vc_X12_message_u_59 h4405.2.1 h4352 h4359 h4370.2.1 h4383 h4390 h4408 h4409 h4410 h4371 h4372 h4411 h4406 h4407))
                            have h4427 : 0 ≤ z4422 ∧ z4422 ≤ 0 := (vc_X12_ring_22 h4425 h4424)
                            refine sv_aload_n (pc := 292) dX12_message_292 rfl rfl ?_
                            refine mr_iconst (pc := 293) (z := 2) dX12_message_293 ?_
                            refine mr_iload_n (pc := 294) (z := (2 + z3421)) dX12_message_294 rfl rfl ?_
                            refine mr_iconst (pc := 295) (z := 2) dX12_message_295 ?_
                            refine mr_iadd (pc := 296) (x := (2 + z3421)) (y := 2) dX12_message_296 ?_
                            refine mr_iload (pc := 297) (z := z4380) dX12_message_297 rfl ?_
                            refine mr_iadd (pc := 299) (x := ((2 + z3421) + 2)) (y := z4380) dX12_message_299 ?_
                            refine mr_cVV (pc := 300) (c_X12_fails hw T4397 (rW (c := 0) (d := 3) (rR (x := 2)) rfl) (rW (c := (-2147483648)) (d := 2147483647) (rAdd (e := 4) (f := 1994) (rAdd (e := 4) (f := 999) (rAdd (e := 2) (f := 997) (rR (x := 2)) h4410 rfl) (rR (x := 2)) rfl) h4411 rfl) rfl)) (gOk _ _ _ _ _) dX12_message_300 (tX12_fails _ _ _ _ _) ⟨wV_X12_fails, wL_X12_fails⟩ wM_X12_620 (gCX12 _ _ _ _ _) rfl (A_106 hw) rfl ⟨le_t rfl, le_t rfl⟩ ⟨le_t rfl, le_t rfl⟩ rfl (le_t rfl) fun μ4428 T4429 F4430 h4431 => ?_
                            refine mr_lvS (lv' := [(0, .ref 106)]) (List.forall_mem_cons.mpr ⟨rfl, fun _ h => absurd h List.not_mem_nil⟩) ?_
                            exact J3516 μ4428 T4429 (mF.call (mF.call (mF.call (mF.call mF.refl F4363 rfl) F4394 rfl) F4398 rfl) F4430 rfl) (mG.fr (mG.fr (mG.call (mG.fr mG.refl F4363 (A_126 hw) rfl) h4395.1 (List.forall_mem_cons.mpr ⟨⟨_, List.mem_cons_self, vc_X12_message_u_49⟩, (fun _ h => absurd h List.not_mem_nil)⟩)) F4398 (A_126 hw) rfl) F4430 (A_126 hw) rfl) (JC.keepJ I3393 hw ((mF.call (mF.call (mF.call (mF.call (mF.up mF.refl (A_106 hw) u3409 rfl) F4363 rfl) F4394 rfl) F4398 rfl) F4430 rfl) : mF [106088, 106091, 106093, 106096, 106098, 106099, 106101, 126999, 166999, 167999, 168999, 169999, 170999, 171999, 172999, 173999] w μ3387 μ4428) rfl) (RP.keep I3394 hw ((mF.call (mF.call (mF.call (mF.call (mF.up mF.refl (A_106 hw) u3409 rfl) F4363 rfl) F4394 rfl) F4398 rfl) F4430 rfl) : mF [106088, 106091, 106093, 106096, 106098, 106099, 106101, 126999, 166999, 167999, 168999, 169999, 170999, 171999, 172999, 173999] w μ3387 μ4428) rfl ((mG.fr (mG.fr (mG.call (mG.fr (mG.upO mG.refl u3409 rfl) F4363 (A_126 hw) rfl) h4395.1 (List.forall_mem_cons.mpr ⟨⟨_, List.mem_cons_self, vc_X12_marksRight_f_4⟩, (fun _ h => absurd h List.not_mem_nil)⟩)) F4398 (A_126 hw) rfl) F4430 (A_126 hw) rfl) : mG [(961, 1000)] μ3387 μ4428) (List.forall_mem_cons.mpr ⟨vc_X12_message_u_51, (fun _ h => absurd h List.not_mem_nil)⟩)) (EP.keep I3395 hw ((mF.call (mF.call (mF.call (mF.call (mF.up mF.refl (A_106 hw) u3409 rfl) F4363 rfl) F4394 rfl) F4398 rfl) F4430 rfl) : mF [106088, 106091, 106093, 106096, 106098, 106099, 106101, 126999, 166999, 167999, 168999, 169999, 170999, 171999, 172999, 173999] w μ3387 μ4428) rfl) (HP.keep I3396 hw ((mF.call (mF.call (mF.call (mF.call (mF.up mF.refl (A_106 hw) u3409 rfl) F4363 rfl) F4394 rfl) F4398 rfl) F4430 rfl) : mF [106088, 106091, 106093, 106096, 106098, 106099, 106101, 126999, 166999, 167999, 168999, 169999, 170999, 171999, 172999, 173999] w μ3387 μ4428) rfl ((mG.fr (mG.fr (mG.call (mG.fr (mG.upO mG.refl u3409 rfl) F4363 (A_126 hw) rfl) h4395.1 (List.forall_mem_cons.mpr ⟨⟨_, List.mem_cons_self, vc_X12_marksRight_f_4⟩, (fun _ h => absurd h List.not_mem_nil)⟩)) F4398 (A_126 hw) rfl) F4430 (A_126 hw) rfl) : mG [(961, 1000)] μ3387 μ4428) (List.forall_mem_cons.mpr ⟨vc_X12_message_u_52, (fun _ h => absurd h List.not_mem_nil)⟩)) (UPg.fr I3397 hw T4429 rfl ((mF.call (mF.call (mF.call (mF.call (mF.up mF.refl (A_106 hw) u3409 rfl) F4363 rfl) F4394 rfl) F4398 rfl) F4430 rfl) : mF [106088, 106091, 106093, 106096, 106098, 106099, 106101, 126999, 166999, 167999, 168999, 169999, 170999, 171999, 172999, 173999] w μ3387 μ4428) rfl rfl rfl ((mG.fr (mG.fr (mG.call (mG.fr (mG.upO mG.refl u3409 rfl) F4363 (A_126 hw) rfl) h4395.1 (List.forall_mem_cons.mpr ⟨⟨_, List.mem_cons_self, vc_X12_marksRight_f_4⟩, (fun _ h => absurd h List.not_mem_nil)⟩)) F4398 (A_126 hw) rfl) F4430 (A_126 hw) rfl) : mG [(961, 1000)] μ3387 μ4428) (List.forall_mem_cons.mpr ⟨vc_X12_message_u_52, (fun _ h => absurd h List.not_mem_nil)⟩)) (G1.keep I3398 hw ((mF.call (mF.call (mF.call (mF.call (mF.up mF.refl (A_106 hw) u3409 rfl) F4363 rfl) F4394 rfl) F4398 rfl) F4430 rfl) : mF [106088, 106091, 106093, 106096, 106098, 106099, 106101, 126999, 166999, 167999, 168999, 169999, 170999, 171999, 172999, 173999] w μ3387 μ4428) rfl rfl ((mG.fr (mG.fr (mG.call (mG.fr (mG.upO mG.refl u3409 rfl) F4363 (A_126 hw) rfl) h4395.1 (List.forall_mem_cons.mpr ⟨⟨_, List.mem_cons_self, vc_X12_marksRight_f_4⟩, (fun _ h => absurd h List.not_mem_nil)⟩)) F4398 (A_126 hw) rfl) F4430 (A_126 hw) rfl) : mG [(961, 1000)] μ3387 μ4428) (List.forall_mem_cons.mpr ⟨vc_X12_message_u_53, (fun _ h => absurd h List.not_mem_nil)⟩)) (by rw [(F4430.f (A_106 hw) rfl q4402), (F4430.f (A_106 hw) rfl q4404)]; exact (vc_X12_message_u_59 h4405.2.1 h4352 h4359 h4370.2.1 h4383 h4390 h4408 h4409 h4410 h4371 h4372 h4411 h4406 h4407))
                          refine sv_aload_n (pc := 227) dX12_message_227 rfl rfl ?_
                          refine mr_iconst (pc := 228) (z := 1) dX12_message_228 ?_
                          refine mr_iload_n (pc := 229) (z := (2 + z3421)) dX12_message_229 rfl rfl ?_
                          refine mr_cVV (pc := 230) (c_X12_fails hw T4362 (rW (c := 0) (d := 3) (rR (x := 1)) rfl) (rW (c := (-2147483648)) (d := 2147483647) (rAdd (e := 2) (f := 998) (rR (x := 2)) h4388 rfl) rfl)) (gOk _ _ _ _ _) dX12_message_230 (tX12_fails _ _ _ _ _) ⟨wV_X12_fails, wL_X12_fails⟩ wM_X12_620 (gCX12 _ _ _ _ _) rfl (A_106 hw) rfl ⟨le_t rfl, le_t rfl⟩ ⟨le_t rfl, le_t rfl⟩ rfl (le_t rfl) fun μ4432 T4433 F4434 h4435 => ?_
                          refine sv_goto (pc := 233) (tgt := 303) dX12_message_233 (by decide) ?_
                          refine mr_lvS (lv' := [(0, .ref 106)]) (List.forall_mem_cons.mpr ⟨rfl, fun _ h => absurd h List.not_mem_nil⟩) ?_
                          exact J3516 μ4432 T4433 (mF.call (mF.call mF.refl F4363 rfl) F4434 rfl) (mG.fr (mG.fr mG.refl F4363 (A_126 hw) rfl) F4434 (A_126 hw) rfl) (JC.keepJ I3393 hw ((mF.call (mF.call (mF.up mF.refl (A_106 hw) u3409 rfl) F4363 rfl) F4434 rfl) : mF [106088, 106091, 106096, 166999, 167999, 168999, 169999, 172999] w μ3387 μ4432) rfl) (RP.keep I3394 hw ((mF.call (mF.call (mF.up mF.refl (A_106 hw) u3409 rfl) F4363 rfl) F4434 rfl) : mF [106088, 106091, 106096, 166999, 167999, 168999, 169999, 172999] w μ3387 μ4432) rfl ((mG.fr (mG.fr (mG.upO mG.refl u3409 rfl) F4363 (A_126 hw) rfl) F4434 (A_126 hw) rfl) : mG [] μ3387 μ4432) (fun _ h => absurd h List.not_mem_nil)) (EP.keep I3395 hw ((mF.call (mF.call (mF.up mF.refl (A_106 hw) u3409 rfl) F4363 rfl) F4434 rfl) : mF [106088, 106091, 106096, 166999, 167999, 168999, 169999, 172999] w μ3387 μ4432) rfl) (HP.keep I3396 hw ((mF.call (mF.call (mF.up mF.refl (A_106 hw) u3409 rfl) F4363 rfl) F4434 rfl) : mF [106088, 106091, 106096, 166999, 167999, 168999, 169999, 172999] w μ3387 μ4432) rfl ((mG.fr (mG.fr (mG.upO mG.refl u3409 rfl) F4363 (A_126 hw) rfl) F4434 (A_126 hw) rfl) : mG [] μ3387 μ4432) (fun _ h => absurd h List.not_mem_nil)) (UPg.fr I3397 hw T4433 rfl ((mF.call (mF.call (mF.up mF.refl (A_106 hw) u3409 rfl) F4363 rfl) F4434 rfl) : mF [106088, 106091, 106096, 166999, 167999, 168999, 169999, 172999] w μ3387 μ4432) rfl rfl rfl ((mG.fr (mG.fr (mG.upO mG.refl u3409 rfl) F4363 (A_126 hw) rfl) F4434 (A_126 hw) rfl) : mG [] μ3387 μ4432) (fun _ h => absurd h List.not_mem_nil)) (G1.keep I3398 hw ((mF.call (mF.call (mF.up mF.refl (A_106 hw) u3409 rfl) F4363 rfl) F4434 rfl) : mF [106088, 106091, 106096, 166999, 167999, 168999, 169999, 172999] w μ3387 μ4432) rfl rfl ((mG.fr (mG.fr (mG.upO mG.refl u3409 rfl) F4363 (A_126 hw) rfl) F4434 (A_126 hw) rfl) : mG [] μ3387 μ4432) (fun _ h => absurd h List.not_mem_nil)) (by rw [(F4434.f (A_106 hw) rfl q4367), (F4434.f (A_106 hw) rfl q4369)]; exact (vc_X12_message_u_63 h4370.2.1 h4359 h4383 h4390 h4389 h4388 h4371 h4372 h4381))
                        refine mr_icmp_gt (pc := 189) (tgt := 201) dX12_message_189 (by decide) (r32 (rAdd (e := 4) (f := 1002) (rAdd (e := 2) (f := 1000) (rR (x := 2)) h4360 rfl) (rR (x := 2)) rfl) rfl) (r32 h4358 rfl) (fun h4436 => ?_) (fun h4436 => ?_)
                        · refine mr_iconst (pc := 201) (z := 0) dX12_message_201 ?_
                          refine mr_lvS (lv' := [(0, .ref 106), (3, iv (2 + z3421))]) (List.forall_mem_cons.mpr ⟨rfl, List.forall_mem_cons.mpr ⟨rfl, fun _ h => absurd h List.not_mem_nil⟩⟩) ?_
                          exact J4382 0 (rW (c := 0) (d := 65535) (rR (x := 0)) rfl)
                        have h4437 : 0 ≤ z3421 ∧ z3421 ≤ 996 := (vc_X12_message_u_41 h4436 h4352 h4359 h4370.2.1 h4358 h4360 h4371 h4372)
                        have h4438 : 4 ≤ z3411 ∧ z3411 ≤ 1000 := (vc_X12_message_u_42 h4436 h4352 h4359 h4370.2.1 h4358 h4437 h4371 h4372)
                        refine sv_aload_n (pc := 192) dX12_message_192 rfl rfl ?_
                        refine mr_iload_n (pc := 193) (z := (2 + z3421)) dX12_message_193 rfl rfl ?_
                        refine mr_iconst (pc := 194) (z := 2) dX12_message_194 ?_
                        refine mr_cVP (pc := 195) (c_X12_number_f2 hw T4362 (rW (c := 0) (d := 1000) (rAdd (e := 2) (f := 998) (rR (x := 2)) h4437 rfl) rfl) (rW (c := 0) (d := 2) (rR (x := 2)) rfl) (F4363.f (A_106 hw) rfl q3412) (vc_X12_message_u_64 h4352 h4359 h4370.2.1 h4436 h4438 h4437 h4371 h4372)) (gOk _ _ _ _ _) dX12_message_195 (tX12_number _ _ _ _ _) ⟨wV_X12_number, wL_X12_number⟩ wM_X12_623 (gCX12 _ _ _ _ _) rfl (A_106 hw) rfl ⟨le_t rfl, le_t rfl⟩ ⟨le_t rfl, le_t rfl⟩ rfl (le_t rfl) fun z4443 h4442 => ?_
                        refine sv_goto (pc := 198) (tgt := 202) dX12_message_198 (by decide) ?_
                        refine mr_lvS (lv' := [(0, .ref 106), (3, iv (2 + z3421))]) (List.forall_mem_cons.mpr ⟨rfl, List.forall_mem_cons.mpr ⟨rfl, fun _ h => absurd h List.not_mem_nil⟩⟩) ?_
                        exact J4382 z4443 h4442.1
                      have h4444 : 1 ≤ z3421 ∧ z3421 ≤ 65535 := (vc_X12_message_u_65 h4359 h4352 h4358 h3422)
                      refine sv_aload_n (pc := 159) dX12_message_159 rfl rfl ?_
                      refine mr_iconst (pc := 160) (z := 1) dX12_message_160 ?_
                      refine mr_iconst (pc := 161) (z := 0) dX12_message_161 ?_
                      refine mr_cVV (pc := 162) (c_X12_fails hw T3410 (rW (c := 0) (d := 3) (rR (x := 1)) rfl) (rW (c := (-2147483648)) (d := 2147483647) (rR (x := 0)) rfl)) (gOk _ _ _ _ _) dX12_message_162 (tX12_fails _ _ _ _ _) ⟨wV_X12_fails, wL_X12_fails⟩ wM_X12_620 (gCX12 _ _ _ _ _) rfl (A_106 hw) rfl ⟨le_t rfl, le_t rfl⟩ ⟨le_t rfl, le_t rfl⟩ rfl (le_t rfl) fun μ4445 T4446 F4447 h4448 => ?_
                      refine sv_goto (pc := 165) (tgt := 303) dX12_message_165 (by decide) ?_
                      refine mr_lvS (lv' := [(0, .ref 106)]) (List.forall_mem_cons.mpr ⟨rfl, fun _ h => absurd h List.not_mem_nil⟩) ?_
                      exact J3516 μ4445 T4446 (mF.call mF.refl F4447 rfl) (mG.fr mG.refl F4447 (A_126 hw) rfl) (JC.keepJ I3393 hw ((mF.call (mF.up mF.refl (A_106 hw) u3409 rfl) F4447 rfl) : mF [106096, 172999] w μ3387 μ4445) rfl) (RP.keep I3394 hw ((mF.call (mF.up mF.refl (A_106 hw) u3409 rfl) F4447 rfl) : mF [106096, 172999] w μ3387 μ4445) rfl ((mG.fr (mG.upO mG.refl u3409 rfl) F4447 (A_126 hw) rfl) : mG [] μ3387 μ4445) (fun _ h => absurd h List.not_mem_nil)) (EP.keep I3395 hw ((mF.call (mF.up mF.refl (A_106 hw) u3409 rfl) F4447 rfl) : mF [106096, 172999] w μ3387 μ4445) rfl) (HP.keep I3396 hw ((mF.call (mF.up mF.refl (A_106 hw) u3409 rfl) F4447 rfl) : mF [106096, 172999] w μ3387 μ4445) rfl ((mG.fr (mG.upO mG.refl u3409 rfl) F4447 (A_126 hw) rfl) : mG [] μ3387 μ4445) (fun _ h => absurd h List.not_mem_nil)) (UPg.fr I3397 hw T4446 rfl ((mF.call (mF.up mF.refl (A_106 hw) u3409 rfl) F4447 rfl) : mF [106096, 172999] w μ3387 μ4445) rfl rfl rfl ((mG.fr (mG.upO mG.refl u3409 rfl) F4447 (A_126 hw) rfl) : mG [] μ3387 μ4445) (fun _ h => absurd h List.not_mem_nil)) (G1.keep I3398 hw ((mF.call (mF.up mF.refl (A_106 hw) u3409 rfl) F4447 rfl) : mF [106096, 172999] w μ3387 μ4445) rfl rfl ((mG.fr (mG.upO mG.refl u3409 rfl) F4447 (A_126 hw) rfl) : mG [] μ3387 μ4445) (fun _ h => absurd h List.not_mem_nil)) (by rw [(F4447.f (A_106 hw) rfl (u3409.f (Or.inr (by decide)) (F3391.f (A_106 hw) rfl (u2937.f (Or.inl (mAt.ne (A_126 hw) (A_106 hw) rfl)) (u2930.f (Or.inl (mAt.ne (A_126 hw) (A_106 hw) rfl)) (u2927.f (Or.inr (by decide)) (u2924.f (Or.inr (by decide)) (u2921.f (Or.inr (by decide)) (u2918.f (Or.inr (by decide)) (u2915.f (Or.inr (by decide)) u2912.1)))))))))), (F4447.f (A_106 hw) rfl (u3409.f (Or.inr (by decide)) (F3391.f (A_106 hw) rfl (u2937.f (Or.inl (mAt.ne (A_126 hw) (A_106 hw) rfl)) (u2930.f (Or.inl (mAt.ne (A_126 hw) (A_106 hw) rfl)) (u2927.f (Or.inr (by decide)) (u2924.f (Or.inr (by decide)) (u2921.f (Or.inr (by decide)) (u2918.f (Or.inr (by decide)) u2915.1)))))))))]; exact vc_X12_message_u_34)
                    refine mr_icmp_lt (pc := 127) (tgt := 139) dX12_message_127 (by decide) (r32 h3413 rfl) (r32 (rR (x := 2)) rfl) (fun h4449 => ?_) (fun h4449 => ?_)
                    · have h4450 : 0 ≤ z3411 ∧ z3411 ≤ 1 := (vc_X3_readParts_20 h4449 h3413)
                      refine mr_iconst (pc := 139) (z := 0) dX12_message_139 ?_
                      refine mr_lvS (lv' := [(0, .ref 106)]) (List.forall_mem_cons.mpr ⟨rfl, fun _ h => absurd h List.not_mem_nil⟩) ?_
                      exact J3423 0 (rW (c := 0) (d := 65535) (rR (x := 0)) rfl)
                    have h4451 : 2 ≤ z3411 ∧ z3411 ≤ 1000 := (vc_X3_readParts_21 h4449 h3413)
                    refine sv_aload_n (pc := 130) dX12_message_130 rfl rfl ?_
                    refine mr_iconst (pc := 131) (z := 0) dX12_message_131 ?_
                    refine mr_iconst (pc := 132) (z := 2) dX12_message_132 ?_
                    refine mr_cVP (pc := 133) (c_X12_number_f2 hw T3410 (rW (c := 0) (d := 1000) (rR (x := 0)) rfl) (rW (c := 0) (d := 2) (rR (x := 2)) rfl) q3412 (vc_X12_message_u_66 h4449 h4451)) (gOk _ _ _ _ _) dX12_message_133 (tX12_number _ _ _ _ _) ⟨wV_X12_number, wL_X12_number⟩ wM_X12_623 (gCX12 _ _ _ _ _) rfl (A_106 hw) rfl ⟨le_t rfl, le_t rfl⟩ ⟨le_t rfl, le_t rfl⟩ rfl (le_t rfl) fun z4456 h4455 => ?_
                    refine sv_goto (pc := 136) (tgt := 140) dX12_message_136 (by decide) ?_
                    refine mr_lvS (lv' := [(0, .ref 106)]) (List.forall_mem_cons.mpr ⟨rfl, fun _ h => absurd h List.not_mem_nil⟩) ?_
                    exact J3423 z4456 h4455.1
                  have h4457 : 2 ≤ z3386 ∧ z3386 ≤ 5 := (vc_X12_message_u_67 h3406 h3389)
                  refine sv_aload_n (pc := 102) dX12_message_102 rfl rfl ?_
                  refine gf_X12_32 (pc := 103) dX12_message_103 wF_X12_148 (A_106 hw) T3390 ?_
                  refine mr_iload_n (pc := 106) (z := 960) dX12_message_106 rfl rfl ?_
                  refine mr_iload_n (pc := 107) (z := z3386) dX12_message_107 rfl rfl ?_
                  refine mr_iadd (pc := 108) (x := 960) (y := z3386) dX12_message_108 ?_
                  refine mr_iconst (pc := 109) (z := 0) dX12_message_109 ?_
                  refine ss_126 (pc := 110) dX12_message_110 (A_126 hw) T3390 (rIx (n := 84000) (rAdd (e := 962) (f := 965) (rR (x := 960)) h4457 rfl) rfl) (vc_X12_message_u_68 h3406 h4457) fun μ4458 u4459 T4460 => ?_
                  have I4461 : RP μ4458 := RP.up I3394 u4459 (u4459.f (Or.inl (mAt.ne (A_126 hw) (A_106 hw) rfl)) (F3391.f (A_106 hw) rfl (u2937.f (Or.inl (mAt.ne (A_126 hw) (A_106 hw) rfl)) q2933))) (vc_X12_message_u_69 h3406 h4457) (vc_X12_message_u_70 h3406 h2934 h4457)
                  refine mr_iinc (pc := 111) (lv' := [(2, iv (z3386 + 1)), (0, .ref 106), (1, iv 960)]) dX12_message_111 rfl (by decide) rfl ?_
                  refine sv_goto (pc := 114) (tgt := 96) dX12_message_114 (by decide) ?_
                  refine mr_lvS (lv' := [(0, .ref 106), (1, iv 960), (2, iv (z3386 + 1))]) (List.forall_mem_cons.mpr ⟨rfl, List.forall_mem_cons.mpr ⟨rfl, List.forall_mem_cons.mpr ⟨rfl, fun _ h => absurd h List.not_mem_nil⟩⟩⟩) ?_
                  exact ih3400 (z3386 + 1) μ4458 T4460 (mF.up (mF.call mF.refl F3391 rfl) (A_126 hw) u4459 rfl) (mG.up (mG.call mG.refl G3392 (List.forall_mem_cons.mpr ⟨⟨_, List.mem_cons_self, vc_X12_message_u_15⟩, (fun _ h => absurd h List.not_mem_nil)⟩)) u4459 List.mem_cons_self (vc_X12_message_u_72 h3406 h4457)) (rW (c := 2) (d := 6) (rAdd (e := 3) (f := 6) h4457 (rR (x := 1)) rfl) rfl) (JC.keepJ I3393 hw ((mF.up mF.refl (A_126 hw) u4459 rfl) : mF [126999] w μ3387 μ4458) rfl) I4461 (EP.keep I3395 hw ((mF.up mF.refl (A_126 hw) u4459 rfl) : mF [126999] w μ3387 μ4458) rfl) (HP.keep I3396 hw ((mF.up mF.refl (A_126 hw) u4459 rfl) : mF [126999] w μ3387 μ4458) rfl ((mG.up mG.refl u4459 List.mem_cons_self (vc_X12_message_u_73 h3406 h4457)) : mG [((960 + z3386), ((960 + z3386) + 1))] μ3387 μ4458) (List.forall_mem_cons.mpr ⟨(vc_X12_message_u_74 h3406 h4457), (fun _ h => absurd h List.not_mem_nil)⟩)) (UPg.fr I3397 hw T4460 rfl ((mF.up mF.refl (A_126 hw) u4459 rfl) : mF [126999] w μ3387 μ4458) rfl rfl rfl ((mG.up mG.refl u4459 List.mem_cons_self (vc_X12_message_u_73 h3406 h4457)) : mG [((960 + z3386), ((960 + z3386) + 1))] μ3387 μ4458) (List.forall_mem_cons.mpr ⟨(vc_X12_message_u_74 h3406 h4457), (fun _ h => absurd h List.not_mem_nil)⟩)) (G1.keep I3398 hw ((mF.up mF.refl (A_126 hw) u4459 rfl) : mF [126999] w μ3387 μ4458) rfl rfl ((mG.up mG.refl u4459 List.mem_cons_self (vc_X12_message_u_73 h3406 h4457)) : mG [((960 + z3386), ((960 + z3386) + 1))] μ3387 μ4458) (List.forall_mem_cons.mpr ⟨(vc_X12_message_u_75 h3406 h4457), (fun _ h => absurd h List.not_mem_nil)⟩)) (vc_X12_message_u_71 (nS h3399) h3406 h4457)
              refine mr_lvS (lv' := [(0, .ref 106), (1, iv 960), (2, iv 2)]) (List.forall_mem_cons.mpr ⟨rfl, List.forall_mem_cons.mpr ⟨rfl, List.forall_mem_cons.mpr ⟨rfl, fun _ h => absurd h List.not_mem_nil⟩⟩⟩) ?_
              exact L3388 6 2 μ2936 T2938 mF.refl mG.refl (rW (c := 2) (d := 6) (rR (x := 2)) rfl) (JC.keepJ I2896 hw ((mF.up (mF.up (mF.up (mF.up (mF.up (mF.up (mF.up (mF.up mF.refl (A_106 hw) u2912 rfl) (A_106 hw) u2915 rfl) (A_106 hw) u2918 rfl) (A_106 hw) u2921 rfl) (A_106 hw) u2924 rfl) (A_106 hw) u2927 rfl) (A_126 hw) u2930 rfl) (A_126 hw) u2937 rfl) : mF [106088, 106091, 106093, 106098, 106099, 106101, 126999] w μ2890 μ2936) rfl) I2939 (EP.keep I2898 hw ((mF.up (mF.up (mF.up (mF.up (mF.up (mF.up (mF.up (mF.up mF.refl (A_106 hw) u2912 rfl) (A_106 hw) u2915 rfl) (A_106 hw) u2918 rfl) (A_106 hw) u2921 rfl) (A_106 hw) u2924 rfl) (A_106 hw) u2927 rfl) (A_126 hw) u2930 rfl) (A_126 hw) u2937 rfl) : mF [106088, 106091, 106093, 106098, 106099, 106101, 126999] w μ2890 μ2936) rfl) (HP.keep I2899 hw ((mF.up (mF.up (mF.up (mF.up (mF.up (mF.up (mF.up (mF.up mF.refl (A_106 hw) u2912 rfl) (A_106 hw) u2915 rfl) (A_106 hw) u2918 rfl) (A_106 hw) u2921 rfl) (A_106 hw) u2924 rfl) (A_106 hw) u2927 rfl) (A_126 hw) u2930 rfl) (A_126 hw) u2937 rfl) : mF [106088, 106091, 106093, 106098, 106099, 106101, 126999] w μ2890 μ2936) rfl ((mG.up (mG.up (mG.upO (mG.upO (mG.upO (mG.upO (mG.upO (mG.upO mG.refl u2912 rfl) u2915 rfl) u2918 rfl) u2921 rfl) u2924 rfl) u2927 rfl) u2930 List.mem_cons_self vc_X12_message_u_77) u2937 (List.mem_cons_of_mem _ List.mem_cons_self) vc_X12_message_u_78) : mG [(960, (960 + 1)), ((960 + 1), ((960 + 1) + 1))] μ2890 μ2936) (List.forall_mem_cons.mpr ⟨vc_X12_message_u_80, (List.forall_mem_cons.mpr ⟨vc_X12_message_u_79, (fun _ h => absurd h List.not_mem_nil)⟩)⟩)) (UPg.fr I2900 hw T2938 rfl ((mF.up (mF.up (mF.up (mF.up (mF.up (mF.up (mF.up (mF.up mF.refl (A_106 hw) u2912 rfl) (A_106 hw) u2915 rfl) (A_106 hw) u2918 rfl) (A_106 hw) u2921 rfl) (A_106 hw) u2924 rfl) (A_106 hw) u2927 rfl) (A_126 hw) u2930 rfl) (A_126 hw) u2937 rfl) : mF [106088, 106091, 106093, 106098, 106099, 106101, 126999] w μ2890 μ2936) rfl rfl rfl ((mG.up (mG.up (mG.upO (mG.upO (mG.upO (mG.upO (mG.upO (mG.upO mG.refl u2912 rfl) u2915 rfl) u2918 rfl) u2921 rfl) u2924 rfl) u2927 rfl) u2930 List.mem_cons_self vc_X12_message_u_77) u2937 (List.mem_cons_of_mem _ List.mem_cons_self) vc_X12_message_u_78) : mG [(960, (960 + 1)), ((960 + 1), ((960 + 1) + 1))] μ2890 μ2936) (List.forall_mem_cons.mpr ⟨vc_X12_message_u_80, (List.forall_mem_cons.mpr ⟨vc_X12_message_u_79, (fun _ h => absurd h List.not_mem_nil)⟩)⟩)) (G1.keep I2901 hw ((mF.up (mF.up (mF.up (mF.up (mF.up (mF.up (mF.up (mF.up mF.refl (A_106 hw) u2912 rfl) (A_106 hw) u2915 rfl) (A_106 hw) u2918 rfl) (A_106 hw) u2921 rfl) (A_106 hw) u2924 rfl) (A_106 hw) u2927 rfl) (A_126 hw) u2930 rfl) (A_126 hw) u2937 rfl) : mF [106088, 106091, 106093, 106098, 106099, 106101, 126999] w μ2890 μ2936) rfl rfl ((mG.up (mG.up (mG.upO (mG.upO (mG.upO (mG.upO (mG.upO (mG.upO mG.refl u2912 rfl) u2915 rfl) u2918 rfl) u2921 rfl) u2924 rfl) u2927 rfl) u2930 List.mem_cons_self vc_X12_message_u_77) u2937 (List.mem_cons_of_mem _ List.mem_cons_self) vc_X12_message_u_78) : mG [(960, (960 + 1)), ((960 + 1), ((960 + 1) + 1))] μ2890 μ2936) (List.forall_mem_cons.mpr ⟨vc_X12_message_u_82, (List.forall_mem_cons.mpr ⟨vc_X12_message_u_81, (fun _ h => absurd h List.not_mem_nil)⟩)⟩)) vc_X12_message_u_76
            have h4462 : 0 ≤ z2889 ∧ z2889 ≤ 255 := (vc_X3_putNumber_5 h2909 h2892)
            refine sv_aload_n (pc := 30) dX12_message_30 rfl rfl ?_
            refine gf_X12_94 (pc := 31) dX12_message_31 wF_X12_475 (A_106 hw) T2893 ?_
            refine mr_iload_n (pc := 34) (z := z2889) dX12_message_34 rfl rfl ?_
            refine mr_iconst (pc := 35) (z := 0) dX12_message_35 ?_
            refine ss_171 (pc := 36) dX12_message_36 (A_171 hw) T2893 (rIx (n := 256) h4462 rfl) (rW (c := 0) (d := 1) (rR (x := 0)) rfl) fun μ4463 u4464 T4465 => ?_
            refine mr_iinc (pc := 37) (lv' := [(1, iv (z2889 + 1)), (0, .ref 106)]) dX12_message_37 rfl (by decide) rfl ?_
            refine sv_goto (pc := 40) (tgt := 23) dX12_message_40 (by decide) ?_
            refine mr_lvS (lv' := [(0, .ref 106), (1, iv (z2889 + 1))]) (List.forall_mem_cons.mpr ⟨rfl, List.forall_mem_cons.mpr ⟨rfl, fun _ h => absurd h List.not_mem_nil⟩⟩) ?_
            exact ih2903 (z2889 + 1) μ4463 T4465 (mF.up (mF.call mF.refl F2894 rfl) (A_171 hw) u4464 rfl) (rW (c := 0) (d := 256) (rAdd (e := 1) (f := 256) h4462 (rR (x := 1)) rfl) rfl) (JC.keepJ I2896 hw ((mF.up mF.refl (A_171 hw) u4464 rfl) : mF [171999] w μ2890 μ4463) rfl) (RP.keep I2897 hw ((mF.up mF.refl (A_171 hw) u4464 rfl) : mF [171999] w μ2890 μ4463) rfl ((mG.upO mG.refl u4464 rfl) : mG [] μ2890 μ4463) (fun _ h => absurd h List.not_mem_nil)) (EP.keep I2898 hw ((mF.up mF.refl (A_171 hw) u4464 rfl) : mF [171999] w μ2890 μ4463) rfl) (HP.keep I2899 hw ((mF.up mF.refl (A_171 hw) u4464 rfl) : mF [171999] w μ2890 μ4463) rfl ((mG.upO mG.refl u4464 rfl) : mG [] μ2890 μ4463) (fun _ h => absurd h List.not_mem_nil)) (UPg.fr I2900 hw T4465 rfl ((mF.up mF.refl (A_171 hw) u4464 rfl) : mF [171999] w μ2890 μ4463) rfl rfl rfl ((mG.upO mG.refl u4464 rfl) : mG [] μ2890 μ4463) (fun _ h => absurd h List.not_mem_nil)) (G1.keep I2901 hw ((mF.up mF.refl (A_171 hw) u4464 rfl) : mF [171999] w μ2890 μ4463) rfl rfl ((mG.upO mG.refl u4464 rfl) : mG [] μ2890 μ4463) (fun _ h => absurd h List.not_mem_nil)) (vc_X12_message_u_84 (nS h2902) h2909 h4462)
        refine mr_lvS (lv' := [(0, .ref 106), (1, iv 0)]) (List.forall_mem_cons.mpr ⟨rfl, List.forall_mem_cons.mpr ⟨rfl, fun _ h => absurd h List.not_mem_nil⟩⟩) ?_
        exact L2891 258 0 μ1864 T1867 mF.refl (rW (c := 0) (d := 256) (rR (x := 0)) rfl) I1870 I1871 I1872 I1873 I1874 I1875 vc_X12_message_u_85
      have h4466 : 0 ≤ z1863 ∧ z1863 ≤ 3 := (vc_X12_addressRead_82 h1883 h1866)
      refine sv_aload_n (pc := 7) dX12_message_7 rfl rfl ?_
      refine gf_X12_95 (pc := 8) dX12_message_8 wF_X12_478 (A_106 hw) T1867 ?_
      refine mr_iload_n (pc := 11) (z := z1863) dX12_message_11 rfl rfl ?_
      refine mr_ldc (pc := 12) (z := (-99999999)) dX12_message_12 wG_X12_29 (by decide) ?_
      refine ss_172 (pc := 14) dX12_message_14 (A_172 hw) T1867 (rIx (n := 4) h4466 rfl) (rW (c := (-2147483648)) (d := 2147483647) (rR (x := (-99999999))) rfl) fun μ4467 u4468 T4469 => ?_
      refine mr_iinc (pc := 15) (lv' := [(1, iv (z1863 + 1)), (0, .ref 106)]) dX12_message_15 rfl (by decide) rfl ?_
      refine sv_goto (pc := 18) (tgt := 2) dX12_message_18 (by decide) ?_
      refine mr_lvS (lv' := [(0, .ref 106), (1, iv (z1863 + 1))]) (List.forall_mem_cons.mpr ⟨rfl, List.forall_mem_cons.mpr ⟨rfl, fun _ h => absurd h List.not_mem_nil⟩⟩) ?_
      exact ih1877 (z1863 + 1) μ4467 T4469 (mF.up (mF.call mF.refl F1868 rfl) (A_172 hw) u4468 rfl) (rW (c := 0) (d := 4) (rAdd (e := 1) (f := 4) h4466 (rR (x := 1)) rfl) rfl) (JC.keepJ I1870 hw ((mF.up mF.refl (A_172 hw) u4468 rfl) : mF [172999] w μ1864 μ4467) rfl) (RP.keep I1871 hw ((mF.up mF.refl (A_172 hw) u4468 rfl) : mF [172999] w μ1864 μ4467) rfl ((mG.upO mG.refl u4468 rfl) : mG [] μ1864 μ4467) (fun _ h => absurd h List.not_mem_nil)) (EP.keep I1872 hw ((mF.up mF.refl (A_172 hw) u4468 rfl) : mF [172999] w μ1864 μ4467) rfl) (HP.keep I1873 hw ((mF.up mF.refl (A_172 hw) u4468 rfl) : mF [172999] w μ1864 μ4467) rfl ((mG.upO mG.refl u4468 rfl) : mG [] μ1864 μ4467) (fun _ h => absurd h List.not_mem_nil)) (UPg.fr I1874 hw T4469 rfl ((mF.up mF.refl (A_172 hw) u4468 rfl) : mF [172999] w μ1864 μ4467) rfl rfl rfl ((mG.upO mG.refl u4468 rfl) : mG [] μ1864 μ4467) (fun _ h => absurd h List.not_mem_nil)) (G1.keep I1875 hw ((mF.up mF.refl (A_172 hw) u4468 rfl) : mF [172999] w μ1864 μ4467) rfl rfl ((mG.upO mG.refl u4468 rfl) : mG [] μ1864 μ4467) (fun _ h => absurd h List.not_mem_nil)) (vc_X12_message_u_87 (nS h1876) h1883 h4466)
  refine mr_lvS (lv' := [(0, .ref 106), (1, iv 0)]) (List.forall_mem_cons.mpr ⟨rfl, List.forall_mem_cons.mpr ⟨rfl, fun _ h => absurd h List.not_mem_nil⟩⟩) ?_
  exact L1865 6 0 μ hT mF.refl (rW (c := 0) (d := 4) (rR (x := 0)) rfl) hIJC hIRP hIEP hIHP hIUP hIG1 vc_X12_prefixOut_14
theorem vc_X12_prefix_u_1 {p2 z5 : Int} (h0 : z5 = 0) (h1 : (z5 = 1 → (0 : Int) ≤ p2 ∧ p2 ≤ (32 : Int))) (h2 : (z5 = 0 → p2 < (0 : Int) ∨ (32 : Int) < p2)) (h3 : (-2147483648) ≤ p2 ∧ p2 ≤ 2147483647) (h4 : 0 ≤ z5 ∧ z5 ≤ 1) : 0 ≤ z5 ∧ z5 ≤ 0 := by omega
theorem vc_X12_prefix_u_2 {p2 z5 : Int} (h0 : (z5 = 1 → (0 : Int) ≤ p2 ∧ p2 ≤ (32 : Int))) (h1 : (z5 = 0 → p2 < (0 : Int) ∨ (32 : Int) < p2)) (h2 : z5 = 0) (h3 : (-2147483648) ≤ p2 ∧ p2 ≤ 2147483647) (h4 : 0 ≤ z5 ∧ z5 ≤ 0) : z5 = 0 := by omega
theorem vc_X12_prefix_u_3 {p2 z5 : Int} (h0 : ¬ z5 = 0) (h1 : (z5 = 1 → (0 : Int) ≤ p2 ∧ p2 ≤ (32 : Int))) (h2 : (z5 = 0 → p2 < (0 : Int) ∨ (32 : Int) < p2)) (h3 : (-2147483648) ≤ p2 ∧ p2 ≤ 2147483647) (h4 : 0 ≤ z5 ∧ z5 ≤ 1) : 1 ≤ z5 ∧ z5 ≤ 1 := by omega
theorem vc_X12_prefix_u_4 {p2 z5 : Int} (h0 : (z5 = 1 → (0 : Int) ≤ p2 ∧ p2 ≤ (32 : Int))) (h1 : (z5 = 0 → p2 < (0 : Int) ∨ (32 : Int) < p2)) (h2 : ¬ z5 = 0) (h3 : (-2147483648) ≤ p2 ∧ p2 ≤ 2147483647) (h4 : 1 ≤ z5 ∧ z5 ≤ 1) : z5 = 1 := by omega
theorem vc_X12_prefix_u_5 {p2 z5 : Int} (h0 : (0 : Int) ≤ p2 ∧ p2 ≤ (32 : Int)) (h1 : (z5 = 1 → (0 : Int) ≤ p2 ∧ p2 ≤ (32 : Int))) (h2 : (z5 = 0 → p2 < (0 : Int) ∨ (32 : Int) < p2)) (h3 : (-2147483648) ≤ p2 ∧ p2 ≤ 2147483647) (h4 : 1 ≤ z5 ∧ z5 ≤ 1) : 0 ≤ p2 ∧ p2 ≤ 32 := by omega
theorem vc_X12_prefix_u_8 {z25 z32 : Int} (h0 : ¬ z25 = 10) (h1 : z32 < z25) (h2 : 0 ≤ z25 ∧ z25 ≤ 10) (h3 : (-99999999) ≤ z32 ∧ z32 ≤ (-99999999)) (h4 : z32 = -99999999 ∨ (0 ≤ z32 ∧ z32 ≤ 9)) : 0 ≤ z25 ∧ z25 ≤ 9 := by omega
theorem vc_X12_prefix_u_9 {z25 z32 : Int} (h0 : z32 < z25) (h1 : ¬ z25 = 10) (h2 : z32 = -99999999 ∨ (0 ≤ z32 ∧ z32 ≤ 9)) (h3 : z32 = (-99999999)) (h4 : 0 ≤ z25 ∧ z25 ≤ 9) (h5 : (-99999999) ≤ z32 ∧ z32 ≤ (-99999999)) : z25 ≤ (z25 + 1) := by omega
theorem vc_X12_prefix_u_10 {z25 z32 : Int} (h0 : z32 < z25) (h1 : ¬ z25 = 10) (h2 : z32 = -99999999 ∨ (0 ≤ z32 ∧ z32 ≤ 9)) (h3 : z32 = (-99999999)) (h4 : 0 ≤ z25 ∧ z25 ≤ 9) (h5 : (-99999999) ≤ z32 ∧ z32 ≤ (-99999999)) : (z25 + 1) = z25 + 1 := by omega
theorem vc_X12_prefix_u_11 {z25 z32 : Int} (h0 : z25 = 10) (h1 : z32 < z25) (h2 : 0 ≤ z25 ∧ z25 ≤ 10) (h3 : (-99999999) ≤ z32 ∧ z32 ≤ (-99999999)) (h4 : z32 = -99999999 ∨ (0 ≤ z32 ∧ z32 ≤ 9)) : 10 ≤ z25 ∧ z25 ≤ 10 := by omega
set_option maxRecDepth 4000 in
set_option maxHeartbeats 4000000 in
theorem c_X12_prefix_u {l : Launch} {D : va_G} {c : Nat → ClassId} {H0 : Heap} {sa : Nat × Nat × (Nat → Int32)} {w : mW} {μ : mM} (hw : mWF w) (hT : mT w μ) {p1 : Int} (hp1 : (-2147483648) ≤ p1 ∧ p1 ≤ 2147483647) {p2 : Int} (hp2 : (-2147483648) ≤ p2 ∧ p2 ≤ 2147483647) (hIJC : JC l D c H0 sa μ) (hIRP : RP μ) (hIEP : EP μ) (hIHP : HP μ) (hIUP : UP l D c H0 sa μ) (hIRR : RR μ) (hIG1 : G1 μ) (hIEV : EV μ) (hIPK : PK μ) : sC (gG l D c H0 sa) mX12_prefix 2 0 0 [.ref 106, iv p1, iv p2] (mk w μ) (qI w [106002, 108999, 109999] μ (fun z μ1 => ((-2147483648) ≤ z ∧ z ≤ 2147483647) ∧ JC l D c H0 sa μ1 ∧ RP μ1 ∧ EP μ1 ∧ HP μ1 ∧ UP l D c H0 sa μ1 ∧ RR μ1 ∧ G1 μ1 ∧ EV μ1 ∧ PK μ1 ∧ True)) := by
  refine sC.of rfl (by decide) (le_t rfl) ?_
  refine mr_lvE (lv' := [(0, .ref 106), (1, iv p1), (2, iv p2)]) rfl ?_
  refine mr_iload_n (pc := 0) (z := p2) dX12_prefix_0 rfl rfl ?_
  refine mr_iconst (pc := 1) (z := 0) dX12_prefix_1 ?_
  refine mr_bipush (pc := 2) (z := 32) dX12_prefix_2 (by decide) ?_
  refine mr_cSP (pc := 4) (c_X12_in hw hT hp2 (rW (c := (-2147483648)) (d := 2147483647) (rR (x := 0)) rfl) (rW (c := (-2147483648)) (d := 2147483647) (rR (x := 32)) rfl)) (gOk _ _ _ _ _) dX12_prefix_4 (tX12_in _ _ _ _ _) wS_X12_in wM_X12_18 ⟨le_t rfl, le_t rfl⟩ ⟨le_t rfl, le_t rfl⟩ rfl (le_t rfl) fun z5 h4 => ?_
  refine mr_if_eq (pc := 7) (tgt := 21) dX12_prefix_7 (by decide) (r32 h4.1 rfl) (fun h6 => ?_) (fun h6 => ?_)
  · have h7 : 0 ≤ z5 ∧ z5 ≤ 0 := (vc_X12_prefix_u_1 h6 h4.2.1 h4.2.2.1 hp2 h4.1)
    have h8 : p2 < (0 : Int) ∨ (32 : Int) < p2 := (h4.2.2.1 (vc_X12_prefix_u_2 h4.2.1 h4.2.2.1 h6 hp2 h7))
    refine mr_iconst (pc := 21) (z := (-1)) dX12_prefix_21 ?_
    exact mr_iret dX12_prefix_22 rfl (le_t rfl) (le_t rfl) hT mF.refl ⟨(rW (c := (-2147483648)) (d := 2147483647) (rR (x := (-1))) rfl), hIJC, hIRP, hIEP, hIHP, hIUP, hIRR, hIG1, hIEV, hIPK, trivial⟩
  have h9 : 1 ≤ z5 ∧ z5 ≤ 1 := (vc_X12_prefix_u_3 h6 h4.2.1 h4.2.2.1 hp2 h4.1)
  have h10 : (0 : Int) ≤ p2 ∧ p2 ≤ (32 : Int) := (h4.2.1 (vc_X12_prefix_u_4 h4.2.1 h4.2.2.1 h6 hp2 h9))
  have h11 : 0 ≤ p2 ∧ p2 ≤ 32 := (vc_X12_prefix_u_5 h10 h4.2.1 h4.2.2.1 hp2 h9)
  refine mr_iload_n (pc := 10) (z := p1) dX12_prefix_10 rfl rfl ?_
  refine mr_iload_n (pc := 11) (z := p2) dX12_prefix_11 rfl rfl ?_
  refine mr_cSP (pc := 12) (c_X12_mask hw hT (rW (c := (-2147483648)) (d := 2147483647) h11 rfl)) (gOk _ _ _ _ _) dX12_prefix_12 (tX12_mask _ _ _ _ _) wS_X12_mask wM_X12_11 ⟨le_t rfl, le_t rfl⟩ ⟨le_t rfl, le_t rfl⟩ rfl (le_t rfl) fun z16 h15 => ?_
  refine mr_iconst (pc := 15) (z := (-1)) dX12_prefix_15 ?_
  refine mr_ixor (pc := 16) (x := z16) (y := (-1)) dX12_prefix_16 ?_
  refine mr_gen (P := fun z => (-2147483648) ≤ z ∧ z ≤ 2147483647) (r32i _) fun z17 q18 h19 => ?_
  refine mr_iand (pc := 17) (x := p1) (y := z17) dX12_prefix_17 ?_
  refine mr_gen (P := fun z => (-2147483648) ≤ z ∧ z ≤ 2147483647) (r32i _) fun z20 q21 h22 => ?_
  refine mr_if_eq (pc := 18) (tgt := 23) dX12_prefix_18 (by decide) h22 (fun h23 => ?_) (fun h23 => ?_)
  · have h24 : 0 ≤ z20 ∧ z20 ≤ 0 := (vc_X12_mask_1 h23 h22)
    refine sv_aload_n (pc := 23) dX12_prefix_23 rfl rfl ?_
    refine mr_iload_n (pc := 24) (z := p1) dX12_prefix_24 rfl rfl ?_
    refine mr_iload_n (pc := 25) (z := p2) dX12_prefix_25 rfl rfl ?_
    obtain ⟨z25, q26⟩ : ∃ z, μ 106 2 = z := ⟨_, rfl⟩
    have h27 : (0 ≤ z25 ∧ z25 ≤ 10) := by rw [← q26]; exact hT 106 106 (A_106 hw) 2
    refine mr_cVP (pc := 26) (c_X12_prefixOf_u hw hT hp1 (rW (c := (-2147483648)) (d := 2147483647) h11 rfl) q26) (gOk _ _ _ _ _) dX12_prefix_26 (tX12_prefixOf _ _ _ _ _) ⟨wV_X12_prefixOf, wL_X12_prefixOf⟩ wM_X12_30 (gCX12 _ _ _ _ _) rfl (A_106 hw) rfl ⟨le_t rfl, le_t rfl⟩ ⟨le_t rfl, le_t rfl⟩ rfl (le_t rfl) fun z32 h31 => ?_
    refine mr_ldc (pc := 29) (z := (-99999999)) dX12_prefix_29 wG_X12_29 (by decide) ?_
    refine mr_icmp_eq (pc := 31) (tgt := 37) dX12_prefix_31 (by decide) (r32 h31.1 rfl) (r32 (rR (x := (-99999999))) rfl) (fun h33 => ?_) (fun h33 => ?_)
    · have h34 : (-99999999) ≤ z32 ∧ z32 ≤ (-99999999) := (vc_X12_hear_u_60 h33 h31.2.1 h31.2.2.1 h27 h31.1)
      refine sv_aload_n (pc := 37) dX12_prefix_37 rfl rfl ?_
      refine gk_X12_2 (pc := 38) dX12_prefix_38 wF_X12_15 (A_106 hw) q26 ?_
      refine mr_bipush (pc := 41) (z := 10) dX12_prefix_41 (by decide) ?_
      refine mr_icmp_ne (pc := 43) (tgt := 49) dX12_prefix_43 (by decide) (r32 h27 rfl) (r32 (rR (x := 10)) rfl) (fun h35 => ?_) (fun h35 => ?_)
      · have h36 : 0 ≤ z25 ∧ z25 ≤ 9 := (vc_X12_prefix_u_8 h35 h31.2.2.1 h27 h34 h31.2.1)
        refine sv_aload_n (pc := 49) dX12_prefix_49 rfl rfl ?_
        refine gf_X12_3 (pc := 50) dX12_prefix_50 wF_X12_22 (A_106 hw) hT ?_
        refine sv_aload_n (pc := 53) dX12_prefix_53 rfl rfl ?_
        refine gk_X12_2 (pc := 54) dX12_prefix_54 wF_X12_15 (A_106 hw) q26 ?_
        refine mr_iload_n (pc := 57) (z := p1) dX12_prefix_57 rfl rfl ?_
        refine ss_108 (pc := 58) dX12_prefix_58 (A_108 hw) hT (rIx (n := 10) h36 rfl) hp1 fun μ37 u38 T39 => ?_
        refine sv_aload_n (pc := 59) dX12_prefix_59 rfl rfl ?_
        refine gf_X12_4 (pc := 60) dX12_prefix_60 wF_X12_26 (A_106 hw) T39 ?_
        refine sv_aload_n (pc := 63) dX12_prefix_63 rfl rfl ?_
        refine gk_X12_2 (pc := 64) dX12_prefix_64 wF_X12_15 (A_106 hw) (u38.f (Or.inl (mAt.ne (A_108 hw) (A_106 hw) rfl)) q26) ?_
        refine mr_iload_n (pc := 67) (z := p2) dX12_prefix_67 rfl rfl ?_
        refine ss_109 (pc := 68) dX12_prefix_68 (A_109 hw) T39 (rIx (n := 10) h36 rfl) h11 fun μ40 u41 T42 => ?_
        refine sv_aload_n (pc := 69) dX12_prefix_69 rfl rfl ?_
        refine sv_dup (pc := 70) dX12_prefix_70 rfl ?_
        refine gk_X12_2 (pc := 71) dX12_prefix_71 wF_X12_15 (A_106 hw) (u41.f (Or.inl (mAt.ne (A_109 hw) (A_106 hw) rfl)) (u38.f (Or.inl (mAt.ne (A_108 hw) (A_106 hw) rfl)) q26)) ?_
        refine mr_iconst (pc := 74) (z := 1) dX12_prefix_74 ?_
        refine mr_iadd (pc := 75) (x := z25) (y := 1) dX12_prefix_75 ?_
        refine pf_X12_2 (pc := 76) dX12_prefix_76 wF_X12_15 (A_106 hw) T42 (rW (c := 0) (d := 10) (rAdd (e := 1) (f := 10) h36 (rR (x := 1)) rfl) rfl) fun μ43 u44 T45 => ?_
        have I46 : RP μ43 := RP.grow (RP.keep hIRP hw ((mF.up (mF.up mF.refl (A_108 hw) u38 rfl) (A_109 hw) u41 rfl) : mF [108999, 109999] w μ μ40) rfl ((mG.upO (mG.upO mG.refl u38 rfl) u41 rfl) : mG [] μ μ40) (fun _ h => absurd h List.not_mem_nil)) (u41.f (Or.inl (mAt.ne (A_109 hw) (A_106 hw) rfl)) (u38.f (Or.inl (mAt.ne (A_108 hw) (A_106 hw) rfl)) q26)) u44 (vc_X12_prefix_u_9 h31.2.2.1 h35 h31.2.1 h33 h36 h34)
        have I47 : EP μ43 := EP.grow (EP.keep hIEP hw ((mF.up (mF.up mF.refl (A_108 hw) u38 rfl) (A_109 hw) u41 rfl) : mF [108999, 109999] w μ μ40) rfl) (u41.f (Or.inl (mAt.ne (A_109 hw) (A_106 hw) rfl)) (u38.f (Or.inl (mAt.ne (A_108 hw) (A_106 hw) rfl)) q26)) u44 (vc_X12_prefix_u_9 h31.2.2.1 h35 h31.2.1 h33 h36 h34)
        have I48 : HP μ43 := HP.grow2 (HP.keep hIHP hw ((mF.up (mF.up mF.refl (A_108 hw) u38 rfl) (A_109 hw) u41 rfl) : mF [108999, 109999] w μ μ40) rfl ((mG.upO (mG.upO mG.refl u38 rfl) u41 rfl) : mG [] μ μ40) (fun _ h => absurd h List.not_mem_nil)) (u41.f (Or.inl (mAt.ne (A_109 hw) (A_106 hw) rfl)) (u38.f (Or.inl (mAt.ne (A_108 hw) (A_106 hw) rfl)) q26)) u44 (vc_X12_prefix_u_9 h31.2.2.1 h35 h31.2.1 h33 h36 h34)
        have I49 : RR μ43 := RR.grow (RR.keep hIRR hw ((mF.up (mF.up mF.refl (A_108 hw) u38 rfl) (A_109 hw) u41 rfl) : mF [108999, 109999] w μ μ40) rfl rfl rfl) (u41.f (Or.inl (mAt.ne (A_109 hw) (A_106 hw) rfl)) (u38.f (Or.inl (mAt.ne (A_108 hw) (A_106 hw) rfl)) q26)) u44 (vc_X12_prefix_u_9 h31.2.2.1 h35 h31.2.1 h33 h36 h34)
        have I50 : JC l D c H0 sa μ43 := PX.jc hIJC hIRR hw hT q26 u38 u41 u44 (vc_X12_prefix_u_9 h31.2.2.1 h35 h31.2.1 h33 h36 h34)
        have I51 : UP l D c H0 sa μ43 := PX.up hIUP hIHP hIRP hIRR hw hT T45 (PK.keep hIPK hw ((mF.up (mF.up (mF.up mF.refl (A_108 hw) u38 rfl) (A_109 hw) u41 rfl) (A_106 hw) u44 rfl) : mF [106002, 108999, 109999] w μ μ43) rfl) q26 u38 u41 u44 (vc_X12_prefix_u_10 h31.2.2.1 h35 h31.2.1 h33 h36 h34)
        refine sv_aload_n (pc := 79) dX12_prefix_79 rfl rfl ?_
        refine gk_X12_2 (pc := 80) dX12_prefix_80 wF_X12_15 (A_106 hw) u44.1 ?_
        refine mr_iconst (pc := 83) (z := 1) dX12_prefix_83 ?_
        refine mr_isub (pc := 84) (x := (z25 + 1)) (y := 1) dX12_prefix_84 ?_
        exact mr_iret dX12_prefix_85 rfl (le_t rfl) (le_t rfl) T45 (mF.up (mF.up (mF.up mF.refl (A_108 hw) u38 rfl) (A_109 hw) u41 rfl) (A_106 hw) u44 rfl) ⟨(rW (c := (-2147483648)) (d := 2147483647) (rSub (e := 0) (f := 9) (rAdd (e := 1) (f := 10) h36 (rR (x := 1)) rfl) (rR (x := 1)) rfl) rfl), I50, I46, I47, I48, I51, I49, (G1.keep hIG1 hw ((mF.up (mF.up (mF.up mF.refl (A_108 hw) u38 rfl) (A_109 hw) u41 rfl) (A_106 hw) u44 rfl) : mF [106002, 108999, 109999] w μ μ43) rfl rfl ((mG.upO (mG.upO (mG.upO mG.refl u38 rfl) u41 rfl) u44 rfl) : mG [] μ μ43) (fun _ h => absurd h List.not_mem_nil)), (EV.keep hIEV hw ((mF.up (mF.up (mF.up mF.refl (A_108 hw) u38 rfl) (A_109 hw) u41 rfl) (A_106 hw) u44 rfl) : mF [106002, 108999, 109999] w μ μ43) rfl), (PK.keep hIPK hw ((mF.up (mF.up (mF.up mF.refl (A_108 hw) u38 rfl) (A_109 hw) u41 rfl) (A_106 hw) u44 rfl) : mF [106002, 108999, 109999] w μ μ43) rfl), trivial⟩
      have h52 : 10 ≤ z25 ∧ z25 ≤ 10 := (vc_X12_prefix_u_11 h35 h31.2.2.1 h27 h34 h31.2.1)
      refine mr_bipush (pc := 46) (z := (-3)) dX12_prefix_46 (by decide) ?_
      exact mr_iret dX12_prefix_48 rfl (le_t rfl) (le_t rfl) hT mF.refl ⟨(rW (c := (-2147483648)) (d := 2147483647) (rR (x := (-3))) rfl), hIJC, hIRP, hIEP, hIHP, hIUP, hIRR, hIG1, hIEV, hIPK, trivial⟩
    have h53 : 0 ≤ z32 ∧ z32 ≤ 9 := (vc_X12_hear_u_18 h33 h31.2.1 h31.2.2.1 h27 h31.1)
    refine mr_bipush (pc := 34) (z := (-2)) dX12_prefix_34 (by decide) ?_
    exact mr_iret dX12_prefix_36 rfl (le_t rfl) (le_t rfl) hT mF.refl ⟨(rW (c := (-2147483648)) (d := 2147483647) (rR (x := (-2))) rfl), hIJC, hIRP, hIEP, hIHP, hIUP, hIRR, hIG1, hIEV, hIPK, trivial⟩
  refine mr_iconst (pc := 21) (z := (-1)) dX12_prefix_21 ?_
  exact mr_iret dX12_prefix_22 rfl (le_t rfl) (le_t rfl) hT mF.refl ⟨(rW (c := (-2147483648)) (d := 2147483647) (rR (x := (-1))) rfl), hIJC, hIRP, hIEP, hIHP, hIUP, hIRR, hIG1, hIEV, hIPK, trivial⟩
theorem vc_X12_tie_u_18 {f_t : Int} (h0 : ¬ f_t = 20) (h1 : 0 ≤ f_t ∧ f_t ≤ 19) : f_t ≤ (f_t + 1) := by omega
theorem vc_X12_tie_u_19 {f_t : Int} (h0 : ¬ f_t = 20) (h1 : 0 ≤ f_t ∧ f_t ≤ 19) : (f_t + 1) = f_t + 1 := by omega
theorem vc_X12_tie_u_20 {f_t : Int} (h0 : ¬ f_t = 20) (h1 : 0 ≤ f_t ∧ f_t ≤ 19) : 0 ≤ f_t := by omega
theorem vc_X12_tie_u_21 {z358 : Int} (h0 : 4 ≤ z358) (h1 : 4 ≤ z358 ∧ z358 ≤ 4) : z358 = 4 := by omega
theorem vc_X12_tie_u_22 {f_t : Int} (h0 : ¬ f_t = 20) (h1 : 0 ≤ f_t ∧ f_t ≤ 19) : (2 * f_t).toNat ≠ ((2 * f_t) + 1).toNat := by omega
theorem vc_X12_tie_u_23 {p1 p2 z256 z263 z274 : Int} (h0 : (z263 = 1 → 0 ≤ p1 ∧ p1 < z256)) (h1 : (z263 = 0 → p1 < 0 ∨ z256 ≤ p1)) (h2 : 0 ≤ p1 ∧ p1 < z256) (h3 : (z274 = 1 → 0 ≤ p2 ∧ p2 < z256)) (h4 : (z274 = 0 → p2 < 0 ∨ z256 ≤ p2)) (h5 : 0 ≤ p2 ∧ p2 < z256) (h6 : ¬ p1 = p2) (h7 : ¬ z263 = 0) (h8 : ¬ z274 = 0) (h9 : 0 ≤ p1 ∧ p1 ≤ 9) (h10 : 0 ≤ p2 ∧ p2 ≤ 9) (h11 : 0 ≤ z256 ∧ z256 ≤ 10) (h12 : 1 ≤ z263 ∧ z263 ≤ 1) (h13 : 1 ≤ z274 ∧ z274 ≤ 1) : p1 < z256 ∧ p2 < z256 := by omega
theorem vc_X12_tie_u_25  : ((-99999999) : Int) = -(99999999 : Int) ∨ ((0 : Int) ≤ ((-99999999) : Int) ∧ ((-99999999) : Int) ≤ (11 : Int)) := by omega
theorem vc_X12_tie_u_26 {z393 : Int} (h0 : 0 ≤ z393 ∧ z393 ≤ 12) : ((-99999999) : Int) = -99999999 ∨ (0 ≤ ((-99999999) : Int) ∧ ((-99999999) : Int) < z393) := by omega
theorem vc_X12_tie_u_28 {f_t z358 : Int} (h0 : ¬ f_t = 20) (h1 : z358 < 4) (h2 : 0 ≤ f_t ∧ f_t ≤ 19) (h3 : 0 ≤ z358 ∧ z358 ≤ 3) : ((4 * f_t) + z358) = 4 * f_t + z358 := by omega
theorem vc_X12_tie_u_29 {f_t z358 : Int} (h0 : ¬ f_t = 20) (h1 : z358 < 4) (h2 : 0 ≤ f_t ∧ f_t ≤ 19) (h3 : 0 ≤ z358 ∧ z358 ≤ 3) : 0 ≤ f_t ∧ 0 ≤ z358 := by omega
theorem vc_X12_tie_u_30  : (((-99999999) : Int) : Int) = -(99999999 : Int) := by omega
theorem vc_X12_tie_u_31 {z358 : Int} (h0 : z358 < 4) (h1 : 0 ≤ z358 ∧ z358 ≤ 3) : (z358 + 1) = z358 + 1 := by omega
theorem vc_X12_tie_u_32 {f_t z358 : Int} (h0 : ¬ f_t = 20) (h1 : z358 < 4) (h2 : 0 ≤ f_t ∧ f_t ≤ 19) (h3 : 0 ≤ z358 ∧ z358 ≤ 3) : 4 * f_t ≤ ((4 * f_t) + z358) ∧ 0 ≤ ((4 * f_t) + z358) := by omega
theorem vc_X12_tie_u_35 {f_t : Int} (h0 : ¬ f_t = 20) (h1 : 0 ≤ f_t ∧ f_t ≤ 19) : 2 * f_t ≤ (2 * f_t) ∧ 0 ≤ (2 * f_t) := by omega
theorem vc_X12_tie_u_36 {f_t : Int} (h0 : ¬ f_t = 20) (h1 : 0 ≤ f_t ∧ f_t ≤ 19) : 2 * f_t ≤ ((2 * f_t) + 1) ∧ 0 ≤ ((2 * f_t) + 1) := by omega
theorem vc_X12_tie_u_37 {f_t : Int} (h0 : ¬ f_t = 20) (h1 : 0 ≤ f_t ∧ f_t ≤ 19) : 1 * f_t ≤ f_t ∧ 0 ≤ f_t := by omega
set_option maxRecDepth 4000 in
set_option maxHeartbeats 4000000 in
theorem c_X12_tie_u {l : Launch} {D : va_G} {c : Nat → ClassId} {H0 : Heap} {sa : Nat × Nat × (Nat → Int32)} {w : mW} {μ : mM} (hw : mWF w) (hT : mT w μ) {p1 : Int} (hp1 : (-2147483648) ≤ p1 ∧ p1 ≤ 2147483647) {p2 : Int} (hp2 : (-2147483648) ≤ p2 ∧ p2 ≤ 2147483647) {p3 : Int} (hp3 : (-2147483648) ≤ p3 ∧ p3 ≤ 2147483647) {f_t : Int} (q_f_t : μ 106 6 = f_t) (hIJC : JC l D c H0 sa μ) (hIRP : RP μ) (hIEP : EP μ) (hIHP : HP μ) (hIUP : UP l D c H0 sa μ) (hITE : TE μ) (hIPK : PK μ) (hIEV : EV μ) : sC (gG l D c H0 sa) mX12_tie 3 0 0 [.ref 106, iv p1, iv p2, iv p3] (mk w μ) (qI w [106006, 110999, 111999, 112999, 113999, 114999, 115999] μ (fun z μ1 => ((-2147483648) ≤ z ∧ z ≤ 2147483647) ∧ JC l D c H0 sa μ1 ∧ RP μ1 ∧ EP μ1 ∧ HP μ1 ∧ UP l D c H0 sa μ1 ∧ TE μ1 ∧ PK μ1 ∧ EV μ1 ∧ True)) := by
  refine sC.of rfl (by decide) (le_t rfl) ?_
  have ht_f_t : (0 ≤ f_t ∧ f_t ≤ 20) := by rw [← q_f_t]; exact hT 106 106 (A_106 hw) 6
  refine mr_lvE (lv' := [(0, .ref 106), (1, iv p1), (2, iv p2), (3, iv p3)]) rfl ?_
  refine sv_aload_n (pc := 0) dX12_tie_0 rfl rfl ?_
  refine mr_iload_n (pc := 1) (z := p1) dX12_tie_1 rfl rfl ?_
  obtain ⟨z256, q257⟩ : ∃ z, μ 106 5 = z := ⟨_, rfl⟩
  have h258 : (0 ≤ z256 ∧ z256 ≤ 10) := by rw [← q257]; exact hT 106 106 (A_106 hw) 5
  refine mr_cVP (pc := 2) (c_X12_isDomain hw hT hp1 q257) (gOk _ _ _ _ _) dX12_tie_2 (tX12_isDomain _ _ _ _ _) ⟨wV_X12_isDomain, wL_X12_isDomain⟩ wM_X12_49 (gCX12 _ _ _ _ _) rfl (A_106 hw) rfl ⟨le_t rfl, le_t rfl⟩ ⟨le_t rfl, le_t rfl⟩ rfl (le_t rfl) fun z263 h262 => ?_
  refine mr_if_eq (pc := 5) (tgt := 30) dX12_tie_5 (by decide) (r32 h262.1 rfl) (fun h264 => ?_) (fun h264 => ?_)
  · have h265 : 0 ≤ z263 ∧ z263 ≤ 0 := (vc_X12_write_78 h264 h262.2.1 h262.2.2.1 hp1 h258 h262.1)
    have h266 : p1 < 0 ∨ z256 ≤ p1 := (h262.2.2.1 (vc_X12_write_79 h262.2.1 h262.2.2.1 h264 hp1 h258 h265))
    refine mr_iconst (pc := 30) (z := (-1)) dX12_tie_30 ?_
    exact mr_iret dX12_tie_31 rfl (le_t rfl) (le_t rfl) hT mF.refl ⟨(rW (c := (-2147483648)) (d := 2147483647) (rR (x := (-1))) rfl), hIJC, hIRP, hIEP, hIHP, hIUP, hITE, hIPK, hIEV, trivial⟩
  have h267 : 1 ≤ z263 ∧ z263 ≤ 1 := (vc_X12_write_12 h264 h262.2.1 h262.2.2.1 hp1 h258 h262.1)
  have h268 : 0 ≤ p1 ∧ p1 < z256 := (h262.2.1 (vc_X12_write_13 h262.2.1 h262.2.2.1 h264 hp1 h258 h267))
  have h269 : 0 ≤ p1 ∧ p1 ≤ 9 := (vc_X12_write_14 h268 h262.2.1 h262.2.2.1 hp1 h258 h267)
  refine sv_aload_n (pc := 8) dX12_tie_8 rfl rfl ?_
  refine mr_iload_n (pc := 9) (z := p2) dX12_tie_9 rfl rfl ?_
  refine mr_cVP (pc := 10) (c_X12_isDomain hw hT hp2 q257) (gOk _ _ _ _ _) dX12_tie_10 (tX12_isDomain _ _ _ _ _) ⟨wV_X12_isDomain, wL_X12_isDomain⟩ wM_X12_49 (gCX12 _ _ _ _ _) rfl (A_106 hw) rfl ⟨le_t rfl, le_t rfl⟩ ⟨le_t rfl, le_t rfl⟩ rfl (le_t rfl) fun z274 h273 => ?_
  refine mr_if_eq (pc := 13) (tgt := 30) dX12_tie_13 (by decide) (r32 h273.1 rfl) (fun h275 => ?_) (fun h275 => ?_)
  · have h276 : 0 ≤ z274 ∧ z274 ≤ 0 := (vc_X12_write_78 h275 h273.2.1 h273.2.2.1 hp2 h258 h273.1)
    have h277 : p2 < 0 ∨ z256 ≤ p2 := (h273.2.2.1 (vc_X12_judge_u_12 h273.2.1 h273.2.2.1 h275 h262.2.1 h262.2.2.1 h268 h269 hp2 h258 h267 h276))
    refine mr_iconst (pc := 30) (z := (-1)) dX12_tie_30 ?_
    exact mr_iret dX12_tie_31 rfl (le_t rfl) (le_t rfl) hT mF.refl ⟨(rW (c := (-2147483648)) (d := 2147483647) (rR (x := (-1))) rfl), hIJC, hIRP, hIEP, hIHP, hIUP, hITE, hIPK, hIEV, trivial⟩
  have h278 : 1 ≤ z274 ∧ z274 ≤ 1 := (vc_X12_write_12 h275 h273.2.1 h273.2.2.1 hp2 h258 h273.1)
  have h279 : 0 ≤ p2 ∧ p2 < z256 := (h273.2.1 (vc_X12_judge_u_14 h273.2.1 h273.2.2.1 h275 h262.2.1 h262.2.2.1 h268 h269 hp2 h258 h267 h278))
  have h280 : 0 ≤ p2 ∧ p2 ≤ 9 := (vc_X12_judge_u_15 h279 h262.2.1 h262.2.2.1 h268 h273.2.1 h273.2.2.1 h269 hp2 h258 h267 h278)
  refine mr_iload_n (pc := 16) (z := p1) dX12_tie_16 rfl rfl ?_
  refine mr_iload_n (pc := 17) (z := p2) dX12_tie_17 rfl rfl ?_
  refine mr_icmp_eq (pc := 18) (tgt := 30) dX12_tie_18 (by decide) (r32 h269 rfl) (r32 h280 rfl) (fun h281 => ?_) (fun h281 => ?_)
  · refine mr_iconst (pc := 30) (z := (-1)) dX12_tie_30 ?_
    exact mr_iret dX12_tie_31 rfl (le_t rfl) (le_t rfl) hT mF.refl ⟨(rW (c := (-2147483648)) (d := 2147483647) (rR (x := (-1))) rfl), hIJC, hIRP, hIEP, hIHP, hIUP, hITE, hIPK, hIEV, trivial⟩
  refine mr_iload_n (pc := 21) (z := p3) dX12_tie_21 rfl rfl ?_
  refine mr_iconst (pc := 22) (z := 0) dX12_tie_22 ?_
  refine mr_iconst (pc := 23) (z := 2) dX12_tie_23 ?_
  refine mr_cSP (pc := 24) (c_X12_in hw hT hp3 (rW (c := (-2147483648)) (d := 2147483647) (rR (x := 0)) rfl) (rW (c := (-2147483648)) (d := 2147483647) (rR (x := 2)) rfl)) (gOk _ _ _ _ _) dX12_tie_24 (tX12_in _ _ _ _ _) wS_X12_in wM_X12_18 ⟨le_t rfl, le_t rfl⟩ ⟨le_t rfl, le_t rfl⟩ rfl (le_t rfl) fun z286 h285 => ?_
  refine mr_if_ne (pc := 27) (tgt := 32) dX12_tie_27 (by decide) (r32 h285.1 rfl) (fun h287 => ?_) (fun h287 => ?_)
  · have h288 : 1 ≤ z286 ∧ z286 ≤ 1 := (vc_X12_units_1 h287 h285.2.1 h285.2.2.1 hp3 h285.1)
    have h289 : (0 : Int) ≤ p3 ∧ p3 ≤ (2 : Int) := (h285.2.1 (vc_X12_units_2 h285.2.1 h285.2.2.1 h287 hp3 h288))
    have h290 : 0 ≤ p3 ∧ p3 ≤ 2 := (vc_X12_units_3 h289 h285.2.1 h285.2.2.1 hp3 h288)
    refine sv_aload_n (pc := 32) dX12_tie_32 rfl rfl ?_
    refine mr_iload_n (pc := 33) (z := p1) dX12_tie_33 rfl rfl ?_
    refine mr_iload_n (pc := 34) (z := p2) dX12_tie_34 rfl rfl ?_
    refine mr_cVP (pc := 35) (c_X12_tieOf hw hT (rW (c := (-2147483648)) (d := 2147483647) h269 rfl) (rW (c := (-2147483648)) (d := 2147483647) h280 rfl)) (gOk _ _ _ _ _) dX12_tie_35 (tX12_tieOf _ _ _ _ _) ⟨wV_X12_tieOf, wL_X12_tieOf⟩ wM_X12_43 (gCX12 _ _ _ _ _) rfl (A_106 hw) rfl ⟨le_t rfl, le_t rfl⟩ ⟨le_t rfl, le_t rfl⟩ rfl (le_t rfl) fun z295 h294 => ?_
    refine mr_ldc (pc := 38) (z := (-99999999)) dX12_tie_38 wG_X12_29 (by decide) ?_
    refine mr_icmp_eq (pc := 40) (tgt := 46) dX12_tie_40 (by decide) (r32 h294.1 rfl) (r32 (rR (x := (-99999999))) rfl) (fun h296 => ?_) (fun h296 => ?_)
    · have h297 : (-99999999) ≤ z295 ∧ z295 ≤ (-99999999) := (vc_X12_provides_1 h296 h294.2.1 h294.1)
      refine sv_aload_n (pc := 46) dX12_tie_46 rfl rfl ?_
      refine gk_X12_6 (pc := 47) dX12_tie_47 wF_X12_37 (A_106 hw) q_f_t ?_
      refine mr_bipush (pc := 50) (z := 20) dX12_tie_50 (by decide) ?_
      refine mr_icmp_ne (pc := 52) (tgt := 58) dX12_tie_52 (by decide) (r32 ht_f_t rfl) (r32 (rR (x := 20)) rfl) (fun h298 => ?_) (fun h298 => ?_)
      · have h299 : 0 ≤ f_t ∧ f_t ≤ 19 := (vc_X12_front_2 h298 ht_f_t)
        refine sv_aload_n (pc := 58) dX12_tie_58 rfl rfl ?_
        refine gf_X12_7 (pc := 59) dX12_tie_59 wF_X12_40 (A_106 hw) hT ?_
        refine mr_iconst (pc := 62) (z := 2) dX12_tie_62 ?_
        refine sv_aload_n (pc := 63) dX12_tie_63 rfl rfl ?_
        refine gk_X12_6 (pc := 64) dX12_tie_64 wF_X12_37 (A_106 hw) q_f_t ?_
        refine mr_imul (pc := 67) (x := 2) (y := f_t) dX12_tie_67 ?_
        refine mr_iload_n (pc := 68) (z := p1) dX12_tie_68 rfl rfl ?_
        refine ss_110 (pc := 69) dX12_tie_69 (A_110 hw) hT (rIx (n := 40) (rMulL (n := 2) (e := 0) (f := 38) h299 rfl) rfl) h269 fun μ300 u301 T302 => ?_
        refine sv_aload_n (pc := 70) dX12_tie_70 rfl rfl ?_
        refine gf_X12_7 (pc := 71) dX12_tie_71 wF_X12_40 (A_106 hw) T302 ?_
        refine mr_iconst (pc := 74) (z := 2) dX12_tie_74 ?_
        refine sv_aload_n (pc := 75) dX12_tie_75 rfl rfl ?_
        refine gk_X12_6 (pc := 76) dX12_tie_76 wF_X12_37 (A_106 hw) (u301.f (Or.inl (mAt.ne (A_110 hw) (A_106 hw) rfl)) q_f_t) ?_
        refine mr_imul (pc := 79) (x := 2) (y := f_t) dX12_tie_79 ?_
        refine mr_iconst (pc := 80) (z := 1) dX12_tie_80 ?_
        refine mr_iadd (pc := 81) (x := (2 * f_t)) (y := 1) dX12_tie_81 ?_
        refine mr_iload_n (pc := 82) (z := p2) dX12_tie_82 rfl rfl ?_
        refine ss_110 (pc := 83) dX12_tie_83 (A_110 hw) T302 (rIx (n := 40) (rAdd (e := 1) (f := 39) (rMulL (n := 2) (e := 0) (f := 38) h299 rfl) (rR (x := 1)) rfl) rfl) h280 fun μ303 u304 T305 => ?_
        refine sv_aload_n (pc := 84) dX12_tie_84 rfl rfl ?_
        refine gf_X12_8 (pc := 85) dX12_tie_85 wF_X12_46 (A_106 hw) T305 ?_
        refine sv_aload_n (pc := 88) dX12_tie_88 rfl rfl ?_
        refine gk_X12_6 (pc := 89) dX12_tie_89 wF_X12_37 (A_106 hw) (u304.f (Or.inl (mAt.ne (A_110 hw) (A_106 hw) rfl)) (u301.f (Or.inl (mAt.ne (A_110 hw) (A_106 hw) rfl)) q_f_t)) ?_
        refine mr_iload_n (pc := 92) (z := p3) dX12_tie_92 rfl rfl ?_
        refine ss_111 (pc := 93) dX12_tie_93 (A_111 hw) T305 (rIx (n := 20) h299 rfl) h290 fun μ306 u307 T308 => ?_
        refine sv_aload_n (pc := 94) dX12_tie_94 rfl rfl ?_
        refine gf_X12_9 (pc := 95) dX12_tie_95 wF_X12_53 (A_106 hw) T308 ?_
        refine sv_aload_n (pc := 98) dX12_tie_98 rfl rfl ?_
        refine gk_X12_6 (pc := 99) dX12_tie_99 wF_X12_37 (A_106 hw) (u307.f (Or.inl (mAt.ne (A_111 hw) (A_106 hw) rfl)) (u304.f (Or.inl (mAt.ne (A_110 hw) (A_106 hw) rfl)) (u301.f (Or.inl (mAt.ne (A_110 hw) (A_106 hw) rfl)) q_f_t))) ?_
        refine mr_iconst (pc := 102) (z := 1) dX12_tie_102 ?_
        refine ss_112 (pc := 103) dX12_tie_103 (A_112 hw) T308 (rIx (n := 20) h299 rfl) (rW (c := 0) (d := 1) (rR (x := 1)) rfl) fun μ309 u310 T311 => ?_
        refine sv_aload_n (pc := 104) dX12_tie_104 rfl rfl ?_
        refine gf_X12_10 (pc := 105) dX12_tie_105 wF_X12_57 (A_106 hw) T311 ?_
        refine sv_aload_n (pc := 108) dX12_tie_108 rfl rfl ?_
        refine gk_X12_6 (pc := 109) dX12_tie_109 wF_X12_37 (A_106 hw) (u310.f (Or.inl (mAt.ne (A_112 hw) (A_106 hw) rfl)) (u307.f (Or.inl (mAt.ne (A_111 hw) (A_106 hw) rfl)) (u304.f (Or.inl (mAt.ne (A_110 hw) (A_106 hw) rfl)) (u301.f (Or.inl (mAt.ne (A_110 hw) (A_106 hw) rfl)) q_f_t)))) ?_
        refine mr_iconst (pc := 112) (z := 1) dX12_tie_112 ?_
        refine ss_113 (pc := 113) dX12_tie_113 (A_113 hw) T311 (rIx (n := 20) h299 rfl) (rW (c := 0) (d := 1000) (rR (x := 1)) rfl) fun μ312 u313 T314 => ?_
        refine sv_aload_n (pc := 114) dX12_tie_114 rfl rfl ?_
        refine gf_X12_11 (pc := 115) dX12_tie_115 wF_X12_60 (A_106 hw) T314 ?_
        refine sv_aload_n (pc := 118) dX12_tie_118 rfl rfl ?_
        refine gk_X12_6 (pc := 119) dX12_tie_119 wF_X12_37 (A_106 hw) (u313.f (Or.inl (mAt.ne (A_113 hw) (A_106 hw) rfl)) (u310.f (Or.inl (mAt.ne (A_112 hw) (A_106 hw) rfl)) (u307.f (Or.inl (mAt.ne (A_111 hw) (A_106 hw) rfl)) (u304.f (Or.inl (mAt.ne (A_110 hw) (A_106 hw) rfl)) (u301.f (Or.inl (mAt.ne (A_110 hw) (A_106 hw) rfl)) q_f_t))))) ?_
        refine mr_iconst (pc := 122) (z := 0) dX12_tie_122 ?_
        refine ss_114 (pc := 123) dX12_tie_123 (A_114 hw) T314 (rIx (n := 20) h299 rfl) (rW (c := 0) (d := 1000) (rR (x := 0)) rfl) fun μ315 u316 T317 => ?_
        refine mr_iconst (pc := 124) (z := 0) dX12_tie_124 ?_
        refine mr_istore (pc := 125) (lv' := [(4, iv 0), (0, .ref 106), (1, iv p1), (2, iv p2), (3, iv p3)]) dX12_tie_125 (by decide) rfl ?_
        have L360 : ∀ (nL360 : Nat) (z358 : Int) (μ359 : mM), mT w μ359 → mF [115999] w μ315 μ359 → (0 ≤ z358 ∧ z358 ≤ 4) → JC l D c H0 sa μ359 → RP μ359 → PK μ359 → EV μ359 → pnT μ359 f_t z358 → TI μ μ359 f_t → (5 - z358) < (nL360 : Int) → sV (gG l D c H0 sa) mX12_tie (sRm 3 0 0) (sZ (gG l D c H0 sa) 0 0 (qI w [106006, 110999, 111999, 112999, 113999, 114999, 115999] μ (fun z μ1 => ((-2147483648) ≤ z ∧ z ≤ 2147483647) ∧ JC l D c H0 sa μ1 ∧ RP μ1 ∧ EP μ1 ∧ HP μ1 ∧ UP l D c H0 sa μ1 ∧ TE μ1 ∧ PK μ1 ∧ EV μ1 ∧ True))) 127 [(0, .ref 106), (4, iv z358)] [] (mk w μ359) 0 0 := by
          intro nL360
          induction nL360 with
          | zero => intro z358 μ359 T362 F363 h361 I365 I366 I367 I368 R369 R370 h371; exact ((vc_X3_putPrefix_2 h371 h361)).elim
          | succ nL360 ih372 =>
            intro z358 μ359 T362 F363 h361 I365 I366 I367 I368 R369 R370 h371
            refine mr_iload (pc := 127) (z := z358) dX12_tie_127 rfl ?_
            refine mr_iconst (pc := 129) (z := 4) dX12_tie_129 ?_
            refine mr_icmp_ge (pc := 130) (tgt := 155) dX12_tie_130 (by decide) (r32 h361 rfl) (r32 (rR (x := 4)) rfl) (fun h378 => ?_) (fun h378 => ?_)
            · have h379 : 4 ≤ z358 ∧ z358 ≤ 4 := (vc_X12_addressRead_74 h378 h361)
              refine sv_aload_n (pc := 155) dX12_tie_155 rfl rfl ?_
              refine sv_dup (pc := 156) dX12_tie_156 rfl ?_
              refine gk_X12_6 (pc := 157) dX12_tie_157 wF_X12_37 (A_106 hw) (F363.f (A_106 hw) rfl (u316.f (Or.inl (mAt.ne (A_114 hw) (A_106 hw) rfl)) (u313.f (Or.inl (mAt.ne (A_113 hw) (A_106 hw) rfl)) (u310.f (Or.inl (mAt.ne (A_112 hw) (A_106 hw) rfl)) (u307.f (Or.inl (mAt.ne (A_111 hw) (A_106 hw) rfl)) (u304.f (Or.inl (mAt.ne (A_110 hw) (A_106 hw) rfl)) (u301.f (Or.inl (mAt.ne (A_110 hw) (A_106 hw) rfl)) q_f_t))))))) ?_
              refine mr_iconst (pc := 160) (z := 1) dX12_tie_160 ?_
              refine mr_iadd (pc := 161) (x := f_t) (y := 1) dX12_tie_161 ?_
              refine pf_X12_6 (pc := 162) dX12_tie_162 wF_X12_37 (A_106 hw) T362 (rW (c := 0) (d := 20) (rAdd (e := 1) (f := 20) h299 (rR (x := 1)) rfl) rfl) fun μ380 u381 T382 => ?_
              have I383 : EV μ380 := EV.grow I368 (F363.f (A_106 hw) rfl (u316.f (Or.inl (mAt.ne (A_114 hw) (A_106 hw) rfl)) (u313.f (Or.inl (mAt.ne (A_113 hw) (A_106 hw) rfl)) (u310.f (Or.inl (mAt.ne (A_112 hw) (A_106 hw) rfl)) (u307.f (Or.inl (mAt.ne (A_111 hw) (A_106 hw) rfl)) (u304.f (Or.inl (mAt.ne (A_110 hw) (A_106 hw) rfl)) (u301.f (Or.inl (mAt.ne (A_110 hw) (A_106 hw) rfl)) q_f_t))))))) u381 (vc_X12_tie_u_18 h298 h299)
              have I384 : PK μ380 := PK.grow I367 (F363.f (A_106 hw) rfl (u316.f (Or.inl (mAt.ne (A_114 hw) (A_106 hw) rfl)) (u313.f (Or.inl (mAt.ne (A_113 hw) (A_106 hw) rfl)) (u310.f (Or.inl (mAt.ne (A_112 hw) (A_106 hw) rfl)) (u307.f (Or.inl (mAt.ne (A_111 hw) (A_106 hw) rfl)) (u304.f (Or.inl (mAt.ne (A_110 hw) (A_106 hw) rfl)) (u301.f (Or.inl (mAt.ne (A_110 hw) (A_106 hw) rfl)) q_f_t))))))) u381 (vc_X12_tie_u_19 h298 h299) (vc_X12_tie_u_20 h298 h299) R369 (vc_X12_tie_u_21 h378 h379)
              have I385 : HP μ380 := TI.hp hIHP R370 q_f_t u381 (vc_X12_tie_u_19 h298 h299)
              have I386 : EP μ380 := TI.ep hIEP hIEV R370 q_f_t u381
              have I387 : TE μ380 := TI.te hITE R370 q_f_t (vc_X12_tie_u_20 h298 h299) u381 (vc_X12_tie_u_19 h298 h299) (u381.f (Or.inl (mAt.ne (A_106 hw) (A_110 hw) rfl)) (F363.f (A_110 hw) rfl (u316.f (Or.inl (mAt.ne (A_114 hw) (A_110 hw) rfl)) (u313.f (Or.inl (mAt.ne (A_113 hw) (A_110 hw) rfl)) (u310.f (Or.inl (mAt.ne (A_112 hw) (A_110 hw) rfl)) (u307.f (Or.inl (mAt.ne (A_111 hw) (A_110 hw) rfl)) (u304.f (Or.inr (vc_X12_tie_u_22 h298 h299)) u301.1))))))) (u381.f (Or.inl (mAt.ne (A_106 hw) (A_110 hw) rfl)) (F363.f (A_110 hw) rfl (u316.f (Or.inl (mAt.ne (A_114 hw) (A_110 hw) rfl)) (u313.f (Or.inl (mAt.ne (A_113 hw) (A_110 hw) rfl)) (u310.f (Or.inl (mAt.ne (A_112 hw) (A_110 hw) rfl)) (u307.f (Or.inl (mAt.ne (A_111 hw) (A_110 hw) rfl)) u304.1)))))) (u381.f (Or.inr (by decide)) (F363.f (A_106 hw) rfl (u316.f (Or.inl (mAt.ne (A_114 hw) (A_106 hw) rfl)) (u313.f (Or.inl (mAt.ne (A_113 hw) (A_106 hw) rfl)) (u310.f (Or.inl (mAt.ne (A_112 hw) (A_106 hw) rfl)) (u307.f (Or.inl (mAt.ne (A_111 hw) (A_106 hw) rfl)) (u304.f (Or.inl (mAt.ne (A_110 hw) (A_106 hw) rfl)) (u301.f (Or.inl (mAt.ne (A_110 hw) (A_106 hw) rfl)) q257)))))))) (vc_X12_tie_u_23 h262.2.1 h262.2.2.1 h268 h273.2.1 h273.2.2.1 h279 h281 h264 h275 h269 h280 h258 h267 h278)
              have I388 : UP l D c H0 sa μ380 := TI.upx hIUP hIHP R370 hw T382 I384 q_f_t (vc_X12_tie_u_20 h298 h299) u381 (vc_X12_tie_u_19 h298 h299)
              refine sv_aload_n (pc := 165) dX12_tie_165 rfl rfl ?_
              refine gk_X12_6 (pc := 166) dX12_tie_166 wF_X12_37 (A_106 hw) u381.1 ?_
              refine mr_iconst (pc := 169) (z := 1) dX12_tie_169 ?_
              refine mr_isub (pc := 170) (x := (f_t + 1)) (y := 1) dX12_tie_170 ?_
              exact mr_iret dX12_tie_171 rfl (le_t rfl) (le_t rfl) T382 (mF.up (mF.call (mF.up (mF.up (mF.up (mF.up (mF.up (mF.up mF.refl (A_110 hw) u301 rfl) (A_110 hw) u304 rfl) (A_111 hw) u307 rfl) (A_112 hw) u310 rfl) (A_113 hw) u313 rfl) (A_114 hw) u316 rfl) F363 rfl) (A_106 hw) u381 rfl) ⟨(rW (c := (-2147483648)) (d := 2147483647) (rSub (e := 0) (f := 19) (rAdd (e := 1) (f := 20) h299 (rR (x := 1)) rfl) (rR (x := 1)) rfl) rfl), (JC.keepJ I365 hw ((mF.up mF.refl (A_106 hw) u381 rfl) : mF [106006] w μ359 μ380) rfl), (RP.keep I366 hw ((mF.up mF.refl (A_106 hw) u381 rfl) : mF [106006] w μ359 μ380) rfl ((mG.upO mG.refl u381 rfl) : mG [] μ359 μ380) (fun _ h => absurd h List.not_mem_nil)), I386, I385, I388, I387, I384, I383, trivial⟩
            have h389 : 0 ≤ z358 ∧ z358 ≤ 3 := (vc_X12_addressRead_82 h378 h361)
            refine sv_aload_n (pc := 133) dX12_tie_133 rfl rfl ?_
            refine gf_X12_12 (pc := 134) dX12_tie_134 wF_X12_63 (A_106 hw) T362 ?_
            refine mr_iconst (pc := 137) (z := 4) dX12_tie_137 ?_
            refine sv_aload_n (pc := 138) dX12_tie_138 rfl rfl ?_
            refine gk_X12_6 (pc := 139) dX12_tie_139 wF_X12_37 (A_106 hw) (F363.f (A_106 hw) rfl (u316.f (Or.inl (mAt.ne (A_114 hw) (A_106 hw) rfl)) (u313.f (Or.inl (mAt.ne (A_113 hw) (A_106 hw) rfl)) (u310.f (Or.inl (mAt.ne (A_112 hw) (A_106 hw) rfl)) (u307.f (Or.inl (mAt.ne (A_111 hw) (A_106 hw) rfl)) (u304.f (Or.inl (mAt.ne (A_110 hw) (A_106 hw) rfl)) (u301.f (Or.inl (mAt.ne (A_110 hw) (A_106 hw) rfl)) q_f_t))))))) ?_
            refine mr_imul (pc := 142) (x := 4) (y := f_t) dX12_tie_142 ?_
            refine mr_iload (pc := 143) (z := z358) dX12_tie_143 rfl ?_
            refine mr_iadd (pc := 145) (x := (4 * f_t)) (y := z358) dX12_tie_145 ?_
            refine mr_ldc (pc := 146) (z := (-99999999)) dX12_tie_146 wG_X12_29 (by decide) ?_
            refine ss_115 (pc := 148) dX12_tie_148 (A_115 hw) T362 (rIx (n := 80) (rAdd (e := 0) (f := 79) (rMulL (n := 4) (e := 0) (f := 76) h299 rfl) h389 rfl) rfl) vc_X12_tie_u_25 fun μ390 u391 T392 => ?_
            obtain ⟨z393, q394⟩ : ∃ z, μ390 106 39 = z := ⟨_, rfl⟩
            have h395 : (0 ≤ z393 ∧ z393 ≤ 12) := by rw [← q394]; exact T392 106 106 (A_106 hw) 39
            have I396 : PK μ390 := PK.use I367 u391 (u391.2 106 39 (Or.inl (by decide)) ▸ q394) (vc_X12_tie_u_26 h395)
            refine mr_iinc (pc := 149) (lv' := [(4, iv (z358 + 1)), (0, .ref 106)]) dX12_tie_149 rfl (by decide) rfl ?_
            refine sv_goto (pc := 152) (tgt := 127) dX12_tie_152 (by decide) ?_
            refine mr_lvS (lv' := [(0, .ref 106), (4, iv (z358 + 1))]) (List.forall_mem_cons.mpr ⟨rfl, List.forall_mem_cons.mpr ⟨rfl, fun _ h => absurd h List.not_mem_nil⟩⟩) ?_
            exact ih372 (z358 + 1) μ390 T392 (mF.up (mF.call mF.refl F363 rfl) (A_115 hw) u391 rfl) (rW (c := 0) (d := 4) (rAdd (e := 1) (f := 4) h389 (rR (x := 1)) rfl) rfl) (JC.keepJ I365 hw ((mF.up mF.refl (A_115 hw) u391 rfl) : mF [115999] w μ359 μ390) rfl) (RP.keep I366 hw ((mF.up mF.refl (A_115 hw) u391 rfl) : mF [115999] w μ359 μ390) rfl ((mG.upO mG.refl u391 rfl) : mG [] μ359 μ390) (fun _ h => absurd h List.not_mem_nil)) I396 (EV.keep I368 hw ((mF.up mF.refl (A_115 hw) u391 rfl) : mF [115999] w μ359 μ390) rfl) (pnT.succ R369 u391 (vc_X12_tie_u_28 h298 h378 h299 h389) (vc_X12_tie_u_29 h298 h378 h299 h389) vc_X12_tie_u_30 (vc_X12_tie_u_31 h378 h389)) (TI.up R370 u391 (Or.inr (Or.inr (Or.inr (Or.inr (Or.inr ⟨rfl, (by have h := (vc_X12_tie_u_32 h298 h378 h299 h389); omega)⟩)))))) (vc_X12_message_u_87 (nS h371) h378 h389)
        refine mr_lvS (lv' := [(0, .ref 106), (4, iv 0)]) (List.forall_mem_cons.mpr ⟨rfl, List.forall_mem_cons.mpr ⟨rfl, fun _ h => absurd h List.not_mem_nil⟩⟩) ?_
        exact L360 6 0 μ315 T317 mF.refl (rW (c := 0) (d := 4) (rR (x := 0)) rfl) (JC.keepJ hIJC hw ((mF.up (mF.up (mF.up (mF.up (mF.up (mF.up mF.refl (A_110 hw) u301 rfl) (A_110 hw) u304 rfl) (A_111 hw) u307 rfl) (A_112 hw) u310 rfl) (A_113 hw) u313 rfl) (A_114 hw) u316 rfl) : mF [110999, 111999, 112999, 113999, 114999] w μ μ315) rfl) (RP.keep hIRP hw ((mF.up (mF.up (mF.up (mF.up (mF.up (mF.up mF.refl (A_110 hw) u301 rfl) (A_110 hw) u304 rfl) (A_111 hw) u307 rfl) (A_112 hw) u310 rfl) (A_113 hw) u313 rfl) (A_114 hw) u316 rfl) : mF [110999, 111999, 112999, 113999, 114999] w μ μ315) rfl ((mG.upO (mG.upO (mG.upO (mG.upO (mG.upO (mG.upO mG.refl u301 rfl) u304 rfl) u307 rfl) u310 rfl) u313 rfl) u316 rfl) : mG [] μ μ315) (fun _ h => absurd h List.not_mem_nil)) (PK.keep hIPK hw ((mF.up (mF.up (mF.up (mF.up (mF.up (mF.up mF.refl (A_110 hw) u301 rfl) (A_110 hw) u304 rfl) (A_111 hw) u307 rfl) (A_112 hw) u310 rfl) (A_113 hw) u313 rfl) (A_114 hw) u316 rfl) : mF [110999, 111999, 112999, 113999, 114999] w μ μ315) rfl) (EV.keep hIEV hw ((mF.up (mF.up (mF.up (mF.up (mF.up (mF.up mF.refl (A_110 hw) u301 rfl) (A_110 hw) u304 rfl) (A_111 hw) u307 rfl) (A_112 hw) u310 rfl) (A_113 hw) u313 rfl) (A_114 hw) u316 rfl) : mF [110999, 111999, 112999, 113999, 114999] w μ μ315) rfl) (pnT.zero vc_X3_forget_z_1) (TI.up (TI.up (TI.up (TI.up (TI.up (TI.up TI.refl u301 (Or.inl ⟨rfl, (by have h := (vc_X12_tie_u_35 h298 h299); omega)⟩)) u304 (Or.inl ⟨rfl, (by have h := (vc_X12_tie_u_36 h298 h299); omega)⟩)) u307 (Or.inr (Or.inl ⟨rfl, (by have h := (vc_X12_tie_u_37 h298 h299); omega)⟩))) u310 (Or.inr (Or.inr (Or.inl ⟨rfl, (by have h := (vc_X12_tie_u_37 h298 h299); omega)⟩)))) u313 (Or.inr (Or.inr (Or.inr (Or.inl rfl))))) u316 (Or.inr (Or.inr (Or.inr (Or.inr (Or.inl rfl)))))) vc_X12_prefixOut_14
      have h397 : 20 ≤ f_t ∧ f_t ≤ 20 := (vc_X12_front_21 h298 ht_f_t)
      refine mr_bipush (pc := 55) (z := (-3)) dX12_tie_55 (by decide) ?_
      exact mr_iret dX12_tie_57 rfl (le_t rfl) (le_t rfl) hT mF.refl ⟨(rW (c := (-2147483648)) (d := 2147483647) (rR (x := (-3))) rfl), hIJC, hIRP, hIEP, hIHP, hIUP, hITE, hIPK, hIEV, trivial⟩
    have h398 : 0 ≤ z295 ∧ z295 ≤ 19 := (vc_X12_provides_2 h296 h294.2.1 h294.1)
    refine mr_bipush (pc := 43) (z := (-2)) dX12_tie_43 (by decide) ?_
    exact mr_iret dX12_tie_45 rfl (le_t rfl) (le_t rfl) hT mF.refl ⟨(rW (c := (-2147483648)) (d := 2147483647) (rR (x := (-2))) rfl), hIJC, hIRP, hIEP, hIHP, hIUP, hITE, hIPK, hIEV, trivial⟩
  have h399 : 0 ≤ z286 ∧ z286 ≤ 0 := (vc_X12_units_9 h287 h285.2.1 h285.2.2.1 hp3 h285.1)
  have h400 : p3 < (0 : Int) ∨ (2 : Int) < p3 := (h285.2.2.1 (vc_X12_units_10 h285.2.1 h285.2.2.1 h287 hp3 h399))
  refine mr_iconst (pc := 30) (z := (-1)) dX12_tie_30 ?_
  exact mr_iret dX12_tie_31 rfl (le_t rfl) (le_t rfl) hT mF.refl ⟨(rW (c := (-2147483648)) (d := 2147483647) (rR (x := (-1))) rfl), hIJC, hIRP, hIEP, hIHP, hIUP, hITE, hIPK, hIEV, trivial⟩
theorem vc_X12_follows_u_1 {z552 : Int} (h0 : (42 - z552) < ((0 : Nat) : Int)) (h1 : 0 ≤ z552 ∧ z552 ≤ 41) : False := by omega
theorem vc_X12_follows_u_2 {z552 : Int} (h0 : 41 ≤ z552) (h1 : 0 ≤ z552 ∧ z552 ≤ 41) : 41 ≤ z552 ∧ z552 ≤ 41 := by omega
theorem vc_X12_follows_u_3 {z552 : Int} (h0 : z552 < 41) (h1 : 0 ≤ z552 ∧ z552 ≤ 41) : 0 ≤ z552 ∧ z552 ≤ 40 := by omega
theorem vc_X12_follows_u_4 {N z552 : Int} (h0 : (42 - z552) < N + 1) (h1 : z552 < 41) (h2 : 0 ≤ z552 ∧ z552 ≤ 40) : (42 - (z552 + 1)) < N := by omega
theorem vc_X12_follows_u_6 {f_draft f_pol z552 : Int} (h0 : f_pol ≤ f_draft) (h1 : z552 < 41) (h2 : 0 ≤ f_draft ∧ f_draft ≤ 12) (h3 : 0 ≤ f_pol ∧ f_pol ≤ 12) (h4 : 0 ≤ z552 ∧ z552 ≤ 40) : 41 * f_pol ≤ ((41 * f_draft) + z552) := by omega
theorem vc_X12_follows_u_7 {f_draft f_pol z552 : Int} (h0 : f_pol ≤ f_draft) (h1 : z552 < 41) (h2 : 0 ≤ f_draft ∧ f_draft ≤ 12) (h3 : 0 ≤ f_pol ∧ f_pol ≤ 12) (h4 : 0 ≤ z552 ∧ z552 ≤ 40) : 0 ≤ ((41 * f_draft) + z552) := by omega
theorem vc_X12_follows_u_8  : (42 - 0) < ((43 : Nat) : Int) := by omega
set_option maxRecDepth 4000 in
set_option maxHeartbeats 4000000 in
theorem c_X12_follows_u {l : Launch} {D : va_G} {c : Nat → ClassId} {H0 : Heap} {sa : Nat × Nat × (Nat → Int32)} {w : mW} {μ : mM} (hw : mWF w) (hT : mT w μ) {p1 : Int} (hp1 : (-9223372036854775808) ≤ p1 ∧ p1 ≤ 9223372036854775807) {p2 : Int} (hp2 : (-9223372036854775808) ≤ p2 ∧ p2 ≤ 9223372036854775807) {f_pol : Int} (q_f_pol : μ 106 39 = f_pol) {f_draft : Int} (q_f_draft : μ 106 58 = f_draft) (hq0 : f_pol ≤ f_draft) (hIUP : UP l D c H0 sa μ) : sC (gG l D c H0 sa) mX12_follows 1 0 0 [.ref 106, jv p1, jv p2] (mk w μ) (qV w [144999] μ (fun μ1 => UP l D c H0 sa μ1 ∧ True)) := by
  refine sC.of rfl (by decide) (le_t rfl) ?_
  have ht_f_pol : (0 ≤ f_pol ∧ f_pol ≤ 12) := by rw [← q_f_pol]; exact hT 106 106 (A_106 hw) 39
  have ht_f_draft : (0 ≤ f_draft ∧ f_draft ≤ 12) := by rw [← q_f_draft]; exact hT 106 106 (A_106 hw) 58
  refine mr_lvE (lv' := [(0, .ref 106), (1, jv p1), (3, jv p2)]) rfl ?_
  refine mr_iconst (pc := 0) (z := 0) dX12_follows_0 ?_
  refine mr_istore (pc := 1) (lv' := [(5, iv 0), (0, .ref 106), (1, jv p1), (3, jv p2)]) dX12_follows_1 (by decide) rfl ?_
  have L554 : ∀ (nL554 : Nat) (z552 : Int) (μ553 : mM), mT w μ553 → mF [144999] w μ μ553 → (0 ≤ z552 ∧ z552 ≤ 41) → UP l D c H0 sa μ553 → (42 - z552) < (nL554 : Int) → sV (gG l D c H0 sa) mX12_follows (sRm 1 0 0) (sZ (gG l D c H0 sa) 0 0 (qV w [144999] μ (fun μ1 => UP l D c H0 sa μ1 ∧ True))) 3 [(0, .ref 106), (1, jv p1), (3, jv p2), (5, iv z552)] [] (mk w μ553) 0 0 := by
    intro nL554
    induction nL554 with
    | zero => intro z552 μ553 T556 F557 h555 I559 h560; exact ((vc_X12_follows_u_1 h560 h555)).elim
    | succ nL554 ih561 =>
      intro z552 μ553 T556 F557 h555 I559 h560
      refine mr_iload (pc := 3) (z := z552) dX12_follows_3 rfl ?_
      refine mr_bipush (pc := 5) (z := 41) dX12_follows_5 (by decide) ?_
      refine mr_icmp_ge (pc := 7) (tgt := 46) dX12_follows_7 (by decide) (r32 h555 rfl) (r32 (rR (x := 41)) rfl) (fun h583 => ?_) (fun h583 => ?_)
      · have h584 : 41 ≤ z552 ∧ z552 ≤ 41 := (vc_X12_follows_u_2 h583 h555)
        exact mr_vret dX12_follows_46 rfl (le_t rfl) (le_t rfl) T556 (mF.call mF.refl F557 rfl) ⟨I559, trivial⟩
      have h585 : 0 ≤ z552 ∧ z552 ≤ 40 := (vc_X12_follows_u_3 h583 h555)
      refine mr_lload_n (pc := 10) (z := p1) dX12_follows_10 rfl rfl ?_
      refine mr_iload (pc := 11) (z := z552) dX12_follows_11 rfl ?_
      refine mr_lshr (pc := 13) dX12_follows_13 ?_
      refine mr_genL (r64i _) fun z586 q587 h588 => ?_
      refine mr_lconst (pc := 14) (z := 1) dX12_follows_14 (by decide) ?_
      refine mr_land (pc := 15) dX12_follows_15 ?_
      refine mr_genL (r64i _) fun z589 q590 h591 => ?_
      refine mr_lconst (pc := 16) (z := 1) dX12_follows_16 (by decide) ?_
      refine mr_lcmp (pc := 17) dX12_follows_17 ?_
      refine mr_gen (P := fun z => (-1) ≤ z ∧ z ≤ 1) (lg_cmp_r _ _) fun z592 q593 h594 => ?_
      refine mr_if_ne (pc := 18) (tgt := 40) dX12_follows_18 (by decide) (r32 h594 rfl) (fun h605 => ?_) (fun h605 => ?_)
      · refine mr_iinc (pc := 40) (lv' := [(5, iv (z552 + 1)), (0, .ref 106), (1, jv p1), (3, jv p2)]) dX12_follows_40 rfl (by decide) rfl ?_
        refine sv_goto (pc := 43) (tgt := 3) dX12_follows_43 (by decide) ?_
        refine mr_lvS (lv' := [(0, .ref 106), (1, jv p1), (3, jv p2), (5, iv (z552 + 1))]) (List.forall_mem_cons.mpr ⟨rfl, List.forall_mem_cons.mpr ⟨rfl, List.forall_mem_cons.mpr ⟨rfl, List.forall_mem_cons.mpr ⟨rfl, fun _ h => absurd h List.not_mem_nil⟩⟩⟩⟩) ?_
        exact ih561 (z552 + 1) μ553 T556 (mF.call mF.refl F557 rfl) (rW (c := 0) (d := 41) (rAdd (e := 1) (f := 41) h585 (rR (x := 1)) rfl) rfl) I559 (vc_X12_follows_u_4 (nS h560) h583 h585)
      have h606 : 0 ≤ z592 ∧ z592 ≤ 0 := (vc_X12_waysMatch_5 h605 h594)
      refine sv_aload_n (pc := 21) dX12_follows_21 rfl rfl ?_
      refine gf_X12_57 (pc := 22) dX12_follows_22 wF_X12_275 (A_106 hw) T556 ?_
      refine mr_bipush (pc := 25) (z := 41) dX12_follows_25 (by decide) ?_
      refine sv_aload_n (pc := 27) dX12_follows_27 rfl rfl ?_
      refine gk_X12_58 (pc := 28) dX12_follows_28 wF_X12_278 (A_106 hw) (F557.f (A_106 hw) rfl q_f_draft) ?_
      refine mr_imul (pc := 31) (x := 41) (y := f_draft) dX12_follows_31 ?_
      refine mr_iload (pc := 32) (z := z552) dX12_follows_32 rfl ?_
      refine mr_iadd (pc := 34) (x := (41 * f_draft)) (y := z552) dX12_follows_34 ?_
      refine sv_dup2 (pc := 35) dX12_follows_35 rfl rfl ?_
      refine la_144 (pc := 36) dX12_follows_36 (A_144 hw) T556 (rIx (n := 533) (rAdd (e := 0) (f := 532) (rMulL (n := 41) (e := 0) (f := 492) ht_f_draft rfl) h585 rfl) rfl) fun z607 q608 h609 => ?_
      refine mr_lload_n (pc := 37) (z := p2) dX12_follows_37 rfl rfl ?_
      refine mr_lor (pc := 38) dX12_follows_38 ?_
      refine mr_genL (r64i _) fun z610 q611 h612 => ?_
      refine ss_144 (pc := 39) dX12_follows_39 (A_144 hw) T556 (rIx (n := 533) (rAdd (e := 0) (f := 532) (rMulL (n := 41) (e := 0) (f := 492) ht_f_draft rfl) h585 rfl) rfl) h612 fun μ613 u614 T615 => ?_
      have I616 : UP l D c H0 sa μ613 := UP.tabE I559 u614 (u614.f (Or.inl (mAt.ne (A_144 hw) (A_106 hw) rfl)) (F557.f (A_106 hw) rfl q_f_pol)) (by decide) (vc_X12_follows_u_7 hq0 h583 ht_f_draft ht_f_pol h585) ⟨(fun h => absurd h (by decide)), (fun h => absurd h (by decide)), (fun h => absurd h (by decide)), (fun _ => (vc_X12_follows_u_6 hq0 h583 ht_f_draft ht_f_pol h585))⟩
      refine mr_iinc (pc := 40) (lv' := [(5, iv (z552 + 1)), (0, .ref 106), (1, jv p1), (3, jv p2)]) dX12_follows_40 rfl (by decide) rfl ?_
      refine sv_goto (pc := 43) (tgt := 3) dX12_follows_43 (by decide) ?_
      refine mr_lvS (lv' := [(0, .ref 106), (1, jv p1), (3, jv p2), (5, iv (z552 + 1))]) (List.forall_mem_cons.mpr ⟨rfl, List.forall_mem_cons.mpr ⟨rfl, List.forall_mem_cons.mpr ⟨rfl, List.forall_mem_cons.mpr ⟨rfl, fun _ h => absurd h List.not_mem_nil⟩⟩⟩⟩) ?_
      exact ih561 (z552 + 1) μ613 T615 (mF.up (mF.call mF.refl F557 rfl) (A_144 hw) u614 rfl) (rW (c := 0) (d := 41) (rAdd (e := 1) (f := 41) h585 (rR (x := 1)) rfl) rfl) I616 (vc_X12_follows_u_4 (nS h560) h583 h585)
  refine mr_lvS (lv' := [(0, .ref 106), (1, jv p1), (3, jv p2), (5, iv 0)]) (List.forall_mem_cons.mpr ⟨rfl, List.forall_mem_cons.mpr ⟨rfl, List.forall_mem_cons.mpr ⟨rfl, List.forall_mem_cons.mpr ⟨rfl, fun _ h => absurd h List.not_mem_nil⟩⟩⟩⟩) ?_
  exact L554 43 0 μ hT mF.refl (rW (c := 0) (d := 41) (rR (x := 0)) rfl) hIUP vc_X12_follows_u_8
theorem vc_X12_piece_u_6 {f_code f_number f_type : Int} (h0 : f_code = 0 ∧ f_type = 3 ∧ f_number = (42 : Int)) (h1 : f_code = 0) (h2 : 0 ≤ f_code ∧ f_code ≤ 0) (h3 : (-2147483648) ≤ f_number ∧ f_number ≤ 2147483647) (h4 : 0 ≤ f_type ∧ f_type ≤ 3) : 42 ≤ f_number ∧ f_number ≤ 42 := by omega
theorem vc_X12_piece_u_7 {f_code f_number f_type : Int} (h0 : f_code = 0 ∧ f_type = 3 ∧ f_number = (42 : Int)) (h1 : f_code = 0) (h2 : 0 ≤ f_code ∧ f_code ≤ 0) (h3 : 42 ≤ f_number ∧ f_number ≤ 42) (h4 : 0 ≤ f_type ∧ f_type ≤ 3) : 3 ≤ f_type ∧ f_type ≤ 3 := by omega
theorem vc_X12_piece_u_11 {f_draft f_pol : Int} (h0 : f_pol ≤ f_draft) (h1 : 0 ≤ f_draft ∧ f_draft ≤ 12) (h2 : 0 ≤ f_pol ∧ f_pol ≤ 12) : f_pol ≤ f_draft := by omega
theorem vc_X12_piece_u_17 {f_code f_number f_type z1987 : Int} (h0 : f_code = 0) (h1 : f_code = 0 ∧ f_type = 3 ∧ f_number = (42 : Int)) (h2 : z1987 = 0) (h3 : 0 ≤ f_code ∧ f_code ≤ 0) (h4 : 42 ≤ f_number ∧ f_number ≤ 42) (h5 : 3 ≤ f_type ∧ f_type ≤ 3) (h6 : 0 ≤ z1987 ∧ z1987 ≤ 0) : z1987 = 0 → f_code = 0 := by omega
theorem vc_X12_piece_u_18 {f_at f_from z1987 z1989 z1991 : Int} (h0 : f_from ≤ f_at) (h1 : f_from + 1 ≤ f_at) (h2 : z1987 = 0) (h3 : f_at ≤ z1991) (h4 : z1991 ≤ z1989) (h5 : 0 ≤ f_at ∧ f_at ≤ 1000) (h6 : 0 ≤ f_from ∧ f_from ≤ 1000) (h7 : 0 ≤ z1987 ∧ z1987 ≤ 0) (h8 : 0 ≤ z1989 ∧ z1989 ≤ 1000) (h9 : 0 ≤ z1991 ∧ z1991 ≤ 1000) : z1987 = 0 → f_from + 0 ≤ z1991 := by omega
theorem vc_X12_piece_u_19 {f_code f_number f_type z1987 : Int} (h0 : f_code = 0) (h1 : f_code = 0 ∧ f_type = 3 ∧ f_number = (42 : Int)) (h2 : z1987 = 0) (h3 : 0 ≤ f_code ∧ f_code ≤ 0) (h4 : 42 ≤ f_number ∧ f_number ≤ 42) (h5 : 3 ≤ f_type ∧ f_type ≤ 3) (h6 : 0 ≤ z1987 ∧ z1987 ≤ 0) : f_code = 0 ∨ 1 ≤ z1987 := by omega
theorem vc_X12_piece_u_25 {f_at f_from z1987 z1989 z1991 : Int} (h0 : ¬ z1987 = 0) (h1 : f_at ≤ z1991) (h2 : 1 ≤ z1987) (h3 : f_from ≤ f_at) (h4 : f_from + 1 ≤ f_at) (h5 : 0 ≤ f_at ∧ f_at ≤ 1000) (h6 : 0 ≤ f_from ∧ f_from ≤ 1000) (h7 : 1 ≤ z1987 ∧ z1987 ≤ 4) (h8 : 0 ≤ z1989 ∧ z1989 ≤ 1000) (h9 : 0 ≤ z1991 ∧ z1991 ≤ 1000) : z1987 = 0 → z1991 ≤ z1989 := by omega
theorem vc_X12_piece_u_26 {f_at f_from z1987 z1989 z1991 z1993 : Int} (h0 : ¬ z1987 = 0) (h1 : f_at ≤ z1991) (h2 : 1 ≤ z1987) (h3 : f_from ≤ f_at) (h4 : f_from + 1 ≤ f_at) (h5 : 0 ≤ f_at ∧ f_at ≤ 1000) (h6 : 0 ≤ f_from ∧ f_from ≤ 1000) (h7 : 1 ≤ z1987 ∧ z1987 ≤ 4) (h8 : 0 ≤ z1989 ∧ z1989 ≤ 1000) (h9 : 0 ≤ z1991 ∧ z1991 ≤ 1000) (h10 : 0 ≤ z1993 ∧ z1993 ≤ 3) : z1987 = 0 → z1993 = 0 ∨ z1991 + 1 ≤ z1989 := by omega
theorem vc_X12_piece_u_27 {f_at f_from z1987 z1989 z1991 z1993 : Int} (h0 : ¬ z1987 = 0) (h1 : f_at ≤ z1991) (h2 : 1 ≤ z1987) (h3 : f_from ≤ f_at) (h4 : f_from + 1 ≤ f_at) (h5 : 0 ≤ f_at ∧ f_at ≤ 1000) (h6 : 0 ≤ f_from ∧ f_from ≤ 1000) (h7 : 1 ≤ z1987 ∧ z1987 ≤ 4) (h8 : 0 ≤ z1989 ∧ z1989 ≤ 1000) (h9 : 0 ≤ z1991 ∧ z1991 ≤ 1000) (h10 : 0 ≤ z1993 ∧ z1993 ≤ 3) : z1987 = 0 → z1993 = 1 → z1991 + 2 ≤ z1989 := by omega
theorem vc_X12_piece_u_28 {f_at f_from z1987 z1989 z1991 z1993 z1995 : Int} (h0 : ¬ z1987 = 0) (h1 : f_at ≤ z1991) (h2 : 1 ≤ z1987) (h3 : f_from ≤ f_at) (h4 : f_from + 1 ≤ f_at) (h5 : 0 ≤ f_at ∧ f_at ≤ 1000) (h6 : 0 ≤ f_from ∧ f_from ≤ 1000) (h7 : 1 ≤ z1987 ∧ z1987 ≤ 4) (h8 : 0 ≤ z1989 ∧ z1989 ≤ 1000) (h9 : 0 ≤ z1991 ∧ z1991 ≤ 1000) (h10 : 0 ≤ z1993 ∧ z1993 ≤ 3) (h11 : (-2147483648) ≤ z1995 ∧ z1995 ≤ 2147483647) : z1987 = 0 → z1993 = 1 → z1995 = 0 ∨ z1995 = 4 ∨ z1995 = 5 ∨ z1991 + 3 ≤ z1989 := by omega
theorem vc_X12_piece_u_29 {f_code f_number f_type z1987 : Int} (h0 : f_code = 0) (h1 : f_code = 0 ∧ f_type = 3 ∧ f_number = (42 : Int)) (h2 : ¬ z1987 = 0) (h3 : 1 ≤ z1987) (h4 : 0 ≤ f_code ∧ f_code ≤ 0) (h5 : 42 ≤ f_number ∧ f_number ≤ 42) (h6 : 3 ≤ f_type ∧ f_type ≤ 3) (h7 : 1 ≤ z1987 ∧ z1987 ≤ 4) : z1987 = 0 → f_code = 0 := by omega
theorem vc_X12_piece_u_30 {f_at f_from z1987 z1991 : Int} (h0 : f_from ≤ f_at) (h1 : f_from + 1 ≤ f_at) (h2 : ¬ z1987 = 0) (h3 : f_at ≤ z1991) (h4 : 1 ≤ z1987) (h5 : 0 ≤ f_at ∧ f_at ≤ 1000) (h6 : 0 ≤ f_from ∧ f_from ≤ 1000) (h7 : 1 ≤ z1987 ∧ z1987 ≤ 4) (h8 : 0 ≤ z1991 ∧ z1991 ≤ 1000) : z1987 = 0 → f_from + 0 ≤ z1991 := by omega
theorem vc_X12_piece_u_31 {f_code f_number f_type z1987 : Int} (h0 : f_code = 0) (h1 : f_code = 0 ∧ f_type = 3 ∧ f_number = (42 : Int)) (h2 : ¬ z1987 = 0) (h3 : 1 ≤ z1987) (h4 : 0 ≤ f_code ∧ f_code ≤ 0) (h5 : 42 ≤ f_number ∧ f_number ≤ 42) (h6 : 3 ≤ f_type ∧ f_type ≤ 3) (h7 : 1 ≤ z1987 ∧ z1987 ≤ 4) : f_code = 0 ∨ 1 ≤ z1987 := by omega
theorem vc_X12_piece_u_38 {f_code f_number f_type : Int} (h0 : f_code = 0 ∧ f_type = 3 ∧ f_number = (43 : Int)) (h1 : f_code = 0) (h2 : ¬ f_type = 3 ∨ ¬ f_number = (42 : Int)) (h3 : 0 ≤ f_code ∧ f_code ≤ 0) (h4 : (-2147483648) ≤ f_number ∧ f_number ≤ 2147483647) (h5 : 0 ≤ f_type ∧ f_type ≤ 3) : 43 ≤ f_number ∧ f_number ≤ 43 := by omega
theorem vc_X12_piece_u_39 {f_code f_number f_type : Int} (h0 : f_code = 0 ∧ f_type = 3 ∧ f_number = (43 : Int)) (h1 : f_code = 0) (h2 : ¬ f_type = 3 ∨ ¬ f_number = (42 : Int)) (h3 : 0 ≤ f_code ∧ f_code ≤ 0) (h4 : 43 ≤ f_number ∧ f_number ≤ 43) (h5 : 0 ≤ f_type ∧ f_type ≤ 3) : 3 ≤ f_type ∧ f_type ≤ 3 := by omega
theorem vc_X12_piece_u_40 {f_type : Int} (h0 : 3 ≤ f_type ∧ f_type ≤ 3) : f_type = 3 := by omega
theorem vc_X12_piece_u_48 {f_code f_number f_type z2181 : Int} (h0 : f_code = 0) (h1 : f_code = 0 ∧ f_type = 3 ∧ f_number = (43 : Int)) (h2 : z2181 = 0) (h3 : ¬ f_number = (42 : Int)) (h4 : 0 ≤ f_code ∧ f_code ≤ 0) (h5 : 43 ≤ f_number ∧ f_number ≤ 43) (h6 : 3 ≤ f_type ∧ f_type ≤ 3) (h7 : 0 ≤ z2181 ∧ z2181 ≤ 0) : z2181 = 0 → f_code = 0 := by omega
theorem vc_X12_piece_u_50 {f_code f_number f_type z2181 : Int} (h0 : f_code = 0) (h1 : f_code = 0 ∧ f_type = 3 ∧ f_number = (43 : Int)) (h2 : z2181 = 0) (h3 : ¬ f_number = (42 : Int)) (h4 : 0 ≤ f_code ∧ f_code ≤ 0) (h5 : 43 ≤ f_number ∧ f_number ≤ 43) (h6 : 3 ≤ f_type ∧ f_type ≤ 3) (h7 : 0 ≤ z2181 ∧ z2181 ≤ 0) : f_code = 0 ∨ 1 ≤ z2181 := by omega
theorem vc_X12_piece_u_58 {f_code f_number f_type z2181 : Int} (h0 : f_code = 0) (h1 : f_code = 0 ∧ f_type = 3 ∧ f_number = (43 : Int)) (h2 : ¬ z2181 = 0) (h3 : 1 ≤ z2181) (h4 : ¬ f_number = (42 : Int)) (h5 : 0 ≤ f_code ∧ f_code ≤ 0) (h6 : 43 ≤ f_number ∧ f_number ≤ 43) (h7 : 3 ≤ f_type ∧ f_type ≤ 3) (h8 : 1 ≤ z2181 ∧ z2181 ≤ 4) : z2181 = 0 → f_code = 0 := by omega
theorem vc_X12_piece_u_60 {f_code f_number f_type z2181 : Int} (h0 : f_code = 0) (h1 : f_code = 0 ∧ f_type = 3 ∧ f_number = (43 : Int)) (h2 : ¬ z2181 = 0) (h3 : 1 ≤ z2181) (h4 : ¬ f_number = (42 : Int)) (h5 : 0 ≤ f_code ∧ f_code ≤ 0) (h6 : 43 ≤ f_number ∧ f_number ≤ 43) (h7 : 3 ≤ f_type ∧ f_type ≤ 3) (h8 : 1 ≤ z2181 ∧ z2181 ≤ 4) : f_code = 0 ∨ 1 ≤ z2181 := by omega
theorem vc_X12_piece_u_71 {f_at f_code f_from f_number f_type : Int} (h0 : f_code = 0) (h1 : f_from ≤ f_at) (h2 : f_type = 0 ∨ f_from + 1 ≤ f_at) (h3 : f_type = 1 → f_from + 2 ≤ f_at) (h4 : f_type = 1 → f_number = 0 ∨ f_number = 4 ∨ f_number = 5 ∨ f_from + 3 ≤ f_at) (h5 : ¬ f_type = 3 ∨ ¬ f_number = (42 : Int)) (h6 : ¬ f_type = 3 ∨ ¬ f_number = (43 : Int)) (h7 : ¬ f_type = 3 ∨ ¬ f_number = (63 : Int)) (h8 : 0 ≤ f_at ∧ f_at ≤ 1000) (h9 : 0 ≤ f_code ∧ f_code ≤ 0) (h10 : 0 ≤ f_from ∧ f_from ≤ 1000) (h11 : (-2147483648) ≤ f_number ∧ f_number ≤ 2147483647) (h12 : 0 ≤ f_type ∧ f_type ≤ 3) : f_code = 0 → f_type = 1 → f_number = 0 ∨ f_number = 4 ∨ f_number = 5 ∨ f_from + 3 ≤ f_at := by omega
theorem vc_X12_piece_u_73 {f_at f_code f_from : Int} (h0 : f_code = 0) (h1 : f_from ≤ f_at) (h2 : 0 ≤ f_at ∧ f_at ≤ 1000) (h3 : 0 ≤ f_code ∧ f_code ≤ 0) (h4 : 0 ≤ f_from ∧ f_from ≤ 1000) : f_code = 0 → f_from + 0 ≤ f_from := by omega
theorem vc_X12_piece_u_78 {f_code f_number f_type : Int} (h0 : f_code = 0 ∧ f_type = 3 ∧ f_number = (63 : Int)) (h1 : f_code = 0) (h2 : ¬ f_type = 3 ∨ ¬ f_number = (42 : Int)) (h3 : ¬ f_type = 3 ∨ ¬ f_number = (43 : Int)) (h4 : 0 ≤ f_code ∧ f_code ≤ 0) (h5 : (-2147483648) ≤ f_number ∧ f_number ≤ 2147483647) (h6 : 0 ≤ f_type ∧ f_type ≤ 3) : 63 ≤ f_number ∧ f_number ≤ 63 := by omega
theorem vc_X12_piece_u_79 {f_code f_number f_type : Int} (h0 : f_code = 0 ∧ f_type = 3 ∧ f_number = (63 : Int)) (h1 : f_code = 0) (h2 : ¬ f_type = 3 ∨ ¬ f_number = (42 : Int)) (h3 : ¬ f_type = 3 ∨ ¬ f_number = (43 : Int)) (h4 : 0 ≤ f_code ∧ f_code ≤ 0) (h5 : 63 ≤ f_number ∧ f_number ≤ 63) (h6 : 0 ≤ f_type ∧ f_type ≤ 3) : 3 ≤ f_type ∧ f_type ≤ 3 := by omega
theorem vc_X12_piece_u_87 {f_code f_number f_type z2454 : Int} (h0 : f_code = 0) (h1 : f_code = 0 ∧ f_type = 3 ∧ f_number = (63 : Int)) (h2 : z2454 = 0) (h3 : ¬ f_number = (42 : Int)) (h4 : ¬ f_number = (43 : Int)) (h5 : 0 ≤ f_code ∧ f_code ≤ 0) (h6 : 63 ≤ f_number ∧ f_number ≤ 63) (h7 : 3 ≤ f_type ∧ f_type ≤ 3) (h8 : 0 ≤ z2454 ∧ z2454 ≤ 0) : z2454 = 0 → f_code = 0 := by omega
theorem vc_X12_piece_u_89 {f_code f_number f_type z2454 : Int} (h0 : f_code = 0) (h1 : f_code = 0 ∧ f_type = 3 ∧ f_number = (63 : Int)) (h2 : z2454 = 0) (h3 : ¬ f_number = (42 : Int)) (h4 : ¬ f_number = (43 : Int)) (h5 : 0 ≤ f_code ∧ f_code ≤ 0) (h6 : 63 ≤ f_number ∧ f_number ≤ 63) (h7 : 3 ≤ f_type ∧ f_type ≤ 3) (h8 : 0 ≤ z2454 ∧ z2454 ≤ 0) : f_code = 0 ∨ 1 ≤ z2454 := by omega
theorem vc_X12_piece_u_97 {f_code f_number f_type z2454 : Int} (h0 : f_code = 0) (h1 : f_code = 0 ∧ f_type = 3 ∧ f_number = (63 : Int)) (h2 : ¬ z2454 = 0) (h3 : 1 ≤ z2454) (h4 : ¬ f_number = (42 : Int)) (h5 : ¬ f_number = (43 : Int)) (h6 : 0 ≤ f_code ∧ f_code ≤ 0) (h7 : 63 ≤ f_number ∧ f_number ≤ 63) (h8 : 3 ≤ f_type ∧ f_type ≤ 3) (h9 : 1 ≤ z2454 ∧ z2454 ≤ 4) : z2454 = 0 → f_code = 0 := by omega
theorem vc_X12_piece_u_99 {f_code f_number f_type z2454 : Int} (h0 : f_code = 0) (h1 : f_code = 0 ∧ f_type = 3 ∧ f_number = (63 : Int)) (h2 : ¬ z2454 = 0) (h3 : 1 ≤ z2454) (h4 : ¬ f_number = (42 : Int)) (h5 : ¬ f_number = (43 : Int)) (h6 : 0 ≤ f_code ∧ f_code ≤ 0) (h7 : 63 ≤ f_number ∧ f_number ≤ 63) (h8 : 3 ≤ f_type ∧ f_type ≤ 3) (h9 : 1 ≤ z2454 ∧ z2454 ≤ 4) : f_code = 0 ∨ 1 ≤ z2454 := by omega
theorem vc_X12_piece_u_110 {f_code f_number f_type : Int} (h0 : f_code = 0 ∧ f_type = 3 ∧ f_number = (63 : Int)) (h1 : f_code = 0) (h2 : ¬ f_type = 3 ∨ ¬ f_number = (42 : Int)) (h3 : 0 ≤ f_code ∧ f_code ≤ 0) (h4 : (-2147483648) ≤ f_number ∧ f_number ≤ 2147483647) (h5 : 0 ≤ f_type ∧ f_type ≤ 3) : 63 ≤ f_number ∧ f_number ≤ 63 := by omega
theorem vc_X12_piece_u_111 {f_code f_number f_type : Int} (h0 : f_code = 0 ∧ f_type = 3 ∧ f_number = (63 : Int)) (h1 : f_code = 0) (h2 : ¬ f_type = 3 ∨ ¬ f_number = (42 : Int)) (h3 : 0 ≤ f_code ∧ f_code ≤ 0) (h4 : 63 ≤ f_number ∧ f_number ≤ 63) (h5 : 0 ≤ f_type ∧ f_type ≤ 3) : 3 ≤ f_type ∧ f_type ≤ 3 := by omega
theorem vc_X12_piece_u_124 {f_code f_number f_type z2680 : Int} (h0 : ¬ z2680 = 0) (h1 : (z2680 = 1 → f_code = 0 ∧ f_type = 3 ∧ f_number = (42 : Int))) (h2 : (z2680 = 0 → ¬ f_code = 0 ∨ ¬ f_type = 3 ∨ ¬ f_number = (42 : Int))) (h3 : ¬ f_code = 0) (h4 : 1 ≤ f_code ∧ f_code ≤ 4) (h5 : (-2147483648) ≤ f_number ∧ f_number ≤ 2147483647) (h6 : 0 ≤ f_type ∧ f_type ≤ 3) (h7 : 0 ≤ z2680 ∧ z2680 ≤ 1) : False := by omega
theorem vc_X12_piece_u_143 {f_code f_number f_type : Int} (h0 : f_code = 0 ∧ f_type = 3 ∧ f_number = (43 : Int)) (h1 : ¬ f_code = 0) (h2 : 1 ≤ f_code ∧ f_code ≤ 4) (h3 : (-2147483648) ≤ f_number ∧ f_number ≤ 2147483647) (h4 : 0 ≤ f_type ∧ f_type ≤ 3) : 43 ≤ f_number ∧ f_number ≤ 43 := by omega
theorem vc_X12_piece_u_144 {f_code f_number f_type z2794 : Int} (h0 : ¬ z2794 = 0) (h1 : (z2794 = 1 → f_code = 0 ∧ f_type = 3 ∧ f_number = (43 : Int))) (h2 : (z2794 = 0 → ¬ f_code = 0 ∨ ¬ f_type = 3 ∨ ¬ f_number = (43 : Int))) (h3 : ¬ f_code = 0) (h4 : 1 ≤ f_code ∧ f_code ≤ 4) (h5 : (-2147483648) ≤ f_number ∧ f_number ≤ 2147483647) (h6 : 0 ≤ f_type ∧ f_type ≤ 3) (h7 : 0 ≤ z2794 ∧ z2794 ≤ 1) : False := by omega
theorem vc_X12_piece_u_154 {f_code : Int} (h0 : ¬ f_code = 0) (h1 : 1 ≤ f_code) (h2 : 1 ≤ f_code ∧ f_code ≤ 4) : f_code = 0 → f_code = 0 := by omega
theorem vc_X12_piece_u_155 {f_code f_from : Int} (h0 : ¬ f_code = 0) (h1 : 1 ≤ f_code) (h2 : 1 ≤ f_code ∧ f_code ≤ 4) (h3 : 0 ≤ f_from ∧ f_from ≤ 1000) : f_code = 0 → f_from + 0 ≤ f_from := by omega
theorem vc_X12_piece_u_156 {f_code : Int} (h0 : ¬ f_code = 0) (h1 : 1 ≤ f_code) (h2 : 1 ≤ f_code ∧ f_code ≤ 4) : f_code = 0 ∨ 1 ≤ f_code := by omega
theorem vc_X12_piece_u_163 {f_code f_number f_type : Int} (h0 : f_code = 0 ∧ f_type = 3 ∧ f_number = (63 : Int)) (h1 : ¬ f_code = 0) (h2 : 1 ≤ f_code ∧ f_code ≤ 4) (h3 : (-2147483648) ≤ f_number ∧ f_number ≤ 2147483647) (h4 : 0 ≤ f_type ∧ f_type ≤ 3) : 63 ≤ f_number ∧ f_number ≤ 63 := by omega
theorem vc_X12_piece_u_164 {f_code f_number f_type z2820 : Int} (h0 : ¬ z2820 = 0) (h1 : (z2820 = 1 → f_code = 0 ∧ f_type = 3 ∧ f_number = (63 : Int))) (h2 : (z2820 = 0 → ¬ f_code = 0 ∨ ¬ f_type = 3 ∨ ¬ f_number = (63 : Int))) (h3 : ¬ f_code = 0) (h4 : f_code = 0 ∧ f_type = 3 ∧ f_number = (63 : Int)) (h5 : 1 ≤ f_code ∧ f_code ≤ 4) (h6 : 63 ≤ f_number ∧ f_number ≤ 63) (h7 : 0 ≤ f_type ∧ f_type ≤ 3) (h8 : 1 ≤ z2820 ∧ z2820 ≤ 1) : False := by omega
theorem vc_X12_piece_u_170 {f_code f_number f_type z2706 : Int} (h0 : ¬ z2706 = 0) (h1 : (z2706 = 1 → f_code = 0 ∧ f_type = 3 ∧ f_number = (43 : Int))) (h2 : (z2706 = 0 → ¬ f_code = 0 ∨ ¬ f_type = 3 ∨ ¬ f_number = (43 : Int))) (h3 : ¬ f_code = 0) (h4 : f_code = 0 ∧ f_type = 3 ∧ f_number = (43 : Int)) (h5 : 1 ≤ f_code ∧ f_code ≤ 4) (h6 : 43 ≤ f_number ∧ f_number ≤ 43) (h7 : 0 ≤ f_type ∧ f_type ≤ 3) (h8 : 1 ≤ z2706 ∧ z2706 ≤ 1) : False := by omega
set_option maxRecDepth 4000 in
set_option maxHeartbeats 4000000 in
theorem c_X12_piece_u {l : Launch} {D : va_G} {c : Nat → ClassId} {H0 : Heap} {sa : Nat × Nat × (Nat → Int32)} {w : mW} {μ : mM} (hw : mWF w) (hT : mT w μ) {p1 : Int} (hp1 : (-9223372036854775808) ≤ p1 ∧ p1 ≤ 9223372036854775807) {p2 : Int} (hp2 : (-9223372036854775808) ≤ p2 ∧ p2 ≤ 9223372036854775807) {p3 : Int} (hp3 : 0 ≤ p3 ∧ p3 ≤ 1) {f_code : Int} (q_f_code : μ 106 37 = f_code) {f_at : Int} (q_f_at : μ 106 33 = f_at) {f_from : Int} (q_f_from : μ 106 34 = f_from) {f_type : Int} (q_f_type : μ 106 35 = f_type) {f_number : Int} (q_f_number : μ 106 36 = f_number) {f_levels : Int} (q_f_levels : μ 106 59 = f_levels) {f_pol : Int} (q_f_pol : μ 106 39 = f_pol) {f_draft : Int} (q_f_draft : μ 106 58 = f_draft) (hq0 : f_code = 0 → f_from ≤ f_at) (hq1 : f_code = 0 → f_type = 0 ∨ f_from + 1 ≤ f_at) (hq2 : f_code = 0 → f_type = 1 → f_from + 2 ≤ f_at) (hq3 : f_code = 0 → f_type = 1 → f_number = 0 ∨ f_number = 4 ∨ f_number = 5 ∨ f_from + 3 ≤ f_at) (hq4 : 1 ≤ f_levels) (hq5 : f_pol ≤ f_draft) (hIUP : UP l D c H0 sa μ) : sC (gG l D c H0 sa) mX12_piece 3 0 0 [.ref 106, jv p1, jv p2, iv p3] (mk w μ) (qV w [106033, 106034, 106035, 106036, 106037, 106038, 144999, 148999, 149999, 150999] μ (fun μ1 => ∃ o_code o_at o_from o_type o_number : Int, μ1 106 37 = o_code ∧ μ1 106 33 = o_at ∧ μ1 106 34 = o_from ∧ μ1 106 35 = o_type ∧ μ1 106 36 = o_number ∧ UP l D c H0 sa μ1 ∧ (o_code = 0 → o_from ≤ o_at) ∧ (o_code = 0 → o_type = 0 ∨ o_from + 1 ≤ o_at) ∧ (o_code = 0 → o_type = 1 → o_from + 2 ≤ o_at) ∧ (o_code = 0 → o_type = 1 → o_number = 0 ∨ o_number = 4 ∨ o_number = 5 ∨ o_from + 3 ≤ o_at) ∧ (o_code = 0 → f_code = 0) ∧ (o_code = 0 → f_from + 0 ≤ o_from) ∧ (f_code = 0 ∨ 1 ≤ o_code) ∧ True)) := by
  refine sC.of rfl (by decide) (le_t rfl) ?_
  have ht_f_code : (0 ≤ f_code ∧ f_code ≤ 4) := by rw [← q_f_code]; exact hT 106 106 (A_106 hw) 37
  have ht_f_at : (0 ≤ f_at ∧ f_at ≤ 1000) := by rw [← q_f_at]; exact hT 106 106 (A_106 hw) 33
  have ht_f_from : (0 ≤ f_from ∧ f_from ≤ 1000) := by rw [← q_f_from]; exact hT 106 106 (A_106 hw) 34
  have ht_f_type : (0 ≤ f_type ∧ f_type ≤ 3) := by rw [← q_f_type]; exact hT 106 106 (A_106 hw) 35
  have ht_f_number : ((-2147483648) ≤ f_number ∧ f_number ≤ 2147483647) := by rw [← q_f_number]; exact hT 106 106 (A_106 hw) 36
  have ht_f_levels : (0 ≤ f_levels ∧ f_levels ≤ 6) := by rw [← q_f_levels]; exact hT 106 106 (A_106 hw) 59
  have ht_f_pol : (0 ≤ f_pol ∧ f_pol ≤ 12) := by rw [← q_f_pol]; exact hT 106 106 (A_106 hw) 39
  have ht_f_draft : (0 ≤ f_draft ∧ f_draft ≤ 12) := by rw [← q_f_draft]; exact hT 106 106 (A_106 hw) 58
  have h1 : 1 ≤ f_levels ∧ f_levels ≤ 6 := (vc_X12_endRow_1 hq4 ht_f_levels)
  refine mr_lvE (lv' := [(0, .ref 106), (1, jv p1), (3, jv p2), (5, iv p3)]) rfl ?_
  by_cases h1907 : f_code = 0
  · have h1908 : 0 ≤ f_code ∧ f_code ≤ 0 := (vc_X12_wrong_4 h1907 ht_f_code)
    refine mr_iload (pc := 0) (z := p3) dX12_piece_0 rfl ?_
    refine mr_istore (pc := 2) (lv' := [(6, iv p3), (0, .ref 106), (1, jv p1), (3, jv p2), (5, iv p3)]) dX12_piece_2 (by decide) rfl ?_
    refine sv_aload_n (pc := 4) dX12_piece_4 rfl rfl ?_
    refine mr_bipush (pc := 5) (z := 42) dX12_piece_5 (by decide) ?_
    refine mr_cVP (pc := 7) (c_X12_isSign hw hT (rW (c := (-2147483648)) (d := 2147483647) (rR (x := 42)) rfl) q_f_code q_f_type q_f_number) (gOk _ _ _ _ _) dX12_piece_7 (tX12_isSign _ _ _ _ _) ⟨wV_X12_isSign, wL_X12_isSign⟩ wM_X12_244 (gCX12 _ _ _ _ _) rfl (A_106 hw) rfl ⟨le_t rfl, le_t rfl⟩ ⟨le_t rfl, le_t rfl⟩ rfl (le_t rfl) fun z1913 h1912 => ?_
    have J1944 : ∀ (μ1939 : mM), (mT w μ1939) → (mF [144999] w μ μ1939) → (UP l D c H0 sa μ1939) → sV (gG l D c H0 sa) mX12_piece (sRm 3 0 0) (sZ (gG l D c H0 sa) 0 0 (qV w [106033, 106034, 106035, 106036, 106037, 106038, 144999, 148999, 149999, 150999] μ (fun μ1 => ∃ o_code o_at o_from o_type o_number : Int, μ1 106 37 = o_code ∧ μ1 106 33 = o_at ∧ μ1 106 34 = o_from ∧ μ1 106 35 = o_type ∧ μ1 106 36 = o_number ∧ UP l D c H0 sa μ1 ∧ (o_code = 0 → o_from ≤ o_at) ∧ (o_code = 0 → o_type = 0 ∨ o_from + 1 ≤ o_at) ∧ (o_code = 0 → o_type = 1 → o_from + 2 ≤ o_at) ∧ (o_code = 0 → o_type = 1 → o_number = 0 ∨ o_number = 4 ∨ o_number = 5 ∨ o_from + 3 ≤ o_at) ∧ (o_code = 0 → f_code = 0) ∧ (o_code = 0 → f_from + 0 ≤ o_from) ∧ (f_code = 0 ∨ 1 ≤ o_code) ∧ True))) 28 [(0, .ref 106), (1, jv p1), (3, jv p2), (6, iv p3)] [] (mk w μ1939) 0 0 := by
      intro μ1939 T1940 F1941 I1943
      refine sv_aload_n (pc := 28) dX12_piece_28 rfl rfl ?_
      refine mr_bipush (pc := 29) (z := 42) dX12_piece_29 (by decide) ?_
      refine mr_cVP (pc := 31) (c_X12_isSign hw T1940 (rW (c := (-2147483648)) (d := 2147483647) (rR (x := 42)) rfl) (F1941.f (A_106 hw) rfl q_f_code) (F1941.f (A_106 hw) rfl q_f_type) (F1941.f (A_106 hw) rfl q_f_number)) (gOk _ _ _ _ _) dX12_piece_31 (tX12_isSign _ _ _ _ _) ⟨wV_X12_isSign, wL_X12_isSign⟩ wM_X12_244 (gCX12 _ _ _ _ _) rfl (A_106 hw) rfl ⟨le_t rfl, le_t rfl⟩ ⟨le_t rfl, le_t rfl⟩ rfl (le_t rfl) fun z1949 h1948 => ?_
      have J1969 : ∀ (z1967 : Int), ((0 ≤ z1967 ∧ z1967 ≤ 1)) → sV (gG l D c H0 sa) mX12_piece (sRm 3 0 0) (sZ (gG l D c H0 sa) 0 0 (qV w [106033, 106034, 106035, 106036, 106037, 106038, 144999, 148999, 149999, 150999] μ (fun μ1 => ∃ o_code o_at o_from o_type o_number : Int, μ1 106 37 = o_code ∧ μ1 106 33 = o_at ∧ μ1 106 34 = o_from ∧ μ1 106 35 = o_type ∧ μ1 106 36 = o_number ∧ UP l D c H0 sa μ1 ∧ (o_code = 0 → o_from ≤ o_at) ∧ (o_code = 0 → o_type = 0 ∨ o_from + 1 ≤ o_at) ∧ (o_code = 0 → o_type = 1 → o_from + 2 ≤ o_at) ∧ (o_code = 0 → o_type = 1 → o_number = 0 ∨ o_number = 4 ∨ o_number = 5 ∨ o_from + 3 ≤ o_at) ∧ (o_code = 0 → f_code = 0) ∧ (o_code = 0 → f_from + 0 ≤ o_from) ∧ (f_code = 0 ∨ 1 ≤ o_code) ∧ True))) 49 [(0, .ref 106), (1, jv p1), (3, jv p2), (6, iv z1967)] [] (mk w μ1939) 0 0 := by
        intro z1967 h1968
        refine sv_aload_n (pc := 49) dX12_piece_49 rfl rfl ?_
        refine mr_bipush (pc := 50) (z := 42) dX12_piece_50 (by decide) ?_
        refine mr_cVP (pc := 52) (c_X12_isSign hw T1940 (rW (c := (-2147483648)) (d := 2147483647) (rR (x := 42)) rfl) (F1941.f (A_106 hw) rfl q_f_code) (F1941.f (A_106 hw) rfl q_f_type) (F1941.f (A_106 hw) rfl q_f_number)) (gOk _ _ _ _ _) dX12_piece_52 (tX12_isSign _ _ _ _ _) ⟨wV_X12_isSign, wL_X12_isSign⟩ wM_X12_244 (gCX12 _ _ _ _ _) rfl (A_106 hw) rfl ⟨le_t rfl, le_t rfl⟩ ⟨le_t rfl, le_t rfl⟩ rfl (le_t rfl) fun z1974 h1973 => ?_
        refine mr_if_ne (pc := 55) (tgt := 76) dX12_piece_55 (by decide) (r32 h1973.1 rfl) (fun h1975 => ?_) (fun h1975 => ?_)
        · have h1976 : 1 ≤ z1974 ∧ z1974 ≤ 1 := (vc_X12_ring_24 h1975 h1973.1)
          have h1977 : f_code = 0 ∧ f_type = 3 ∧ f_number = (42 : Int) := (h1973.2.1 (vc_X12_best_l_18 h1975 h1976))
          have h1978 : 42 ≤ f_number ∧ f_number ≤ 42 := (vc_X12_piece_u_6 h1977 h1907 h1908 ht_f_number ht_f_type)
          have h1979 : 3 ≤ f_type ∧ f_type ≤ 3 := (vc_X12_piece_u_7 h1977 h1907 h1908 h1978 ht_f_type)
          refine sv_aload_n (pc := 76) dX12_piece_76 rfl rfl ?_
          obtain ⟨z1980, q1981⟩ : ∃ z, μ1939 106 1 = z := ⟨_, rfl⟩
          have h1982 : (0 ≤ z1980 ∧ z1980 ≤ 1000) := by rw [← q1981]; exact T1940 106 106 (A_106 hw) 1
          refine mr_cVV (pc := 77) (c_X12_next hw T1940 (F1941.f (A_106 hw) rfl q_f_code) (F1941.f (A_106 hw) rfl q_f_at) q1981) (gOk _ _ _ _ _) dX12_piece_77 (tX12_next _ _ _ _ _) ⟨wV_X12_next, wL_X12_next⟩ wM_X12_247 (gCX12 _ _ _ _ _) rfl (A_106 hw) rfl ⟨le_t rfl, le_t rfl⟩ ⟨le_t rfl, le_t rfl⟩ rfl (le_t rfl) fun μ1983 T1984 F1985 h1986 => ?_
          obtain ⟨z1987, z1989, z1991, z1993, z1995, q1988, q1990, q1992, q1994, q1996, h1997⟩ := h1986
          have h1998 : (0 ≤ z1987 ∧ z1987 ≤ 4) := by rw [← q1988]; exact T1984 106 106 (A_106 hw) 37
          have h1999 : (0 ≤ z1989 ∧ z1989 ≤ 1000) := by rw [← q1990]; exact T1984 106 106 (A_106 hw) 33
          have h2000 : (0 ≤ z1991 ∧ z1991 ≤ 1000) := by rw [← q1992]; exact T1984 106 106 (A_106 hw) 34
          have h2001 : (0 ≤ z1993 ∧ z1993 ≤ 3) := by rw [← q1994]; exact T1984 106 106 (A_106 hw) 35
          have h2002 : ((-2147483648) ≤ z1995 ∧ z1995 ≤ 2147483647) := by rw [← q1996]; exact T1984 106 106 (A_106 hw) 36
          by_cases h2003 : z1987 = 0
          · have h2004 : 0 ≤ z1987 ∧ z1987 ≤ 0 := (vc_X12_wrong_4 h2003 h1998)
            refine sv_aload_n (pc := 80) dX12_piece_80 rfl rfl ?_
            refine gk_X12_59 (pc := 81) dX12_piece_81 wF_X12_254 (A_106 hw) (F1985.f (A_106 hw) rfl (F1941.f (A_106 hw) rfl q_f_levels)) ?_
            refine mr_iconst (pc := 84) (z := 1) dX12_piece_84 ?_
            refine mr_isub (pc := 85) (x := f_levels) (y := 1) dX12_piece_85 ?_
            refine mr_istore (pc := 86) (lv' := [(7, iv (f_levels - 1)), (0, .ref 106), (1, jv p1), (3, jv p2), (6, iv z1967)]) dX12_piece_86 (by decide) rfl ?_
            refine sv_aload_n (pc := 88) dX12_piece_88 rfl rfl ?_
            refine sv_aload_n (pc := 89) dX12_piece_89 rfl rfl ?_
            refine gf_X12_64 (pc := 90) dX12_piece_90 wF_X12_269 (A_106 hw) T1984 ?_
            refine mr_iload (pc := 93) (z := (f_levels - 1)) dX12_piece_93 rfl ?_
            refine la_149 (pc := 95) dX12_piece_95 (A_149 hw) T1984 (rIx (n := 10) (rSub (e := 0) (f := 5) h1 (rR (x := 1)) rfl) rfl) fun z2005 q2006 h2007 => ?_
            refine mr_lload_n (pc := 96) (z := p1) dX12_piece_96 rfl rfl ?_
            refine mr_cVV (pc := 97) (c_X12_follows_u hw T1984 h2007 hp1 (F1985.f (A_106 hw) rfl (F1941.f (A_106 hw) rfl q_f_pol)) (F1985.f (A_106 hw) rfl (F1941.f (A_106 hw) rfl q_f_draft)) (vc_X12_piece_u_11 hq5 ht_f_draft ht_f_pol) (UPg.fr I1943 hw T1984 rfl ((mF.call mF.refl F1985 rfl) : mF [106033, 106034, 106035, 106036, 106037, 106038] w μ1939 μ1983) rfl rfl rfl ((mG.fr mG.refl F1985 (A_126 hw) rfl) : mG [] μ1939 μ1983) (fun _ h => absurd h List.not_mem_nil))) (gOk _ _ _ _ _) dX12_piece_97 (tX12_follows _ _ _ _ _) ⟨wV_X12_follows, wL_X12_follows⟩ wM_X12_281 (gCX12 _ _ _ _ _) rfl (A_106 hw) rfl ⟨le_t rfl, le_t rfl⟩ ⟨le_t rfl, le_t rfl⟩ rfl (le_t rfl) fun μ2008 T2009 F2010 h2011 => ?_
            refine sv_aload_n (pc := 100) dX12_piece_100 rfl rfl ?_
            refine gf_X12_65 (pc := 101) dX12_piece_101 wF_X12_272 (A_106 hw) T2009 ?_
            refine mr_iload (pc := 104) (z := (f_levels - 1)) dX12_piece_104 rfl ?_
            refine la_150 (pc := 106) dX12_piece_106 (A_150 hw) T2009 (rIx (n := 10) (rSub (e := 0) (f := 5) h1 (rR (x := 1)) rfl) rfl) fun z2012 q2013 h2014 => ?_
            have J2031 : ∀ (μ2026 : mM), (mT w μ2026) → (mF [148999] w μ2008 μ2026) → (UP l D c H0 sa μ2026) → sV (gG l D c H0 sa) mX12_piece (sRm 3 0 0) (sZ (gG l D c H0 sa) 0 0 (qV w [106033, 106034, 106035, 106036, 106037, 106038, 144999, 148999, 149999, 150999] μ (fun μ1 => ∃ o_code o_at o_from o_type o_number : Int, μ1 106 37 = o_code ∧ μ1 106 33 = o_at ∧ μ1 106 34 = o_from ∧ μ1 106 35 = o_type ∧ μ1 106 36 = o_number ∧ UP l D c H0 sa μ1 ∧ (o_code = 0 → o_from ≤ o_at) ∧ (o_code = 0 → o_type = 0 ∨ o_from + 1 ≤ o_at) ∧ (o_code = 0 → o_type = 1 → o_from + 2 ≤ o_at) ∧ (o_code = 0 → o_type = 1 → o_number = 0 ∨ o_number = 4 ∨ o_number = 5 ∨ o_from + 3 ≤ o_at) ∧ (o_code = 0 → f_code = 0) ∧ (o_code = 0 → f_from + 0 ≤ o_from) ∧ (f_code = 0 ∨ 1 ≤ o_code) ∧ True))) 121 [(0, .ref 106), (3, jv p2), (6, iv z1967), (7, iv (f_levels - 1))] [] (mk w μ2026) 0 0 := by
              intro μ2026 T2027 F2028 I2030
              refine sv_aload_n (pc := 121) dX12_piece_121 rfl rfl ?_
              refine gf_X12_64 (pc := 122) dX12_piece_122 wF_X12_269 (A_106 hw) T2027 ?_
              refine mr_iload (pc := 125) (z := (f_levels - 1)) dX12_piece_125 rfl ?_
              refine mr_iload (pc := 127) (z := z1967) dX12_piece_127 rfl ?_
              have J2039 : ∀ (z2037 : Int), (((-9223372036854775808) ≤ z2037 ∧ z2037 ≤ 9223372036854775807)) → sV (gG l D c H0 sa) mX12_piece (sRm 3 0 0) (sZ (gG l D c H0 sa) 0 0 (qV w [106033, 106034, 106035, 106036, 106037, 106038, 144999, 148999, 149999, 150999] μ (fun μ1 => ∃ o_code o_at o_from o_type o_number : Int, μ1 106 37 = o_code ∧ μ1 106 33 = o_at ∧ μ1 106 34 = o_from ∧ μ1 106 35 = o_type ∧ μ1 106 36 = o_number ∧ UP l D c H0 sa μ1 ∧ (o_code = 0 → o_from ≤ o_at) ∧ (o_code = 0 → o_type = 0 ∨ o_from + 1 ≤ o_at) ∧ (o_code = 0 → o_type = 1 → o_from + 2 ≤ o_at) ∧ (o_code = 0 → o_type = 1 → o_number = 0 ∨ o_number = 4 ∨ o_number = 5 ∨ o_from + 3 ≤ o_at) ∧ (o_code = 0 → f_code = 0) ∧ (o_code = 0 → f_from + 0 ≤ o_from) ∧ (f_code = 0 ∨ 1 ≤ o_code) ∧ True))) 145 [(0, .ref 106), (6, iv z1967), (7, iv (f_levels - 1))] [jv z2037, iv (f_levels - 1), .ref 149] (mk w μ2026) 0 0 := by
                intro z2037 h2038
                refine ss_149 (pc := 145) dX12_piece_145 (A_149 hw) T2027 (rIx (n := 10) (rSub (e := 0) (f := 5) h1 (rR (x := 1)) rfl) rfl) h2038 fun μ2040 u2041 T2042 => ?_
                refine sv_aload_n (pc := 146) dX12_piece_146 rfl rfl ?_
                refine gf_X12_65 (pc := 147) dX12_piece_147 wF_X12_272 (A_106 hw) T2042 ?_
                refine mr_iload (pc := 150) (z := (f_levels - 1)) dX12_piece_150 rfl ?_
                refine sv_aload_n (pc := 152) dX12_piece_152 rfl rfl ?_
                refine gf_X12_65 (pc := 153) dX12_piece_153 wF_X12_272 (A_106 hw) T2042 ?_
                refine mr_iload (pc := 156) (z := (f_levels - 1)) dX12_piece_156 rfl ?_
                refine lk_150 (pc := 158) dX12_piece_158 (A_150 hw) (rIx (n := 10) (rSub (e := 0) (f := 5) h1 (rR (x := 1)) rfl) rfl) (u2041.f (Or.inl (mAt.ne (A_149 hw) (A_150 hw) rfl)) (F2028.f (A_150 hw) rfl q2013)) ?_
                refine mr_if_eq (pc := 159) (tgt := 171) dX12_piece_159 (by decide) (r32 h2014 rfl) (fun h2047 => ?_) (fun h2047 => ?_)
                · have h2048 : 0 ≤ z2012 ∧ z2012 ≤ 0 := (vc_X12_ring_22 h2047 h2014)
                  refine mr_iconst (pc := 171) (z := 0) dX12_piece_171 ?_
                  refine ss_150 (pc := 172) dX12_piece_172 (A_150 hw) T2042 (rIx (n := 10) (rSub (e := 0) (f := 5) h1 (rR (x := 1)) rfl) rfl) (rW (c := 0) (d := 1) (rR (x := 0)) rfl) fun μ2049 u2050 T2051 => ?_
                  exact mr_vret dX12_piece_173 rfl (le_t rfl) (le_t rfl) T2051 (mF.up (mF.up (mF.call (mF.call (mF.call (mF.call mF.refl F1941 rfl) F1985 rfl) F2010 rfl) F2028 rfl) (A_149 hw) u2041 rfl) (A_150 hw) u2050 rfl) ⟨z1987, z1989, z1991, z1993, z1995, (u2050.f (Or.inl (mAt.ne (A_150 hw) (A_106 hw) rfl)) (u2041.f (Or.inl (mAt.ne (A_149 hw) (A_106 hw) rfl)) (F2028.f (A_106 hw) rfl (F2010.f (A_106 hw) rfl q1988)))), (u2050.f (Or.inl (mAt.ne (A_150 hw) (A_106 hw) rfl)) (u2041.f (Or.inl (mAt.ne (A_149 hw) (A_106 hw) rfl)) (F2028.f (A_106 hw) rfl (F2010.f (A_106 hw) rfl q1990)))), (u2050.f (Or.inl (mAt.ne (A_150 hw) (A_106 hw) rfl)) (u2041.f (Or.inl (mAt.ne (A_149 hw) (A_106 hw) rfl)) (F2028.f (A_106 hw) rfl (F2010.f (A_106 hw) rfl q1992)))), (u2050.f (Or.inl (mAt.ne (A_150 hw) (A_106 hw) rfl)) (u2041.f (Or.inl (mAt.ne (A_149 hw) (A_106 hw) rfl)) (F2028.f (A_106 hw) rfl (F2010.f (A_106 hw) rfl q1994)))), (u2050.f (Or.inl (mAt.ne (A_150 hw) (A_106 hw) rfl)) (u2041.f (Or.inl (mAt.ne (A_149 hw) (A_106 hw) rfl)) (F2028.f (A_106 hw) rfl (F2010.f (A_106 hw) rfl q1996)))), (UPg.fr I2030 hw T2051 rfl ((mF.up (mF.up mF.refl (A_149 hw) u2041 rfl) (A_150 hw) u2050 rfl) : mF [149999, 150999] w μ2026 μ2049) rfl rfl rfl ((mG.upO (mG.upO mG.refl u2041 rfl) u2050 rfl) : mG [] μ2026 μ2049) (fun _ h => absurd h List.not_mem_nil)), (vc_X12_sign_9 h2003 (h1997.1 (vc_X12_sign_2 h1908)) (h1997.2.2.2.1 (vc_X12_sign_2 h2004)) (hq0 (vc_X12_sign_2 h1908)) ((hq1 (vc_X12_sign_2 h1908)).resolve_left (vc_X12_sign_6 h1979)) ht_f_at ht_f_from h2004 h1999 h2000), (vc_X12_sign_10 h2003 (h1997.1 (vc_X12_sign_2 h1908)) (h1997.2.2.2.1 (vc_X12_sign_2 h2004)) (h1997.2.2.2.2.1 (vc_X12_sign_2 h2004)) (h1997.2.2.2.2.2.1 (vc_X12_sign_2 h2004)) (hq0 (vc_X12_sign_2 h1908)) ((hq1 (vc_X12_sign_2 h1908)).resolve_left (vc_X12_sign_6 h1979)) ht_f_at ht_f_from h2004 h1999 h2000 h2001), (vc_X12_sign_11 h2003 (h1997.1 (vc_X12_sign_2 h1908)) (h1997.2.2.2.1 (vc_X12_sign_2 h2004)) (h1997.2.2.2.2.1 (vc_X12_sign_2 h2004)) (h1997.2.2.2.2.2.1 (vc_X12_sign_2 h2004)) (hq0 (vc_X12_sign_2 h1908)) ((hq1 (vc_X12_sign_2 h1908)).resolve_left (vc_X12_sign_6 h1979)) ht_f_at ht_f_from h2004 h1999 h2000 h2001), (vc_X12_sign_12 h2003 (h1997.1 (vc_X12_sign_2 h1908)) (h1997.2.2.2.1 (vc_X12_sign_2 h2004)) (h1997.2.2.2.2.1 (vc_X12_sign_2 h2004)) (h1997.2.2.2.2.2.1 (vc_X12_sign_2 h2004)) (h1997.2.2.2.2.2.2.1 (vc_X12_sign_2 h2004)) (hq0 (vc_X12_sign_2 h1908)) ((hq1 (vc_X12_sign_2 h1908)).resolve_left (vc_X12_sign_6 h1979)) ht_f_at ht_f_from h2004 h1999 h2000 h2001 h2002), (vc_X12_piece_u_17 h1907 h1977 h2003 h1908 h1978 h1979 h2004), (vc_X12_piece_u_18 (hq0 (vc_X12_sign_2 h1908)) ((hq1 (vc_X12_sign_2 h1908)).resolve_left (vc_X12_sign_6 h1979)) h2003 (h1997.1 (vc_X12_sign_2 h1908)) (h1997.2.2.2.1 (vc_X12_sign_2 h2004)) ht_f_at ht_f_from h2004 h1999 h2000), (vc_X12_piece_u_19 h1907 h1977 h2003 h1908 h1978 h1979 h2004), trivial⟩
                have h2052 : 1 ≤ z2012 ∧ z2012 ≤ 1 := (vc_X12_ring_24 h2047 h2014)
                refine mr_iload (pc := 162) (z := z1967) dX12_piece_162 rfl ?_
                refine mr_if_eq (pc := 164) (tgt := 171) dX12_piece_164 (by decide) (r32 h1968 rfl) (fun h2055 => ?_) (fun h2055 => ?_)
                · have h2056 : 0 ≤ z1967 ∧ z1967 ≤ 0 := (vc_X12_ring_22 h2055 h1968)
                  refine mr_iconst (pc := 171) (z := 0) dX12_piece_171 ?_
                  refine ss_150 (pc := 172) dX12_piece_172 (A_150 hw) T2042 (rIx (n := 10) (rSub (e := 0) (f := 5) h1 (rR (x := 1)) rfl) rfl) (rW (c := 0) (d := 1) (rR (x := 0)) rfl) fun μ2057 u2058 T2059 => ?_
                  exact mr_vret dX12_piece_173 rfl (le_t rfl) (le_t rfl) T2059 (mF.up (mF.up (mF.call (mF.call (mF.call (mF.call mF.refl F1941 rfl) F1985 rfl) F2010 rfl) F2028 rfl) (A_149 hw) u2041 rfl) (A_150 hw) u2058 rfl) ⟨z1987, z1989, z1991, z1993, z1995, (u2058.f (Or.inl (mAt.ne (A_150 hw) (A_106 hw) rfl)) (u2041.f (Or.inl (mAt.ne (A_149 hw) (A_106 hw) rfl)) (F2028.f (A_106 hw) rfl (F2010.f (A_106 hw) rfl q1988)))), (u2058.f (Or.inl (mAt.ne (A_150 hw) (A_106 hw) rfl)) (u2041.f (Or.inl (mAt.ne (A_149 hw) (A_106 hw) rfl)) (F2028.f (A_106 hw) rfl (F2010.f (A_106 hw) rfl q1990)))), (u2058.f (Or.inl (mAt.ne (A_150 hw) (A_106 hw) rfl)) (u2041.f (Or.inl (mAt.ne (A_149 hw) (A_106 hw) rfl)) (F2028.f (A_106 hw) rfl (F2010.f (A_106 hw) rfl q1992)))), (u2058.f (Or.inl (mAt.ne (A_150 hw) (A_106 hw) rfl)) (u2041.f (Or.inl (mAt.ne (A_149 hw) (A_106 hw) rfl)) (F2028.f (A_106 hw) rfl (F2010.f (A_106 hw) rfl q1994)))), (u2058.f (Or.inl (mAt.ne (A_150 hw) (A_106 hw) rfl)) (u2041.f (Or.inl (mAt.ne (A_149 hw) (A_106 hw) rfl)) (F2028.f (A_106 hw) rfl (F2010.f (A_106 hw) rfl q1996)))), (UPg.fr I2030 hw T2059 rfl ((mF.up (mF.up mF.refl (A_149 hw) u2041 rfl) (A_150 hw) u2058 rfl) : mF [149999, 150999] w μ2026 μ2057) rfl rfl rfl ((mG.upO (mG.upO mG.refl u2041 rfl) u2058 rfl) : mG [] μ2026 μ2057) (fun _ h => absurd h List.not_mem_nil)), (vc_X12_sign_9 h2003 (h1997.1 (vc_X12_sign_2 h1908)) (h1997.2.2.2.1 (vc_X12_sign_2 h2004)) (hq0 (vc_X12_sign_2 h1908)) ((hq1 (vc_X12_sign_2 h1908)).resolve_left (vc_X12_sign_6 h1979)) ht_f_at ht_f_from h2004 h1999 h2000), (vc_X12_sign_10 h2003 (h1997.1 (vc_X12_sign_2 h1908)) (h1997.2.2.2.1 (vc_X12_sign_2 h2004)) (h1997.2.2.2.2.1 (vc_X12_sign_2 h2004)) (h1997.2.2.2.2.2.1 (vc_X12_sign_2 h2004)) (hq0 (vc_X12_sign_2 h1908)) ((hq1 (vc_X12_sign_2 h1908)).resolve_left (vc_X12_sign_6 h1979)) ht_f_at ht_f_from h2004 h1999 h2000 h2001), (vc_X12_sign_11 h2003 (h1997.1 (vc_X12_sign_2 h1908)) (h1997.2.2.2.1 (vc_X12_sign_2 h2004)) (h1997.2.2.2.2.1 (vc_X12_sign_2 h2004)) (h1997.2.2.2.2.2.1 (vc_X12_sign_2 h2004)) (hq0 (vc_X12_sign_2 h1908)) ((hq1 (vc_X12_sign_2 h1908)).resolve_left (vc_X12_sign_6 h1979)) ht_f_at ht_f_from h2004 h1999 h2000 h2001), (vc_X12_sign_12 h2003 (h1997.1 (vc_X12_sign_2 h1908)) (h1997.2.2.2.1 (vc_X12_sign_2 h2004)) (h1997.2.2.2.2.1 (vc_X12_sign_2 h2004)) (h1997.2.2.2.2.2.1 (vc_X12_sign_2 h2004)) (h1997.2.2.2.2.2.2.1 (vc_X12_sign_2 h2004)) (hq0 (vc_X12_sign_2 h1908)) ((hq1 (vc_X12_sign_2 h1908)).resolve_left (vc_X12_sign_6 h1979)) ht_f_at ht_f_from h2004 h1999 h2000 h2001 h2002), (vc_X12_piece_u_17 h1907 h1977 h2003 h1908 h1978 h1979 h2004), (vc_X12_piece_u_18 (hq0 (vc_X12_sign_2 h1908)) ((hq1 (vc_X12_sign_2 h1908)).resolve_left (vc_X12_sign_6 h1979)) h2003 (h1997.1 (vc_X12_sign_2 h1908)) (h1997.2.2.2.1 (vc_X12_sign_2 h2004)) ht_f_at ht_f_from h2004 h1999 h2000), (vc_X12_piece_u_19 h1907 h1977 h2003 h1908 h1978 h1979 h2004), trivial⟩
                have h2060 : 1 ≤ z1967 ∧ z1967 ≤ 1 := (vc_X12_ring_24 h2055 h1968)
                refine mr_iconst (pc := 167) (z := 1) dX12_piece_167 ?_
                refine sv_goto (pc := 168) (tgt := 172) dX12_piece_168 (by decide) ?_
                refine ss_150 (pc := 172) dX12_piece_172 (A_150 hw) T2042 (rIx (n := 10) (rSub (e := 0) (f := 5) h1 (rR (x := 1)) rfl) rfl) (rW (c := 0) (d := 1) (rR (x := 1)) rfl) fun μ2061 u2062 T2063 => ?_
                exact mr_vret dX12_piece_173 rfl (le_t rfl) (le_t rfl) T2063 (mF.up (mF.up (mF.call (mF.call (mF.call (mF.call mF.refl F1941 rfl) F1985 rfl) F2010 rfl) F2028 rfl) (A_149 hw) u2041 rfl) (A_150 hw) u2062 rfl) ⟨z1987, z1989, z1991, z1993, z1995, (u2062.f (Or.inl (mAt.ne (A_150 hw) (A_106 hw) rfl)) (u2041.f (Or.inl (mAt.ne (A_149 hw) (A_106 hw) rfl)) (F2028.f (A_106 hw) rfl (F2010.f (A_106 hw) rfl q1988)))), (u2062.f (Or.inl (mAt.ne (A_150 hw) (A_106 hw) rfl)) (u2041.f (Or.inl (mAt.ne (A_149 hw) (A_106 hw) rfl)) (F2028.f (A_106 hw) rfl (F2010.f (A_106 hw) rfl q1990)))), (u2062.f (Or.inl (mAt.ne (A_150 hw) (A_106 hw) rfl)) (u2041.f (Or.inl (mAt.ne (A_149 hw) (A_106 hw) rfl)) (F2028.f (A_106 hw) rfl (F2010.f (A_106 hw) rfl q1992)))), (u2062.f (Or.inl (mAt.ne (A_150 hw) (A_106 hw) rfl)) (u2041.f (Or.inl (mAt.ne (A_149 hw) (A_106 hw) rfl)) (F2028.f (A_106 hw) rfl (F2010.f (A_106 hw) rfl q1994)))), (u2062.f (Or.inl (mAt.ne (A_150 hw) (A_106 hw) rfl)) (u2041.f (Or.inl (mAt.ne (A_149 hw) (A_106 hw) rfl)) (F2028.f (A_106 hw) rfl (F2010.f (A_106 hw) rfl q1996)))), (UPg.fr I2030 hw T2063 rfl ((mF.up (mF.up mF.refl (A_149 hw) u2041 rfl) (A_150 hw) u2062 rfl) : mF [149999, 150999] w μ2026 μ2061) rfl rfl rfl ((mG.upO (mG.upO mG.refl u2041 rfl) u2062 rfl) : mG [] μ2026 μ2061) (fun _ h => absurd h List.not_mem_nil)), (vc_X12_sign_9 h2003 (h1997.1 (vc_X12_sign_2 h1908)) (h1997.2.2.2.1 (vc_X12_sign_2 h2004)) (hq0 (vc_X12_sign_2 h1908)) ((hq1 (vc_X12_sign_2 h1908)).resolve_left (vc_X12_sign_6 h1979)) ht_f_at ht_f_from h2004 h1999 h2000), (vc_X12_sign_10 h2003 (h1997.1 (vc_X12_sign_2 h1908)) (h1997.2.2.2.1 (vc_X12_sign_2 h2004)) (h1997.2.2.2.2.1 (vc_X12_sign_2 h2004)) (h1997.2.2.2.2.2.1 (vc_X12_sign_2 h2004)) (hq0 (vc_X12_sign_2 h1908)) ((hq1 (vc_X12_sign_2 h1908)).resolve_left (vc_X12_sign_6 h1979)) ht_f_at ht_f_from h2004 h1999 h2000 h2001), (vc_X12_sign_11 h2003 (h1997.1 (vc_X12_sign_2 h1908)) (h1997.2.2.2.1 (vc_X12_sign_2 h2004)) (h1997.2.2.2.2.1 (vc_X12_sign_2 h2004)) (h1997.2.2.2.2.2.1 (vc_X12_sign_2 h2004)) (hq0 (vc_X12_sign_2 h1908)) ((hq1 (vc_X12_sign_2 h1908)).resolve_left (vc_X12_sign_6 h1979)) ht_f_at ht_f_from h2004 h1999 h2000 h2001), (vc_X12_sign_12 h2003 (h1997.1 (vc_X12_sign_2 h1908)) (h1997.2.2.2.1 (vc_X12_sign_2 h2004)) (h1997.2.2.2.2.1 (vc_X12_sign_2 h2004)) (h1997.2.2.2.2.2.1 (vc_X12_sign_2 h2004)) (h1997.2.2.2.2.2.2.1 (vc_X12_sign_2 h2004)) (hq0 (vc_X12_sign_2 h1908)) ((hq1 (vc_X12_sign_2 h1908)).resolve_left (vc_X12_sign_6 h1979)) ht_f_at ht_f_from h2004 h1999 h2000 h2001 h2002), (vc_X12_piece_u_17 h1907 h1977 h2003 h1908 h1978 h1979 h2004), (vc_X12_piece_u_18 (hq0 (vc_X12_sign_2 h1908)) ((hq1 (vc_X12_sign_2 h1908)).resolve_left (vc_X12_sign_6 h1979)) h2003 (h1997.1 (vc_X12_sign_2 h1908)) (h1997.2.2.2.1 (vc_X12_sign_2 h2004)) ht_f_at ht_f_from h2004 h1999 h2000), (vc_X12_piece_u_19 h1907 h1977 h2003 h1908 h1978 h1979 h2004), trivial⟩
              refine mr_if_eq (pc := 129) (tgt := 144) dX12_piece_129 (by decide) (r32 h1968 rfl) (fun h2064 => ?_) (fun h2064 => ?_)
              · have h2065 : 0 ≤ z1967 ∧ z1967 ≤ 0 := (vc_X12_ring_22 h2064 h1968)
                refine mr_lload_n (pc := 144) (z := p2) dX12_piece_144 rfl rfl ?_
                refine mr_lvS (lv' := [(0, .ref 106), (6, iv z1967), (7, iv (f_levels - 1))]) (List.forall_mem_cons.mpr ⟨rfl, List.forall_mem_cons.mpr ⟨rfl, List.forall_mem_cons.mpr ⟨rfl, fun _ h => absurd h List.not_mem_nil⟩⟩⟩) ?_
                exact J2039 p2 hp2
              have h2066 : 1 ≤ z1967 ∧ z1967 ≤ 1 := (vc_X12_ring_24 h2064 h1968)
              refine sv_aload_n (pc := 132) dX12_piece_132 rfl rfl ?_
              refine gf_X12_64 (pc := 133) dX12_piece_133 wF_X12_269 (A_106 hw) T2027 ?_
              refine mr_iload (pc := 136) (z := (f_levels - 1)) dX12_piece_136 rfl ?_
              refine lk_149 (pc := 138) dX12_piece_138 (A_149 hw) (rIx (n := 10) (rSub (e := 0) (f := 5) h1 (rR (x := 1)) rfl) rfl) (F2028.f (A_149 hw) rfl (F2010.f (A_149 hw) rfl q2006)) ?_
              refine mr_lload_n (pc := 139) (z := p2) dX12_piece_139 rfl rfl ?_
              refine mr_lor (pc := 140) dX12_piece_140 ?_
              refine mr_genL (r64i _) fun z2067 q2068 h2069 => ?_
              refine sv_goto (pc := 141) (tgt := 145) dX12_piece_141 (by decide) ?_
              refine mr_lvS (lv' := [(0, .ref 106), (6, iv z1967), (7, iv (f_levels - 1))]) (List.forall_mem_cons.mpr ⟨rfl, List.forall_mem_cons.mpr ⟨rfl, List.forall_mem_cons.mpr ⟨rfl, fun _ h => absurd h List.not_mem_nil⟩⟩⟩) ?_
              exact J2039 z2067 h2069
            refine mr_if_eq (pc := 107) (tgt := 121) dX12_piece_107 (by decide) (r32 h2014 rfl) (fun h2070 => ?_) (fun h2070 => ?_)
            · have h2071 : 0 ≤ z2012 ∧ z2012 ≤ 0 := (vc_X12_ring_22 h2070 h2014)
              refine mr_lvS (lv' := [(0, .ref 106), (3, jv p2), (6, iv z1967), (7, iv (f_levels - 1))]) (List.forall_mem_cons.mpr ⟨rfl, List.forall_mem_cons.mpr ⟨rfl, List.forall_mem_cons.mpr ⟨rfl, List.forall_mem_cons.mpr ⟨rfl, fun _ h => absurd h List.not_mem_nil⟩⟩⟩⟩) ?_
              exact J2031 μ2008 T2009 mF.refl h2011.1
            have h2072 : 1 ≤ z2012 ∧ z2012 ≤ 1 := (vc_X12_ring_24 h2070 h2014)
            refine sv_aload_n (pc := 110) dX12_piece_110 rfl rfl ?_
            refine gf_X12_63 (pc := 111) dX12_piece_111 wF_X12_266 (A_106 hw) T2009 ?_
            refine mr_iload (pc := 114) (z := (f_levels - 1)) dX12_piece_114 rfl ?_
            refine sv_dup2 (pc := 116) dX12_piece_116 rfl rfl ?_
            refine la_148 (pc := 117) dX12_piece_117 (A_148 hw) T2009 (rIx (n := 10) (rSub (e := 0) (f := 5) h1 (rR (x := 1)) rfl) rfl) fun z2073 q2074 h2075 => ?_
            refine mr_lload_n (pc := 118) (z := p1) dX12_piece_118 rfl rfl ?_
            refine mr_lor (pc := 119) dX12_piece_119 ?_
            refine mr_genL (r64i _) fun z2076 q2077 h2078 => ?_
            refine ss_148 (pc := 120) dX12_piece_120 (A_148 hw) T2009 (rIx (n := 10) (rSub (e := 0) (f := 5) h1 (rR (x := 1)) rfl) rfl) h2078 fun μ2079 u2080 T2081 => ?_
            refine mr_lvS (lv' := [(0, .ref 106), (3, jv p2), (6, iv z1967), (7, iv (f_levels - 1))]) (List.forall_mem_cons.mpr ⟨rfl, List.forall_mem_cons.mpr ⟨rfl, List.forall_mem_cons.mpr ⟨rfl, List.forall_mem_cons.mpr ⟨rfl, fun _ h => absurd h List.not_mem_nil⟩⟩⟩⟩) ?_
            exact J2031 μ2079 T2081 (mF.up mF.refl (A_148 hw) u2080 rfl) (UPg.fr h2011.1 hw T2081 rfl ((mF.up mF.refl (A_148 hw) u2080 rfl) : mF [148999] w μ2008 μ2079) rfl rfl rfl ((mG.upO mG.refl u2080 rfl) : mG [] μ2008 μ2079) (fun _ h => absurd h List.not_mem_nil))
          have h2082 : 1 ≤ z1987 ∧ z1987 ≤ 4 := (vc_X12_wrong_1 h2003 h1998)
          refine sv_aload_n (pc := 80) dX12_piece_80 rfl rfl ?_
          refine gk_X12_59 (pc := 81) dX12_piece_81 wF_X12_254 (A_106 hw) (F1985.f (A_106 hw) rfl (F1941.f (A_106 hw) rfl q_f_levels)) ?_
          refine mr_iconst (pc := 84) (z := 1) dX12_piece_84 ?_
          refine mr_isub (pc := 85) (x := f_levels) (y := 1) dX12_piece_85 ?_
          refine mr_istore (pc := 86) (lv' := [(7, iv (f_levels - 1)), (0, .ref 106), (1, jv p1), (3, jv p2), (6, iv z1967)]) dX12_piece_86 (by decide) rfl ?_
          refine sv_aload_n (pc := 88) dX12_piece_88 rfl rfl ?_
          refine sv_aload_n (pc := 89) dX12_piece_89 rfl rfl ?_
          refine gf_X12_64 (pc := 90) dX12_piece_90 wF_X12_269 (A_106 hw) T1984 ?_
          refine mr_iload (pc := 93) (z := (f_levels - 1)) dX12_piece_93 rfl ?_
          refine la_149 (pc := 95) dX12_piece_95 (A_149 hw) T1984 (rIx (n := 10) (rSub (e := 0) (f := 5) h1 (rR (x := 1)) rfl) rfl) fun z2083 q2084 h2085 => ?_
          refine mr_lload_n (pc := 96) (z := p1) dX12_piece_96 rfl rfl ?_
          refine mr_cVV (pc := 97) (c_X12_follows_u hw T1984 h2085 hp1 (F1985.f (A_106 hw) rfl (F1941.f (A_106 hw) rfl q_f_pol)) (F1985.f (A_106 hw) rfl (F1941.f (A_106 hw) rfl q_f_draft)) (vc_X12_piece_u_11 hq5 ht_f_draft ht_f_pol) (UPg.fr I1943 hw T1984 rfl ((mF.call mF.refl F1985 rfl) : mF [106033, 106034, 106035, 106036, 106037, 106038] w μ1939 μ1983) rfl rfl rfl ((mG.fr mG.refl F1985 (A_126 hw) rfl) : mG [] μ1939 μ1983) (fun _ h => absurd h List.not_mem_nil))) (gOk _ _ _ _ _) dX12_piece_97 (tX12_follows _ _ _ _ _) ⟨wV_X12_follows, wL_X12_follows⟩ wM_X12_281 (gCX12 _ _ _ _ _) rfl (A_106 hw) rfl ⟨le_t rfl, le_t rfl⟩ ⟨le_t rfl, le_t rfl⟩ rfl (le_t rfl) fun μ2086 T2087 F2088 h2089 => ?_
          refine sv_aload_n (pc := 100) dX12_piece_100 rfl rfl ?_
          refine gf_X12_65 (pc := 101) dX12_piece_101 wF_X12_272 (A_106 hw) T2087 ?_
          refine mr_iload (pc := 104) (z := (f_levels - 1)) dX12_piece_104 rfl ?_
          refine la_150 (pc := 106) dX12_piece_106 (A_150 hw) T2087 (rIx (n := 10) (rSub (e := 0) (f := 5) h1 (rR (x := 1)) rfl) rfl) fun z2090 q2091 h2092 => ?_
          have J2110 : ∀ (μ2104 : mM), (mT w μ2104) → (mF [148999] w μ2086 μ2104) → (UP l D c H0 sa μ2104) → ((1 ≤ μ2104 106 (37))) → sV (gG l D c H0 sa) mX12_piece (sRm 3 0 0) (sZ (gG l D c H0 sa) 0 0 (qV w [106033, 106034, 106035, 106036, 106037, 106038, 144999, 148999, 149999, 150999] μ (fun μ1 => ∃ o_code o_at o_from o_type o_number : Int, μ1 106 37 = o_code ∧ μ1 106 33 = o_at ∧ μ1 106 34 = o_from ∧ μ1 106 35 = o_type ∧ μ1 106 36 = o_number ∧ UP l D c H0 sa μ1 ∧ (o_code = 0 → o_from ≤ o_at) ∧ (o_code = 0 → o_type = 0 ∨ o_from + 1 ≤ o_at) ∧ (o_code = 0 → o_type = 1 → o_from + 2 ≤ o_at) ∧ (o_code = 0 → o_type = 1 → o_number = 0 ∨ o_number = 4 ∨ o_number = 5 ∨ o_from + 3 ≤ o_at) ∧ (o_code = 0 → f_code = 0) ∧ (o_code = 0 → f_from + 0 ≤ o_from) ∧ (f_code = 0 ∨ 1 ≤ o_code) ∧ True))) 121 [(0, .ref 106), (3, jv p2), (6, iv z1967), (7, iv (f_levels - 1))] [] (mk w μ2104) 0 0 := by
            intro μ2104 T2105 F2106 I2108 h2109
            have h2111 : 1 ≤ z1987 := (F2106.f (A_106 hw) rfl (F2088.f (A_106 hw) rfl q1988)) ▸ h2109
            refine sv_aload_n (pc := 121) dX12_piece_121 rfl rfl ?_
            refine gf_X12_64 (pc := 122) dX12_piece_122 wF_X12_269 (A_106 hw) T2105 ?_
            refine mr_iload (pc := 125) (z := (f_levels - 1)) dX12_piece_125 rfl ?_
            refine mr_iload (pc := 127) (z := z1967) dX12_piece_127 rfl ?_
            have J2119 : ∀ (z2117 : Int), (((-9223372036854775808) ≤ z2117 ∧ z2117 ≤ 9223372036854775807)) → sV (gG l D c H0 sa) mX12_piece (sRm 3 0 0) (sZ (gG l D c H0 sa) 0 0 (qV w [106033, 106034, 106035, 106036, 106037, 106038, 144999, 148999, 149999, 150999] μ (fun μ1 => ∃ o_code o_at o_from o_type o_number : Int, μ1 106 37 = o_code ∧ μ1 106 33 = o_at ∧ μ1 106 34 = o_from ∧ μ1 106 35 = o_type ∧ μ1 106 36 = o_number ∧ UP l D c H0 sa μ1 ∧ (o_code = 0 → o_from ≤ o_at) ∧ (o_code = 0 → o_type = 0 ∨ o_from + 1 ≤ o_at) ∧ (o_code = 0 → o_type = 1 → o_from + 2 ≤ o_at) ∧ (o_code = 0 → o_type = 1 → o_number = 0 ∨ o_number = 4 ∨ o_number = 5 ∨ o_from + 3 ≤ o_at) ∧ (o_code = 0 → f_code = 0) ∧ (o_code = 0 → f_from + 0 ≤ o_from) ∧ (f_code = 0 ∨ 1 ≤ o_code) ∧ True))) 145 [(0, .ref 106), (6, iv z1967), (7, iv (f_levels - 1))] [jv z2117, iv (f_levels - 1), .ref 149] (mk w μ2104) 0 0 := by
              intro z2117 h2118
              refine ss_149 (pc := 145) dX12_piece_145 (A_149 hw) T2105 (rIx (n := 10) (rSub (e := 0) (f := 5) h1 (rR (x := 1)) rfl) rfl) h2118 fun μ2120 u2121 T2122 => ?_
              refine sv_aload_n (pc := 146) dX12_piece_146 rfl rfl ?_
              refine gf_X12_65 (pc := 147) dX12_piece_147 wF_X12_272 (A_106 hw) T2122 ?_
              refine mr_iload (pc := 150) (z := (f_levels - 1)) dX12_piece_150 rfl ?_
              refine sv_aload_n (pc := 152) dX12_piece_152 rfl rfl ?_
              refine gf_X12_65 (pc := 153) dX12_piece_153 wF_X12_272 (A_106 hw) T2122 ?_
              refine mr_iload (pc := 156) (z := (f_levels - 1)) dX12_piece_156 rfl ?_
              refine lk_150 (pc := 158) dX12_piece_158 (A_150 hw) (rIx (n := 10) (rSub (e := 0) (f := 5) h1 (rR (x := 1)) rfl) rfl) (u2121.f (Or.inl (mAt.ne (A_149 hw) (A_150 hw) rfl)) (F2106.f (A_150 hw) rfl q2091)) ?_
              refine mr_if_eq (pc := 159) (tgt := 171) dX12_piece_159 (by decide) (r32 h2092 rfl) (fun h2127 => ?_) (fun h2127 => ?_)
              · have h2128 : 0 ≤ z2090 ∧ z2090 ≤ 0 := (vc_X12_ring_22 h2127 h2092)
                refine mr_iconst (pc := 171) (z := 0) dX12_piece_171 ?_
                refine ss_150 (pc := 172) dX12_piece_172 (A_150 hw) T2122 (rIx (n := 10) (rSub (e := 0) (f := 5) h1 (rR (x := 1)) rfl) rfl) (rW (c := 0) (d := 1) (rR (x := 0)) rfl) fun μ2129 u2130 T2131 => ?_
                exact mr_vret dX12_piece_173 rfl (le_t rfl) (le_t rfl) T2131 (mF.up (mF.up (mF.call (mF.call (mF.call (mF.call mF.refl F1941 rfl) F1985 rfl) F2088 rfl) F2106 rfl) (A_149 hw) u2121 rfl) (A_150 hw) u2130 rfl) ⟨z1987, z1989, z1991, z1993, z1995, (u2130.f (Or.inl (mAt.ne (A_150 hw) (A_106 hw) rfl)) (u2121.f (Or.inl (mAt.ne (A_149 hw) (A_106 hw) rfl)) (F2106.f (A_106 hw) rfl (F2088.f (A_106 hw) rfl q1988)))), (u2130.f (Or.inl (mAt.ne (A_150 hw) (A_106 hw) rfl)) (u2121.f (Or.inl (mAt.ne (A_149 hw) (A_106 hw) rfl)) (F2106.f (A_106 hw) rfl (F2088.f (A_106 hw) rfl q1990)))), (u2130.f (Or.inl (mAt.ne (A_150 hw) (A_106 hw) rfl)) (u2121.f (Or.inl (mAt.ne (A_149 hw) (A_106 hw) rfl)) (F2106.f (A_106 hw) rfl (F2088.f (A_106 hw) rfl q1992)))), (u2130.f (Or.inl (mAt.ne (A_150 hw) (A_106 hw) rfl)) (u2121.f (Or.inl (mAt.ne (A_149 hw) (A_106 hw) rfl)) (F2106.f (A_106 hw) rfl (F2088.f (A_106 hw) rfl q1994)))), (u2130.f (Or.inl (mAt.ne (A_150 hw) (A_106 hw) rfl)) (u2121.f (Or.inl (mAt.ne (A_149 hw) (A_106 hw) rfl)) (F2106.f (A_106 hw) rfl (F2088.f (A_106 hw) rfl q1996)))), (UPg.fr I2108 hw T2131 rfl ((mF.up (mF.up mF.refl (A_149 hw) u2121 rfl) (A_150 hw) u2130 rfl) : mF [149999, 150999] w μ2104 μ2129) rfl rfl rfl ((mG.upO (mG.upO mG.refl u2121 rfl) u2130 rfl) : mG [] μ2104 μ2129) (fun _ h => absurd h List.not_mem_nil)), (vc_X12_piece_u_25 h2003 (h1997.1 (vc_X12_sign_2 h1908)) h2111 (hq0 (vc_X12_sign_2 h1908)) ((hq1 (vc_X12_sign_2 h1908)).resolve_left (vc_X12_sign_6 h1979)) ht_f_at ht_f_from h2082 h1999 h2000), (vc_X12_piece_u_26 h2003 (h1997.1 (vc_X12_sign_2 h1908)) h2111 (hq0 (vc_X12_sign_2 h1908)) ((hq1 (vc_X12_sign_2 h1908)).resolve_left (vc_X12_sign_6 h1979)) ht_f_at ht_f_from h2082 h1999 h2000 h2001), (vc_X12_piece_u_27 h2003 (h1997.1 (vc_X12_sign_2 h1908)) h2111 (hq0 (vc_X12_sign_2 h1908)) ((hq1 (vc_X12_sign_2 h1908)).resolve_left (vc_X12_sign_6 h1979)) ht_f_at ht_f_from h2082 h1999 h2000 h2001), (vc_X12_piece_u_28 h2003 (h1997.1 (vc_X12_sign_2 h1908)) h2111 (hq0 (vc_X12_sign_2 h1908)) ((hq1 (vc_X12_sign_2 h1908)).resolve_left (vc_X12_sign_6 h1979)) ht_f_at ht_f_from h2082 h1999 h2000 h2001 h2002), (vc_X12_piece_u_29 h1907 h1977 h2003 h2111 h1908 h1978 h1979 h2082), (vc_X12_piece_u_30 (hq0 (vc_X12_sign_2 h1908)) ((hq1 (vc_X12_sign_2 h1908)).resolve_left (vc_X12_sign_6 h1979)) h2003 (h1997.1 (vc_X12_sign_2 h1908)) h2111 ht_f_at ht_f_from h2082 h2000), (vc_X12_piece_u_31 h1907 h1977 h2003 h2111 h1908 h1978 h1979 h2082), trivial⟩
              have h2132 : 1 ≤ z2090 ∧ z2090 ≤ 1 := (vc_X12_ring_24 h2127 h2092)
              refine mr_iload (pc := 162) (z := z1967) dX12_piece_162 rfl ?_
              refine mr_if_eq (pc := 164) (tgt := 171) dX12_piece_164 (by decide) (r32 h1968 rfl) (fun h2135 => ?_) (fun h2135 => ?_)
              · have h2136 : 0 ≤ z1967 ∧ z1967 ≤ 0 := (vc_X12_ring_22 h2135 h1968)
                refine mr_iconst (pc := 171) (z := 0) dX12_piece_171 ?_
                refine ss_150 (pc := 172) dX12_piece_172 (A_150 hw) T2122 (rIx (n := 10) (rSub (e := 0) (f := 5) h1 (rR (x := 1)) rfl) rfl) (rW (c := 0) (d := 1) (rR (x := 0)) rfl) fun μ2137 u2138 T2139 => ?_
                exact mr_vret dX12_piece_173 rfl (le_t rfl) (le_t rfl) T2139 (mF.up (mF.up (mF.call (mF.call (mF.call (mF.call mF.refl F1941 rfl) F1985 rfl) F2088 rfl) F2106 rfl) (A_149 hw) u2121 rfl) (A_150 hw) u2138 rfl) ⟨z1987, z1989, z1991, z1993, z1995, (u2138.f (Or.inl (mAt.ne (A_150 hw) (A_106 hw) rfl)) (u2121.f (Or.inl (mAt.ne (A_149 hw) (A_106 hw) rfl)) (F2106.f (A_106 hw) rfl (F2088.f (A_106 hw) rfl q1988)))), (u2138.f (Or.inl (mAt.ne (A_150 hw) (A_106 hw) rfl)) (u2121.f (Or.inl (mAt.ne (A_149 hw) (A_106 hw) rfl)) (F2106.f (A_106 hw) rfl (F2088.f (A_106 hw) rfl q1990)))), (u2138.f (Or.inl (mAt.ne (A_150 hw) (A_106 hw) rfl)) (u2121.f (Or.inl (mAt.ne (A_149 hw) (A_106 hw) rfl)) (F2106.f (A_106 hw) rfl (F2088.f (A_106 hw) rfl q1992)))), (u2138.f (Or.inl (mAt.ne (A_150 hw) (A_106 hw) rfl)) (u2121.f (Or.inl (mAt.ne (A_149 hw) (A_106 hw) rfl)) (F2106.f (A_106 hw) rfl (F2088.f (A_106 hw) rfl q1994)))), (u2138.f (Or.inl (mAt.ne (A_150 hw) (A_106 hw) rfl)) (u2121.f (Or.inl (mAt.ne (A_149 hw) (A_106 hw) rfl)) (F2106.f (A_106 hw) rfl (F2088.f (A_106 hw) rfl q1996)))), (UPg.fr I2108 hw T2139 rfl ((mF.up (mF.up mF.refl (A_149 hw) u2121 rfl) (A_150 hw) u2138 rfl) : mF [149999, 150999] w μ2104 μ2137) rfl rfl rfl ((mG.upO (mG.upO mG.refl u2121 rfl) u2138 rfl) : mG [] μ2104 μ2137) (fun _ h => absurd h List.not_mem_nil)), (vc_X12_piece_u_25 h2003 (h1997.1 (vc_X12_sign_2 h1908)) h2111 (hq0 (vc_X12_sign_2 h1908)) ((hq1 (vc_X12_sign_2 h1908)).resolve_left (vc_X12_sign_6 h1979)) ht_f_at ht_f_from h2082 h1999 h2000), (vc_X12_piece_u_26 h2003 (h1997.1 (vc_X12_sign_2 h1908)) h2111 (hq0 (vc_X12_sign_2 h1908)) ((hq1 (vc_X12_sign_2 h1908)).resolve_left (vc_X12_sign_6 h1979)) ht_f_at ht_f_from h2082 h1999 h2000 h2001), (vc_X12_piece_u_27 h2003 (h1997.1 (vc_X12_sign_2 h1908)) h2111 (hq0 (vc_X12_sign_2 h1908)) ((hq1 (vc_X12_sign_2 h1908)).resolve_left (vc_X12_sign_6 h1979)) ht_f_at ht_f_from h2082 h1999 h2000 h2001), (vc_X12_piece_u_28 h2003 (h1997.1 (vc_X12_sign_2 h1908)) h2111 (hq0 (vc_X12_sign_2 h1908)) ((hq1 (vc_X12_sign_2 h1908)).resolve_left (vc_X12_sign_6 h1979)) ht_f_at ht_f_from h2082 h1999 h2000 h2001 h2002), (vc_X12_piece_u_29 h1907 h1977 h2003 h2111 h1908 h1978 h1979 h2082), (vc_X12_piece_u_30 (hq0 (vc_X12_sign_2 h1908)) ((hq1 (vc_X12_sign_2 h1908)).resolve_left (vc_X12_sign_6 h1979)) h2003 (h1997.1 (vc_X12_sign_2 h1908)) h2111 ht_f_at ht_f_from h2082 h2000), (vc_X12_piece_u_31 h1907 h1977 h2003 h2111 h1908 h1978 h1979 h2082), trivial⟩
              have h2140 : 1 ≤ z1967 ∧ z1967 ≤ 1 := (vc_X12_ring_24 h2135 h1968)
              refine mr_iconst (pc := 167) (z := 1) dX12_piece_167 ?_
              refine sv_goto (pc := 168) (tgt := 172) dX12_piece_168 (by decide) ?_
              refine ss_150 (pc := 172) dX12_piece_172 (A_150 hw) T2122 (rIx (n := 10) (rSub (e := 0) (f := 5) h1 (rR (x := 1)) rfl) rfl) (rW (c := 0) (d := 1) (rR (x := 1)) rfl) fun μ2141 u2142 T2143 => ?_
              exact mr_vret dX12_piece_173 rfl (le_t rfl) (le_t rfl) T2143 (mF.up (mF.up (mF.call (mF.call (mF.call (mF.call mF.refl F1941 rfl) F1985 rfl) F2088 rfl) F2106 rfl) (A_149 hw) u2121 rfl) (A_150 hw) u2142 rfl) ⟨z1987, z1989, z1991, z1993, z1995, (u2142.f (Or.inl (mAt.ne (A_150 hw) (A_106 hw) rfl)) (u2121.f (Or.inl (mAt.ne (A_149 hw) (A_106 hw) rfl)) (F2106.f (A_106 hw) rfl (F2088.f (A_106 hw) rfl q1988)))), (u2142.f (Or.inl (mAt.ne (A_150 hw) (A_106 hw) rfl)) (u2121.f (Or.inl (mAt.ne (A_149 hw) (A_106 hw) rfl)) (F2106.f (A_106 hw) rfl (F2088.f (A_106 hw) rfl q1990)))), (u2142.f (Or.inl (mAt.ne (A_150 hw) (A_106 hw) rfl)) (u2121.f (Or.inl (mAt.ne (A_149 hw) (A_106 hw) rfl)) (F2106.f (A_106 hw) rfl (F2088.f (A_106 hw) rfl q1992)))), (u2142.f (Or.inl (mAt.ne (A_150 hw) (A_106 hw) rfl)) (u2121.f (Or.inl (mAt.ne (A_149 hw) (A_106 hw) rfl)) (F2106.f (A_106 hw) rfl (F2088.f (A_106 hw) rfl q1994)))), (u2142.f (Or.inl (mAt.ne (A_150 hw) (A_106 hw) rfl)) (u2121.f (Or.inl (mAt.ne (A_149 hw) (A_106 hw) rfl)) (F2106.f (A_106 hw) rfl (F2088.f (A_106 hw) rfl q1996)))), (UPg.fr I2108 hw T2143 rfl ((mF.up (mF.up mF.refl (A_149 hw) u2121 rfl) (A_150 hw) u2142 rfl) : mF [149999, 150999] w μ2104 μ2141) rfl rfl rfl ((mG.upO (mG.upO mG.refl u2121 rfl) u2142 rfl) : mG [] μ2104 μ2141) (fun _ h => absurd h List.not_mem_nil)), (vc_X12_piece_u_25 h2003 (h1997.1 (vc_X12_sign_2 h1908)) h2111 (hq0 (vc_X12_sign_2 h1908)) ((hq1 (vc_X12_sign_2 h1908)).resolve_left (vc_X12_sign_6 h1979)) ht_f_at ht_f_from h2082 h1999 h2000), (vc_X12_piece_u_26 h2003 (h1997.1 (vc_X12_sign_2 h1908)) h2111 (hq0 (vc_X12_sign_2 h1908)) ((hq1 (vc_X12_sign_2 h1908)).resolve_left (vc_X12_sign_6 h1979)) ht_f_at ht_f_from h2082 h1999 h2000 h2001), (vc_X12_piece_u_27 h2003 (h1997.1 (vc_X12_sign_2 h1908)) h2111 (hq0 (vc_X12_sign_2 h1908)) ((hq1 (vc_X12_sign_2 h1908)).resolve_left (vc_X12_sign_6 h1979)) ht_f_at ht_f_from h2082 h1999 h2000 h2001), (vc_X12_piece_u_28 h2003 (h1997.1 (vc_X12_sign_2 h1908)) h2111 (hq0 (vc_X12_sign_2 h1908)) ((hq1 (vc_X12_sign_2 h1908)).resolve_left (vc_X12_sign_6 h1979)) ht_f_at ht_f_from h2082 h1999 h2000 h2001 h2002), (vc_X12_piece_u_29 h1907 h1977 h2003 h2111 h1908 h1978 h1979 h2082), (vc_X12_piece_u_30 (hq0 (vc_X12_sign_2 h1908)) ((hq1 (vc_X12_sign_2 h1908)).resolve_left (vc_X12_sign_6 h1979)) h2003 (h1997.1 (vc_X12_sign_2 h1908)) h2111 ht_f_at ht_f_from h2082 h2000), (vc_X12_piece_u_31 h1907 h1977 h2003 h2111 h1908 h1978 h1979 h2082), trivial⟩
            refine mr_if_eq (pc := 129) (tgt := 144) dX12_piece_129 (by decide) (r32 h1968 rfl) (fun h2144 => ?_) (fun h2144 => ?_)
            · have h2145 : 0 ≤ z1967 ∧ z1967 ≤ 0 := (vc_X12_ring_22 h2144 h1968)
              refine mr_lload_n (pc := 144) (z := p2) dX12_piece_144 rfl rfl ?_
              refine mr_lvS (lv' := [(0, .ref 106), (6, iv z1967), (7, iv (f_levels - 1))]) (List.forall_mem_cons.mpr ⟨rfl, List.forall_mem_cons.mpr ⟨rfl, List.forall_mem_cons.mpr ⟨rfl, fun _ h => absurd h List.not_mem_nil⟩⟩⟩) ?_
              exact J2119 p2 hp2
            have h2146 : 1 ≤ z1967 ∧ z1967 ≤ 1 := (vc_X12_ring_24 h2144 h1968)
            refine sv_aload_n (pc := 132) dX12_piece_132 rfl rfl ?_
            refine gf_X12_64 (pc := 133) dX12_piece_133 wF_X12_269 (A_106 hw) T2105 ?_
            refine mr_iload (pc := 136) (z := (f_levels - 1)) dX12_piece_136 rfl ?_
            refine lk_149 (pc := 138) dX12_piece_138 (A_149 hw) (rIx (n := 10) (rSub (e := 0) (f := 5) h1 (rR (x := 1)) rfl) rfl) (F2106.f (A_149 hw) rfl (F2088.f (A_149 hw) rfl q2084)) ?_
            refine mr_lload_n (pc := 139) (z := p2) dX12_piece_139 rfl rfl ?_
            refine mr_lor (pc := 140) dX12_piece_140 ?_
            refine mr_genL (r64i _) fun z2147 q2148 h2149 => ?_
            refine sv_goto (pc := 141) (tgt := 145) dX12_piece_141 (by decide) ?_
            refine mr_lvS (lv' := [(0, .ref 106), (6, iv z1967), (7, iv (f_levels - 1))]) (List.forall_mem_cons.mpr ⟨rfl, List.forall_mem_cons.mpr ⟨rfl, List.forall_mem_cons.mpr ⟨rfl, fun _ h => absurd h List.not_mem_nil⟩⟩⟩) ?_
            exact J2119 z2147 h2149
          refine mr_if_eq (pc := 107) (tgt := 121) dX12_piece_107 (by decide) (r32 h2092 rfl) (fun h2150 => ?_) (fun h2150 => ?_)
          · have h2151 : 0 ≤ z2090 ∧ z2090 ≤ 0 := (vc_X12_ring_22 h2150 h2092)
            refine mr_lvS (lv' := [(0, .ref 106), (3, jv p2), (6, iv z1967), (7, iv (f_levels - 1))]) (List.forall_mem_cons.mpr ⟨rfl, List.forall_mem_cons.mpr ⟨rfl, List.forall_mem_cons.mpr ⟨rfl, List.forall_mem_cons.mpr ⟨rfl, fun _ h => absurd h List.not_mem_nil⟩⟩⟩⟩) ?_
            exact J2110 μ2086 T2087 mF.refl h2089.1 (by rw [(F2088.f (A_106 hw) rfl q1988)]; exact (vc_X12_wrong_2 h2003 h2082))
          have h2152 : 1 ≤ z2090 ∧ z2090 ≤ 1 := (vc_X12_ring_24 h2150 h2092)
          refine sv_aload_n (pc := 110) dX12_piece_110 rfl rfl ?_
          refine gf_X12_63 (pc := 111) dX12_piece_111 wF_X12_266 (A_106 hw) T2087 ?_
          refine mr_iload (pc := 114) (z := (f_levels - 1)) dX12_piece_114 rfl ?_
          refine sv_dup2 (pc := 116) dX12_piece_116 rfl rfl ?_
          refine la_148 (pc := 117) dX12_piece_117 (A_148 hw) T2087 (rIx (n := 10) (rSub (e := 0) (f := 5) h1 (rR (x := 1)) rfl) rfl) fun z2153 q2154 h2155 => ?_
          refine mr_lload_n (pc := 118) (z := p1) dX12_piece_118 rfl rfl ?_
          refine mr_lor (pc := 119) dX12_piece_119 ?_
          refine mr_genL (r64i _) fun z2156 q2157 h2158 => ?_
          refine ss_148 (pc := 120) dX12_piece_120 (A_148 hw) T2087 (rIx (n := 10) (rSub (e := 0) (f := 5) h1 (rR (x := 1)) rfl) rfl) h2158 fun μ2159 u2160 T2161 => ?_
          refine mr_lvS (lv' := [(0, .ref 106), (3, jv p2), (6, iv z1967), (7, iv (f_levels - 1))]) (List.forall_mem_cons.mpr ⟨rfl, List.forall_mem_cons.mpr ⟨rfl, List.forall_mem_cons.mpr ⟨rfl, List.forall_mem_cons.mpr ⟨rfl, fun _ h => absurd h List.not_mem_nil⟩⟩⟩⟩) ?_
          exact J2110 μ2159 T2161 (mF.up mF.refl (A_148 hw) u2160 rfl) (UPg.fr h2089.1 hw T2161 rfl ((mF.up mF.refl (A_148 hw) u2160 rfl) : mF [148999] w μ2086 μ2159) rfl rfl rfl ((mG.upO mG.refl u2160 rfl) : mG [] μ2086 μ2159) (fun _ h => absurd h List.not_mem_nil)) (by rw [(u2160.f (Or.inl (mAt.ne (A_148 hw) (A_106 hw) rfl)) (F2088.f (A_106 hw) rfl q1988))]; exact (vc_X12_wrong_2 h2003 h2082))
        have h2162 : 0 ≤ z1974 ∧ z1974 ≤ 0 := (vc_X12_ring_22 h1975 h1973.1)
        have h2163 : ¬ f_code = 0 ∨ ¬ f_type = 3 ∨ ¬ f_number = (42 : Int) := (h1973.2.2.1 (vc_X12_goes_7 h1975 h2162))
        refine sv_aload_n (pc := 58) dX12_piece_58 rfl rfl ?_
        refine mr_bipush (pc := 59) (z := 43) dX12_piece_59 (by decide) ?_
        refine mr_cVP (pc := 61) (c_X12_isSign hw T1940 (rW (c := (-2147483648)) (d := 2147483647) (rR (x := 43)) rfl) (F1941.f (A_106 hw) rfl q_f_code) (F1941.f (A_106 hw) rfl q_f_type) (F1941.f (A_106 hw) rfl q_f_number)) (gOk _ _ _ _ _) dX12_piece_61 (tX12_isSign _ _ _ _ _) ⟨wV_X12_isSign, wL_X12_isSign⟩ wM_X12_244 (gCX12 _ _ _ _ _) rfl (A_106 hw) rfl ⟨le_t rfl, le_t rfl⟩ ⟨le_t rfl, le_t rfl⟩ rfl (le_t rfl) fun z2168 h2167 => ?_
        refine mr_if_ne (pc := 64) (tgt := 76) dX12_piece_64 (by decide) (r32 h2167.1 rfl) (fun h2169 => ?_) (fun h2169 => ?_)
        · have h2170 : 1 ≤ z2168 ∧ z2168 ≤ 1 := (vc_X12_ring_24 h2169 h2167.1)
          have h2171 : f_code = 0 ∧ f_type = 3 ∧ f_number = (43 : Int) := (h2167.2.1 (vc_X12_best_l_18 h2169 h2170))
          have h2172 : 43 ≤ f_number ∧ f_number ≤ 43 := (vc_X12_piece_u_38 h2171 h1907 (h2163.resolve_left (fun h => h (vc_X12_sign_2 h1908))) h1908 ht_f_number ht_f_type)
          have h2173 : 3 ≤ f_type ∧ f_type ≤ 3 := (vc_X12_piece_u_39 h2171 h1907 (h2163.resolve_left (fun h => h (vc_X12_sign_2 h1908))) h1908 h2172 ht_f_type)
          refine sv_aload_n (pc := 76) dX12_piece_76 rfl rfl ?_
          obtain ⟨z2174, q2175⟩ : ∃ z, μ1939 106 1 = z := ⟨_, rfl⟩
          have h2176 : (0 ≤ z2174 ∧ z2174 ≤ 1000) := by rw [← q2175]; exact T1940 106 106 (A_106 hw) 1
          refine mr_cVV (pc := 77) (c_X12_next hw T1940 (F1941.f (A_106 hw) rfl q_f_code) (F1941.f (A_106 hw) rfl q_f_at) q2175) (gOk _ _ _ _ _) dX12_piece_77 (tX12_next _ _ _ _ _) ⟨wV_X12_next, wL_X12_next⟩ wM_X12_247 (gCX12 _ _ _ _ _) rfl (A_106 hw) rfl ⟨le_t rfl, le_t rfl⟩ ⟨le_t rfl, le_t rfl⟩ rfl (le_t rfl) fun μ2177 T2178 F2179 h2180 => ?_
          obtain ⟨z2181, z2183, z2185, z2187, z2189, q2182, q2184, q2186, q2188, q2190, h2191⟩ := h2180
          have h2192 : (0 ≤ z2181 ∧ z2181 ≤ 4) := by rw [← q2182]; exact T2178 106 106 (A_106 hw) 37
          have h2193 : (0 ≤ z2183 ∧ z2183 ≤ 1000) := by rw [← q2184]; exact T2178 106 106 (A_106 hw) 33
          have h2194 : (0 ≤ z2185 ∧ z2185 ≤ 1000) := by rw [← q2186]; exact T2178 106 106 (A_106 hw) 34
          have h2195 : (0 ≤ z2187 ∧ z2187 ≤ 3) := by rw [← q2188]; exact T2178 106 106 (A_106 hw) 35
          have h2196 : ((-2147483648) ≤ z2189 ∧ z2189 ≤ 2147483647) := by rw [← q2190]; exact T2178 106 106 (A_106 hw) 36
          by_cases h2197 : z2181 = 0
          · have h2198 : 0 ≤ z2181 ∧ z2181 ≤ 0 := (vc_X12_wrong_4 h2197 h2192)
            refine sv_aload_n (pc := 80) dX12_piece_80 rfl rfl ?_
            refine gk_X12_59 (pc := 81) dX12_piece_81 wF_X12_254 (A_106 hw) (F2179.f (A_106 hw) rfl (F1941.f (A_106 hw) rfl q_f_levels)) ?_
            refine mr_iconst (pc := 84) (z := 1) dX12_piece_84 ?_
            refine mr_isub (pc := 85) (x := f_levels) (y := 1) dX12_piece_85 ?_
            refine mr_istore (pc := 86) (lv' := [(7, iv (f_levels - 1)), (0, .ref 106), (1, jv p1), (3, jv p2), (6, iv z1967)]) dX12_piece_86 (by decide) rfl ?_
            refine sv_aload_n (pc := 88) dX12_piece_88 rfl rfl ?_
            refine sv_aload_n (pc := 89) dX12_piece_89 rfl rfl ?_
            refine gf_X12_64 (pc := 90) dX12_piece_90 wF_X12_269 (A_106 hw) T2178 ?_
            refine mr_iload (pc := 93) (z := (f_levels - 1)) dX12_piece_93 rfl ?_
            refine la_149 (pc := 95) dX12_piece_95 (A_149 hw) T2178 (rIx (n := 10) (rSub (e := 0) (f := 5) h1 (rR (x := 1)) rfl) rfl) fun z2199 q2200 h2201 => ?_
            refine mr_lload_n (pc := 96) (z := p1) dX12_piece_96 rfl rfl ?_
            refine mr_cVV (pc := 97) (c_X12_follows_u hw T2178 h2201 hp1 (F2179.f (A_106 hw) rfl (F1941.f (A_106 hw) rfl q_f_pol)) (F2179.f (A_106 hw) rfl (F1941.f (A_106 hw) rfl q_f_draft)) (vc_X12_piece_u_11 hq5 ht_f_draft ht_f_pol) (UPg.fr I1943 hw T2178 rfl ((mF.call mF.refl F2179 rfl) : mF [106033, 106034, 106035, 106036, 106037, 106038] w μ1939 μ2177) rfl rfl rfl ((mG.fr mG.refl F2179 (A_126 hw) rfl) : mG [] μ1939 μ2177) (fun _ h => absurd h List.not_mem_nil))) (gOk _ _ _ _ _) dX12_piece_97 (tX12_follows _ _ _ _ _) ⟨wV_X12_follows, wL_X12_follows⟩ wM_X12_281 (gCX12 _ _ _ _ _) rfl (A_106 hw) rfl ⟨le_t rfl, le_t rfl⟩ ⟨le_t rfl, le_t rfl⟩ rfl (le_t rfl) fun μ2202 T2203 F2204 h2205 => ?_
            refine sv_aload_n (pc := 100) dX12_piece_100 rfl rfl ?_
            refine gf_X12_65 (pc := 101) dX12_piece_101 wF_X12_272 (A_106 hw) T2203 ?_
            refine mr_iload (pc := 104) (z := (f_levels - 1)) dX12_piece_104 rfl ?_
            refine la_150 (pc := 106) dX12_piece_106 (A_150 hw) T2203 (rIx (n := 10) (rSub (e := 0) (f := 5) h1 (rR (x := 1)) rfl) rfl) fun z2206 q2207 h2208 => ?_
            have J2225 : ∀ (μ2220 : mM), (mT w μ2220) → (mF [148999] w μ2202 μ2220) → (UP l D c H0 sa μ2220) → sV (gG l D c H0 sa) mX12_piece (sRm 3 0 0) (sZ (gG l D c H0 sa) 0 0 (qV w [106033, 106034, 106035, 106036, 106037, 106038, 144999, 148999, 149999, 150999] μ (fun μ1 => ∃ o_code o_at o_from o_type o_number : Int, μ1 106 37 = o_code ∧ μ1 106 33 = o_at ∧ μ1 106 34 = o_from ∧ μ1 106 35 = o_type ∧ μ1 106 36 = o_number ∧ UP l D c H0 sa μ1 ∧ (o_code = 0 → o_from ≤ o_at) ∧ (o_code = 0 → o_type = 0 ∨ o_from + 1 ≤ o_at) ∧ (o_code = 0 → o_type = 1 → o_from + 2 ≤ o_at) ∧ (o_code = 0 → o_type = 1 → o_number = 0 ∨ o_number = 4 ∨ o_number = 5 ∨ o_from + 3 ≤ o_at) ∧ (o_code = 0 → f_code = 0) ∧ (o_code = 0 → f_from + 0 ≤ o_from) ∧ (f_code = 0 ∨ 1 ≤ o_code) ∧ True))) 121 [(0, .ref 106), (3, jv p2), (6, iv z1967), (7, iv (f_levels - 1))] [] (mk w μ2220) 0 0 := by
              intro μ2220 T2221 F2222 I2224
              refine sv_aload_n (pc := 121) dX12_piece_121 rfl rfl ?_
              refine gf_X12_64 (pc := 122) dX12_piece_122 wF_X12_269 (A_106 hw) T2221 ?_
              refine mr_iload (pc := 125) (z := (f_levels - 1)) dX12_piece_125 rfl ?_
              refine mr_iload (pc := 127) (z := z1967) dX12_piece_127 rfl ?_
              have J2233 : ∀ (z2231 : Int), (((-9223372036854775808) ≤ z2231 ∧ z2231 ≤ 9223372036854775807)) → sV (gG l D c H0 sa) mX12_piece (sRm 3 0 0) (sZ (gG l D c H0 sa) 0 0 (qV w [106033, 106034, 106035, 106036, 106037, 106038, 144999, 148999, 149999, 150999] μ (fun μ1 => ∃ o_code o_at o_from o_type o_number : Int, μ1 106 37 = o_code ∧ μ1 106 33 = o_at ∧ μ1 106 34 = o_from ∧ μ1 106 35 = o_type ∧ μ1 106 36 = o_number ∧ UP l D c H0 sa μ1 ∧ (o_code = 0 → o_from ≤ o_at) ∧ (o_code = 0 → o_type = 0 ∨ o_from + 1 ≤ o_at) ∧ (o_code = 0 → o_type = 1 → o_from + 2 ≤ o_at) ∧ (o_code = 0 → o_type = 1 → o_number = 0 ∨ o_number = 4 ∨ o_number = 5 ∨ o_from + 3 ≤ o_at) ∧ (o_code = 0 → f_code = 0) ∧ (o_code = 0 → f_from + 0 ≤ o_from) ∧ (f_code = 0 ∨ 1 ≤ o_code) ∧ True))) 145 [(0, .ref 106), (6, iv z1967), (7, iv (f_levels - 1))] [jv z2231, iv (f_levels - 1), .ref 149] (mk w μ2220) 0 0 := by
                intro z2231 h2232
                refine ss_149 (pc := 145) dX12_piece_145 (A_149 hw) T2221 (rIx (n := 10) (rSub (e := 0) (f := 5) h1 (rR (x := 1)) rfl) rfl) h2232 fun μ2234 u2235 T2236 => ?_
                refine sv_aload_n (pc := 146) dX12_piece_146 rfl rfl ?_
                refine gf_X12_65 (pc := 147) dX12_piece_147 wF_X12_272 (A_106 hw) T2236 ?_
                refine mr_iload (pc := 150) (z := (f_levels - 1)) dX12_piece_150 rfl ?_
                refine sv_aload_n (pc := 152) dX12_piece_152 rfl rfl ?_
                refine gf_X12_65 (pc := 153) dX12_piece_153 wF_X12_272 (A_106 hw) T2236 ?_
                refine mr_iload (pc := 156) (z := (f_levels - 1)) dX12_piece_156 rfl ?_
                refine lk_150 (pc := 158) dX12_piece_158 (A_150 hw) (rIx (n := 10) (rSub (e := 0) (f := 5) h1 (rR (x := 1)) rfl) rfl) (u2235.f (Or.inl (mAt.ne (A_149 hw) (A_150 hw) rfl)) (F2222.f (A_150 hw) rfl q2207)) ?_
                refine mr_if_eq (pc := 159) (tgt := 171) dX12_piece_159 (by decide) (r32 h2208 rfl) (fun h2241 => ?_) (fun h2241 => ?_)
                · have h2242 : 0 ≤ z2206 ∧ z2206 ≤ 0 := (vc_X12_ring_22 h2241 h2208)
                  refine mr_iconst (pc := 171) (z := 0) dX12_piece_171 ?_
                  refine ss_150 (pc := 172) dX12_piece_172 (A_150 hw) T2236 (rIx (n := 10) (rSub (e := 0) (f := 5) h1 (rR (x := 1)) rfl) rfl) (rW (c := 0) (d := 1) (rR (x := 0)) rfl) fun μ2243 u2244 T2245 => ?_
                  exact mr_vret dX12_piece_173 rfl (le_t rfl) (le_t rfl) T2245 (mF.up (mF.up (mF.call (mF.call (mF.call (mF.call mF.refl F1941 rfl) F2179 rfl) F2204 rfl) F2222 rfl) (A_149 hw) u2235 rfl) (A_150 hw) u2244 rfl) ⟨z2181, z2183, z2185, z2187, z2189, (u2244.f (Or.inl (mAt.ne (A_150 hw) (A_106 hw) rfl)) (u2235.f (Or.inl (mAt.ne (A_149 hw) (A_106 hw) rfl)) (F2222.f (A_106 hw) rfl (F2204.f (A_106 hw) rfl q2182)))), (u2244.f (Or.inl (mAt.ne (A_150 hw) (A_106 hw) rfl)) (u2235.f (Or.inl (mAt.ne (A_149 hw) (A_106 hw) rfl)) (F2222.f (A_106 hw) rfl (F2204.f (A_106 hw) rfl q2184)))), (u2244.f (Or.inl (mAt.ne (A_150 hw) (A_106 hw) rfl)) (u2235.f (Or.inl (mAt.ne (A_149 hw) (A_106 hw) rfl)) (F2222.f (A_106 hw) rfl (F2204.f (A_106 hw) rfl q2186)))), (u2244.f (Or.inl (mAt.ne (A_150 hw) (A_106 hw) rfl)) (u2235.f (Or.inl (mAt.ne (A_149 hw) (A_106 hw) rfl)) (F2222.f (A_106 hw) rfl (F2204.f (A_106 hw) rfl q2188)))), (u2244.f (Or.inl (mAt.ne (A_150 hw) (A_106 hw) rfl)) (u2235.f (Or.inl (mAt.ne (A_149 hw) (A_106 hw) rfl)) (F2222.f (A_106 hw) rfl (F2204.f (A_106 hw) rfl q2190)))), (UPg.fr I2224 hw T2245 rfl ((mF.up (mF.up mF.refl (A_149 hw) u2235 rfl) (A_150 hw) u2244 rfl) : mF [149999, 150999] w μ2220 μ2243) rfl rfl rfl ((mG.upO (mG.upO mG.refl u2235 rfl) u2244 rfl) : mG [] μ2220 μ2243) (fun _ h => absurd h List.not_mem_nil)), (vc_X12_sign_9 h2197 (h2191.1 (vc_X12_sign_2 h1908)) (h2191.2.2.2.1 (vc_X12_sign_2 h2198)) (hq0 (vc_X12_sign_2 h1908)) ((hq1 (vc_X12_sign_2 h1908)).resolve_left (vc_X12_sign_6 h2173)) ht_f_at ht_f_from h2198 h2193 h2194), (vc_X12_sign_10 h2197 (h2191.1 (vc_X12_sign_2 h1908)) (h2191.2.2.2.1 (vc_X12_sign_2 h2198)) (h2191.2.2.2.2.1 (vc_X12_sign_2 h2198)) (h2191.2.2.2.2.2.1 (vc_X12_sign_2 h2198)) (hq0 (vc_X12_sign_2 h1908)) ((hq1 (vc_X12_sign_2 h1908)).resolve_left (vc_X12_sign_6 h2173)) ht_f_at ht_f_from h2198 h2193 h2194 h2195), (vc_X12_sign_11 h2197 (h2191.1 (vc_X12_sign_2 h1908)) (h2191.2.2.2.1 (vc_X12_sign_2 h2198)) (h2191.2.2.2.2.1 (vc_X12_sign_2 h2198)) (h2191.2.2.2.2.2.1 (vc_X12_sign_2 h2198)) (hq0 (vc_X12_sign_2 h1908)) ((hq1 (vc_X12_sign_2 h1908)).resolve_left (vc_X12_sign_6 h2173)) ht_f_at ht_f_from h2198 h2193 h2194 h2195), (vc_X12_sign_12 h2197 (h2191.1 (vc_X12_sign_2 h1908)) (h2191.2.2.2.1 (vc_X12_sign_2 h2198)) (h2191.2.2.2.2.1 (vc_X12_sign_2 h2198)) (h2191.2.2.2.2.2.1 (vc_X12_sign_2 h2198)) (h2191.2.2.2.2.2.2.1 (vc_X12_sign_2 h2198)) (hq0 (vc_X12_sign_2 h1908)) ((hq1 (vc_X12_sign_2 h1908)).resolve_left (vc_X12_sign_6 h2173)) ht_f_at ht_f_from h2198 h2193 h2194 h2195 h2196), (vc_X12_piece_u_48 h1907 h2171 h2197 ((h2163.resolve_left (fun h => h (vc_X12_sign_2 h1908))).resolve_left (fun h => h (vc_X12_piece_u_40 h2173))) h1908 h2172 h2173 h2198), (vc_X12_piece_u_18 (hq0 (vc_X12_sign_2 h1908)) ((hq1 (vc_X12_sign_2 h1908)).resolve_left (vc_X12_sign_6 h2173)) h2197 (h2191.1 (vc_X12_sign_2 h1908)) (h2191.2.2.2.1 (vc_X12_sign_2 h2198)) ht_f_at ht_f_from h2198 h2193 h2194), (vc_X12_piece_u_50 h1907 h2171 h2197 ((h2163.resolve_left (fun h => h (vc_X12_sign_2 h1908))).resolve_left (fun h => h (vc_X12_piece_u_40 h2173))) h1908 h2172 h2173 h2198), trivial⟩
                have h2246 : 1 ≤ z2206 ∧ z2206 ≤ 1 := (vc_X12_ring_24 h2241 h2208)
                refine mr_iload (pc := 162) (z := z1967) dX12_piece_162 rfl ?_
                refine mr_if_eq (pc := 164) (tgt := 171) dX12_piece_164 (by decide) (r32 h1968 rfl) (fun h2249 => ?_) (fun h2249 => ?_)
                · have h2250 : 0 ≤ z1967 ∧ z1967 ≤ 0 := (vc_X12_ring_22 h2249 h1968)
                  refine mr_iconst (pc := 171) (z := 0) dX12_piece_171 ?_
                  refine ss_150 (pc := 172) dX12_piece_172 (A_150 hw) T2236 (rIx (n := 10) (rSub (e := 0) (f := 5) h1 (rR (x := 1)) rfl) rfl) (rW (c := 0) (d := 1) (rR (x := 0)) rfl) fun μ2251 u2252 T2253 => ?_
                  exact mr_vret dX12_piece_173 rfl (le_t rfl) (le_t rfl) T2253 (mF.up (mF.up (mF.call (mF.call (mF.call (mF.call mF.refl F1941 rfl) F2179 rfl) F2204 rfl) F2222 rfl) (A_149 hw) u2235 rfl) (A_150 hw) u2252 rfl) ⟨z2181, z2183, z2185, z2187, z2189, (u2252.f (Or.inl (mAt.ne (A_150 hw) (A_106 hw) rfl)) (u2235.f (Or.inl (mAt.ne (A_149 hw) (A_106 hw) rfl)) (F2222.f (A_106 hw) rfl (F2204.f (A_106 hw) rfl q2182)))), (u2252.f (Or.inl (mAt.ne (A_150 hw) (A_106 hw) rfl)) (u2235.f (Or.inl (mAt.ne (A_149 hw) (A_106 hw) rfl)) (F2222.f (A_106 hw) rfl (F2204.f (A_106 hw) rfl q2184)))), (u2252.f (Or.inl (mAt.ne (A_150 hw) (A_106 hw) rfl)) (u2235.f (Or.inl (mAt.ne (A_149 hw) (A_106 hw) rfl)) (F2222.f (A_106 hw) rfl (F2204.f (A_106 hw) rfl q2186)))), (u2252.f (Or.inl (mAt.ne (A_150 hw) (A_106 hw) rfl)) (u2235.f (Or.inl (mAt.ne (A_149 hw) (A_106 hw) rfl)) (F2222.f (A_106 hw) rfl (F2204.f (A_106 hw) rfl q2188)))), (u2252.f (Or.inl (mAt.ne (A_150 hw) (A_106 hw) rfl)) (u2235.f (Or.inl (mAt.ne (A_149 hw) (A_106 hw) rfl)) (F2222.f (A_106 hw) rfl (F2204.f (A_106 hw) rfl q2190)))), (UPg.fr I2224 hw T2253 rfl ((mF.up (mF.up mF.refl (A_149 hw) u2235 rfl) (A_150 hw) u2252 rfl) : mF [149999, 150999] w μ2220 μ2251) rfl rfl rfl ((mG.upO (mG.upO mG.refl u2235 rfl) u2252 rfl) : mG [] μ2220 μ2251) (fun _ h => absurd h List.not_mem_nil)), (vc_X12_sign_9 h2197 (h2191.1 (vc_X12_sign_2 h1908)) (h2191.2.2.2.1 (vc_X12_sign_2 h2198)) (hq0 (vc_X12_sign_2 h1908)) ((hq1 (vc_X12_sign_2 h1908)).resolve_left (vc_X12_sign_6 h2173)) ht_f_at ht_f_from h2198 h2193 h2194), (vc_X12_sign_10 h2197 (h2191.1 (vc_X12_sign_2 h1908)) (h2191.2.2.2.1 (vc_X12_sign_2 h2198)) (h2191.2.2.2.2.1 (vc_X12_sign_2 h2198)) (h2191.2.2.2.2.2.1 (vc_X12_sign_2 h2198)) (hq0 (vc_X12_sign_2 h1908)) ((hq1 (vc_X12_sign_2 h1908)).resolve_left (vc_X12_sign_6 h2173)) ht_f_at ht_f_from h2198 h2193 h2194 h2195), (vc_X12_sign_11 h2197 (h2191.1 (vc_X12_sign_2 h1908)) (h2191.2.2.2.1 (vc_X12_sign_2 h2198)) (h2191.2.2.2.2.1 (vc_X12_sign_2 h2198)) (h2191.2.2.2.2.2.1 (vc_X12_sign_2 h2198)) (hq0 (vc_X12_sign_2 h1908)) ((hq1 (vc_X12_sign_2 h1908)).resolve_left (vc_X12_sign_6 h2173)) ht_f_at ht_f_from h2198 h2193 h2194 h2195), (vc_X12_sign_12 h2197 (h2191.1 (vc_X12_sign_2 h1908)) (h2191.2.2.2.1 (vc_X12_sign_2 h2198)) (h2191.2.2.2.2.1 (vc_X12_sign_2 h2198)) (h2191.2.2.2.2.2.1 (vc_X12_sign_2 h2198)) (h2191.2.2.2.2.2.2.1 (vc_X12_sign_2 h2198)) (hq0 (vc_X12_sign_2 h1908)) ((hq1 (vc_X12_sign_2 h1908)).resolve_left (vc_X12_sign_6 h2173)) ht_f_at ht_f_from h2198 h2193 h2194 h2195 h2196), (vc_X12_piece_u_48 h1907 h2171 h2197 ((h2163.resolve_left (fun h => h (vc_X12_sign_2 h1908))).resolve_left (fun h => h (vc_X12_piece_u_40 h2173))) h1908 h2172 h2173 h2198), (vc_X12_piece_u_18 (hq0 (vc_X12_sign_2 h1908)) ((hq1 (vc_X12_sign_2 h1908)).resolve_left (vc_X12_sign_6 h2173)) h2197 (h2191.1 (vc_X12_sign_2 h1908)) (h2191.2.2.2.1 (vc_X12_sign_2 h2198)) ht_f_at ht_f_from h2198 h2193 h2194), (vc_X12_piece_u_50 h1907 h2171 h2197 ((h2163.resolve_left (fun h => h (vc_X12_sign_2 h1908))).resolve_left (fun h => h (vc_X12_piece_u_40 h2173))) h1908 h2172 h2173 h2198), trivial⟩
                have h2254 : 1 ≤ z1967 ∧ z1967 ≤ 1 := (vc_X12_ring_24 h2249 h1968)
                refine mr_iconst (pc := 167) (z := 1) dX12_piece_167 ?_
                refine sv_goto (pc := 168) (tgt := 172) dX12_piece_168 (by decide) ?_
                refine ss_150 (pc := 172) dX12_piece_172 (A_150 hw) T2236 (rIx (n := 10) (rSub (e := 0) (f := 5) h1 (rR (x := 1)) rfl) rfl) (rW (c := 0) (d := 1) (rR (x := 1)) rfl) fun μ2255 u2256 T2257 => ?_
                exact mr_vret dX12_piece_173 rfl (le_t rfl) (le_t rfl) T2257 (mF.up (mF.up (mF.call (mF.call (mF.call (mF.call mF.refl F1941 rfl) F2179 rfl) F2204 rfl) F2222 rfl) (A_149 hw) u2235 rfl) (A_150 hw) u2256 rfl) ⟨z2181, z2183, z2185, z2187, z2189, (u2256.f (Or.inl (mAt.ne (A_150 hw) (A_106 hw) rfl)) (u2235.f (Or.inl (mAt.ne (A_149 hw) (A_106 hw) rfl)) (F2222.f (A_106 hw) rfl (F2204.f (A_106 hw) rfl q2182)))), (u2256.f (Or.inl (mAt.ne (A_150 hw) (A_106 hw) rfl)) (u2235.f (Or.inl (mAt.ne (A_149 hw) (A_106 hw) rfl)) (F2222.f (A_106 hw) rfl (F2204.f (A_106 hw) rfl q2184)))), (u2256.f (Or.inl (mAt.ne (A_150 hw) (A_106 hw) rfl)) (u2235.f (Or.inl (mAt.ne (A_149 hw) (A_106 hw) rfl)) (F2222.f (A_106 hw) rfl (F2204.f (A_106 hw) rfl q2186)))), (u2256.f (Or.inl (mAt.ne (A_150 hw) (A_106 hw) rfl)) (u2235.f (Or.inl (mAt.ne (A_149 hw) (A_106 hw) rfl)) (F2222.f (A_106 hw) rfl (F2204.f (A_106 hw) rfl q2188)))), (u2256.f (Or.inl (mAt.ne (A_150 hw) (A_106 hw) rfl)) (u2235.f (Or.inl (mAt.ne (A_149 hw) (A_106 hw) rfl)) (F2222.f (A_106 hw) rfl (F2204.f (A_106 hw) rfl q2190)))), (UPg.fr I2224 hw T2257 rfl ((mF.up (mF.up mF.refl (A_149 hw) u2235 rfl) (A_150 hw) u2256 rfl) : mF [149999, 150999] w μ2220 μ2255) rfl rfl rfl ((mG.upO (mG.upO mG.refl u2235 rfl) u2256 rfl) : mG [] μ2220 μ2255) (fun _ h => absurd h List.not_mem_nil)), (vc_X12_sign_9 h2197 (h2191.1 (vc_X12_sign_2 h1908)) (h2191.2.2.2.1 (vc_X12_sign_2 h2198)) (hq0 (vc_X12_sign_2 h1908)) ((hq1 (vc_X12_sign_2 h1908)).resolve_left (vc_X12_sign_6 h2173)) ht_f_at ht_f_from h2198 h2193 h2194), (vc_X12_sign_10 h2197 (h2191.1 (vc_X12_sign_2 h1908)) (h2191.2.2.2.1 (vc_X12_sign_2 h2198)) (h2191.2.2.2.2.1 (vc_X12_sign_2 h2198)) (h2191.2.2.2.2.2.1 (vc_X12_sign_2 h2198)) (hq0 (vc_X12_sign_2 h1908)) ((hq1 (vc_X12_sign_2 h1908)).resolve_left (vc_X12_sign_6 h2173)) ht_f_at ht_f_from h2198 h2193 h2194 h2195), (vc_X12_sign_11 h2197 (h2191.1 (vc_X12_sign_2 h1908)) (h2191.2.2.2.1 (vc_X12_sign_2 h2198)) (h2191.2.2.2.2.1 (vc_X12_sign_2 h2198)) (h2191.2.2.2.2.2.1 (vc_X12_sign_2 h2198)) (hq0 (vc_X12_sign_2 h1908)) ((hq1 (vc_X12_sign_2 h1908)).resolve_left (vc_X12_sign_6 h2173)) ht_f_at ht_f_from h2198 h2193 h2194 h2195), (vc_X12_sign_12 h2197 (h2191.1 (vc_X12_sign_2 h1908)) (h2191.2.2.2.1 (vc_X12_sign_2 h2198)) (h2191.2.2.2.2.1 (vc_X12_sign_2 h2198)) (h2191.2.2.2.2.2.1 (vc_X12_sign_2 h2198)) (h2191.2.2.2.2.2.2.1 (vc_X12_sign_2 h2198)) (hq0 (vc_X12_sign_2 h1908)) ((hq1 (vc_X12_sign_2 h1908)).resolve_left (vc_X12_sign_6 h2173)) ht_f_at ht_f_from h2198 h2193 h2194 h2195 h2196), (vc_X12_piece_u_48 h1907 h2171 h2197 ((h2163.resolve_left (fun h => h (vc_X12_sign_2 h1908))).resolve_left (fun h => h (vc_X12_piece_u_40 h2173))) h1908 h2172 h2173 h2198), (vc_X12_piece_u_18 (hq0 (vc_X12_sign_2 h1908)) ((hq1 (vc_X12_sign_2 h1908)).resolve_left (vc_X12_sign_6 h2173)) h2197 (h2191.1 (vc_X12_sign_2 h1908)) (h2191.2.2.2.1 (vc_X12_sign_2 h2198)) ht_f_at ht_f_from h2198 h2193 h2194), (vc_X12_piece_u_50 h1907 h2171 h2197 ((h2163.resolve_left (fun h => h (vc_X12_sign_2 h1908))).resolve_left (fun h => h (vc_X12_piece_u_40 h2173))) h1908 h2172 h2173 h2198), trivial⟩
              refine mr_if_eq (pc := 129) (tgt := 144) dX12_piece_129 (by decide) (r32 h1968 rfl) (fun h2258 => ?_) (fun h2258 => ?_)
              · have h2259 : 0 ≤ z1967 ∧ z1967 ≤ 0 := (vc_X12_ring_22 h2258 h1968)
                refine mr_lload_n (pc := 144) (z := p2) dX12_piece_144 rfl rfl ?_
                refine mr_lvS (lv' := [(0, .ref 106), (6, iv z1967), (7, iv (f_levels - 1))]) (List.forall_mem_cons.mpr ⟨rfl, List.forall_mem_cons.mpr ⟨rfl, List.forall_mem_cons.mpr ⟨rfl, fun _ h => absurd h List.not_mem_nil⟩⟩⟩) ?_
                exact J2233 p2 hp2
              have h2260 : 1 ≤ z1967 ∧ z1967 ≤ 1 := (vc_X12_ring_24 h2258 h1968)
              refine sv_aload_n (pc := 132) dX12_piece_132 rfl rfl ?_
              refine gf_X12_64 (pc := 133) dX12_piece_133 wF_X12_269 (A_106 hw) T2221 ?_
              refine mr_iload (pc := 136) (z := (f_levels - 1)) dX12_piece_136 rfl ?_
              refine lk_149 (pc := 138) dX12_piece_138 (A_149 hw) (rIx (n := 10) (rSub (e := 0) (f := 5) h1 (rR (x := 1)) rfl) rfl) (F2222.f (A_149 hw) rfl (F2204.f (A_149 hw) rfl q2200)) ?_
              refine mr_lload_n (pc := 139) (z := p2) dX12_piece_139 rfl rfl ?_
              refine mr_lor (pc := 140) dX12_piece_140 ?_
              refine mr_genL (r64i _) fun z2261 q2262 h2263 => ?_
              refine sv_goto (pc := 141) (tgt := 145) dX12_piece_141 (by decide) ?_
              refine mr_lvS (lv' := [(0, .ref 106), (6, iv z1967), (7, iv (f_levels - 1))]) (List.forall_mem_cons.mpr ⟨rfl, List.forall_mem_cons.mpr ⟨rfl, List.forall_mem_cons.mpr ⟨rfl, fun _ h => absurd h List.not_mem_nil⟩⟩⟩) ?_
              exact J2233 z2261 h2263
            refine mr_if_eq (pc := 107) (tgt := 121) dX12_piece_107 (by decide) (r32 h2208 rfl) (fun h2264 => ?_) (fun h2264 => ?_)
            · have h2265 : 0 ≤ z2206 ∧ z2206 ≤ 0 := (vc_X12_ring_22 h2264 h2208)
              refine mr_lvS (lv' := [(0, .ref 106), (3, jv p2), (6, iv z1967), (7, iv (f_levels - 1))]) (List.forall_mem_cons.mpr ⟨rfl, List.forall_mem_cons.mpr ⟨rfl, List.forall_mem_cons.mpr ⟨rfl, List.forall_mem_cons.mpr ⟨rfl, fun _ h => absurd h List.not_mem_nil⟩⟩⟩⟩) ?_
              exact J2225 μ2202 T2203 mF.refl h2205.1
            have h2266 : 1 ≤ z2206 ∧ z2206 ≤ 1 := (vc_X12_ring_24 h2264 h2208)
            refine sv_aload_n (pc := 110) dX12_piece_110 rfl rfl ?_
            refine gf_X12_63 (pc := 111) dX12_piece_111 wF_X12_266 (A_106 hw) T2203 ?_
            refine mr_iload (pc := 114) (z := (f_levels - 1)) dX12_piece_114 rfl ?_
            refine sv_dup2 (pc := 116) dX12_piece_116 rfl rfl ?_
            refine la_148 (pc := 117) dX12_piece_117 (A_148 hw) T2203 (rIx (n := 10) (rSub (e := 0) (f := 5) h1 (rR (x := 1)) rfl) rfl) fun z2267 q2268 h2269 => ?_
            refine mr_lload_n (pc := 118) (z := p1) dX12_piece_118 rfl rfl ?_
            refine mr_lor (pc := 119) dX12_piece_119 ?_
            refine mr_genL (r64i _) fun z2270 q2271 h2272 => ?_
            refine ss_148 (pc := 120) dX12_piece_120 (A_148 hw) T2203 (rIx (n := 10) (rSub (e := 0) (f := 5) h1 (rR (x := 1)) rfl) rfl) h2272 fun μ2273 u2274 T2275 => ?_
            refine mr_lvS (lv' := [(0, .ref 106), (3, jv p2), (6, iv z1967), (7, iv (f_levels - 1))]) (List.forall_mem_cons.mpr ⟨rfl, List.forall_mem_cons.mpr ⟨rfl, List.forall_mem_cons.mpr ⟨rfl, List.forall_mem_cons.mpr ⟨rfl, fun _ h => absurd h List.not_mem_nil⟩⟩⟩⟩) ?_
            exact J2225 μ2273 T2275 (mF.up mF.refl (A_148 hw) u2274 rfl) (UPg.fr h2205.1 hw T2275 rfl ((mF.up mF.refl (A_148 hw) u2274 rfl) : mF [148999] w μ2202 μ2273) rfl rfl rfl ((mG.upO mG.refl u2274 rfl) : mG [] μ2202 μ2273) (fun _ h => absurd h List.not_mem_nil))
          have h2276 : 1 ≤ z2181 ∧ z2181 ≤ 4 := (vc_X12_wrong_1 h2197 h2192)
          refine sv_aload_n (pc := 80) dX12_piece_80 rfl rfl ?_
          refine gk_X12_59 (pc := 81) dX12_piece_81 wF_X12_254 (A_106 hw) (F2179.f (A_106 hw) rfl (F1941.f (A_106 hw) rfl q_f_levels)) ?_
          refine mr_iconst (pc := 84) (z := 1) dX12_piece_84 ?_
          refine mr_isub (pc := 85) (x := f_levels) (y := 1) dX12_piece_85 ?_
          refine mr_istore (pc := 86) (lv' := [(7, iv (f_levels - 1)), (0, .ref 106), (1, jv p1), (3, jv p2), (6, iv z1967)]) dX12_piece_86 (by decide) rfl ?_
          refine sv_aload_n (pc := 88) dX12_piece_88 rfl rfl ?_
          refine sv_aload_n (pc := 89) dX12_piece_89 rfl rfl ?_
          refine gf_X12_64 (pc := 90) dX12_piece_90 wF_X12_269 (A_106 hw) T2178 ?_
          refine mr_iload (pc := 93) (z := (f_levels - 1)) dX12_piece_93 rfl ?_
          refine la_149 (pc := 95) dX12_piece_95 (A_149 hw) T2178 (rIx (n := 10) (rSub (e := 0) (f := 5) h1 (rR (x := 1)) rfl) rfl) fun z2277 q2278 h2279 => ?_
          refine mr_lload_n (pc := 96) (z := p1) dX12_piece_96 rfl rfl ?_
          refine mr_cVV (pc := 97) (c_X12_follows_u hw T2178 h2279 hp1 (F2179.f (A_106 hw) rfl (F1941.f (A_106 hw) rfl q_f_pol)) (F2179.f (A_106 hw) rfl (F1941.f (A_106 hw) rfl q_f_draft)) (vc_X12_piece_u_11 hq5 ht_f_draft ht_f_pol) (UPg.fr I1943 hw T2178 rfl ((mF.call mF.refl F2179 rfl) : mF [106033, 106034, 106035, 106036, 106037, 106038] w μ1939 μ2177) rfl rfl rfl ((mG.fr mG.refl F2179 (A_126 hw) rfl) : mG [] μ1939 μ2177) (fun _ h => absurd h List.not_mem_nil))) (gOk _ _ _ _ _) dX12_piece_97 (tX12_follows _ _ _ _ _) ⟨wV_X12_follows, wL_X12_follows⟩ wM_X12_281 (gCX12 _ _ _ _ _) rfl (A_106 hw) rfl ⟨le_t rfl, le_t rfl⟩ ⟨le_t rfl, le_t rfl⟩ rfl (le_t rfl) fun μ2280 T2281 F2282 h2283 => ?_
          refine sv_aload_n (pc := 100) dX12_piece_100 rfl rfl ?_
          refine gf_X12_65 (pc := 101) dX12_piece_101 wF_X12_272 (A_106 hw) T2281 ?_
          refine mr_iload (pc := 104) (z := (f_levels - 1)) dX12_piece_104 rfl ?_
          refine la_150 (pc := 106) dX12_piece_106 (A_150 hw) T2281 (rIx (n := 10) (rSub (e := 0) (f := 5) h1 (rR (x := 1)) rfl) rfl) fun z2284 q2285 h2286 => ?_
          have J2304 : ∀ (μ2298 : mM), (mT w μ2298) → (mF [148999] w μ2280 μ2298) → (UP l D c H0 sa μ2298) → ((1 ≤ μ2298 106 (37))) → sV (gG l D c H0 sa) mX12_piece (sRm 3 0 0) (sZ (gG l D c H0 sa) 0 0 (qV w [106033, 106034, 106035, 106036, 106037, 106038, 144999, 148999, 149999, 150999] μ (fun μ1 => ∃ o_code o_at o_from o_type o_number : Int, μ1 106 37 = o_code ∧ μ1 106 33 = o_at ∧ μ1 106 34 = o_from ∧ μ1 106 35 = o_type ∧ μ1 106 36 = o_number ∧ UP l D c H0 sa μ1 ∧ (o_code = 0 → o_from ≤ o_at) ∧ (o_code = 0 → o_type = 0 ∨ o_from + 1 ≤ o_at) ∧ (o_code = 0 → o_type = 1 → o_from + 2 ≤ o_at) ∧ (o_code = 0 → o_type = 1 → o_number = 0 ∨ o_number = 4 ∨ o_number = 5 ∨ o_from + 3 ≤ o_at) ∧ (o_code = 0 → f_code = 0) ∧ (o_code = 0 → f_from + 0 ≤ o_from) ∧ (f_code = 0 ∨ 1 ≤ o_code) ∧ True))) 121 [(0, .ref 106), (3, jv p2), (6, iv z1967), (7, iv (f_levels - 1))] [] (mk w μ2298) 0 0 := by
            intro μ2298 T2299 F2300 I2302 h2303
            have h2305 : 1 ≤ z2181 := (F2300.f (A_106 hw) rfl (F2282.f (A_106 hw) rfl q2182)) ▸ h2303
            refine sv_aload_n (pc := 121) dX12_piece_121 rfl rfl ?_
            refine gf_X12_64 (pc := 122) dX12_piece_122 wF_X12_269 (A_106 hw) T2299 ?_
            refine mr_iload (pc := 125) (z := (f_levels - 1)) dX12_piece_125 rfl ?_
            refine mr_iload (pc := 127) (z := z1967) dX12_piece_127 rfl ?_
            have J2313 : ∀ (z2311 : Int), (((-9223372036854775808) ≤ z2311 ∧ z2311 ≤ 9223372036854775807)) → sV (gG l D c H0 sa) mX12_piece (sRm 3 0 0) (sZ (gG l D c H0 sa) 0 0 (qV w [106033, 106034, 106035, 106036, 106037, 106038, 144999, 148999, 149999, 150999] μ (fun μ1 => ∃ o_code o_at o_from o_type o_number : Int, μ1 106 37 = o_code ∧ μ1 106 33 = o_at ∧ μ1 106 34 = o_from ∧ μ1 106 35 = o_type ∧ μ1 106 36 = o_number ∧ UP l D c H0 sa μ1 ∧ (o_code = 0 → o_from ≤ o_at) ∧ (o_code = 0 → o_type = 0 ∨ o_from + 1 ≤ o_at) ∧ (o_code = 0 → o_type = 1 → o_from + 2 ≤ o_at) ∧ (o_code = 0 → o_type = 1 → o_number = 0 ∨ o_number = 4 ∨ o_number = 5 ∨ o_from + 3 ≤ o_at) ∧ (o_code = 0 → f_code = 0) ∧ (o_code = 0 → f_from + 0 ≤ o_from) ∧ (f_code = 0 ∨ 1 ≤ o_code) ∧ True))) 145 [(0, .ref 106), (6, iv z1967), (7, iv (f_levels - 1))] [jv z2311, iv (f_levels - 1), .ref 149] (mk w μ2298) 0 0 := by
              intro z2311 h2312
              refine ss_149 (pc := 145) dX12_piece_145 (A_149 hw) T2299 (rIx (n := 10) (rSub (e := 0) (f := 5) h1 (rR (x := 1)) rfl) rfl) h2312 fun μ2314 u2315 T2316 => ?_
              refine sv_aload_n (pc := 146) dX12_piece_146 rfl rfl ?_
              refine gf_X12_65 (pc := 147) dX12_piece_147 wF_X12_272 (A_106 hw) T2316 ?_
              refine mr_iload (pc := 150) (z := (f_levels - 1)) dX12_piece_150 rfl ?_
              refine sv_aload_n (pc := 152) dX12_piece_152 rfl rfl ?_
              refine gf_X12_65 (pc := 153) dX12_piece_153 wF_X12_272 (A_106 hw) T2316 ?_
              refine mr_iload (pc := 156) (z := (f_levels - 1)) dX12_piece_156 rfl ?_
              refine lk_150 (pc := 158) dX12_piece_158 (A_150 hw) (rIx (n := 10) (rSub (e := 0) (f := 5) h1 (rR (x := 1)) rfl) rfl) (u2315.f (Or.inl (mAt.ne (A_149 hw) (A_150 hw) rfl)) (F2300.f (A_150 hw) rfl q2285)) ?_
              refine mr_if_eq (pc := 159) (tgt := 171) dX12_piece_159 (by decide) (r32 h2286 rfl) (fun h2321 => ?_) (fun h2321 => ?_)
              · have h2322 : 0 ≤ z2284 ∧ z2284 ≤ 0 := (vc_X12_ring_22 h2321 h2286)
                refine mr_iconst (pc := 171) (z := 0) dX12_piece_171 ?_
                refine ss_150 (pc := 172) dX12_piece_172 (A_150 hw) T2316 (rIx (n := 10) (rSub (e := 0) (f := 5) h1 (rR (x := 1)) rfl) rfl) (rW (c := 0) (d := 1) (rR (x := 0)) rfl) fun μ2323 u2324 T2325 => ?_
                exact mr_vret dX12_piece_173 rfl (le_t rfl) (le_t rfl) T2325 (mF.up (mF.up (mF.call (mF.call (mF.call (mF.call mF.refl F1941 rfl) F2179 rfl) F2282 rfl) F2300 rfl) (A_149 hw) u2315 rfl) (A_150 hw) u2324 rfl) ⟨z2181, z2183, z2185, z2187, z2189, (u2324.f (Or.inl (mAt.ne (A_150 hw) (A_106 hw) rfl)) (u2315.f (Or.inl (mAt.ne (A_149 hw) (A_106 hw) rfl)) (F2300.f (A_106 hw) rfl (F2282.f (A_106 hw) rfl q2182)))), (u2324.f (Or.inl (mAt.ne (A_150 hw) (A_106 hw) rfl)) (u2315.f (Or.inl (mAt.ne (A_149 hw) (A_106 hw) rfl)) (F2300.f (A_106 hw) rfl (F2282.f (A_106 hw) rfl q2184)))), (u2324.f (Or.inl (mAt.ne (A_150 hw) (A_106 hw) rfl)) (u2315.f (Or.inl (mAt.ne (A_149 hw) (A_106 hw) rfl)) (F2300.f (A_106 hw) rfl (F2282.f (A_106 hw) rfl q2186)))), (u2324.f (Or.inl (mAt.ne (A_150 hw) (A_106 hw) rfl)) (u2315.f (Or.inl (mAt.ne (A_149 hw) (A_106 hw) rfl)) (F2300.f (A_106 hw) rfl (F2282.f (A_106 hw) rfl q2188)))), (u2324.f (Or.inl (mAt.ne (A_150 hw) (A_106 hw) rfl)) (u2315.f (Or.inl (mAt.ne (A_149 hw) (A_106 hw) rfl)) (F2300.f (A_106 hw) rfl (F2282.f (A_106 hw) rfl q2190)))), (UPg.fr I2302 hw T2325 rfl ((mF.up (mF.up mF.refl (A_149 hw) u2315 rfl) (A_150 hw) u2324 rfl) : mF [149999, 150999] w μ2298 μ2323) rfl rfl rfl ((mG.upO (mG.upO mG.refl u2315 rfl) u2324 rfl) : mG [] μ2298 μ2323) (fun _ h => absurd h List.not_mem_nil)), (vc_X12_piece_u_25 h2197 (h2191.1 (vc_X12_sign_2 h1908)) h2305 (hq0 (vc_X12_sign_2 h1908)) ((hq1 (vc_X12_sign_2 h1908)).resolve_left (vc_X12_sign_6 h2173)) ht_f_at ht_f_from h2276 h2193 h2194), (vc_X12_piece_u_26 h2197 (h2191.1 (vc_X12_sign_2 h1908)) h2305 (hq0 (vc_X12_sign_2 h1908)) ((hq1 (vc_X12_sign_2 h1908)).resolve_left (vc_X12_sign_6 h2173)) ht_f_at ht_f_from h2276 h2193 h2194 h2195), (vc_X12_piece_u_27 h2197 (h2191.1 (vc_X12_sign_2 h1908)) h2305 (hq0 (vc_X12_sign_2 h1908)) ((hq1 (vc_X12_sign_2 h1908)).resolve_left (vc_X12_sign_6 h2173)) ht_f_at ht_f_from h2276 h2193 h2194 h2195), (vc_X12_piece_u_28 h2197 (h2191.1 (vc_X12_sign_2 h1908)) h2305 (hq0 (vc_X12_sign_2 h1908)) ((hq1 (vc_X12_sign_2 h1908)).resolve_left (vc_X12_sign_6 h2173)) ht_f_at ht_f_from h2276 h2193 h2194 h2195 h2196), (vc_X12_piece_u_58 h1907 h2171 h2197 h2305 ((h2163.resolve_left (fun h => h (vc_X12_sign_2 h1908))).resolve_left (fun h => h (vc_X12_piece_u_40 h2173))) h1908 h2172 h2173 h2276), (vc_X12_piece_u_30 (hq0 (vc_X12_sign_2 h1908)) ((hq1 (vc_X12_sign_2 h1908)).resolve_left (vc_X12_sign_6 h2173)) h2197 (h2191.1 (vc_X12_sign_2 h1908)) h2305 ht_f_at ht_f_from h2276 h2194), (vc_X12_piece_u_60 h1907 h2171 h2197 h2305 ((h2163.resolve_left (fun h => h (vc_X12_sign_2 h1908))).resolve_left (fun h => h (vc_X12_piece_u_40 h2173))) h1908 h2172 h2173 h2276), trivial⟩
              have h2326 : 1 ≤ z2284 ∧ z2284 ≤ 1 := (vc_X12_ring_24 h2321 h2286)
              refine mr_iload (pc := 162) (z := z1967) dX12_piece_162 rfl ?_
              refine mr_if_eq (pc := 164) (tgt := 171) dX12_piece_164 (by decide) (r32 h1968 rfl) (fun h2329 => ?_) (fun h2329 => ?_)
              · have h2330 : 0 ≤ z1967 ∧ z1967 ≤ 0 := (vc_X12_ring_22 h2329 h1968)
                refine mr_iconst (pc := 171) (z := 0) dX12_piece_171 ?_
                refine ss_150 (pc := 172) dX12_piece_172 (A_150 hw) T2316 (rIx (n := 10) (rSub (e := 0) (f := 5) h1 (rR (x := 1)) rfl) rfl) (rW (c := 0) (d := 1) (rR (x := 0)) rfl) fun μ2331 u2332 T2333 => ?_
                exact mr_vret dX12_piece_173 rfl (le_t rfl) (le_t rfl) T2333 (mF.up (mF.up (mF.call (mF.call (mF.call (mF.call mF.refl F1941 rfl) F2179 rfl) F2282 rfl) F2300 rfl) (A_149 hw) u2315 rfl) (A_150 hw) u2332 rfl) ⟨z2181, z2183, z2185, z2187, z2189, (u2332.f (Or.inl (mAt.ne (A_150 hw) (A_106 hw) rfl)) (u2315.f (Or.inl (mAt.ne (A_149 hw) (A_106 hw) rfl)) (F2300.f (A_106 hw) rfl (F2282.f (A_106 hw) rfl q2182)))), (u2332.f (Or.inl (mAt.ne (A_150 hw) (A_106 hw) rfl)) (u2315.f (Or.inl (mAt.ne (A_149 hw) (A_106 hw) rfl)) (F2300.f (A_106 hw) rfl (F2282.f (A_106 hw) rfl q2184)))), (u2332.f (Or.inl (mAt.ne (A_150 hw) (A_106 hw) rfl)) (u2315.f (Or.inl (mAt.ne (A_149 hw) (A_106 hw) rfl)) (F2300.f (A_106 hw) rfl (F2282.f (A_106 hw) rfl q2186)))), (u2332.f (Or.inl (mAt.ne (A_150 hw) (A_106 hw) rfl)) (u2315.f (Or.inl (mAt.ne (A_149 hw) (A_106 hw) rfl)) (F2300.f (A_106 hw) rfl (F2282.f (A_106 hw) rfl q2188)))), (u2332.f (Or.inl (mAt.ne (A_150 hw) (A_106 hw) rfl)) (u2315.f (Or.inl (mAt.ne (A_149 hw) (A_106 hw) rfl)) (F2300.f (A_106 hw) rfl (F2282.f (A_106 hw) rfl q2190)))), (UPg.fr I2302 hw T2333 rfl ((mF.up (mF.up mF.refl (A_149 hw) u2315 rfl) (A_150 hw) u2332 rfl) : mF [149999, 150999] w μ2298 μ2331) rfl rfl rfl ((mG.upO (mG.upO mG.refl u2315 rfl) u2332 rfl) : mG [] μ2298 μ2331) (fun _ h => absurd h List.not_mem_nil)), (vc_X12_piece_u_25 h2197 (h2191.1 (vc_X12_sign_2 h1908)) h2305 (hq0 (vc_X12_sign_2 h1908)) ((hq1 (vc_X12_sign_2 h1908)).resolve_left (vc_X12_sign_6 h2173)) ht_f_at ht_f_from h2276 h2193 h2194), (vc_X12_piece_u_26 h2197 (h2191.1 (vc_X12_sign_2 h1908)) h2305 (hq0 (vc_X12_sign_2 h1908)) ((hq1 (vc_X12_sign_2 h1908)).resolve_left (vc_X12_sign_6 h2173)) ht_f_at ht_f_from h2276 h2193 h2194 h2195), (vc_X12_piece_u_27 h2197 (h2191.1 (vc_X12_sign_2 h1908)) h2305 (hq0 (vc_X12_sign_2 h1908)) ((hq1 (vc_X12_sign_2 h1908)).resolve_left (vc_X12_sign_6 h2173)) ht_f_at ht_f_from h2276 h2193 h2194 h2195), (vc_X12_piece_u_28 h2197 (h2191.1 (vc_X12_sign_2 h1908)) h2305 (hq0 (vc_X12_sign_2 h1908)) ((hq1 (vc_X12_sign_2 h1908)).resolve_left (vc_X12_sign_6 h2173)) ht_f_at ht_f_from h2276 h2193 h2194 h2195 h2196), (vc_X12_piece_u_58 h1907 h2171 h2197 h2305 ((h2163.resolve_left (fun h => h (vc_X12_sign_2 h1908))).resolve_left (fun h => h (vc_X12_piece_u_40 h2173))) h1908 h2172 h2173 h2276), (vc_X12_piece_u_30 (hq0 (vc_X12_sign_2 h1908)) ((hq1 (vc_X12_sign_2 h1908)).resolve_left (vc_X12_sign_6 h2173)) h2197 (h2191.1 (vc_X12_sign_2 h1908)) h2305 ht_f_at ht_f_from h2276 h2194), (vc_X12_piece_u_60 h1907 h2171 h2197 h2305 ((h2163.resolve_left (fun h => h (vc_X12_sign_2 h1908))).resolve_left (fun h => h (vc_X12_piece_u_40 h2173))) h1908 h2172 h2173 h2276), trivial⟩
              have h2334 : 1 ≤ z1967 ∧ z1967 ≤ 1 := (vc_X12_ring_24 h2329 h1968)
              refine mr_iconst (pc := 167) (z := 1) dX12_piece_167 ?_
              refine sv_goto (pc := 168) (tgt := 172) dX12_piece_168 (by decide) ?_
              refine ss_150 (pc := 172) dX12_piece_172 (A_150 hw) T2316 (rIx (n := 10) (rSub (e := 0) (f := 5) h1 (rR (x := 1)) rfl) rfl) (rW (c := 0) (d := 1) (rR (x := 1)) rfl) fun μ2335 u2336 T2337 => ?_
              exact mr_vret dX12_piece_173 rfl (le_t rfl) (le_t rfl) T2337 (mF.up (mF.up (mF.call (mF.call (mF.call (mF.call mF.refl F1941 rfl) F2179 rfl) F2282 rfl) F2300 rfl) (A_149 hw) u2315 rfl) (A_150 hw) u2336 rfl) ⟨z2181, z2183, z2185, z2187, z2189, (u2336.f (Or.inl (mAt.ne (A_150 hw) (A_106 hw) rfl)) (u2315.f (Or.inl (mAt.ne (A_149 hw) (A_106 hw) rfl)) (F2300.f (A_106 hw) rfl (F2282.f (A_106 hw) rfl q2182)))), (u2336.f (Or.inl (mAt.ne (A_150 hw) (A_106 hw) rfl)) (u2315.f (Or.inl (mAt.ne (A_149 hw) (A_106 hw) rfl)) (F2300.f (A_106 hw) rfl (F2282.f (A_106 hw) rfl q2184)))), (u2336.f (Or.inl (mAt.ne (A_150 hw) (A_106 hw) rfl)) (u2315.f (Or.inl (mAt.ne (A_149 hw) (A_106 hw) rfl)) (F2300.f (A_106 hw) rfl (F2282.f (A_106 hw) rfl q2186)))), (u2336.f (Or.inl (mAt.ne (A_150 hw) (A_106 hw) rfl)) (u2315.f (Or.inl (mAt.ne (A_149 hw) (A_106 hw) rfl)) (F2300.f (A_106 hw) rfl (F2282.f (A_106 hw) rfl q2188)))), (u2336.f (Or.inl (mAt.ne (A_150 hw) (A_106 hw) rfl)) (u2315.f (Or.inl (mAt.ne (A_149 hw) (A_106 hw) rfl)) (F2300.f (A_106 hw) rfl (F2282.f (A_106 hw) rfl q2190)))), (UPg.fr I2302 hw T2337 rfl ((mF.up (mF.up mF.refl (A_149 hw) u2315 rfl) (A_150 hw) u2336 rfl) : mF [149999, 150999] w μ2298 μ2335) rfl rfl rfl ((mG.upO (mG.upO mG.refl u2315 rfl) u2336 rfl) : mG [] μ2298 μ2335) (fun _ h => absurd h List.not_mem_nil)), (vc_X12_piece_u_25 h2197 (h2191.1 (vc_X12_sign_2 h1908)) h2305 (hq0 (vc_X12_sign_2 h1908)) ((hq1 (vc_X12_sign_2 h1908)).resolve_left (vc_X12_sign_6 h2173)) ht_f_at ht_f_from h2276 h2193 h2194), (vc_X12_piece_u_26 h2197 (h2191.1 (vc_X12_sign_2 h1908)) h2305 (hq0 (vc_X12_sign_2 h1908)) ((hq1 (vc_X12_sign_2 h1908)).resolve_left (vc_X12_sign_6 h2173)) ht_f_at ht_f_from h2276 h2193 h2194 h2195), (vc_X12_piece_u_27 h2197 (h2191.1 (vc_X12_sign_2 h1908)) h2305 (hq0 (vc_X12_sign_2 h1908)) ((hq1 (vc_X12_sign_2 h1908)).resolve_left (vc_X12_sign_6 h2173)) ht_f_at ht_f_from h2276 h2193 h2194 h2195), (vc_X12_piece_u_28 h2197 (h2191.1 (vc_X12_sign_2 h1908)) h2305 (hq0 (vc_X12_sign_2 h1908)) ((hq1 (vc_X12_sign_2 h1908)).resolve_left (vc_X12_sign_6 h2173)) ht_f_at ht_f_from h2276 h2193 h2194 h2195 h2196), (vc_X12_piece_u_58 h1907 h2171 h2197 h2305 ((h2163.resolve_left (fun h => h (vc_X12_sign_2 h1908))).resolve_left (fun h => h (vc_X12_piece_u_40 h2173))) h1908 h2172 h2173 h2276), (vc_X12_piece_u_30 (hq0 (vc_X12_sign_2 h1908)) ((hq1 (vc_X12_sign_2 h1908)).resolve_left (vc_X12_sign_6 h2173)) h2197 (h2191.1 (vc_X12_sign_2 h1908)) h2305 ht_f_at ht_f_from h2276 h2194), (vc_X12_piece_u_60 h1907 h2171 h2197 h2305 ((h2163.resolve_left (fun h => h (vc_X12_sign_2 h1908))).resolve_left (fun h => h (vc_X12_piece_u_40 h2173))) h1908 h2172 h2173 h2276), trivial⟩
            refine mr_if_eq (pc := 129) (tgt := 144) dX12_piece_129 (by decide) (r32 h1968 rfl) (fun h2338 => ?_) (fun h2338 => ?_)
            · have h2339 : 0 ≤ z1967 ∧ z1967 ≤ 0 := (vc_X12_ring_22 h2338 h1968)
              refine mr_lload_n (pc := 144) (z := p2) dX12_piece_144 rfl rfl ?_
              refine mr_lvS (lv' := [(0, .ref 106), (6, iv z1967), (7, iv (f_levels - 1))]) (List.forall_mem_cons.mpr ⟨rfl, List.forall_mem_cons.mpr ⟨rfl, List.forall_mem_cons.mpr ⟨rfl, fun _ h => absurd h List.not_mem_nil⟩⟩⟩) ?_
              exact J2313 p2 hp2
            have h2340 : 1 ≤ z1967 ∧ z1967 ≤ 1 := (vc_X12_ring_24 h2338 h1968)
            refine sv_aload_n (pc := 132) dX12_piece_132 rfl rfl ?_
            refine gf_X12_64 (pc := 133) dX12_piece_133 wF_X12_269 (A_106 hw) T2299 ?_
            refine mr_iload (pc := 136) (z := (f_levels - 1)) dX12_piece_136 rfl ?_
            refine lk_149 (pc := 138) dX12_piece_138 (A_149 hw) (rIx (n := 10) (rSub (e := 0) (f := 5) h1 (rR (x := 1)) rfl) rfl) (F2300.f (A_149 hw) rfl (F2282.f (A_149 hw) rfl q2278)) ?_
            refine mr_lload_n (pc := 139) (z := p2) dX12_piece_139 rfl rfl ?_
            refine mr_lor (pc := 140) dX12_piece_140 ?_
            refine mr_genL (r64i _) fun z2341 q2342 h2343 => ?_
            refine sv_goto (pc := 141) (tgt := 145) dX12_piece_141 (by decide) ?_
            refine mr_lvS (lv' := [(0, .ref 106), (6, iv z1967), (7, iv (f_levels - 1))]) (List.forall_mem_cons.mpr ⟨rfl, List.forall_mem_cons.mpr ⟨rfl, List.forall_mem_cons.mpr ⟨rfl, fun _ h => absurd h List.not_mem_nil⟩⟩⟩) ?_
            exact J2313 z2341 h2343
          refine mr_if_eq (pc := 107) (tgt := 121) dX12_piece_107 (by decide) (r32 h2286 rfl) (fun h2344 => ?_) (fun h2344 => ?_)
          · have h2345 : 0 ≤ z2284 ∧ z2284 ≤ 0 := (vc_X12_ring_22 h2344 h2286)
            refine mr_lvS (lv' := [(0, .ref 106), (3, jv p2), (6, iv z1967), (7, iv (f_levels - 1))]) (List.forall_mem_cons.mpr ⟨rfl, List.forall_mem_cons.mpr ⟨rfl, List.forall_mem_cons.mpr ⟨rfl, List.forall_mem_cons.mpr ⟨rfl, fun _ h => absurd h List.not_mem_nil⟩⟩⟩⟩) ?_
            exact J2304 μ2280 T2281 mF.refl h2283.1 (by rw [(F2282.f (A_106 hw) rfl q2182)]; exact (vc_X12_wrong_2 h2197 h2276))
          have h2346 : 1 ≤ z2284 ∧ z2284 ≤ 1 := (vc_X12_ring_24 h2344 h2286)
          refine sv_aload_n (pc := 110) dX12_piece_110 rfl rfl ?_
          refine gf_X12_63 (pc := 111) dX12_piece_111 wF_X12_266 (A_106 hw) T2281 ?_
          refine mr_iload (pc := 114) (z := (f_levels - 1)) dX12_piece_114 rfl ?_
          refine sv_dup2 (pc := 116) dX12_piece_116 rfl rfl ?_
          refine la_148 (pc := 117) dX12_piece_117 (A_148 hw) T2281 (rIx (n := 10) (rSub (e := 0) (f := 5) h1 (rR (x := 1)) rfl) rfl) fun z2347 q2348 h2349 => ?_
          refine mr_lload_n (pc := 118) (z := p1) dX12_piece_118 rfl rfl ?_
          refine mr_lor (pc := 119) dX12_piece_119 ?_
          refine mr_genL (r64i _) fun z2350 q2351 h2352 => ?_
          refine ss_148 (pc := 120) dX12_piece_120 (A_148 hw) T2281 (rIx (n := 10) (rSub (e := 0) (f := 5) h1 (rR (x := 1)) rfl) rfl) h2352 fun μ2353 u2354 T2355 => ?_
          refine mr_lvS (lv' := [(0, .ref 106), (3, jv p2), (6, iv z1967), (7, iv (f_levels - 1))]) (List.forall_mem_cons.mpr ⟨rfl, List.forall_mem_cons.mpr ⟨rfl, List.forall_mem_cons.mpr ⟨rfl, List.forall_mem_cons.mpr ⟨rfl, fun _ h => absurd h List.not_mem_nil⟩⟩⟩⟩) ?_
          exact J2304 μ2353 T2355 (mF.up mF.refl (A_148 hw) u2354 rfl) (UPg.fr h2283.1 hw T2355 rfl ((mF.up mF.refl (A_148 hw) u2354 rfl) : mF [148999] w μ2280 μ2353) rfl rfl rfl ((mG.upO mG.refl u2354 rfl) : mG [] μ2280 μ2353) (fun _ h => absurd h List.not_mem_nil)) (by rw [(u2354.f (Or.inl (mAt.ne (A_148 hw) (A_106 hw) rfl)) (F2282.f (A_106 hw) rfl q2182))]; exact (vc_X12_wrong_2 h2197 h2276))
        have h2356 : 0 ≤ z2168 ∧ z2168 ≤ 0 := (vc_X12_ring_22 h2169 h2167.1)
        have h2357 : ¬ f_code = 0 ∨ ¬ f_type = 3 ∨ ¬ f_number = (43 : Int) := (h2167.2.2.1 (vc_X12_goes_7 h2169 h2356))
        refine sv_aload_n (pc := 67) dX12_piece_67 rfl rfl ?_
        refine mr_bipush (pc := 68) (z := 63) dX12_piece_68 (by decide) ?_
        refine mr_cVP (pc := 70) (c_X12_isSign hw T1940 (rW (c := (-2147483648)) (d := 2147483647) (rR (x := 63)) rfl) (F1941.f (A_106 hw) rfl q_f_code) (F1941.f (A_106 hw) rfl q_f_type) (F1941.f (A_106 hw) rfl q_f_number)) (gOk _ _ _ _ _) dX12_piece_70 (tX12_isSign _ _ _ _ _) ⟨wV_X12_isSign, wL_X12_isSign⟩ wM_X12_244 (gCX12 _ _ _ _ _) rfl (A_106 hw) rfl ⟨le_t rfl, le_t rfl⟩ ⟨le_t rfl, le_t rfl⟩ rfl (le_t rfl) fun z2362 h2361 => ?_
        refine mr_if_eq (pc := 73) (tgt := 80) dX12_piece_73 (by decide) (r32 h2361.1 rfl) (fun h2363 => ?_) (fun h2363 => ?_)
        · have h2364 : 0 ≤ z2362 ∧ z2362 ≤ 0 := (vc_X12_ring_22 h2363 h2361.1)
          have h2365 : ¬ f_code = 0 ∨ ¬ f_type = 3 ∨ ¬ f_number = (63 : Int) := (h2361.2.2.1 (vc_X12_goes_7 h2363 h2364))
          refine sv_aload_n (pc := 80) dX12_piece_80 rfl rfl ?_
          refine gk_X12_59 (pc := 81) dX12_piece_81 wF_X12_254 (A_106 hw) (F1941.f (A_106 hw) rfl q_f_levels) ?_
          refine mr_iconst (pc := 84) (z := 1) dX12_piece_84 ?_
          refine mr_isub (pc := 85) (x := f_levels) (y := 1) dX12_piece_85 ?_
          refine mr_istore (pc := 86) (lv' := [(7, iv (f_levels - 1)), (0, .ref 106), (1, jv p1), (3, jv p2), (6, iv z1967)]) dX12_piece_86 (by decide) rfl ?_
          refine sv_aload_n (pc := 88) dX12_piece_88 rfl rfl ?_
          refine sv_aload_n (pc := 89) dX12_piece_89 rfl rfl ?_
          refine gf_X12_64 (pc := 90) dX12_piece_90 wF_X12_269 (A_106 hw) T1940 ?_
          refine mr_iload (pc := 93) (z := (f_levels - 1)) dX12_piece_93 rfl ?_
          refine la_149 (pc := 95) dX12_piece_95 (A_149 hw) T1940 (rIx (n := 10) (rSub (e := 0) (f := 5) h1 (rR (x := 1)) rfl) rfl) fun z2366 q2367 h2368 => ?_
          refine mr_lload_n (pc := 96) (z := p1) dX12_piece_96 rfl rfl ?_
          refine mr_cVV (pc := 97) (c_X12_follows_u hw T1940 h2368 hp1 (F1941.f (A_106 hw) rfl q_f_pol) (F1941.f (A_106 hw) rfl q_f_draft) (vc_X12_piece_u_11 hq5 ht_f_draft ht_f_pol) I1943) (gOk _ _ _ _ _) dX12_piece_97 (tX12_follows _ _ _ _ _) ⟨wV_X12_follows, wL_X12_follows⟩ wM_X12_281 (gCX12 _ _ _ _ _) rfl (A_106 hw) rfl ⟨le_t rfl, le_t rfl⟩ ⟨le_t rfl, le_t rfl⟩ rfl (le_t rfl) fun μ2369 T2370 F2371 h2372 => ?_
          refine sv_aload_n (pc := 100) dX12_piece_100 rfl rfl ?_
          refine gf_X12_65 (pc := 101) dX12_piece_101 wF_X12_272 (A_106 hw) T2370 ?_
          refine mr_iload (pc := 104) (z := (f_levels - 1)) dX12_piece_104 rfl ?_
          refine la_150 (pc := 106) dX12_piece_106 (A_150 hw) T2370 (rIx (n := 10) (rSub (e := 0) (f := 5) h1 (rR (x := 1)) rfl) rfl) fun z2373 q2374 h2375 => ?_
          have J2392 : ∀ (μ2387 : mM), (mT w μ2387) → (mF [148999] w μ2369 μ2387) → (UP l D c H0 sa μ2387) → sV (gG l D c H0 sa) mX12_piece (sRm 3 0 0) (sZ (gG l D c H0 sa) 0 0 (qV w [106033, 106034, 106035, 106036, 106037, 106038, 144999, 148999, 149999, 150999] μ (fun μ1 => ∃ o_code o_at o_from o_type o_number : Int, μ1 106 37 = o_code ∧ μ1 106 33 = o_at ∧ μ1 106 34 = o_from ∧ μ1 106 35 = o_type ∧ μ1 106 36 = o_number ∧ UP l D c H0 sa μ1 ∧ (o_code = 0 → o_from ≤ o_at) ∧ (o_code = 0 → o_type = 0 ∨ o_from + 1 ≤ o_at) ∧ (o_code = 0 → o_type = 1 → o_from + 2 ≤ o_at) ∧ (o_code = 0 → o_type = 1 → o_number = 0 ∨ o_number = 4 ∨ o_number = 5 ∨ o_from + 3 ≤ o_at) ∧ (o_code = 0 → f_code = 0) ∧ (o_code = 0 → f_from + 0 ≤ o_from) ∧ (f_code = 0 ∨ 1 ≤ o_code) ∧ True))) 121 [(0, .ref 106), (3, jv p2), (6, iv z1967), (7, iv (f_levels - 1))] [] (mk w μ2387) 0 0 := by
            intro μ2387 T2388 F2389 I2391
            refine sv_aload_n (pc := 121) dX12_piece_121 rfl rfl ?_
            refine gf_X12_64 (pc := 122) dX12_piece_122 wF_X12_269 (A_106 hw) T2388 ?_
            refine mr_iload (pc := 125) (z := (f_levels - 1)) dX12_piece_125 rfl ?_
            refine mr_iload (pc := 127) (z := z1967) dX12_piece_127 rfl ?_
            have J2400 : ∀ (z2398 : Int), (((-9223372036854775808) ≤ z2398 ∧ z2398 ≤ 9223372036854775807)) → sV (gG l D c H0 sa) mX12_piece (sRm 3 0 0) (sZ (gG l D c H0 sa) 0 0 (qV w [106033, 106034, 106035, 106036, 106037, 106038, 144999, 148999, 149999, 150999] μ (fun μ1 => ∃ o_code o_at o_from o_type o_number : Int, μ1 106 37 = o_code ∧ μ1 106 33 = o_at ∧ μ1 106 34 = o_from ∧ μ1 106 35 = o_type ∧ μ1 106 36 = o_number ∧ UP l D c H0 sa μ1 ∧ (o_code = 0 → o_from ≤ o_at) ∧ (o_code = 0 → o_type = 0 ∨ o_from + 1 ≤ o_at) ∧ (o_code = 0 → o_type = 1 → o_from + 2 ≤ o_at) ∧ (o_code = 0 → o_type = 1 → o_number = 0 ∨ o_number = 4 ∨ o_number = 5 ∨ o_from + 3 ≤ o_at) ∧ (o_code = 0 → f_code = 0) ∧ (o_code = 0 → f_from + 0 ≤ o_from) ∧ (f_code = 0 ∨ 1 ≤ o_code) ∧ True))) 145 [(0, .ref 106), (6, iv z1967), (7, iv (f_levels - 1))] [jv z2398, iv (f_levels - 1), .ref 149] (mk w μ2387) 0 0 := by
              intro z2398 h2399
              refine ss_149 (pc := 145) dX12_piece_145 (A_149 hw) T2388 (rIx (n := 10) (rSub (e := 0) (f := 5) h1 (rR (x := 1)) rfl) rfl) h2399 fun μ2401 u2402 T2403 => ?_
              refine sv_aload_n (pc := 146) dX12_piece_146 rfl rfl ?_
              refine gf_X12_65 (pc := 147) dX12_piece_147 wF_X12_272 (A_106 hw) T2403 ?_
              refine mr_iload (pc := 150) (z := (f_levels - 1)) dX12_piece_150 rfl ?_
              refine sv_aload_n (pc := 152) dX12_piece_152 rfl rfl ?_
              refine gf_X12_65 (pc := 153) dX12_piece_153 wF_X12_272 (A_106 hw) T2403 ?_
              refine mr_iload (pc := 156) (z := (f_levels - 1)) dX12_piece_156 rfl ?_
              refine lk_150 (pc := 158) dX12_piece_158 (A_150 hw) (rIx (n := 10) (rSub (e := 0) (f := 5) h1 (rR (x := 1)) rfl) rfl) (u2402.f (Or.inl (mAt.ne (A_149 hw) (A_150 hw) rfl)) (F2389.f (A_150 hw) rfl q2374)) ?_
              refine mr_if_eq (pc := 159) (tgt := 171) dX12_piece_159 (by decide) (r32 h2375 rfl) (fun h2408 => ?_) (fun h2408 => ?_)
              · have h2409 : 0 ≤ z2373 ∧ z2373 ≤ 0 := (vc_X12_ring_22 h2408 h2375)
                refine mr_iconst (pc := 171) (z := 0) dX12_piece_171 ?_
                refine ss_150 (pc := 172) dX12_piece_172 (A_150 hw) T2403 (rIx (n := 10) (rSub (e := 0) (f := 5) h1 (rR (x := 1)) rfl) rfl) (rW (c := 0) (d := 1) (rR (x := 0)) rfl) fun μ2410 u2411 T2412 => ?_
                exact mr_vret dX12_piece_173 rfl (le_t rfl) (le_t rfl) T2412 (mF.up (mF.up (mF.call (mF.call (mF.call mF.refl F1941 rfl) F2371 rfl) F2389 rfl) (A_149 hw) u2402 rfl) (A_150 hw) u2411 rfl) ⟨f_code, f_at, f_from, f_type, f_number, (u2411.f (Or.inl (mAt.ne (A_150 hw) (A_106 hw) rfl)) (u2402.f (Or.inl (mAt.ne (A_149 hw) (A_106 hw) rfl)) (F2389.f (A_106 hw) rfl (F2371.f (A_106 hw) rfl (F1941.f (A_106 hw) rfl q_f_code))))), (u2411.f (Or.inl (mAt.ne (A_150 hw) (A_106 hw) rfl)) (u2402.f (Or.inl (mAt.ne (A_149 hw) (A_106 hw) rfl)) (F2389.f (A_106 hw) rfl (F2371.f (A_106 hw) rfl (F1941.f (A_106 hw) rfl q_f_at))))), (u2411.f (Or.inl (mAt.ne (A_150 hw) (A_106 hw) rfl)) (u2402.f (Or.inl (mAt.ne (A_149 hw) (A_106 hw) rfl)) (F2389.f (A_106 hw) rfl (F2371.f (A_106 hw) rfl (F1941.f (A_106 hw) rfl q_f_from))))), (u2411.f (Or.inl (mAt.ne (A_150 hw) (A_106 hw) rfl)) (u2402.f (Or.inl (mAt.ne (A_149 hw) (A_106 hw) rfl)) (F2389.f (A_106 hw) rfl (F2371.f (A_106 hw) rfl (F1941.f (A_106 hw) rfl q_f_type))))), (u2411.f (Or.inl (mAt.ne (A_150 hw) (A_106 hw) rfl)) (u2402.f (Or.inl (mAt.ne (A_149 hw) (A_106 hw) rfl)) (F2389.f (A_106 hw) rfl (F2371.f (A_106 hw) rfl (F1941.f (A_106 hw) rfl q_f_number))))), (UPg.fr I2391 hw T2412 rfl ((mF.up (mF.up mF.refl (A_149 hw) u2402 rfl) (A_150 hw) u2411 rfl) : mF [149999, 150999] w μ2387 μ2410) rfl rfl rfl ((mG.upO (mG.upO mG.refl u2402 rfl) u2411 rfl) : mG [] μ2387 μ2410) (fun _ h => absurd h List.not_mem_nil)), (vc_X12_addressRead_105 h1907 (hq0 (vc_X12_sign_2 h1908)) ht_f_at h1908 ht_f_from), (vc_X12_addressRead_106 h1907 (hq0 (vc_X12_sign_2 h1908)) (hq1 (vc_X12_sign_2 h1908)) (hq2 (vc_X12_sign_2 h1908)) ht_f_at h1908 ht_f_from ht_f_type), (vc_X12_addressRead_107 h1907 (hq0 (vc_X12_sign_2 h1908)) (hq1 (vc_X12_sign_2 h1908)) (hq2 (vc_X12_sign_2 h1908)) ht_f_at h1908 ht_f_from ht_f_type), (vc_X12_piece_u_71 h1907 (hq0 (vc_X12_sign_2 h1908)) (hq1 (vc_X12_sign_2 h1908)) (hq2 (vc_X12_sign_2 h1908)) (hq3 (vc_X12_sign_2 h1908)) (h2163.resolve_left (fun h => h (vc_X12_sign_2 h1908))) (h2357.resolve_left (fun h => h (vc_X12_sign_2 h1908))) (h2365.resolve_left (fun h => h (vc_X12_sign_2 h1908))) ht_f_at h1908 ht_f_from ht_f_number ht_f_type), (vc_X12_next_14 h1907 h1908), (vc_X12_piece_u_73 h1907 (hq0 (vc_X12_sign_2 h1908)) ht_f_at h1908 ht_f_from), (vc_X12_next_15 h1907 h1908), trivial⟩
              have h2413 : 1 ≤ z2373 ∧ z2373 ≤ 1 := (vc_X12_ring_24 h2408 h2375)
              refine mr_iload (pc := 162) (z := z1967) dX12_piece_162 rfl ?_
              refine mr_if_eq (pc := 164) (tgt := 171) dX12_piece_164 (by decide) (r32 h1968 rfl) (fun h2416 => ?_) (fun h2416 => ?_)
              · have h2417 : 0 ≤ z1967 ∧ z1967 ≤ 0 := (vc_X12_ring_22 h2416 h1968)
                refine mr_iconst (pc := 171) (z := 0) dX12_piece_171 ?_
                refine ss_150 (pc := 172) dX12_piece_172 (A_150 hw) T2403 (rIx (n := 10) (rSub (e := 0) (f := 5) h1 (rR (x := 1)) rfl) rfl) (rW (c := 0) (d := 1) (rR (x := 0)) rfl) fun μ2418 u2419 T2420 => ?_
                exact mr_vret dX12_piece_173 rfl (le_t rfl) (le_t rfl) T2420 (mF.up (mF.up (mF.call (mF.call (mF.call mF.refl F1941 rfl) F2371 rfl) F2389 rfl) (A_149 hw) u2402 rfl) (A_150 hw) u2419 rfl) ⟨f_code, f_at, f_from, f_type, f_number, (u2419.f (Or.inl (mAt.ne (A_150 hw) (A_106 hw) rfl)) (u2402.f (Or.inl (mAt.ne (A_149 hw) (A_106 hw) rfl)) (F2389.f (A_106 hw) rfl (F2371.f (A_106 hw) rfl (F1941.f (A_106 hw) rfl q_f_code))))), (u2419.f (Or.inl (mAt.ne (A_150 hw) (A_106 hw) rfl)) (u2402.f (Or.inl (mAt.ne (A_149 hw) (A_106 hw) rfl)) (F2389.f (A_106 hw) rfl (F2371.f (A_106 hw) rfl (F1941.f (A_106 hw) rfl q_f_at))))), (u2419.f (Or.inl (mAt.ne (A_150 hw) (A_106 hw) rfl)) (u2402.f (Or.inl (mAt.ne (A_149 hw) (A_106 hw) rfl)) (F2389.f (A_106 hw) rfl (F2371.f (A_106 hw) rfl (F1941.f (A_106 hw) rfl q_f_from))))), (u2419.f (Or.inl (mAt.ne (A_150 hw) (A_106 hw) rfl)) (u2402.f (Or.inl (mAt.ne (A_149 hw) (A_106 hw) rfl)) (F2389.f (A_106 hw) rfl (F2371.f (A_106 hw) rfl (F1941.f (A_106 hw) rfl q_f_type))))), (u2419.f (Or.inl (mAt.ne (A_150 hw) (A_106 hw) rfl)) (u2402.f (Or.inl (mAt.ne (A_149 hw) (A_106 hw) rfl)) (F2389.f (A_106 hw) rfl (F2371.f (A_106 hw) rfl (F1941.f (A_106 hw) rfl q_f_number))))), (UPg.fr I2391 hw T2420 rfl ((mF.up (mF.up mF.refl (A_149 hw) u2402 rfl) (A_150 hw) u2419 rfl) : mF [149999, 150999] w μ2387 μ2418) rfl rfl rfl ((mG.upO (mG.upO mG.refl u2402 rfl) u2419 rfl) : mG [] μ2387 μ2418) (fun _ h => absurd h List.not_mem_nil)), (vc_X12_addressRead_105 h1907 (hq0 (vc_X12_sign_2 h1908)) ht_f_at h1908 ht_f_from), (vc_X12_addressRead_106 h1907 (hq0 (vc_X12_sign_2 h1908)) (hq1 (vc_X12_sign_2 h1908)) (hq2 (vc_X12_sign_2 h1908)) ht_f_at h1908 ht_f_from ht_f_type), (vc_X12_addressRead_107 h1907 (hq0 (vc_X12_sign_2 h1908)) (hq1 (vc_X12_sign_2 h1908)) (hq2 (vc_X12_sign_2 h1908)) ht_f_at h1908 ht_f_from ht_f_type), (vc_X12_piece_u_71 h1907 (hq0 (vc_X12_sign_2 h1908)) (hq1 (vc_X12_sign_2 h1908)) (hq2 (vc_X12_sign_2 h1908)) (hq3 (vc_X12_sign_2 h1908)) (h2163.resolve_left (fun h => h (vc_X12_sign_2 h1908))) (h2357.resolve_left (fun h => h (vc_X12_sign_2 h1908))) (h2365.resolve_left (fun h => h (vc_X12_sign_2 h1908))) ht_f_at h1908 ht_f_from ht_f_number ht_f_type), (vc_X12_next_14 h1907 h1908), (vc_X12_piece_u_73 h1907 (hq0 (vc_X12_sign_2 h1908)) ht_f_at h1908 ht_f_from), (vc_X12_next_15 h1907 h1908), trivial⟩
              have h2421 : 1 ≤ z1967 ∧ z1967 ≤ 1 := (vc_X12_ring_24 h2416 h1968)
              refine mr_iconst (pc := 167) (z := 1) dX12_piece_167 ?_
              refine sv_goto (pc := 168) (tgt := 172) dX12_piece_168 (by decide) ?_
              refine ss_150 (pc := 172) dX12_piece_172 (A_150 hw) T2403 (rIx (n := 10) (rSub (e := 0) (f := 5) h1 (rR (x := 1)) rfl) rfl) (rW (c := 0) (d := 1) (rR (x := 1)) rfl) fun μ2422 u2423 T2424 => ?_
              exact mr_vret dX12_piece_173 rfl (le_t rfl) (le_t rfl) T2424 (mF.up (mF.up (mF.call (mF.call (mF.call mF.refl F1941 rfl) F2371 rfl) F2389 rfl) (A_149 hw) u2402 rfl) (A_150 hw) u2423 rfl) ⟨f_code, f_at, f_from, f_type, f_number, (u2423.f (Or.inl (mAt.ne (A_150 hw) (A_106 hw) rfl)) (u2402.f (Or.inl (mAt.ne (A_149 hw) (A_106 hw) rfl)) (F2389.f (A_106 hw) rfl (F2371.f (A_106 hw) rfl (F1941.f (A_106 hw) rfl q_f_code))))), (u2423.f (Or.inl (mAt.ne (A_150 hw) (A_106 hw) rfl)) (u2402.f (Or.inl (mAt.ne (A_149 hw) (A_106 hw) rfl)) (F2389.f (A_106 hw) rfl (F2371.f (A_106 hw) rfl (F1941.f (A_106 hw) rfl q_f_at))))), (u2423.f (Or.inl (mAt.ne (A_150 hw) (A_106 hw) rfl)) (u2402.f (Or.inl (mAt.ne (A_149 hw) (A_106 hw) rfl)) (F2389.f (A_106 hw) rfl (F2371.f (A_106 hw) rfl (F1941.f (A_106 hw) rfl q_f_from))))), (u2423.f (Or.inl (mAt.ne (A_150 hw) (A_106 hw) rfl)) (u2402.f (Or.inl (mAt.ne (A_149 hw) (A_106 hw) rfl)) (F2389.f (A_106 hw) rfl (F2371.f (A_106 hw) rfl (F1941.f (A_106 hw) rfl q_f_type))))), (u2423.f (Or.inl (mAt.ne (A_150 hw) (A_106 hw) rfl)) (u2402.f (Or.inl (mAt.ne (A_149 hw) (A_106 hw) rfl)) (F2389.f (A_106 hw) rfl (F2371.f (A_106 hw) rfl (F1941.f (A_106 hw) rfl q_f_number))))), (UPg.fr I2391 hw T2424 rfl ((mF.up (mF.up mF.refl (A_149 hw) u2402 rfl) (A_150 hw) u2423 rfl) : mF [149999, 150999] w μ2387 μ2422) rfl rfl rfl ((mG.upO (mG.upO mG.refl u2402 rfl) u2423 rfl) : mG [] μ2387 μ2422) (fun _ h => absurd h List.not_mem_nil)), (vc_X12_addressRead_105 h1907 (hq0 (vc_X12_sign_2 h1908)) ht_f_at h1908 ht_f_from), (vc_X12_addressRead_106 h1907 (hq0 (vc_X12_sign_2 h1908)) (hq1 (vc_X12_sign_2 h1908)) (hq2 (vc_X12_sign_2 h1908)) ht_f_at h1908 ht_f_from ht_f_type), (vc_X12_addressRead_107 h1907 (hq0 (vc_X12_sign_2 h1908)) (hq1 (vc_X12_sign_2 h1908)) (hq2 (vc_X12_sign_2 h1908)) ht_f_at h1908 ht_f_from ht_f_type), (vc_X12_piece_u_71 h1907 (hq0 (vc_X12_sign_2 h1908)) (hq1 (vc_X12_sign_2 h1908)) (hq2 (vc_X12_sign_2 h1908)) (hq3 (vc_X12_sign_2 h1908)) (h2163.resolve_left (fun h => h (vc_X12_sign_2 h1908))) (h2357.resolve_left (fun h => h (vc_X12_sign_2 h1908))) (h2365.resolve_left (fun h => h (vc_X12_sign_2 h1908))) ht_f_at h1908 ht_f_from ht_f_number ht_f_type), (vc_X12_next_14 h1907 h1908), (vc_X12_piece_u_73 h1907 (hq0 (vc_X12_sign_2 h1908)) ht_f_at h1908 ht_f_from), (vc_X12_next_15 h1907 h1908), trivial⟩
            refine mr_if_eq (pc := 129) (tgt := 144) dX12_piece_129 (by decide) (r32 h1968 rfl) (fun h2425 => ?_) (fun h2425 => ?_)
            · have h2426 : 0 ≤ z1967 ∧ z1967 ≤ 0 := (vc_X12_ring_22 h2425 h1968)
              refine mr_lload_n (pc := 144) (z := p2) dX12_piece_144 rfl rfl ?_
              refine mr_lvS (lv' := [(0, .ref 106), (6, iv z1967), (7, iv (f_levels - 1))]) (List.forall_mem_cons.mpr ⟨rfl, List.forall_mem_cons.mpr ⟨rfl, List.forall_mem_cons.mpr ⟨rfl, fun _ h => absurd h List.not_mem_nil⟩⟩⟩) ?_
              exact J2400 p2 hp2
            have h2427 : 1 ≤ z1967 ∧ z1967 ≤ 1 := (vc_X12_ring_24 h2425 h1968)
            refine sv_aload_n (pc := 132) dX12_piece_132 rfl rfl ?_
            refine gf_X12_64 (pc := 133) dX12_piece_133 wF_X12_269 (A_106 hw) T2388 ?_
            refine mr_iload (pc := 136) (z := (f_levels - 1)) dX12_piece_136 rfl ?_
            refine lk_149 (pc := 138) dX12_piece_138 (A_149 hw) (rIx (n := 10) (rSub (e := 0) (f := 5) h1 (rR (x := 1)) rfl) rfl) (F2389.f (A_149 hw) rfl (F2371.f (A_149 hw) rfl q2367)) ?_
            refine mr_lload_n (pc := 139) (z := p2) dX12_piece_139 rfl rfl ?_
            refine mr_lor (pc := 140) dX12_piece_140 ?_
            refine mr_genL (r64i _) fun z2428 q2429 h2430 => ?_
            refine sv_goto (pc := 141) (tgt := 145) dX12_piece_141 (by decide) ?_
            refine mr_lvS (lv' := [(0, .ref 106), (6, iv z1967), (7, iv (f_levels - 1))]) (List.forall_mem_cons.mpr ⟨rfl, List.forall_mem_cons.mpr ⟨rfl, List.forall_mem_cons.mpr ⟨rfl, fun _ h => absurd h List.not_mem_nil⟩⟩⟩) ?_
            exact J2400 z2428 h2430
          refine mr_if_eq (pc := 107) (tgt := 121) dX12_piece_107 (by decide) (r32 h2375 rfl) (fun h2431 => ?_) (fun h2431 => ?_)
          · have h2432 : 0 ≤ z2373 ∧ z2373 ≤ 0 := (vc_X12_ring_22 h2431 h2375)
            refine mr_lvS (lv' := [(0, .ref 106), (3, jv p2), (6, iv z1967), (7, iv (f_levels - 1))]) (List.forall_mem_cons.mpr ⟨rfl, List.forall_mem_cons.mpr ⟨rfl, List.forall_mem_cons.mpr ⟨rfl, List.forall_mem_cons.mpr ⟨rfl, fun _ h => absurd h List.not_mem_nil⟩⟩⟩⟩) ?_
            exact J2392 μ2369 T2370 mF.refl h2372.1
          have h2433 : 1 ≤ z2373 ∧ z2373 ≤ 1 := (vc_X12_ring_24 h2431 h2375)
          refine sv_aload_n (pc := 110) dX12_piece_110 rfl rfl ?_
          refine gf_X12_63 (pc := 111) dX12_piece_111 wF_X12_266 (A_106 hw) T2370 ?_
          refine mr_iload (pc := 114) (z := (f_levels - 1)) dX12_piece_114 rfl ?_
          refine sv_dup2 (pc := 116) dX12_piece_116 rfl rfl ?_
          refine la_148 (pc := 117) dX12_piece_117 (A_148 hw) T2370 (rIx (n := 10) (rSub (e := 0) (f := 5) h1 (rR (x := 1)) rfl) rfl) fun z2434 q2435 h2436 => ?_
          refine mr_lload_n (pc := 118) (z := p1) dX12_piece_118 rfl rfl ?_
          refine mr_lor (pc := 119) dX12_piece_119 ?_
          refine mr_genL (r64i _) fun z2437 q2438 h2439 => ?_
          refine ss_148 (pc := 120) dX12_piece_120 (A_148 hw) T2370 (rIx (n := 10) (rSub (e := 0) (f := 5) h1 (rR (x := 1)) rfl) rfl) h2439 fun μ2440 u2441 T2442 => ?_
          refine mr_lvS (lv' := [(0, .ref 106), (3, jv p2), (6, iv z1967), (7, iv (f_levels - 1))]) (List.forall_mem_cons.mpr ⟨rfl, List.forall_mem_cons.mpr ⟨rfl, List.forall_mem_cons.mpr ⟨rfl, List.forall_mem_cons.mpr ⟨rfl, fun _ h => absurd h List.not_mem_nil⟩⟩⟩⟩) ?_
          exact J2392 μ2440 T2442 (mF.up mF.refl (A_148 hw) u2441 rfl) (UPg.fr h2372.1 hw T2442 rfl ((mF.up mF.refl (A_148 hw) u2441 rfl) : mF [148999] w μ2369 μ2440) rfl rfl rfl ((mG.upO mG.refl u2441 rfl) : mG [] μ2369 μ2440) (fun _ h => absurd h List.not_mem_nil))
        have h2443 : 1 ≤ z2362 ∧ z2362 ≤ 1 := (vc_X12_ring_24 h2363 h2361.1)
        have h2444 : f_code = 0 ∧ f_type = 3 ∧ f_number = (63 : Int) := (h2361.2.1 (vc_X12_best_l_18 h2363 h2443))
        have h2445 : 63 ≤ f_number ∧ f_number ≤ 63 := (vc_X12_piece_u_78 h2444 h1907 (h2163.resolve_left (fun h => h (vc_X12_sign_2 h1908))) (h2357.resolve_left (fun h => h (vc_X12_sign_2 h1908))) h1908 ht_f_number ht_f_type)
        have h2446 : 3 ≤ f_type ∧ f_type ≤ 3 := (vc_X12_piece_u_79 h2444 h1907 (h2163.resolve_left (fun h => h (vc_X12_sign_2 h1908))) (h2357.resolve_left (fun h => h (vc_X12_sign_2 h1908))) h1908 h2445 ht_f_type)
        refine sv_aload_n (pc := 76) dX12_piece_76 rfl rfl ?_
        obtain ⟨z2447, q2448⟩ : ∃ z, μ1939 106 1 = z := ⟨_, rfl⟩
        have h2449 : (0 ≤ z2447 ∧ z2447 ≤ 1000) := by rw [← q2448]; exact T1940 106 106 (A_106 hw) 1
        refine mr_cVV (pc := 77) (c_X12_next hw T1940 (F1941.f (A_106 hw) rfl q_f_code) (F1941.f (A_106 hw) rfl q_f_at) q2448) (gOk _ _ _ _ _) dX12_piece_77 (tX12_next _ _ _ _ _) ⟨wV_X12_next, wL_X12_next⟩ wM_X12_247 (gCX12 _ _ _ _ _) rfl (A_106 hw) rfl ⟨le_t rfl, le_t rfl⟩ ⟨le_t rfl, le_t rfl⟩ rfl (le_t rfl) fun μ2450 T2451 F2452 h2453 => ?_
        obtain ⟨z2454, z2456, z2458, z2460, z2462, q2455, q2457, q2459, q2461, q2463, h2464⟩ := h2453
        have h2465 : (0 ≤ z2454 ∧ z2454 ≤ 4) := by rw [← q2455]; exact T2451 106 106 (A_106 hw) 37
        have h2466 : (0 ≤ z2456 ∧ z2456 ≤ 1000) := by rw [← q2457]; exact T2451 106 106 (A_106 hw) 33
        have h2467 : (0 ≤ z2458 ∧ z2458 ≤ 1000) := by rw [← q2459]; exact T2451 106 106 (A_106 hw) 34
        have h2468 : (0 ≤ z2460 ∧ z2460 ≤ 3) := by rw [← q2461]; exact T2451 106 106 (A_106 hw) 35
        have h2469 : ((-2147483648) ≤ z2462 ∧ z2462 ≤ 2147483647) := by rw [← q2463]; exact T2451 106 106 (A_106 hw) 36
        by_cases h2470 : z2454 = 0
        · have h2471 : 0 ≤ z2454 ∧ z2454 ≤ 0 := (vc_X12_wrong_4 h2470 h2465)
          refine sv_aload_n (pc := 80) dX12_piece_80 rfl rfl ?_
          refine gk_X12_59 (pc := 81) dX12_piece_81 wF_X12_254 (A_106 hw) (F2452.f (A_106 hw) rfl (F1941.f (A_106 hw) rfl q_f_levels)) ?_
          refine mr_iconst (pc := 84) (z := 1) dX12_piece_84 ?_
          refine mr_isub (pc := 85) (x := f_levels) (y := 1) dX12_piece_85 ?_
          refine mr_istore (pc := 86) (lv' := [(7, iv (f_levels - 1)), (0, .ref 106), (1, jv p1), (3, jv p2), (6, iv z1967)]) dX12_piece_86 (by decide) rfl ?_
          refine sv_aload_n (pc := 88) dX12_piece_88 rfl rfl ?_
          refine sv_aload_n (pc := 89) dX12_piece_89 rfl rfl ?_
          refine gf_X12_64 (pc := 90) dX12_piece_90 wF_X12_269 (A_106 hw) T2451 ?_
          refine mr_iload (pc := 93) (z := (f_levels - 1)) dX12_piece_93 rfl ?_
          refine la_149 (pc := 95) dX12_piece_95 (A_149 hw) T2451 (rIx (n := 10) (rSub (e := 0) (f := 5) h1 (rR (x := 1)) rfl) rfl) fun z2472 q2473 h2474 => ?_
          refine mr_lload_n (pc := 96) (z := p1) dX12_piece_96 rfl rfl ?_
          refine mr_cVV (pc := 97) (c_X12_follows_u hw T2451 h2474 hp1 (F2452.f (A_106 hw) rfl (F1941.f (A_106 hw) rfl q_f_pol)) (F2452.f (A_106 hw) rfl (F1941.f (A_106 hw) rfl q_f_draft)) (vc_X12_piece_u_11 hq5 ht_f_draft ht_f_pol) (UPg.fr I1943 hw T2451 rfl ((mF.call mF.refl F2452 rfl) : mF [106033, 106034, 106035, 106036, 106037, 106038] w μ1939 μ2450) rfl rfl rfl ((mG.fr mG.refl F2452 (A_126 hw) rfl) : mG [] μ1939 μ2450) (fun _ h => absurd h List.not_mem_nil))) (gOk _ _ _ _ _) dX12_piece_97 (tX12_follows _ _ _ _ _) ⟨wV_X12_follows, wL_X12_follows⟩ wM_X12_281 (gCX12 _ _ _ _ _) rfl (A_106 hw) rfl ⟨le_t rfl, le_t rfl⟩ ⟨le_t rfl, le_t rfl⟩ rfl (le_t rfl) fun μ2475 T2476 F2477 h2478 => ?_
          refine sv_aload_n (pc := 100) dX12_piece_100 rfl rfl ?_
          refine gf_X12_65 (pc := 101) dX12_piece_101 wF_X12_272 (A_106 hw) T2476 ?_
          refine mr_iload (pc := 104) (z := (f_levels - 1)) dX12_piece_104 rfl ?_
          refine la_150 (pc := 106) dX12_piece_106 (A_150 hw) T2476 (rIx (n := 10) (rSub (e := 0) (f := 5) h1 (rR (x := 1)) rfl) rfl) fun z2479 q2480 h2481 => ?_
          have J2498 : ∀ (μ2493 : mM), (mT w μ2493) → (mF [148999] w μ2475 μ2493) → (UP l D c H0 sa μ2493) → sV (gG l D c H0 sa) mX12_piece (sRm 3 0 0) (sZ (gG l D c H0 sa) 0 0 (qV w [106033, 106034, 106035, 106036, 106037, 106038, 144999, 148999, 149999, 150999] μ (fun μ1 => ∃ o_code o_at o_from o_type o_number : Int, μ1 106 37 = o_code ∧ μ1 106 33 = o_at ∧ μ1 106 34 = o_from ∧ μ1 106 35 = o_type ∧ μ1 106 36 = o_number ∧ UP l D c H0 sa μ1 ∧ (o_code = 0 → o_from ≤ o_at) ∧ (o_code = 0 → o_type = 0 ∨ o_from + 1 ≤ o_at) ∧ (o_code = 0 → o_type = 1 → o_from + 2 ≤ o_at) ∧ (o_code = 0 → o_type = 1 → o_number = 0 ∨ o_number = 4 ∨ o_number = 5 ∨ o_from + 3 ≤ o_at) ∧ (o_code = 0 → f_code = 0) ∧ (o_code = 0 → f_from + 0 ≤ o_from) ∧ (f_code = 0 ∨ 1 ≤ o_code) ∧ True))) 121 [(0, .ref 106), (3, jv p2), (6, iv z1967), (7, iv (f_levels - 1))] [] (mk w μ2493) 0 0 := by
            intro μ2493 T2494 F2495 I2497
            refine sv_aload_n (pc := 121) dX12_piece_121 rfl rfl ?_
            refine gf_X12_64 (pc := 122) dX12_piece_122 wF_X12_269 (A_106 hw) T2494 ?_
            refine mr_iload (pc := 125) (z := (f_levels - 1)) dX12_piece_125 rfl ?_
            refine mr_iload (pc := 127) (z := z1967) dX12_piece_127 rfl ?_
            have J2506 : ∀ (z2504 : Int), (((-9223372036854775808) ≤ z2504 ∧ z2504 ≤ 9223372036854775807)) → sV (gG l D c H0 sa) mX12_piece (sRm 3 0 0) (sZ (gG l D c H0 sa) 0 0 (qV w [106033, 106034, 106035, 106036, 106037, 106038, 144999, 148999, 149999, 150999] μ (fun μ1 => ∃ o_code o_at o_from o_type o_number : Int, μ1 106 37 = o_code ∧ μ1 106 33 = o_at ∧ μ1 106 34 = o_from ∧ μ1 106 35 = o_type ∧ μ1 106 36 = o_number ∧ UP l D c H0 sa μ1 ∧ (o_code = 0 → o_from ≤ o_at) ∧ (o_code = 0 → o_type = 0 ∨ o_from + 1 ≤ o_at) ∧ (o_code = 0 → o_type = 1 → o_from + 2 ≤ o_at) ∧ (o_code = 0 → o_type = 1 → o_number = 0 ∨ o_number = 4 ∨ o_number = 5 ∨ o_from + 3 ≤ o_at) ∧ (o_code = 0 → f_code = 0) ∧ (o_code = 0 → f_from + 0 ≤ o_from) ∧ (f_code = 0 ∨ 1 ≤ o_code) ∧ True))) 145 [(0, .ref 106), (6, iv z1967), (7, iv (f_levels - 1))] [jv z2504, iv (f_levels - 1), .ref 149] (mk w μ2493) 0 0 := by
              intro z2504 h2505
              refine ss_149 (pc := 145) dX12_piece_145 (A_149 hw) T2494 (rIx (n := 10) (rSub (e := 0) (f := 5) h1 (rR (x := 1)) rfl) rfl) h2505 fun μ2507 u2508 T2509 => ?_
              refine sv_aload_n (pc := 146) dX12_piece_146 rfl rfl ?_
              refine gf_X12_65 (pc := 147) dX12_piece_147 wF_X12_272 (A_106 hw) T2509 ?_
              refine mr_iload (pc := 150) (z := (f_levels - 1)) dX12_piece_150 rfl ?_
              refine sv_aload_n (pc := 152) dX12_piece_152 rfl rfl ?_
              refine gf_X12_65 (pc := 153) dX12_piece_153 wF_X12_272 (A_106 hw) T2509 ?_
              refine mr_iload (pc := 156) (z := (f_levels - 1)) dX12_piece_156 rfl ?_
              refine lk_150 (pc := 158) dX12_piece_158 (A_150 hw) (rIx (n := 10) (rSub (e := 0) (f := 5) h1 (rR (x := 1)) rfl) rfl) (u2508.f (Or.inl (mAt.ne (A_149 hw) (A_150 hw) rfl)) (F2495.f (A_150 hw) rfl q2480)) ?_
              refine mr_if_eq (pc := 159) (tgt := 171) dX12_piece_159 (by decide) (r32 h2481 rfl) (fun h2514 => ?_) (fun h2514 => ?_)
              · have h2515 : 0 ≤ z2479 ∧ z2479 ≤ 0 := (vc_X12_ring_22 h2514 h2481)
                refine mr_iconst (pc := 171) (z := 0) dX12_piece_171 ?_
                refine ss_150 (pc := 172) dX12_piece_172 (A_150 hw) T2509 (rIx (n := 10) (rSub (e := 0) (f := 5) h1 (rR (x := 1)) rfl) rfl) (rW (c := 0) (d := 1) (rR (x := 0)) rfl) fun μ2516 u2517 T2518 => ?_
                exact mr_vret dX12_piece_173 rfl (le_t rfl) (le_t rfl) T2518 (mF.up (mF.up (mF.call (mF.call (mF.call (mF.call mF.refl F1941 rfl) F2452 rfl) F2477 rfl) F2495 rfl) (A_149 hw) u2508 rfl) (A_150 hw) u2517 rfl) ⟨z2454, z2456, z2458, z2460, z2462, (u2517.f (Or.inl (mAt.ne (A_150 hw) (A_106 hw) rfl)) (u2508.f (Or.inl (mAt.ne (A_149 hw) (A_106 hw) rfl)) (F2495.f (A_106 hw) rfl (F2477.f (A_106 hw) rfl q2455)))), (u2517.f (Or.inl (mAt.ne (A_150 hw) (A_106 hw) rfl)) (u2508.f (Or.inl (mAt.ne (A_149 hw) (A_106 hw) rfl)) (F2495.f (A_106 hw) rfl (F2477.f (A_106 hw) rfl q2457)))), (u2517.f (Or.inl (mAt.ne (A_150 hw) (A_106 hw) rfl)) (u2508.f (Or.inl (mAt.ne (A_149 hw) (A_106 hw) rfl)) (F2495.f (A_106 hw) rfl (F2477.f (A_106 hw) rfl q2459)))), (u2517.f (Or.inl (mAt.ne (A_150 hw) (A_106 hw) rfl)) (u2508.f (Or.inl (mAt.ne (A_149 hw) (A_106 hw) rfl)) (F2495.f (A_106 hw) rfl (F2477.f (A_106 hw) rfl q2461)))), (u2517.f (Or.inl (mAt.ne (A_150 hw) (A_106 hw) rfl)) (u2508.f (Or.inl (mAt.ne (A_149 hw) (A_106 hw) rfl)) (F2495.f (A_106 hw) rfl (F2477.f (A_106 hw) rfl q2463)))), (UPg.fr I2497 hw T2518 rfl ((mF.up (mF.up mF.refl (A_149 hw) u2508 rfl) (A_150 hw) u2517 rfl) : mF [149999, 150999] w μ2493 μ2516) rfl rfl rfl ((mG.upO (mG.upO mG.refl u2508 rfl) u2517 rfl) : mG [] μ2493 μ2516) (fun _ h => absurd h List.not_mem_nil)), (vc_X12_sign_9 h2470 (h2464.1 (vc_X12_sign_2 h1908)) (h2464.2.2.2.1 (vc_X12_sign_2 h2471)) (hq0 (vc_X12_sign_2 h1908)) ((hq1 (vc_X12_sign_2 h1908)).resolve_left (vc_X12_sign_6 h2446)) ht_f_at ht_f_from h2471 h2466 h2467), (vc_X12_sign_10 h2470 (h2464.1 (vc_X12_sign_2 h1908)) (h2464.2.2.2.1 (vc_X12_sign_2 h2471)) (h2464.2.2.2.2.1 (vc_X12_sign_2 h2471)) (h2464.2.2.2.2.2.1 (vc_X12_sign_2 h2471)) (hq0 (vc_X12_sign_2 h1908)) ((hq1 (vc_X12_sign_2 h1908)).resolve_left (vc_X12_sign_6 h2446)) ht_f_at ht_f_from h2471 h2466 h2467 h2468), (vc_X12_sign_11 h2470 (h2464.1 (vc_X12_sign_2 h1908)) (h2464.2.2.2.1 (vc_X12_sign_2 h2471)) (h2464.2.2.2.2.1 (vc_X12_sign_2 h2471)) (h2464.2.2.2.2.2.1 (vc_X12_sign_2 h2471)) (hq0 (vc_X12_sign_2 h1908)) ((hq1 (vc_X12_sign_2 h1908)).resolve_left (vc_X12_sign_6 h2446)) ht_f_at ht_f_from h2471 h2466 h2467 h2468), (vc_X12_sign_12 h2470 (h2464.1 (vc_X12_sign_2 h1908)) (h2464.2.2.2.1 (vc_X12_sign_2 h2471)) (h2464.2.2.2.2.1 (vc_X12_sign_2 h2471)) (h2464.2.2.2.2.2.1 (vc_X12_sign_2 h2471)) (h2464.2.2.2.2.2.2.1 (vc_X12_sign_2 h2471)) (hq0 (vc_X12_sign_2 h1908)) ((hq1 (vc_X12_sign_2 h1908)).resolve_left (vc_X12_sign_6 h2446)) ht_f_at ht_f_from h2471 h2466 h2467 h2468 h2469), (vc_X12_piece_u_87 h1907 h2444 h2470 ((h2163.resolve_left (fun h => h (vc_X12_sign_2 h1908))).resolve_left (fun h => h (vc_X12_piece_u_40 h2446))) ((h2357.resolve_left (fun h => h (vc_X12_sign_2 h1908))).resolve_left (fun h => h (vc_X12_piece_u_40 h2446))) h1908 h2445 h2446 h2471), (vc_X12_piece_u_18 (hq0 (vc_X12_sign_2 h1908)) ((hq1 (vc_X12_sign_2 h1908)).resolve_left (vc_X12_sign_6 h2446)) h2470 (h2464.1 (vc_X12_sign_2 h1908)) (h2464.2.2.2.1 (vc_X12_sign_2 h2471)) ht_f_at ht_f_from h2471 h2466 h2467), (vc_X12_piece_u_89 h1907 h2444 h2470 ((h2163.resolve_left (fun h => h (vc_X12_sign_2 h1908))).resolve_left (fun h => h (vc_X12_piece_u_40 h2446))) ((h2357.resolve_left (fun h => h (vc_X12_sign_2 h1908))).resolve_left (fun h => h (vc_X12_piece_u_40 h2446))) h1908 h2445 h2446 h2471), trivial⟩
              have h2519 : 1 ≤ z2479 ∧ z2479 ≤ 1 := (vc_X12_ring_24 h2514 h2481)
              refine mr_iload (pc := 162) (z := z1967) dX12_piece_162 rfl ?_
              refine mr_if_eq (pc := 164) (tgt := 171) dX12_piece_164 (by decide) (r32 h1968 rfl) (fun h2522 => ?_) (fun h2522 => ?_)
              · have h2523 : 0 ≤ z1967 ∧ z1967 ≤ 0 := (vc_X12_ring_22 h2522 h1968)
                refine mr_iconst (pc := 171) (z := 0) dX12_piece_171 ?_
                refine ss_150 (pc := 172) dX12_piece_172 (A_150 hw) T2509 (rIx (n := 10) (rSub (e := 0) (f := 5) h1 (rR (x := 1)) rfl) rfl) (rW (c := 0) (d := 1) (rR (x := 0)) rfl) fun μ2524 u2525 T2526 => ?_
                exact mr_vret dX12_piece_173 rfl (le_t rfl) (le_t rfl) T2526 (mF.up (mF.up (mF.call (mF.call (mF.call (mF.call mF.refl F1941 rfl) F2452 rfl) F2477 rfl) F2495 rfl) (A_149 hw) u2508 rfl) (A_150 hw) u2525 rfl) ⟨z2454, z2456, z2458, z2460, z2462, (u2525.f (Or.inl (mAt.ne (A_150 hw) (A_106 hw) rfl)) (u2508.f (Or.inl (mAt.ne (A_149 hw) (A_106 hw) rfl)) (F2495.f (A_106 hw) rfl (F2477.f (A_106 hw) rfl q2455)))), (u2525.f (Or.inl (mAt.ne (A_150 hw) (A_106 hw) rfl)) (u2508.f (Or.inl (mAt.ne (A_149 hw) (A_106 hw) rfl)) (F2495.f (A_106 hw) rfl (F2477.f (A_106 hw) rfl q2457)))), (u2525.f (Or.inl (mAt.ne (A_150 hw) (A_106 hw) rfl)) (u2508.f (Or.inl (mAt.ne (A_149 hw) (A_106 hw) rfl)) (F2495.f (A_106 hw) rfl (F2477.f (A_106 hw) rfl q2459)))), (u2525.f (Or.inl (mAt.ne (A_150 hw) (A_106 hw) rfl)) (u2508.f (Or.inl (mAt.ne (A_149 hw) (A_106 hw) rfl)) (F2495.f (A_106 hw) rfl (F2477.f (A_106 hw) rfl q2461)))), (u2525.f (Or.inl (mAt.ne (A_150 hw) (A_106 hw) rfl)) (u2508.f (Or.inl (mAt.ne (A_149 hw) (A_106 hw) rfl)) (F2495.f (A_106 hw) rfl (F2477.f (A_106 hw) rfl q2463)))), (UPg.fr I2497 hw T2526 rfl ((mF.up (mF.up mF.refl (A_149 hw) u2508 rfl) (A_150 hw) u2525 rfl) : mF [149999, 150999] w μ2493 μ2524) rfl rfl rfl ((mG.upO (mG.upO mG.refl u2508 rfl) u2525 rfl) : mG [] μ2493 μ2524) (fun _ h => absurd h List.not_mem_nil)), (vc_X12_sign_9 h2470 (h2464.1 (vc_X12_sign_2 h1908)) (h2464.2.2.2.1 (vc_X12_sign_2 h2471)) (hq0 (vc_X12_sign_2 h1908)) ((hq1 (vc_X12_sign_2 h1908)).resolve_left (vc_X12_sign_6 h2446)) ht_f_at ht_f_from h2471 h2466 h2467), (vc_X12_sign_10 h2470 (h2464.1 (vc_X12_sign_2 h1908)) (h2464.2.2.2.1 (vc_X12_sign_2 h2471)) (h2464.2.2.2.2.1 (vc_X12_sign_2 h2471)) (h2464.2.2.2.2.2.1 (vc_X12_sign_2 h2471)) (hq0 (vc_X12_sign_2 h1908)) ((hq1 (vc_X12_sign_2 h1908)).resolve_left (vc_X12_sign_6 h2446)) ht_f_at ht_f_from h2471 h2466 h2467 h2468), (vc_X12_sign_11 h2470 (h2464.1 (vc_X12_sign_2 h1908)) (h2464.2.2.2.1 (vc_X12_sign_2 h2471)) (h2464.2.2.2.2.1 (vc_X12_sign_2 h2471)) (h2464.2.2.2.2.2.1 (vc_X12_sign_2 h2471)) (hq0 (vc_X12_sign_2 h1908)) ((hq1 (vc_X12_sign_2 h1908)).resolve_left (vc_X12_sign_6 h2446)) ht_f_at ht_f_from h2471 h2466 h2467 h2468), (vc_X12_sign_12 h2470 (h2464.1 (vc_X12_sign_2 h1908)) (h2464.2.2.2.1 (vc_X12_sign_2 h2471)) (h2464.2.2.2.2.1 (vc_X12_sign_2 h2471)) (h2464.2.2.2.2.2.1 (vc_X12_sign_2 h2471)) (h2464.2.2.2.2.2.2.1 (vc_X12_sign_2 h2471)) (hq0 (vc_X12_sign_2 h1908)) ((hq1 (vc_X12_sign_2 h1908)).resolve_left (vc_X12_sign_6 h2446)) ht_f_at ht_f_from h2471 h2466 h2467 h2468 h2469), (vc_X12_piece_u_87 h1907 h2444 h2470 ((h2163.resolve_left (fun h => h (vc_X12_sign_2 h1908))).resolve_left (fun h => h (vc_X12_piece_u_40 h2446))) ((h2357.resolve_left (fun h => h (vc_X12_sign_2 h1908))).resolve_left (fun h => h (vc_X12_piece_u_40 h2446))) h1908 h2445 h2446 h2471), (vc_X12_piece_u_18 (hq0 (vc_X12_sign_2 h1908)) ((hq1 (vc_X12_sign_2 h1908)).resolve_left (vc_X12_sign_6 h2446)) h2470 (h2464.1 (vc_X12_sign_2 h1908)) (h2464.2.2.2.1 (vc_X12_sign_2 h2471)) ht_f_at ht_f_from h2471 h2466 h2467), (vc_X12_piece_u_89 h1907 h2444 h2470 ((h2163.resolve_left (fun h => h (vc_X12_sign_2 h1908))).resolve_left (fun h => h (vc_X12_piece_u_40 h2446))) ((h2357.resolve_left (fun h => h (vc_X12_sign_2 h1908))).resolve_left (fun h => h (vc_X12_piece_u_40 h2446))) h1908 h2445 h2446 h2471), trivial⟩
              have h2527 : 1 ≤ z1967 ∧ z1967 ≤ 1 := (vc_X12_ring_24 h2522 h1968)
              refine mr_iconst (pc := 167) (z := 1) dX12_piece_167 ?_
              refine sv_goto (pc := 168) (tgt := 172) dX12_piece_168 (by decide) ?_
              refine ss_150 (pc := 172) dX12_piece_172 (A_150 hw) T2509 (rIx (n := 10) (rSub (e := 0) (f := 5) h1 (rR (x := 1)) rfl) rfl) (rW (c := 0) (d := 1) (rR (x := 1)) rfl) fun μ2528 u2529 T2530 => ?_
              exact mr_vret dX12_piece_173 rfl (le_t rfl) (le_t rfl) T2530 (mF.up (mF.up (mF.call (mF.call (mF.call (mF.call mF.refl F1941 rfl) F2452 rfl) F2477 rfl) F2495 rfl) (A_149 hw) u2508 rfl) (A_150 hw) u2529 rfl) ⟨z2454, z2456, z2458, z2460, z2462, (u2529.f (Or.inl (mAt.ne (A_150 hw) (A_106 hw) rfl)) (u2508.f (Or.inl (mAt.ne (A_149 hw) (A_106 hw) rfl)) (F2495.f (A_106 hw) rfl (F2477.f (A_106 hw) rfl q2455)))), (u2529.f (Or.inl (mAt.ne (A_150 hw) (A_106 hw) rfl)) (u2508.f (Or.inl (mAt.ne (A_149 hw) (A_106 hw) rfl)) (F2495.f (A_106 hw) rfl (F2477.f (A_106 hw) rfl q2457)))), (u2529.f (Or.inl (mAt.ne (A_150 hw) (A_106 hw) rfl)) (u2508.f (Or.inl (mAt.ne (A_149 hw) (A_106 hw) rfl)) (F2495.f (A_106 hw) rfl (F2477.f (A_106 hw) rfl q2459)))), (u2529.f (Or.inl (mAt.ne (A_150 hw) (A_106 hw) rfl)) (u2508.f (Or.inl (mAt.ne (A_149 hw) (A_106 hw) rfl)) (F2495.f (A_106 hw) rfl (F2477.f (A_106 hw) rfl q2461)))), (u2529.f (Or.inl (mAt.ne (A_150 hw) (A_106 hw) rfl)) (u2508.f (Or.inl (mAt.ne (A_149 hw) (A_106 hw) rfl)) (F2495.f (A_106 hw) rfl (F2477.f (A_106 hw) rfl q2463)))), (UPg.fr I2497 hw T2530 rfl ((mF.up (mF.up mF.refl (A_149 hw) u2508 rfl) (A_150 hw) u2529 rfl) : mF [149999, 150999] w μ2493 μ2528) rfl rfl rfl ((mG.upO (mG.upO mG.refl u2508 rfl) u2529 rfl) : mG [] μ2493 μ2528) (fun _ h => absurd h List.not_mem_nil)), (vc_X12_sign_9 h2470 (h2464.1 (vc_X12_sign_2 h1908)) (h2464.2.2.2.1 (vc_X12_sign_2 h2471)) (hq0 (vc_X12_sign_2 h1908)) ((hq1 (vc_X12_sign_2 h1908)).resolve_left (vc_X12_sign_6 h2446)) ht_f_at ht_f_from h2471 h2466 h2467), (vc_X12_sign_10 h2470 (h2464.1 (vc_X12_sign_2 h1908)) (h2464.2.2.2.1 (vc_X12_sign_2 h2471)) (h2464.2.2.2.2.1 (vc_X12_sign_2 h2471)) (h2464.2.2.2.2.2.1 (vc_X12_sign_2 h2471)) (hq0 (vc_X12_sign_2 h1908)) ((hq1 (vc_X12_sign_2 h1908)).resolve_left (vc_X12_sign_6 h2446)) ht_f_at ht_f_from h2471 h2466 h2467 h2468), (vc_X12_sign_11 h2470 (h2464.1 (vc_X12_sign_2 h1908)) (h2464.2.2.2.1 (vc_X12_sign_2 h2471)) (h2464.2.2.2.2.1 (vc_X12_sign_2 h2471)) (h2464.2.2.2.2.2.1 (vc_X12_sign_2 h2471)) (hq0 (vc_X12_sign_2 h1908)) ((hq1 (vc_X12_sign_2 h1908)).resolve_left (vc_X12_sign_6 h2446)) ht_f_at ht_f_from h2471 h2466 h2467 h2468), (vc_X12_sign_12 h2470 (h2464.1 (vc_X12_sign_2 h1908)) (h2464.2.2.2.1 (vc_X12_sign_2 h2471)) (h2464.2.2.2.2.1 (vc_X12_sign_2 h2471)) (h2464.2.2.2.2.2.1 (vc_X12_sign_2 h2471)) (h2464.2.2.2.2.2.2.1 (vc_X12_sign_2 h2471)) (hq0 (vc_X12_sign_2 h1908)) ((hq1 (vc_X12_sign_2 h1908)).resolve_left (vc_X12_sign_6 h2446)) ht_f_at ht_f_from h2471 h2466 h2467 h2468 h2469), (vc_X12_piece_u_87 h1907 h2444 h2470 ((h2163.resolve_left (fun h => h (vc_X12_sign_2 h1908))).resolve_left (fun h => h (vc_X12_piece_u_40 h2446))) ((h2357.resolve_left (fun h => h (vc_X12_sign_2 h1908))).resolve_left (fun h => h (vc_X12_piece_u_40 h2446))) h1908 h2445 h2446 h2471), (vc_X12_piece_u_18 (hq0 (vc_X12_sign_2 h1908)) ((hq1 (vc_X12_sign_2 h1908)).resolve_left (vc_X12_sign_6 h2446)) h2470 (h2464.1 (vc_X12_sign_2 h1908)) (h2464.2.2.2.1 (vc_X12_sign_2 h2471)) ht_f_at ht_f_from h2471 h2466 h2467), (vc_X12_piece_u_89 h1907 h2444 h2470 ((h2163.resolve_left (fun h => h (vc_X12_sign_2 h1908))).resolve_left (fun h => h (vc_X12_piece_u_40 h2446))) ((h2357.resolve_left (fun h => h (vc_X12_sign_2 h1908))).resolve_left (fun h => h (vc_X12_piece_u_40 h2446))) h1908 h2445 h2446 h2471), trivial⟩
            refine mr_if_eq (pc := 129) (tgt := 144) dX12_piece_129 (by decide) (r32 h1968 rfl) (fun h2531 => ?_) (fun h2531 => ?_)
            · have h2532 : 0 ≤ z1967 ∧ z1967 ≤ 0 := (vc_X12_ring_22 h2531 h1968)
              refine mr_lload_n (pc := 144) (z := p2) dX12_piece_144 rfl rfl ?_
              refine mr_lvS (lv' := [(0, .ref 106), (6, iv z1967), (7, iv (f_levels - 1))]) (List.forall_mem_cons.mpr ⟨rfl, List.forall_mem_cons.mpr ⟨rfl, List.forall_mem_cons.mpr ⟨rfl, fun _ h => absurd h List.not_mem_nil⟩⟩⟩) ?_
              exact J2506 p2 hp2
            have h2533 : 1 ≤ z1967 ∧ z1967 ≤ 1 := (vc_X12_ring_24 h2531 h1968)
            refine sv_aload_n (pc := 132) dX12_piece_132 rfl rfl ?_
            refine gf_X12_64 (pc := 133) dX12_piece_133 wF_X12_269 (A_106 hw) T2494 ?_
            refine mr_iload (pc := 136) (z := (f_levels - 1)) dX12_piece_136 rfl ?_
            refine lk_149 (pc := 138) dX12_piece_138 (A_149 hw) (rIx (n := 10) (rSub (e := 0) (f := 5) h1 (rR (x := 1)) rfl) rfl) (F2495.f (A_149 hw) rfl (F2477.f (A_149 hw) rfl q2473)) ?_
            refine mr_lload_n (pc := 139) (z := p2) dX12_piece_139 rfl rfl ?_
            refine mr_lor (pc := 140) dX12_piece_140 ?_
            refine mr_genL (r64i _) fun z2534 q2535 h2536 => ?_
            refine sv_goto (pc := 141) (tgt := 145) dX12_piece_141 (by decide) ?_
            refine mr_lvS (lv' := [(0, .ref 106), (6, iv z1967), (7, iv (f_levels - 1))]) (List.forall_mem_cons.mpr ⟨rfl, List.forall_mem_cons.mpr ⟨rfl, List.forall_mem_cons.mpr ⟨rfl, fun _ h => absurd h List.not_mem_nil⟩⟩⟩) ?_
            exact J2506 z2534 h2536
          refine mr_if_eq (pc := 107) (tgt := 121) dX12_piece_107 (by decide) (r32 h2481 rfl) (fun h2537 => ?_) (fun h2537 => ?_)
          · have h2538 : 0 ≤ z2479 ∧ z2479 ≤ 0 := (vc_X12_ring_22 h2537 h2481)
            refine mr_lvS (lv' := [(0, .ref 106), (3, jv p2), (6, iv z1967), (7, iv (f_levels - 1))]) (List.forall_mem_cons.mpr ⟨rfl, List.forall_mem_cons.mpr ⟨rfl, List.forall_mem_cons.mpr ⟨rfl, List.forall_mem_cons.mpr ⟨rfl, fun _ h => absurd h List.not_mem_nil⟩⟩⟩⟩) ?_
            exact J2498 μ2475 T2476 mF.refl h2478.1
          have h2539 : 1 ≤ z2479 ∧ z2479 ≤ 1 := (vc_X12_ring_24 h2537 h2481)
          refine sv_aload_n (pc := 110) dX12_piece_110 rfl rfl ?_
          refine gf_X12_63 (pc := 111) dX12_piece_111 wF_X12_266 (A_106 hw) T2476 ?_
          refine mr_iload (pc := 114) (z := (f_levels - 1)) dX12_piece_114 rfl ?_
          refine sv_dup2 (pc := 116) dX12_piece_116 rfl rfl ?_
          refine la_148 (pc := 117) dX12_piece_117 (A_148 hw) T2476 (rIx (n := 10) (rSub (e := 0) (f := 5) h1 (rR (x := 1)) rfl) rfl) fun z2540 q2541 h2542 => ?_
          refine mr_lload_n (pc := 118) (z := p1) dX12_piece_118 rfl rfl ?_
          refine mr_lor (pc := 119) dX12_piece_119 ?_
          refine mr_genL (r64i _) fun z2543 q2544 h2545 => ?_
          refine ss_148 (pc := 120) dX12_piece_120 (A_148 hw) T2476 (rIx (n := 10) (rSub (e := 0) (f := 5) h1 (rR (x := 1)) rfl) rfl) h2545 fun μ2546 u2547 T2548 => ?_
          refine mr_lvS (lv' := [(0, .ref 106), (3, jv p2), (6, iv z1967), (7, iv (f_levels - 1))]) (List.forall_mem_cons.mpr ⟨rfl, List.forall_mem_cons.mpr ⟨rfl, List.forall_mem_cons.mpr ⟨rfl, List.forall_mem_cons.mpr ⟨rfl, fun _ h => absurd h List.not_mem_nil⟩⟩⟩⟩) ?_
          exact J2498 μ2546 T2548 (mF.up mF.refl (A_148 hw) u2547 rfl) (UPg.fr h2478.1 hw T2548 rfl ((mF.up mF.refl (A_148 hw) u2547 rfl) : mF [148999] w μ2475 μ2546) rfl rfl rfl ((mG.upO mG.refl u2547 rfl) : mG [] μ2475 μ2546) (fun _ h => absurd h List.not_mem_nil))
        have h2549 : 1 ≤ z2454 ∧ z2454 ≤ 4 := (vc_X12_wrong_1 h2470 h2465)
        refine sv_aload_n (pc := 80) dX12_piece_80 rfl rfl ?_
        refine gk_X12_59 (pc := 81) dX12_piece_81 wF_X12_254 (A_106 hw) (F2452.f (A_106 hw) rfl (F1941.f (A_106 hw) rfl q_f_levels)) ?_
        refine mr_iconst (pc := 84) (z := 1) dX12_piece_84 ?_
        refine mr_isub (pc := 85) (x := f_levels) (y := 1) dX12_piece_85 ?_
        refine mr_istore (pc := 86) (lv' := [(7, iv (f_levels - 1)), (0, .ref 106), (1, jv p1), (3, jv p2), (6, iv z1967)]) dX12_piece_86 (by decide) rfl ?_
        refine sv_aload_n (pc := 88) dX12_piece_88 rfl rfl ?_
        refine sv_aload_n (pc := 89) dX12_piece_89 rfl rfl ?_
        refine gf_X12_64 (pc := 90) dX12_piece_90 wF_X12_269 (A_106 hw) T2451 ?_
        refine mr_iload (pc := 93) (z := (f_levels - 1)) dX12_piece_93 rfl ?_
        refine la_149 (pc := 95) dX12_piece_95 (A_149 hw) T2451 (rIx (n := 10) (rSub (e := 0) (f := 5) h1 (rR (x := 1)) rfl) rfl) fun z2550 q2551 h2552 => ?_
        refine mr_lload_n (pc := 96) (z := p1) dX12_piece_96 rfl rfl ?_
        refine mr_cVV (pc := 97) (c_X12_follows_u hw T2451 h2552 hp1 (F2452.f (A_106 hw) rfl (F1941.f (A_106 hw) rfl q_f_pol)) (F2452.f (A_106 hw) rfl (F1941.f (A_106 hw) rfl q_f_draft)) (vc_X12_piece_u_11 hq5 ht_f_draft ht_f_pol) (UPg.fr I1943 hw T2451 rfl ((mF.call mF.refl F2452 rfl) : mF [106033, 106034, 106035, 106036, 106037, 106038] w μ1939 μ2450) rfl rfl rfl ((mG.fr mG.refl F2452 (A_126 hw) rfl) : mG [] μ1939 μ2450) (fun _ h => absurd h List.not_mem_nil))) (gOk _ _ _ _ _) dX12_piece_97 (tX12_follows _ _ _ _ _) ⟨wV_X12_follows, wL_X12_follows⟩ wM_X12_281 (gCX12 _ _ _ _ _) rfl (A_106 hw) rfl ⟨le_t rfl, le_t rfl⟩ ⟨le_t rfl, le_t rfl⟩ rfl (le_t rfl) fun μ2553 T2554 F2555 h2556 => ?_
        refine sv_aload_n (pc := 100) dX12_piece_100 rfl rfl ?_
        refine gf_X12_65 (pc := 101) dX12_piece_101 wF_X12_272 (A_106 hw) T2554 ?_
        refine mr_iload (pc := 104) (z := (f_levels - 1)) dX12_piece_104 rfl ?_
        refine la_150 (pc := 106) dX12_piece_106 (A_150 hw) T2554 (rIx (n := 10) (rSub (e := 0) (f := 5) h1 (rR (x := 1)) rfl) rfl) fun z2557 q2558 h2559 => ?_
        have J2577 : ∀ (μ2571 : mM), (mT w μ2571) → (mF [148999] w μ2553 μ2571) → (UP l D c H0 sa μ2571) → ((1 ≤ μ2571 106 (37))) → sV (gG l D c H0 sa) mX12_piece (sRm 3 0 0) (sZ (gG l D c H0 sa) 0 0 (qV w [106033, 106034, 106035, 106036, 106037, 106038, 144999, 148999, 149999, 150999] μ (fun μ1 => ∃ o_code o_at o_from o_type o_number : Int, μ1 106 37 = o_code ∧ μ1 106 33 = o_at ∧ μ1 106 34 = o_from ∧ μ1 106 35 = o_type ∧ μ1 106 36 = o_number ∧ UP l D c H0 sa μ1 ∧ (o_code = 0 → o_from ≤ o_at) ∧ (o_code = 0 → o_type = 0 ∨ o_from + 1 ≤ o_at) ∧ (o_code = 0 → o_type = 1 → o_from + 2 ≤ o_at) ∧ (o_code = 0 → o_type = 1 → o_number = 0 ∨ o_number = 4 ∨ o_number = 5 ∨ o_from + 3 ≤ o_at) ∧ (o_code = 0 → f_code = 0) ∧ (o_code = 0 → f_from + 0 ≤ o_from) ∧ (f_code = 0 ∨ 1 ≤ o_code) ∧ True))) 121 [(0, .ref 106), (3, jv p2), (6, iv z1967), (7, iv (f_levels - 1))] [] (mk w μ2571) 0 0 := by
          intro μ2571 T2572 F2573 I2575 h2576
          have h2578 : 1 ≤ z2454 := (F2573.f (A_106 hw) rfl (F2555.f (A_106 hw) rfl q2455)) ▸ h2576
          refine sv_aload_n (pc := 121) dX12_piece_121 rfl rfl ?_
          refine gf_X12_64 (pc := 122) dX12_piece_122 wF_X12_269 (A_106 hw) T2572 ?_
          refine mr_iload (pc := 125) (z := (f_levels - 1)) dX12_piece_125 rfl ?_
          refine mr_iload (pc := 127) (z := z1967) dX12_piece_127 rfl ?_
          have J2586 : ∀ (z2584 : Int), (((-9223372036854775808) ≤ z2584 ∧ z2584 ≤ 9223372036854775807)) → sV (gG l D c H0 sa) mX12_piece (sRm 3 0 0) (sZ (gG l D c H0 sa) 0 0 (qV w [106033, 106034, 106035, 106036, 106037, 106038, 144999, 148999, 149999, 150999] μ (fun μ1 => ∃ o_code o_at o_from o_type o_number : Int, μ1 106 37 = o_code ∧ μ1 106 33 = o_at ∧ μ1 106 34 = o_from ∧ μ1 106 35 = o_type ∧ μ1 106 36 = o_number ∧ UP l D c H0 sa μ1 ∧ (o_code = 0 → o_from ≤ o_at) ∧ (o_code = 0 → o_type = 0 ∨ o_from + 1 ≤ o_at) ∧ (o_code = 0 → o_type = 1 → o_from + 2 ≤ o_at) ∧ (o_code = 0 → o_type = 1 → o_number = 0 ∨ o_number = 4 ∨ o_number = 5 ∨ o_from + 3 ≤ o_at) ∧ (o_code = 0 → f_code = 0) ∧ (o_code = 0 → f_from + 0 ≤ o_from) ∧ (f_code = 0 ∨ 1 ≤ o_code) ∧ True))) 145 [(0, .ref 106), (6, iv z1967), (7, iv (f_levels - 1))] [jv z2584, iv (f_levels - 1), .ref 149] (mk w μ2571) 0 0 := by
            intro z2584 h2585
            refine ss_149 (pc := 145) dX12_piece_145 (A_149 hw) T2572 (rIx (n := 10) (rSub (e := 0) (f := 5) h1 (rR (x := 1)) rfl) rfl) h2585 fun μ2587 u2588 T2589 => ?_
            refine sv_aload_n (pc := 146) dX12_piece_146 rfl rfl ?_
            refine gf_X12_65 (pc := 147) dX12_piece_147 wF_X12_272 (A_106 hw) T2589 ?_
            refine mr_iload (pc := 150) (z := (f_levels - 1)) dX12_piece_150 rfl ?_
            refine sv_aload_n (pc := 152) dX12_piece_152 rfl rfl ?_
            refine gf_X12_65 (pc := 153) dX12_piece_153 wF_X12_272 (A_106 hw) T2589 ?_
            refine mr_iload (pc := 156) (z := (f_levels - 1)) dX12_piece_156 rfl ?_
            refine lk_150 (pc := 158) dX12_piece_158 (A_150 hw) (rIx (n := 10) (rSub (e := 0) (f := 5) h1 (rR (x := 1)) rfl) rfl) (u2588.f (Or.inl (mAt.ne (A_149 hw) (A_150 hw) rfl)) (F2573.f (A_150 hw) rfl q2558)) ?_
            refine mr_if_eq (pc := 159) (tgt := 171) dX12_piece_159 (by decide) (r32 h2559 rfl) (fun h2594 => ?_) (fun h2594 => ?_)
            · have h2595 : 0 ≤ z2557 ∧ z2557 ≤ 0 := (vc_X12_ring_22 h2594 h2559)
              refine mr_iconst (pc := 171) (z := 0) dX12_piece_171 ?_
              refine ss_150 (pc := 172) dX12_piece_172 (A_150 hw) T2589 (rIx (n := 10) (rSub (e := 0) (f := 5) h1 (rR (x := 1)) rfl) rfl) (rW (c := 0) (d := 1) (rR (x := 0)) rfl) fun μ2596 u2597 T2598 => ?_
              exact mr_vret dX12_piece_173 rfl (le_t rfl) (le_t rfl) T2598 (mF.up (mF.up (mF.call (mF.call (mF.call (mF.call mF.refl F1941 rfl) F2452 rfl) F2555 rfl) F2573 rfl) (A_149 hw) u2588 rfl) (A_150 hw) u2597 rfl) ⟨z2454, z2456, z2458, z2460, z2462, (u2597.f (Or.inl (mAt.ne (A_150 hw) (A_106 hw) rfl)) (u2588.f (Or.inl (mAt.ne (A_149 hw) (A_106 hw) rfl)) (F2573.f (A_106 hw) rfl (F2555.f (A_106 hw) rfl q2455)))), (u2597.f (Or.inl (mAt.ne (A_150 hw) (A_106 hw) rfl)) (u2588.f (Or.inl (mAt.ne (A_149 hw) (A_106 hw) rfl)) (F2573.f (A_106 hw) rfl (F2555.f (A_106 hw) rfl q2457)))), (u2597.f (Or.inl (mAt.ne (A_150 hw) (A_106 hw) rfl)) (u2588.f (Or.inl (mAt.ne (A_149 hw) (A_106 hw) rfl)) (F2573.f (A_106 hw) rfl (F2555.f (A_106 hw) rfl q2459)))), (u2597.f (Or.inl (mAt.ne (A_150 hw) (A_106 hw) rfl)) (u2588.f (Or.inl (mAt.ne (A_149 hw) (A_106 hw) rfl)) (F2573.f (A_106 hw) rfl (F2555.f (A_106 hw) rfl q2461)))), (u2597.f (Or.inl (mAt.ne (A_150 hw) (A_106 hw) rfl)) (u2588.f (Or.inl (mAt.ne (A_149 hw) (A_106 hw) rfl)) (F2573.f (A_106 hw) rfl (F2555.f (A_106 hw) rfl q2463)))), (UPg.fr I2575 hw T2598 rfl ((mF.up (mF.up mF.refl (A_149 hw) u2588 rfl) (A_150 hw) u2597 rfl) : mF [149999, 150999] w μ2571 μ2596) rfl rfl rfl ((mG.upO (mG.upO mG.refl u2588 rfl) u2597 rfl) : mG [] μ2571 μ2596) (fun _ h => absurd h List.not_mem_nil)), (vc_X12_piece_u_25 h2470 (h2464.1 (vc_X12_sign_2 h1908)) h2578 (hq0 (vc_X12_sign_2 h1908)) ((hq1 (vc_X12_sign_2 h1908)).resolve_left (vc_X12_sign_6 h2446)) ht_f_at ht_f_from h2549 h2466 h2467), (vc_X12_piece_u_26 h2470 (h2464.1 (vc_X12_sign_2 h1908)) h2578 (hq0 (vc_X12_sign_2 h1908)) ((hq1 (vc_X12_sign_2 h1908)).resolve_left (vc_X12_sign_6 h2446)) ht_f_at ht_f_from h2549 h2466 h2467 h2468), (vc_X12_piece_u_27 h2470 (h2464.1 (vc_X12_sign_2 h1908)) h2578 (hq0 (vc_X12_sign_2 h1908)) ((hq1 (vc_X12_sign_2 h1908)).resolve_left (vc_X12_sign_6 h2446)) ht_f_at ht_f_from h2549 h2466 h2467 h2468), (vc_X12_piece_u_28 h2470 (h2464.1 (vc_X12_sign_2 h1908)) h2578 (hq0 (vc_X12_sign_2 h1908)) ((hq1 (vc_X12_sign_2 h1908)).resolve_left (vc_X12_sign_6 h2446)) ht_f_at ht_f_from h2549 h2466 h2467 h2468 h2469), (vc_X12_piece_u_97 h1907 h2444 h2470 h2578 ((h2163.resolve_left (fun h => h (vc_X12_sign_2 h1908))).resolve_left (fun h => h (vc_X12_piece_u_40 h2446))) ((h2357.resolve_left (fun h => h (vc_X12_sign_2 h1908))).resolve_left (fun h => h (vc_X12_piece_u_40 h2446))) h1908 h2445 h2446 h2549), (vc_X12_piece_u_30 (hq0 (vc_X12_sign_2 h1908)) ((hq1 (vc_X12_sign_2 h1908)).resolve_left (vc_X12_sign_6 h2446)) h2470 (h2464.1 (vc_X12_sign_2 h1908)) h2578 ht_f_at ht_f_from h2549 h2467), (vc_X12_piece_u_99 h1907 h2444 h2470 h2578 ((h2163.resolve_left (fun h => h (vc_X12_sign_2 h1908))).resolve_left (fun h => h (vc_X12_piece_u_40 h2446))) ((h2357.resolve_left (fun h => h (vc_X12_sign_2 h1908))).resolve_left (fun h => h (vc_X12_piece_u_40 h2446))) h1908 h2445 h2446 h2549), trivial⟩
            have h2599 : 1 ≤ z2557 ∧ z2557 ≤ 1 := (vc_X12_ring_24 h2594 h2559)
            refine mr_iload (pc := 162) (z := z1967) dX12_piece_162 rfl ?_
            refine mr_if_eq (pc := 164) (tgt := 171) dX12_piece_164 (by decide) (r32 h1968 rfl) (fun h2602 => ?_) (fun h2602 => ?_)
            · have h2603 : 0 ≤ z1967 ∧ z1967 ≤ 0 := (vc_X12_ring_22 h2602 h1968)
              refine mr_iconst (pc := 171) (z := 0) dX12_piece_171 ?_
              refine ss_150 (pc := 172) dX12_piece_172 (A_150 hw) T2589 (rIx (n := 10) (rSub (e := 0) (f := 5) h1 (rR (x := 1)) rfl) rfl) (rW (c := 0) (d := 1) (rR (x := 0)) rfl) fun μ2604 u2605 T2606 => ?_
              exact mr_vret dX12_piece_173 rfl (le_t rfl) (le_t rfl) T2606 (mF.up (mF.up (mF.call (mF.call (mF.call (mF.call mF.refl F1941 rfl) F2452 rfl) F2555 rfl) F2573 rfl) (A_149 hw) u2588 rfl) (A_150 hw) u2605 rfl) ⟨z2454, z2456, z2458, z2460, z2462, (u2605.f (Or.inl (mAt.ne (A_150 hw) (A_106 hw) rfl)) (u2588.f (Or.inl (mAt.ne (A_149 hw) (A_106 hw) rfl)) (F2573.f (A_106 hw) rfl (F2555.f (A_106 hw) rfl q2455)))), (u2605.f (Or.inl (mAt.ne (A_150 hw) (A_106 hw) rfl)) (u2588.f (Or.inl (mAt.ne (A_149 hw) (A_106 hw) rfl)) (F2573.f (A_106 hw) rfl (F2555.f (A_106 hw) rfl q2457)))), (u2605.f (Or.inl (mAt.ne (A_150 hw) (A_106 hw) rfl)) (u2588.f (Or.inl (mAt.ne (A_149 hw) (A_106 hw) rfl)) (F2573.f (A_106 hw) rfl (F2555.f (A_106 hw) rfl q2459)))), (u2605.f (Or.inl (mAt.ne (A_150 hw) (A_106 hw) rfl)) (u2588.f (Or.inl (mAt.ne (A_149 hw) (A_106 hw) rfl)) (F2573.f (A_106 hw) rfl (F2555.f (A_106 hw) rfl q2461)))), (u2605.f (Or.inl (mAt.ne (A_150 hw) (A_106 hw) rfl)) (u2588.f (Or.inl (mAt.ne (A_149 hw) (A_106 hw) rfl)) (F2573.f (A_106 hw) rfl (F2555.f (A_106 hw) rfl q2463)))), (UPg.fr I2575 hw T2606 rfl ((mF.up (mF.up mF.refl (A_149 hw) u2588 rfl) (A_150 hw) u2605 rfl) : mF [149999, 150999] w μ2571 μ2604) rfl rfl rfl ((mG.upO (mG.upO mG.refl u2588 rfl) u2605 rfl) : mG [] μ2571 μ2604) (fun _ h => absurd h List.not_mem_nil)), (vc_X12_piece_u_25 h2470 (h2464.1 (vc_X12_sign_2 h1908)) h2578 (hq0 (vc_X12_sign_2 h1908)) ((hq1 (vc_X12_sign_2 h1908)).resolve_left (vc_X12_sign_6 h2446)) ht_f_at ht_f_from h2549 h2466 h2467), (vc_X12_piece_u_26 h2470 (h2464.1 (vc_X12_sign_2 h1908)) h2578 (hq0 (vc_X12_sign_2 h1908)) ((hq1 (vc_X12_sign_2 h1908)).resolve_left (vc_X12_sign_6 h2446)) ht_f_at ht_f_from h2549 h2466 h2467 h2468), (vc_X12_piece_u_27 h2470 (h2464.1 (vc_X12_sign_2 h1908)) h2578 (hq0 (vc_X12_sign_2 h1908)) ((hq1 (vc_X12_sign_2 h1908)).resolve_left (vc_X12_sign_6 h2446)) ht_f_at ht_f_from h2549 h2466 h2467 h2468), (vc_X12_piece_u_28 h2470 (h2464.1 (vc_X12_sign_2 h1908)) h2578 (hq0 (vc_X12_sign_2 h1908)) ((hq1 (vc_X12_sign_2 h1908)).resolve_left (vc_X12_sign_6 h2446)) ht_f_at ht_f_from h2549 h2466 h2467 h2468 h2469), (vc_X12_piece_u_97 h1907 h2444 h2470 h2578 ((h2163.resolve_left (fun h => h (vc_X12_sign_2 h1908))).resolve_left (fun h => h (vc_X12_piece_u_40 h2446))) ((h2357.resolve_left (fun h => h (vc_X12_sign_2 h1908))).resolve_left (fun h => h (vc_X12_piece_u_40 h2446))) h1908 h2445 h2446 h2549), (vc_X12_piece_u_30 (hq0 (vc_X12_sign_2 h1908)) ((hq1 (vc_X12_sign_2 h1908)).resolve_left (vc_X12_sign_6 h2446)) h2470 (h2464.1 (vc_X12_sign_2 h1908)) h2578 ht_f_at ht_f_from h2549 h2467), (vc_X12_piece_u_99 h1907 h2444 h2470 h2578 ((h2163.resolve_left (fun h => h (vc_X12_sign_2 h1908))).resolve_left (fun h => h (vc_X12_piece_u_40 h2446))) ((h2357.resolve_left (fun h => h (vc_X12_sign_2 h1908))).resolve_left (fun h => h (vc_X12_piece_u_40 h2446))) h1908 h2445 h2446 h2549), trivial⟩
            have h2607 : 1 ≤ z1967 ∧ z1967 ≤ 1 := (vc_X12_ring_24 h2602 h1968)
            refine mr_iconst (pc := 167) (z := 1) dX12_piece_167 ?_
            refine sv_goto (pc := 168) (tgt := 172) dX12_piece_168 (by decide) ?_
            refine ss_150 (pc := 172) dX12_piece_172 (A_150 hw) T2589 (rIx (n := 10) (rSub (e := 0) (f := 5) h1 (rR (x := 1)) rfl) rfl) (rW (c := 0) (d := 1) (rR (x := 1)) rfl) fun μ2608 u2609 T2610 => ?_
            exact mr_vret dX12_piece_173 rfl (le_t rfl) (le_t rfl) T2610 (mF.up (mF.up (mF.call (mF.call (mF.call (mF.call mF.refl F1941 rfl) F2452 rfl) F2555 rfl) F2573 rfl) (A_149 hw) u2588 rfl) (A_150 hw) u2609 rfl) ⟨z2454, z2456, z2458, z2460, z2462, (u2609.f (Or.inl (mAt.ne (A_150 hw) (A_106 hw) rfl)) (u2588.f (Or.inl (mAt.ne (A_149 hw) (A_106 hw) rfl)) (F2573.f (A_106 hw) rfl (F2555.f (A_106 hw) rfl q2455)))), (u2609.f (Or.inl (mAt.ne (A_150 hw) (A_106 hw) rfl)) (u2588.f (Or.inl (mAt.ne (A_149 hw) (A_106 hw) rfl)) (F2573.f (A_106 hw) rfl (F2555.f (A_106 hw) rfl q2457)))), (u2609.f (Or.inl (mAt.ne (A_150 hw) (A_106 hw) rfl)) (u2588.f (Or.inl (mAt.ne (A_149 hw) (A_106 hw) rfl)) (F2573.f (A_106 hw) rfl (F2555.f (A_106 hw) rfl q2459)))), (u2609.f (Or.inl (mAt.ne (A_150 hw) (A_106 hw) rfl)) (u2588.f (Or.inl (mAt.ne (A_149 hw) (A_106 hw) rfl)) (F2573.f (A_106 hw) rfl (F2555.f (A_106 hw) rfl q2461)))), (u2609.f (Or.inl (mAt.ne (A_150 hw) (A_106 hw) rfl)) (u2588.f (Or.inl (mAt.ne (A_149 hw) (A_106 hw) rfl)) (F2573.f (A_106 hw) rfl (F2555.f (A_106 hw) rfl q2463)))), (UPg.fr I2575 hw T2610 rfl ((mF.up (mF.up mF.refl (A_149 hw) u2588 rfl) (A_150 hw) u2609 rfl) : mF [149999, 150999] w μ2571 μ2608) rfl rfl rfl ((mG.upO (mG.upO mG.refl u2588 rfl) u2609 rfl) : mG [] μ2571 μ2608) (fun _ h => absurd h List.not_mem_nil)), (vc_X12_piece_u_25 h2470 (h2464.1 (vc_X12_sign_2 h1908)) h2578 (hq0 (vc_X12_sign_2 h1908)) ((hq1 (vc_X12_sign_2 h1908)).resolve_left (vc_X12_sign_6 h2446)) ht_f_at ht_f_from h2549 h2466 h2467), (vc_X12_piece_u_26 h2470 (h2464.1 (vc_X12_sign_2 h1908)) h2578 (hq0 (vc_X12_sign_2 h1908)) ((hq1 (vc_X12_sign_2 h1908)).resolve_left (vc_X12_sign_6 h2446)) ht_f_at ht_f_from h2549 h2466 h2467 h2468), (vc_X12_piece_u_27 h2470 (h2464.1 (vc_X12_sign_2 h1908)) h2578 (hq0 (vc_X12_sign_2 h1908)) ((hq1 (vc_X12_sign_2 h1908)).resolve_left (vc_X12_sign_6 h2446)) ht_f_at ht_f_from h2549 h2466 h2467 h2468), (vc_X12_piece_u_28 h2470 (h2464.1 (vc_X12_sign_2 h1908)) h2578 (hq0 (vc_X12_sign_2 h1908)) ((hq1 (vc_X12_sign_2 h1908)).resolve_left (vc_X12_sign_6 h2446)) ht_f_at ht_f_from h2549 h2466 h2467 h2468 h2469), (vc_X12_piece_u_97 h1907 h2444 h2470 h2578 ((h2163.resolve_left (fun h => h (vc_X12_sign_2 h1908))).resolve_left (fun h => h (vc_X12_piece_u_40 h2446))) ((h2357.resolve_left (fun h => h (vc_X12_sign_2 h1908))).resolve_left (fun h => h (vc_X12_piece_u_40 h2446))) h1908 h2445 h2446 h2549), (vc_X12_piece_u_30 (hq0 (vc_X12_sign_2 h1908)) ((hq1 (vc_X12_sign_2 h1908)).resolve_left (vc_X12_sign_6 h2446)) h2470 (h2464.1 (vc_X12_sign_2 h1908)) h2578 ht_f_at ht_f_from h2549 h2467), (vc_X12_piece_u_99 h1907 h2444 h2470 h2578 ((h2163.resolve_left (fun h => h (vc_X12_sign_2 h1908))).resolve_left (fun h => h (vc_X12_piece_u_40 h2446))) ((h2357.resolve_left (fun h => h (vc_X12_sign_2 h1908))).resolve_left (fun h => h (vc_X12_piece_u_40 h2446))) h1908 h2445 h2446 h2549), trivial⟩
          refine mr_if_eq (pc := 129) (tgt := 144) dX12_piece_129 (by decide) (r32 h1968 rfl) (fun h2611 => ?_) (fun h2611 => ?_)
          · have h2612 : 0 ≤ z1967 ∧ z1967 ≤ 0 := (vc_X12_ring_22 h2611 h1968)
            refine mr_lload_n (pc := 144) (z := p2) dX12_piece_144 rfl rfl ?_
            refine mr_lvS (lv' := [(0, .ref 106), (6, iv z1967), (7, iv (f_levels - 1))]) (List.forall_mem_cons.mpr ⟨rfl, List.forall_mem_cons.mpr ⟨rfl, List.forall_mem_cons.mpr ⟨rfl, fun _ h => absurd h List.not_mem_nil⟩⟩⟩) ?_
            exact J2586 p2 hp2
          have h2613 : 1 ≤ z1967 ∧ z1967 ≤ 1 := (vc_X12_ring_24 h2611 h1968)
          refine sv_aload_n (pc := 132) dX12_piece_132 rfl rfl ?_
          refine gf_X12_64 (pc := 133) dX12_piece_133 wF_X12_269 (A_106 hw) T2572 ?_
          refine mr_iload (pc := 136) (z := (f_levels - 1)) dX12_piece_136 rfl ?_
          refine lk_149 (pc := 138) dX12_piece_138 (A_149 hw) (rIx (n := 10) (rSub (e := 0) (f := 5) h1 (rR (x := 1)) rfl) rfl) (F2573.f (A_149 hw) rfl (F2555.f (A_149 hw) rfl q2551)) ?_
          refine mr_lload_n (pc := 139) (z := p2) dX12_piece_139 rfl rfl ?_
          refine mr_lor (pc := 140) dX12_piece_140 ?_
          refine mr_genL (r64i _) fun z2614 q2615 h2616 => ?_
          refine sv_goto (pc := 141) (tgt := 145) dX12_piece_141 (by decide) ?_
          refine mr_lvS (lv' := [(0, .ref 106), (6, iv z1967), (7, iv (f_levels - 1))]) (List.forall_mem_cons.mpr ⟨rfl, List.forall_mem_cons.mpr ⟨rfl, List.forall_mem_cons.mpr ⟨rfl, fun _ h => absurd h List.not_mem_nil⟩⟩⟩) ?_
          exact J2586 z2614 h2616
        refine mr_if_eq (pc := 107) (tgt := 121) dX12_piece_107 (by decide) (r32 h2559 rfl) (fun h2617 => ?_) (fun h2617 => ?_)
        · have h2618 : 0 ≤ z2557 ∧ z2557 ≤ 0 := (vc_X12_ring_22 h2617 h2559)
          refine mr_lvS (lv' := [(0, .ref 106), (3, jv p2), (6, iv z1967), (7, iv (f_levels - 1))]) (List.forall_mem_cons.mpr ⟨rfl, List.forall_mem_cons.mpr ⟨rfl, List.forall_mem_cons.mpr ⟨rfl, List.forall_mem_cons.mpr ⟨rfl, fun _ h => absurd h List.not_mem_nil⟩⟩⟩⟩) ?_
          exact J2577 μ2553 T2554 mF.refl h2556.1 (by rw [(F2555.f (A_106 hw) rfl q2455)]; exact (vc_X12_wrong_2 h2470 h2549))
        have h2619 : 1 ≤ z2557 ∧ z2557 ≤ 1 := (vc_X12_ring_24 h2617 h2559)
        refine sv_aload_n (pc := 110) dX12_piece_110 rfl rfl ?_
        refine gf_X12_63 (pc := 111) dX12_piece_111 wF_X12_266 (A_106 hw) T2554 ?_
        refine mr_iload (pc := 114) (z := (f_levels - 1)) dX12_piece_114 rfl ?_
        refine sv_dup2 (pc := 116) dX12_piece_116 rfl rfl ?_
        refine la_148 (pc := 117) dX12_piece_117 (A_148 hw) T2554 (rIx (n := 10) (rSub (e := 0) (f := 5) h1 (rR (x := 1)) rfl) rfl) fun z2620 q2621 h2622 => ?_
        refine mr_lload_n (pc := 118) (z := p1) dX12_piece_118 rfl rfl ?_
        refine mr_lor (pc := 119) dX12_piece_119 ?_
        refine mr_genL (r64i _) fun z2623 q2624 h2625 => ?_
        refine ss_148 (pc := 120) dX12_piece_120 (A_148 hw) T2554 (rIx (n := 10) (rSub (e := 0) (f := 5) h1 (rR (x := 1)) rfl) rfl) h2625 fun μ2626 u2627 T2628 => ?_
        refine mr_lvS (lv' := [(0, .ref 106), (3, jv p2), (6, iv z1967), (7, iv (f_levels - 1))]) (List.forall_mem_cons.mpr ⟨rfl, List.forall_mem_cons.mpr ⟨rfl, List.forall_mem_cons.mpr ⟨rfl, List.forall_mem_cons.mpr ⟨rfl, fun _ h => absurd h List.not_mem_nil⟩⟩⟩⟩) ?_
        exact J2577 μ2626 T2628 (mF.up mF.refl (A_148 hw) u2627 rfl) (UPg.fr h2556.1 hw T2628 rfl ((mF.up mF.refl (A_148 hw) u2627 rfl) : mF [148999] w μ2553 μ2626) rfl rfl rfl ((mG.upO mG.refl u2627 rfl) : mG [] μ2553 μ2626) (fun _ h => absurd h List.not_mem_nil)) (by rw [(u2627.f (Or.inl (mAt.ne (A_148 hw) (A_106 hw) rfl)) (F2555.f (A_106 hw) rfl q2455))]; exact (vc_X12_wrong_2 h2470 h2549))
      refine mr_if_ne (pc := 34) (tgt := 46) dX12_piece_34 (by decide) (r32 h1948.1 rfl) (fun h2629 => ?_) (fun h2629 => ?_)
      · have h2630 : 1 ≤ z1949 ∧ z1949 ≤ 1 := (vc_X12_ring_24 h2629 h1948.1)
        have h2631 : f_code = 0 ∧ f_type = 3 ∧ f_number = (42 : Int) := (h1948.2.1 (vc_X12_best_l_18 h2629 h2630))
        have h2632 : 42 ≤ f_number ∧ f_number ≤ 42 := (vc_X12_piece_u_6 h2631 h1907 h1908 ht_f_number ht_f_type)
        have h2633 : 3 ≤ f_type ∧ f_type ≤ 3 := (vc_X12_piece_u_7 h2631 h1907 h1908 h2632 ht_f_type)
        refine mr_iconst (pc := 46) (z := 1) dX12_piece_46 ?_
        refine mr_istore (pc := 47) (lv' := [(6, iv 1), (0, .ref 106), (1, jv p1), (3, jv p2)]) dX12_piece_47 (by decide) rfl ?_
        refine mr_lvS (lv' := [(0, .ref 106), (1, jv p1), (3, jv p2), (6, iv 1)]) (List.forall_mem_cons.mpr ⟨rfl, List.forall_mem_cons.mpr ⟨rfl, List.forall_mem_cons.mpr ⟨rfl, List.forall_mem_cons.mpr ⟨rfl, fun _ h => absurd h List.not_mem_nil⟩⟩⟩⟩) ?_
        exact J1969 1 (rW (c := 0) (d := 1) (rR (x := 1)) rfl)
      have h2634 : 0 ≤ z1949 ∧ z1949 ≤ 0 := (vc_X12_ring_22 h2629 h1948.1)
      have h2635 : ¬ f_code = 0 ∨ ¬ f_type = 3 ∨ ¬ f_number = (42 : Int) := (h1948.2.2.1 (vc_X12_goes_7 h2629 h2634))
      refine sv_aload_n (pc := 37) dX12_piece_37 rfl rfl ?_
      refine mr_bipush (pc := 38) (z := 63) dX12_piece_38 (by decide) ?_
      refine mr_cVP (pc := 40) (c_X12_isSign hw T1940 (rW (c := (-2147483648)) (d := 2147483647) (rR (x := 63)) rfl) (F1941.f (A_106 hw) rfl q_f_code) (F1941.f (A_106 hw) rfl q_f_type) (F1941.f (A_106 hw) rfl q_f_number)) (gOk _ _ _ _ _) dX12_piece_40 (tX12_isSign _ _ _ _ _) ⟨wV_X12_isSign, wL_X12_isSign⟩ wM_X12_244 (gCX12 _ _ _ _ _) rfl (A_106 hw) rfl ⟨le_t rfl, le_t rfl⟩ ⟨le_t rfl, le_t rfl⟩ rfl (le_t rfl) fun z2640 h2639 => ?_
      refine mr_if_eq (pc := 43) (tgt := 49) dX12_piece_43 (by decide) (r32 h2639.1 rfl) (fun h2641 => ?_) (fun h2641 => ?_)
      · have h2642 : 0 ≤ z2640 ∧ z2640 ≤ 0 := (vc_X12_ring_22 h2641 h2639.1)
        have h2643 : ¬ f_code = 0 ∨ ¬ f_type = 3 ∨ ¬ f_number = (63 : Int) := (h2639.2.2.1 (vc_X12_goes_7 h2641 h2642))
        exact J1969 p3 hp3
      have h2644 : 1 ≤ z2640 ∧ z2640 ≤ 1 := (vc_X12_ring_24 h2641 h2639.1)
      have h2645 : f_code = 0 ∧ f_type = 3 ∧ f_number = (63 : Int) := (h2639.2.1 (vc_X12_best_l_18 h2641 h2644))
      have h2646 : 63 ≤ f_number ∧ f_number ≤ 63 := (vc_X12_piece_u_110 h2645 h1907 (h2635.resolve_left (fun h => h (vc_X12_sign_2 h1908))) h1908 ht_f_number ht_f_type)
      have h2647 : 3 ≤ f_type ∧ f_type ≤ 3 := (vc_X12_piece_u_111 h2645 h1907 (h2635.resolve_left (fun h => h (vc_X12_sign_2 h1908))) h1908 h2646 ht_f_type)
      refine mr_iconst (pc := 46) (z := 1) dX12_piece_46 ?_
      refine mr_istore (pc := 47) (lv' := [(6, iv 1), (0, .ref 106), (1, jv p1), (3, jv p2)]) dX12_piece_47 (by decide) rfl ?_
      refine mr_lvS (lv' := [(0, .ref 106), (1, jv p1), (3, jv p2), (6, iv 1)]) (List.forall_mem_cons.mpr ⟨rfl, List.forall_mem_cons.mpr ⟨rfl, List.forall_mem_cons.mpr ⟨rfl, List.forall_mem_cons.mpr ⟨rfl, fun _ h => absurd h List.not_mem_nil⟩⟩⟩⟩) ?_
      exact J1969 1 (rW (c := 0) (d := 1) (rR (x := 1)) rfl)
    refine mr_if_ne (pc := 10) (tgt := 22) dX12_piece_10 (by decide) (r32 h1912.1 rfl) (fun h2648 => ?_) (fun h2648 => ?_)
    · have h2649 : 1 ≤ z1913 ∧ z1913 ≤ 1 := (vc_X12_ring_24 h2648 h1912.1)
      have h2650 : f_code = 0 ∧ f_type = 3 ∧ f_number = (42 : Int) := (h1912.2.1 (vc_X12_best_l_18 h2648 h2649))
      have h2651 : 42 ≤ f_number ∧ f_number ≤ 42 := (vc_X12_piece_u_6 h2650 h1907 h1908 ht_f_number ht_f_type)
      have h2652 : 3 ≤ f_type ∧ f_type ≤ 3 := (vc_X12_piece_u_7 h2650 h1907 h1908 h2651 ht_f_type)
      refine sv_aload_n (pc := 22) dX12_piece_22 rfl rfl ?_
      refine mr_lload_n (pc := 23) (z := p2) dX12_piece_23 rfl rfl ?_
      refine mr_lload_n (pc := 24) (z := p1) dX12_piece_24 rfl rfl ?_
      refine mr_cVV (pc := 25) (c_X12_follows_u hw hT hp2 hp1 q_f_pol q_f_draft (vc_X12_piece_u_11 hq5 ht_f_draft ht_f_pol) hIUP) (gOk _ _ _ _ _) dX12_piece_25 (tX12_follows _ _ _ _ _) ⟨wV_X12_follows, wL_X12_follows⟩ wM_X12_281 (gCX12 _ _ _ _ _) rfl (A_106 hw) rfl ⟨le_t rfl, le_t rfl⟩ ⟨le_t rfl, le_t rfl⟩ rfl (le_t rfl) fun μ2653 T2654 F2655 h2656 => ?_
      refine mr_lvS (lv' := [(0, .ref 106), (1, jv p1), (3, jv p2), (6, iv p3)]) (List.forall_mem_cons.mpr ⟨rfl, List.forall_mem_cons.mpr ⟨rfl, List.forall_mem_cons.mpr ⟨rfl, List.forall_mem_cons.mpr ⟨rfl, fun _ h => absurd h List.not_mem_nil⟩⟩⟩⟩) ?_
      exact J1944 μ2653 T2654 (mF.call mF.refl F2655 rfl) h2656.1
    have h2657 : 0 ≤ z1913 ∧ z1913 ≤ 0 := (vc_X12_ring_22 h2648 h1912.1)
    have h2658 : ¬ f_code = 0 ∨ ¬ f_type = 3 ∨ ¬ f_number = (42 : Int) := (h1912.2.2.1 (vc_X12_goes_7 h2648 h2657))
    refine sv_aload_n (pc := 13) dX12_piece_13 rfl rfl ?_
    refine mr_bipush (pc := 14) (z := 43) dX12_piece_14 (by decide) ?_
    refine mr_cVP (pc := 16) (c_X12_isSign hw hT (rW (c := (-2147483648)) (d := 2147483647) (rR (x := 43)) rfl) q_f_code q_f_type q_f_number) (gOk _ _ _ _ _) dX12_piece_16 (tX12_isSign _ _ _ _ _) ⟨wV_X12_isSign, wL_X12_isSign⟩ wM_X12_244 (gCX12 _ _ _ _ _) rfl (A_106 hw) rfl ⟨le_t rfl, le_t rfl⟩ ⟨le_t rfl, le_t rfl⟩ rfl (le_t rfl) fun z2663 h2662 => ?_
    refine mr_if_eq (pc := 19) (tgt := 28) dX12_piece_19 (by decide) (r32 h2662.1 rfl) (fun h2664 => ?_) (fun h2664 => ?_)
    · have h2665 : 0 ≤ z2663 ∧ z2663 ≤ 0 := (vc_X12_ring_22 h2664 h2662.1)
      have h2666 : ¬ f_code = 0 ∨ ¬ f_type = 3 ∨ ¬ f_number = (43 : Int) := (h2662.2.2.1 (vc_X12_goes_7 h2664 h2665))
      refine mr_lvS (lv' := [(0, .ref 106), (1, jv p1), (3, jv p2), (6, iv p3)]) (List.forall_mem_cons.mpr ⟨rfl, List.forall_mem_cons.mpr ⟨rfl, List.forall_mem_cons.mpr ⟨rfl, List.forall_mem_cons.mpr ⟨rfl, fun _ h => absurd h List.not_mem_nil⟩⟩⟩⟩) ?_
      exact J1944 μ hT mF.refl hIUP
    have h2667 : 1 ≤ z2663 ∧ z2663 ≤ 1 := (vc_X12_ring_24 h2664 h2662.1)
    have h2668 : f_code = 0 ∧ f_type = 3 ∧ f_number = (43 : Int) := (h2662.2.1 (vc_X12_best_l_18 h2664 h2667))
    have h2669 : 43 ≤ f_number ∧ f_number ≤ 43 := (vc_X12_piece_u_38 h2668 h1907 (h2658.resolve_left (fun h => h (vc_X12_sign_2 h1908))) h1908 ht_f_number ht_f_type)
    have h2670 : 3 ≤ f_type ∧ f_type ≤ 3 := (vc_X12_piece_u_39 h2668 h1907 (h2658.resolve_left (fun h => h (vc_X12_sign_2 h1908))) h1908 h2669 ht_f_type)
    refine sv_aload_n (pc := 22) dX12_piece_22 rfl rfl ?_
    refine mr_lload_n (pc := 23) (z := p2) dX12_piece_23 rfl rfl ?_
    refine mr_lload_n (pc := 24) (z := p1) dX12_piece_24 rfl rfl ?_
    refine mr_cVV (pc := 25) (c_X12_follows_u hw hT hp2 hp1 q_f_pol q_f_draft (vc_X12_piece_u_11 hq5 ht_f_draft ht_f_pol) hIUP) (gOk _ _ _ _ _) dX12_piece_25 (tX12_follows _ _ _ _ _) ⟨wV_X12_follows, wL_X12_follows⟩ wM_X12_281 (gCX12 _ _ _ _ _) rfl (A_106 hw) rfl ⟨le_t rfl, le_t rfl⟩ ⟨le_t rfl, le_t rfl⟩ rfl (le_t rfl) fun μ2671 T2672 F2673 h2674 => ?_
    refine mr_lvS (lv' := [(0, .ref 106), (1, jv p1), (3, jv p2), (6, iv p3)]) (List.forall_mem_cons.mpr ⟨rfl, List.forall_mem_cons.mpr ⟨rfl, List.forall_mem_cons.mpr ⟨rfl, List.forall_mem_cons.mpr ⟨rfl, fun _ h => absurd h List.not_mem_nil⟩⟩⟩⟩) ?_
    exact J1944 μ2671 T2672 (mF.call mF.refl F2673 rfl) h2674.1
  have h2675 : 1 ≤ f_code ∧ f_code ≤ 4 := (vc_X12_wrong_1 h1907 ht_f_code)
  refine mr_iload (pc := 0) (z := p3) dX12_piece_0 rfl ?_
  refine mr_istore (pc := 2) (lv' := [(6, iv p3), (0, .ref 106), (1, jv p1), (3, jv p2), (5, iv p3)]) dX12_piece_2 (by decide) rfl ?_
  refine sv_aload_n (pc := 4) dX12_piece_4 rfl rfl ?_
  refine mr_bipush (pc := 5) (z := 42) dX12_piece_5 (by decide) ?_
  refine mr_cVP (pc := 7) (c_X12_isSign hw hT (rW (c := (-2147483648)) (d := 2147483647) (rR (x := 42)) rfl) q_f_code q_f_type q_f_number) (gOk _ _ _ _ _) dX12_piece_7 (tX12_isSign _ _ _ _ _) ⟨wV_X12_isSign, wL_X12_isSign⟩ wM_X12_244 (gCX12 _ _ _ _ _) rfl (A_106 hw) rfl ⟨le_t rfl, le_t rfl⟩ ⟨le_t rfl, le_t rfl⟩ rfl (le_t rfl) fun z2680 h2679 => ?_
  refine mr_if_ne (pc := 10) (tgt := 22) dX12_piece_10 (by decide) (r32 h2679.1 rfl) (fun h2696 => ?_) (fun h2696 => ?_)
  · exact ((vc_X12_piece_u_124 h2696 h2679.2.1 h2679.2.2.1 h1907 h2675 ht_f_number ht_f_type h2679.1)).elim
  have h2700 : 0 ≤ z2680 ∧ z2680 ≤ 0 := (vc_X12_ring_22 h2696 h2679.1)
  have h2701 : ¬ f_code = 0 ∨ ¬ f_type = 3 ∨ ¬ f_number = (42 : Int) := (h2679.2.2.1 (vc_X12_goes_7 h2696 h2700))
  refine sv_aload_n (pc := 13) dX12_piece_13 rfl rfl ?_
  refine mr_bipush (pc := 14) (z := 43) dX12_piece_14 (by decide) ?_
  refine mr_cVP (pc := 16) (c_X12_isSign hw hT (rW (c := (-2147483648)) (d := 2147483647) (rR (x := 43)) rfl) q_f_code q_f_type q_f_number) (gOk _ _ _ _ _) dX12_piece_16 (tX12_isSign _ _ _ _ _) ⟨wV_X12_isSign, wL_X12_isSign⟩ wM_X12_244 (gCX12 _ _ _ _ _) rfl (A_106 hw) rfl ⟨le_t rfl, le_t rfl⟩ ⟨le_t rfl, le_t rfl⟩ rfl (le_t rfl) fun z2706 h2705 => ?_
  refine mr_if_eq (pc := 19) (tgt := 28) dX12_piece_19 (by decide) (r32 h2705.1 rfl) (fun h2712 => ?_) (fun h2712 => ?_)
  · have h2713 : 0 ≤ z2706 ∧ z2706 ≤ 0 := (vc_X12_ring_22 h2712 h2705.1)
    have h2714 : ¬ f_code = 0 ∨ ¬ f_type = 3 ∨ ¬ f_number = (43 : Int) := (h2705.2.2.1 (vc_X12_goes_7 h2712 h2713))
    refine sv_aload_n (pc := 28) dX12_piece_28 rfl rfl ?_
    refine mr_bipush (pc := 29) (z := 42) dX12_piece_29 (by decide) ?_
    refine mr_cVP (pc := 31) (c_X12_isSign hw hT (rW (c := (-2147483648)) (d := 2147483647) (rR (x := 42)) rfl) q_f_code q_f_type q_f_number) (gOk _ _ _ _ _) dX12_piece_31 (tX12_isSign _ _ _ _ _) ⟨wV_X12_isSign, wL_X12_isSign⟩ wM_X12_244 (gCX12 _ _ _ _ _) rfl (A_106 hw) rfl ⟨le_t rfl, le_t rfl⟩ ⟨le_t rfl, le_t rfl⟩ rfl (le_t rfl) fun z2719 h2718 => ?_
    refine mr_if_ne (pc := 34) (tgt := 46) dX12_piece_34 (by decide) (r32 h2718.1 rfl) (fun h2735 => ?_) (fun h2735 => ?_)
    · exact ((vc_X12_piece_u_124 h2735 h2718.2.1 h2718.2.2.1 h1907 h2675 ht_f_number ht_f_type h2718.1)).elim
    have h2739 : 0 ≤ z2719 ∧ z2719 ≤ 0 := (vc_X12_ring_22 h2735 h2718.1)
    have h2740 : ¬ f_code = 0 ∨ ¬ f_type = 3 ∨ ¬ f_number = (42 : Int) := (h2718.2.2.1 (vc_X12_goes_7 h2735 h2739))
    refine sv_aload_n (pc := 37) dX12_piece_37 rfl rfl ?_
    refine mr_bipush (pc := 38) (z := 63) dX12_piece_38 (by decide) ?_
    refine mr_cVP (pc := 40) (c_X12_isSign hw hT (rW (c := (-2147483648)) (d := 2147483647) (rR (x := 63)) rfl) q_f_code q_f_type q_f_number) (gOk _ _ _ _ _) dX12_piece_40 (tX12_isSign _ _ _ _ _) ⟨wV_X12_isSign, wL_X12_isSign⟩ wM_X12_244 (gCX12 _ _ _ _ _) rfl (A_106 hw) rfl ⟨le_t rfl, le_t rfl⟩ ⟨le_t rfl, le_t rfl⟩ rfl (le_t rfl) fun z2745 h2744 => ?_
    refine mr_if_eq (pc := 43) (tgt := 49) dX12_piece_43 (by decide) (r32 h2744.1 rfl) (fun h2751 => ?_) (fun h2751 => ?_)
    · have h2752 : 0 ≤ z2745 ∧ z2745 ≤ 0 := (vc_X12_ring_22 h2751 h2744.1)
      have h2753 : ¬ f_code = 0 ∨ ¬ f_type = 3 ∨ ¬ f_number = (63 : Int) := (h2744.2.2.1 (vc_X12_goes_7 h2751 h2752))
      refine sv_aload_n (pc := 49) dX12_piece_49 rfl rfl ?_
      refine mr_bipush (pc := 50) (z := 42) dX12_piece_50 (by decide) ?_
      refine mr_cVP (pc := 52) (c_X12_isSign hw hT (rW (c := (-2147483648)) (d := 2147483647) (rR (x := 42)) rfl) q_f_code q_f_type q_f_number) (gOk _ _ _ _ _) dX12_piece_52 (tX12_isSign _ _ _ _ _) ⟨wV_X12_isSign, wL_X12_isSign⟩ wM_X12_244 (gCX12 _ _ _ _ _) rfl (A_106 hw) rfl ⟨le_t rfl, le_t rfl⟩ ⟨le_t rfl, le_t rfl⟩ rfl (le_t rfl) fun z2758 h2757 => ?_
      refine mr_if_ne (pc := 55) (tgt := 76) dX12_piece_55 (by decide) (r32 h2757.1 rfl) (fun h2784 => ?_) (fun h2784 => ?_)
      · exact ((vc_X12_piece_u_124 h2784 h2757.2.1 h2757.2.2.1 h1907 h2675 ht_f_number ht_f_type h2757.1)).elim
      have h2788 : 0 ≤ z2758 ∧ z2758 ≤ 0 := (vc_X12_ring_22 h2784 h2757.1)
      have h2789 : ¬ f_code = 0 ∨ ¬ f_type = 3 ∨ ¬ f_number = (42 : Int) := (h2757.2.2.1 (vc_X12_goes_7 h2784 h2788))
      refine sv_aload_n (pc := 58) dX12_piece_58 rfl rfl ?_
      refine mr_bipush (pc := 59) (z := 43) dX12_piece_59 (by decide) ?_
      refine mr_cVP (pc := 61) (c_X12_isSign hw hT (rW (c := (-2147483648)) (d := 2147483647) (rR (x := 43)) rfl) q_f_code q_f_type q_f_number) (gOk _ _ _ _ _) dX12_piece_61 (tX12_isSign _ _ _ _ _) ⟨wV_X12_isSign, wL_X12_isSign⟩ wM_X12_244 (gCX12 _ _ _ _ _) rfl (A_106 hw) rfl ⟨le_t rfl, le_t rfl⟩ ⟨le_t rfl, le_t rfl⟩ rfl (le_t rfl) fun z2794 h2793 => ?_
      refine mr_if_ne (pc := 64) (tgt := 76) dX12_piece_64 (by decide) (r32 h2793.1 rfl) (fun h2810 => ?_) (fun h2810 => ?_)
      · exact ((vc_X12_piece_u_144 h2810 h2793.2.1 h2793.2.2.1 h1907 h2675 ht_f_number ht_f_type h2793.1)).elim
      have h2814 : 0 ≤ z2794 ∧ z2794 ≤ 0 := (vc_X12_ring_22 h2810 h2793.1)
      have h2815 : ¬ f_code = 0 ∨ ¬ f_type = 3 ∨ ¬ f_number = (43 : Int) := (h2793.2.2.1 (vc_X12_goes_7 h2810 h2814))
      refine sv_aload_n (pc := 67) dX12_piece_67 rfl rfl ?_
      refine mr_bipush (pc := 68) (z := 63) dX12_piece_68 (by decide) ?_
      refine mr_cVP (pc := 70) (c_X12_isSign hw hT (rW (c := (-2147483648)) (d := 2147483647) (rR (x := 63)) rfl) q_f_code q_f_type q_f_number) (gOk _ _ _ _ _) dX12_piece_70 (tX12_isSign _ _ _ _ _) ⟨wV_X12_isSign, wL_X12_isSign⟩ wM_X12_244 (gCX12 _ _ _ _ _) rfl (A_106 hw) rfl ⟨le_t rfl, le_t rfl⟩ ⟨le_t rfl, le_t rfl⟩ rfl (le_t rfl) fun z2820 h2819 => ?_
      refine mr_if_eq (pc := 73) (tgt := 80) dX12_piece_73 (by decide) (r32 h2819.1 rfl) (fun h2826 => ?_) (fun h2826 => ?_)
      · have h2827 : 0 ≤ z2820 ∧ z2820 ≤ 0 := (vc_X12_ring_22 h2826 h2819.1)
        have h2828 : ¬ f_code = 0 ∨ ¬ f_type = 3 ∨ ¬ f_number = (63 : Int) := (h2819.2.2.1 (vc_X12_goes_7 h2826 h2827))
        refine sv_aload_n (pc := 80) dX12_piece_80 rfl rfl ?_
        refine gk_X12_59 (pc := 81) dX12_piece_81 wF_X12_254 (A_106 hw) q_f_levels ?_
        refine mr_iconst (pc := 84) (z := 1) dX12_piece_84 ?_
        refine mr_isub (pc := 85) (x := f_levels) (y := 1) dX12_piece_85 ?_
        refine mr_istore (pc := 86) (lv' := [(7, iv (f_levels - 1)), (6, iv p3), (0, .ref 106), (1, jv p1), (3, jv p2), (5, iv p3)]) dX12_piece_86 (by decide) rfl ?_
        refine sv_aload_n (pc := 88) dX12_piece_88 rfl rfl ?_
        refine sv_aload_n (pc := 89) dX12_piece_89 rfl rfl ?_
        refine gf_X12_64 (pc := 90) dX12_piece_90 wF_X12_269 (A_106 hw) hT ?_
        refine mr_iload (pc := 93) (z := (f_levels - 1)) dX12_piece_93 rfl ?_
        refine la_149 (pc := 95) dX12_piece_95 (A_149 hw) hT (rIx (n := 10) (rSub (e := 0) (f := 5) h1 (rR (x := 1)) rfl) rfl) fun z2829 q2830 h2831 => ?_
        refine mr_lload_n (pc := 96) (z := p1) dX12_piece_96 rfl rfl ?_
        refine mr_cVV (pc := 97) (c_X12_follows_u hw hT h2831 hp1 q_f_pol q_f_draft (vc_X12_piece_u_11 hq5 ht_f_draft ht_f_pol) hIUP) (gOk _ _ _ _ _) dX12_piece_97 (tX12_follows _ _ _ _ _) ⟨wV_X12_follows, wL_X12_follows⟩ wM_X12_281 (gCX12 _ _ _ _ _) rfl (A_106 hw) rfl ⟨le_t rfl, le_t rfl⟩ ⟨le_t rfl, le_t rfl⟩ rfl (le_t rfl) fun μ2832 T2833 F2834 h2835 => ?_
        refine sv_aload_n (pc := 100) dX12_piece_100 rfl rfl ?_
        refine gf_X12_65 (pc := 101) dX12_piece_101 wF_X12_272 (A_106 hw) T2833 ?_
        refine mr_iload (pc := 104) (z := (f_levels - 1)) dX12_piece_104 rfl ?_
        refine la_150 (pc := 106) dX12_piece_106 (A_150 hw) T2833 (rIx (n := 10) (rSub (e := 0) (f := 5) h1 (rR (x := 1)) rfl) rfl) fun z2836 q2837 h2838 => ?_
        have J2856 : ∀ (μ2850 : mM), (mT w μ2850) → (mF [148999] w μ2832 μ2850) → (UP l D c H0 sa μ2850) → ((1 ≤ μ2850 106 (37))) → sV (gG l D c H0 sa) mX12_piece (sRm 3 0 0) (sZ (gG l D c H0 sa) 0 0 (qV w [106033, 106034, 106035, 106036, 106037, 106038, 144999, 148999, 149999, 150999] μ (fun μ1 => ∃ o_code o_at o_from o_type o_number : Int, μ1 106 37 = o_code ∧ μ1 106 33 = o_at ∧ μ1 106 34 = o_from ∧ μ1 106 35 = o_type ∧ μ1 106 36 = o_number ∧ UP l D c H0 sa μ1 ∧ (o_code = 0 → o_from ≤ o_at) ∧ (o_code = 0 → o_type = 0 ∨ o_from + 1 ≤ o_at) ∧ (o_code = 0 → o_type = 1 → o_from + 2 ≤ o_at) ∧ (o_code = 0 → o_type = 1 → o_number = 0 ∨ o_number = 4 ∨ o_number = 5 ∨ o_from + 3 ≤ o_at) ∧ (o_code = 0 → f_code = 0) ∧ (o_code = 0 → f_from + 0 ≤ o_from) ∧ (f_code = 0 ∨ 1 ≤ o_code) ∧ True))) 121 [(0, .ref 106), (3, jv p2), (6, iv p3), (7, iv (f_levels - 1))] [] (mk w μ2850) 0 0 := by
          intro μ2850 T2851 F2852 I2854 h2855
          have h2857 : 1 ≤ f_code := (F2852.f (A_106 hw) rfl (F2834.f (A_106 hw) rfl q_f_code)) ▸ h2855
          refine sv_aload_n (pc := 121) dX12_piece_121 rfl rfl ?_
          refine gf_X12_64 (pc := 122) dX12_piece_122 wF_X12_269 (A_106 hw) T2851 ?_
          refine mr_iload (pc := 125) (z := (f_levels - 1)) dX12_piece_125 rfl ?_
          refine mr_iload (pc := 127) (z := p3) dX12_piece_127 rfl ?_
          have J2865 : ∀ (z2863 : Int), (((-9223372036854775808) ≤ z2863 ∧ z2863 ≤ 9223372036854775807)) → sV (gG l D c H0 sa) mX12_piece (sRm 3 0 0) (sZ (gG l D c H0 sa) 0 0 (qV w [106033, 106034, 106035, 106036, 106037, 106038, 144999, 148999, 149999, 150999] μ (fun μ1 => ∃ o_code o_at o_from o_type o_number : Int, μ1 106 37 = o_code ∧ μ1 106 33 = o_at ∧ μ1 106 34 = o_from ∧ μ1 106 35 = o_type ∧ μ1 106 36 = o_number ∧ UP l D c H0 sa μ1 ∧ (o_code = 0 → o_from ≤ o_at) ∧ (o_code = 0 → o_type = 0 ∨ o_from + 1 ≤ o_at) ∧ (o_code = 0 → o_type = 1 → o_from + 2 ≤ o_at) ∧ (o_code = 0 → o_type = 1 → o_number = 0 ∨ o_number = 4 ∨ o_number = 5 ∨ o_from + 3 ≤ o_at) ∧ (o_code = 0 → f_code = 0) ∧ (o_code = 0 → f_from + 0 ≤ o_from) ∧ (f_code = 0 ∨ 1 ≤ o_code) ∧ True))) 145 [(0, .ref 106), (6, iv p3), (7, iv (f_levels - 1))] [jv z2863, iv (f_levels - 1), .ref 149] (mk w μ2850) 0 0 := by
            intro z2863 h2864
            refine ss_149 (pc := 145) dX12_piece_145 (A_149 hw) T2851 (rIx (n := 10) (rSub (e := 0) (f := 5) h1 (rR (x := 1)) rfl) rfl) h2864 fun μ2866 u2867 T2868 => ?_
            refine sv_aload_n (pc := 146) dX12_piece_146 rfl rfl ?_
            refine gf_X12_65 (pc := 147) dX12_piece_147 wF_X12_272 (A_106 hw) T2868 ?_
            refine mr_iload (pc := 150) (z := (f_levels - 1)) dX12_piece_150 rfl ?_
            refine sv_aload_n (pc := 152) dX12_piece_152 rfl rfl ?_
            refine gf_X12_65 (pc := 153) dX12_piece_153 wF_X12_272 (A_106 hw) T2868 ?_
            refine mr_iload (pc := 156) (z := (f_levels - 1)) dX12_piece_156 rfl ?_
            refine lk_150 (pc := 158) dX12_piece_158 (A_150 hw) (rIx (n := 10) (rSub (e := 0) (f := 5) h1 (rR (x := 1)) rfl) rfl) (u2867.f (Or.inl (mAt.ne (A_149 hw) (A_150 hw) rfl)) (F2852.f (A_150 hw) rfl q2837)) ?_
            refine mr_if_eq (pc := 159) (tgt := 171) dX12_piece_159 (by decide) (r32 h2838 rfl) (fun h2873 => ?_) (fun h2873 => ?_)
            · have h2874 : 0 ≤ z2836 ∧ z2836 ≤ 0 := (vc_X12_ring_22 h2873 h2838)
              refine mr_iconst (pc := 171) (z := 0) dX12_piece_171 ?_
              refine ss_150 (pc := 172) dX12_piece_172 (A_150 hw) T2868 (rIx (n := 10) (rSub (e := 0) (f := 5) h1 (rR (x := 1)) rfl) rfl) (rW (c := 0) (d := 1) (rR (x := 0)) rfl) fun μ2875 u2876 T2877 => ?_
              exact mr_vret dX12_piece_173 rfl (le_t rfl) (le_t rfl) T2877 (mF.up (mF.up (mF.call (mF.call mF.refl F2834 rfl) F2852 rfl) (A_149 hw) u2867 rfl) (A_150 hw) u2876 rfl) ⟨f_code, f_at, f_from, f_type, f_number, (u2876.f (Or.inl (mAt.ne (A_150 hw) (A_106 hw) rfl)) (u2867.f (Or.inl (mAt.ne (A_149 hw) (A_106 hw) rfl)) (F2852.f (A_106 hw) rfl (F2834.f (A_106 hw) rfl q_f_code)))), (u2876.f (Or.inl (mAt.ne (A_150 hw) (A_106 hw) rfl)) (u2867.f (Or.inl (mAt.ne (A_149 hw) (A_106 hw) rfl)) (F2852.f (A_106 hw) rfl (F2834.f (A_106 hw) rfl q_f_at)))), (u2876.f (Or.inl (mAt.ne (A_150 hw) (A_106 hw) rfl)) (u2867.f (Or.inl (mAt.ne (A_149 hw) (A_106 hw) rfl)) (F2852.f (A_106 hw) rfl (F2834.f (A_106 hw) rfl q_f_from)))), (u2876.f (Or.inl (mAt.ne (A_150 hw) (A_106 hw) rfl)) (u2867.f (Or.inl (mAt.ne (A_149 hw) (A_106 hw) rfl)) (F2852.f (A_106 hw) rfl (F2834.f (A_106 hw) rfl q_f_type)))), (u2876.f (Or.inl (mAt.ne (A_150 hw) (A_106 hw) rfl)) (u2867.f (Or.inl (mAt.ne (A_149 hw) (A_106 hw) rfl)) (F2852.f (A_106 hw) rfl (F2834.f (A_106 hw) rfl q_f_number)))), (UPg.fr I2854 hw T2877 rfl ((mF.up (mF.up mF.refl (A_149 hw) u2867 rfl) (A_150 hw) u2876 rfl) : mF [149999, 150999] w μ2850 μ2875) rfl rfl rfl ((mG.upO (mG.upO mG.refl u2867 rfl) u2876 rfl) : mG [] μ2850 μ2875) (fun _ h => absurd h List.not_mem_nil)), (vc_X12_addressRead_118 h1907 h2857 ht_f_at h2675 ht_f_from), (vc_X12_addressRead_119 h1907 h2857 ht_f_at h2675 ht_f_from ht_f_type), (vc_X12_addressRead_120 h1907 h2857 ht_f_at h2675 ht_f_from ht_f_type), (vc_X12_addressRead_121 h1907 h2857 ht_f_at h2675 ht_f_from ht_f_number ht_f_type), (vc_X12_piece_u_154 h1907 h2857 h2675), (vc_X12_piece_u_155 h1907 h2857 h2675 ht_f_from), (vc_X12_piece_u_156 h1907 h2857 h2675), trivial⟩
            have h2878 : 1 ≤ z2836 ∧ z2836 ≤ 1 := (vc_X12_ring_24 h2873 h2838)
            refine mr_iload (pc := 162) (z := p3) dX12_piece_162 rfl ?_
            refine mr_if_eq (pc := 164) (tgt := 171) dX12_piece_164 (by decide) (r32 hp3 rfl) (fun h2881 => ?_) (fun h2881 => ?_)
            · have h2882 : 0 ≤ p3 ∧ p3 ≤ 0 := (vc_X12_ring_22 h2881 hp3)
              refine mr_iconst (pc := 171) (z := 0) dX12_piece_171 ?_
              refine ss_150 (pc := 172) dX12_piece_172 (A_150 hw) T2868 (rIx (n := 10) (rSub (e := 0) (f := 5) h1 (rR (x := 1)) rfl) rfl) (rW (c := 0) (d := 1) (rR (x := 0)) rfl) fun μ2883 u2884 T2885 => ?_
              exact mr_vret dX12_piece_173 rfl (le_t rfl) (le_t rfl) T2885 (mF.up (mF.up (mF.call (mF.call mF.refl F2834 rfl) F2852 rfl) (A_149 hw) u2867 rfl) (A_150 hw) u2884 rfl) ⟨f_code, f_at, f_from, f_type, f_number, (u2884.f (Or.inl (mAt.ne (A_150 hw) (A_106 hw) rfl)) (u2867.f (Or.inl (mAt.ne (A_149 hw) (A_106 hw) rfl)) (F2852.f (A_106 hw) rfl (F2834.f (A_106 hw) rfl q_f_code)))), (u2884.f (Or.inl (mAt.ne (A_150 hw) (A_106 hw) rfl)) (u2867.f (Or.inl (mAt.ne (A_149 hw) (A_106 hw) rfl)) (F2852.f (A_106 hw) rfl (F2834.f (A_106 hw) rfl q_f_at)))), (u2884.f (Or.inl (mAt.ne (A_150 hw) (A_106 hw) rfl)) (u2867.f (Or.inl (mAt.ne (A_149 hw) (A_106 hw) rfl)) (F2852.f (A_106 hw) rfl (F2834.f (A_106 hw) rfl q_f_from)))), (u2884.f (Or.inl (mAt.ne (A_150 hw) (A_106 hw) rfl)) (u2867.f (Or.inl (mAt.ne (A_149 hw) (A_106 hw) rfl)) (F2852.f (A_106 hw) rfl (F2834.f (A_106 hw) rfl q_f_type)))), (u2884.f (Or.inl (mAt.ne (A_150 hw) (A_106 hw) rfl)) (u2867.f (Or.inl (mAt.ne (A_149 hw) (A_106 hw) rfl)) (F2852.f (A_106 hw) rfl (F2834.f (A_106 hw) rfl q_f_number)))), (UPg.fr I2854 hw T2885 rfl ((mF.up (mF.up mF.refl (A_149 hw) u2867 rfl) (A_150 hw) u2884 rfl) : mF [149999, 150999] w μ2850 μ2883) rfl rfl rfl ((mG.upO (mG.upO mG.refl u2867 rfl) u2884 rfl) : mG [] μ2850 μ2883) (fun _ h => absurd h List.not_mem_nil)), (vc_X12_addressRead_118 h1907 h2857 ht_f_at h2675 ht_f_from), (vc_X12_addressRead_119 h1907 h2857 ht_f_at h2675 ht_f_from ht_f_type), (vc_X12_addressRead_120 h1907 h2857 ht_f_at h2675 ht_f_from ht_f_type), (vc_X12_addressRead_121 h1907 h2857 ht_f_at h2675 ht_f_from ht_f_number ht_f_type), (vc_X12_piece_u_154 h1907 h2857 h2675), (vc_X12_piece_u_155 h1907 h2857 h2675 ht_f_from), (vc_X12_piece_u_156 h1907 h2857 h2675), trivial⟩
            have h2886 : 1 ≤ p3 ∧ p3 ≤ 1 := (vc_X12_ring_24 h2881 hp3)
            refine mr_iconst (pc := 167) (z := 1) dX12_piece_167 ?_
            refine sv_goto (pc := 168) (tgt := 172) dX12_piece_168 (by decide) ?_
            refine ss_150 (pc := 172) dX12_piece_172 (A_150 hw) T2868 (rIx (n := 10) (rSub (e := 0) (f := 5) h1 (rR (x := 1)) rfl) rfl) (rW (c := 0) (d := 1) (rR (x := 1)) rfl) fun μ2887 u2888 T2889 => ?_
            exact mr_vret dX12_piece_173 rfl (le_t rfl) (le_t rfl) T2889 (mF.up (mF.up (mF.call (mF.call mF.refl F2834 rfl) F2852 rfl) (A_149 hw) u2867 rfl) (A_150 hw) u2888 rfl) ⟨f_code, f_at, f_from, f_type, f_number, (u2888.f (Or.inl (mAt.ne (A_150 hw) (A_106 hw) rfl)) (u2867.f (Or.inl (mAt.ne (A_149 hw) (A_106 hw) rfl)) (F2852.f (A_106 hw) rfl (F2834.f (A_106 hw) rfl q_f_code)))), (u2888.f (Or.inl (mAt.ne (A_150 hw) (A_106 hw) rfl)) (u2867.f (Or.inl (mAt.ne (A_149 hw) (A_106 hw) rfl)) (F2852.f (A_106 hw) rfl (F2834.f (A_106 hw) rfl q_f_at)))), (u2888.f (Or.inl (mAt.ne (A_150 hw) (A_106 hw) rfl)) (u2867.f (Or.inl (mAt.ne (A_149 hw) (A_106 hw) rfl)) (F2852.f (A_106 hw) rfl (F2834.f (A_106 hw) rfl q_f_from)))), (u2888.f (Or.inl (mAt.ne (A_150 hw) (A_106 hw) rfl)) (u2867.f (Or.inl (mAt.ne (A_149 hw) (A_106 hw) rfl)) (F2852.f (A_106 hw) rfl (F2834.f (A_106 hw) rfl q_f_type)))), (u2888.f (Or.inl (mAt.ne (A_150 hw) (A_106 hw) rfl)) (u2867.f (Or.inl (mAt.ne (A_149 hw) (A_106 hw) rfl)) (F2852.f (A_106 hw) rfl (F2834.f (A_106 hw) rfl q_f_number)))), (UPg.fr I2854 hw T2889 rfl ((mF.up (mF.up mF.refl (A_149 hw) u2867 rfl) (A_150 hw) u2888 rfl) : mF [149999, 150999] w μ2850 μ2887) rfl rfl rfl ((mG.upO (mG.upO mG.refl u2867 rfl) u2888 rfl) : mG [] μ2850 μ2887) (fun _ h => absurd h List.not_mem_nil)), (vc_X12_addressRead_118 h1907 h2857 ht_f_at h2675 ht_f_from), (vc_X12_addressRead_119 h1907 h2857 ht_f_at h2675 ht_f_from ht_f_type), (vc_X12_addressRead_120 h1907 h2857 ht_f_at h2675 ht_f_from ht_f_type), (vc_X12_addressRead_121 h1907 h2857 ht_f_at h2675 ht_f_from ht_f_number ht_f_type), (vc_X12_piece_u_154 h1907 h2857 h2675), (vc_X12_piece_u_155 h1907 h2857 h2675 ht_f_from), (vc_X12_piece_u_156 h1907 h2857 h2675), trivial⟩
          refine mr_if_eq (pc := 129) (tgt := 144) dX12_piece_129 (by decide) (r32 hp3 rfl) (fun h2890 => ?_) (fun h2890 => ?_)
          · have h2891 : 0 ≤ p3 ∧ p3 ≤ 0 := (vc_X12_ring_22 h2890 hp3)
            refine mr_lload_n (pc := 144) (z := p2) dX12_piece_144 rfl rfl ?_
            refine mr_lvS (lv' := [(0, .ref 106), (6, iv p3), (7, iv (f_levels - 1))]) (List.forall_mem_cons.mpr ⟨rfl, List.forall_mem_cons.mpr ⟨rfl, List.forall_mem_cons.mpr ⟨rfl, fun _ h => absurd h List.not_mem_nil⟩⟩⟩) ?_
            exact J2865 p2 hp2
          have h2892 : 1 ≤ p3 ∧ p3 ≤ 1 := (vc_X12_ring_24 h2890 hp3)
          refine sv_aload_n (pc := 132) dX12_piece_132 rfl rfl ?_
          refine gf_X12_64 (pc := 133) dX12_piece_133 wF_X12_269 (A_106 hw) T2851 ?_
          refine mr_iload (pc := 136) (z := (f_levels - 1)) dX12_piece_136 rfl ?_
          refine lk_149 (pc := 138) dX12_piece_138 (A_149 hw) (rIx (n := 10) (rSub (e := 0) (f := 5) h1 (rR (x := 1)) rfl) rfl) (F2852.f (A_149 hw) rfl (F2834.f (A_149 hw) rfl q2830)) ?_
          refine mr_lload_n (pc := 139) (z := p2) dX12_piece_139 rfl rfl ?_
          refine mr_lor (pc := 140) dX12_piece_140 ?_
          refine mr_genL (r64i _) fun z2893 q2894 h2895 => ?_
          refine sv_goto (pc := 141) (tgt := 145) dX12_piece_141 (by decide) ?_
          refine mr_lvS (lv' := [(0, .ref 106), (6, iv p3), (7, iv (f_levels - 1))]) (List.forall_mem_cons.mpr ⟨rfl, List.forall_mem_cons.mpr ⟨rfl, List.forall_mem_cons.mpr ⟨rfl, fun _ h => absurd h List.not_mem_nil⟩⟩⟩) ?_
          exact J2865 z2893 h2895
        refine mr_if_eq (pc := 107) (tgt := 121) dX12_piece_107 (by decide) (r32 h2838 rfl) (fun h2896 => ?_) (fun h2896 => ?_)
        · have h2897 : 0 ≤ z2836 ∧ z2836 ≤ 0 := (vc_X12_ring_22 h2896 h2838)
          refine mr_lvS (lv' := [(0, .ref 106), (3, jv p2), (6, iv p3), (7, iv (f_levels - 1))]) (List.forall_mem_cons.mpr ⟨rfl, List.forall_mem_cons.mpr ⟨rfl, List.forall_mem_cons.mpr ⟨rfl, List.forall_mem_cons.mpr ⟨rfl, fun _ h => absurd h List.not_mem_nil⟩⟩⟩⟩) ?_
          exact J2856 μ2832 T2833 mF.refl h2835.1 (by rw [(F2834.f (A_106 hw) rfl q_f_code)]; exact (vc_X12_wrong_2 h1907 h2675))
        have h2898 : 1 ≤ z2836 ∧ z2836 ≤ 1 := (vc_X12_ring_24 h2896 h2838)
        refine sv_aload_n (pc := 110) dX12_piece_110 rfl rfl ?_
        refine gf_X12_63 (pc := 111) dX12_piece_111 wF_X12_266 (A_106 hw) T2833 ?_
        refine mr_iload (pc := 114) (z := (f_levels - 1)) dX12_piece_114 rfl ?_
        refine sv_dup2 (pc := 116) dX12_piece_116 rfl rfl ?_
        refine la_148 (pc := 117) dX12_piece_117 (A_148 hw) T2833 (rIx (n := 10) (rSub (e := 0) (f := 5) h1 (rR (x := 1)) rfl) rfl) fun z2899 q2900 h2901 => ?_
        refine mr_lload_n (pc := 118) (z := p1) dX12_piece_118 rfl rfl ?_
        refine mr_lor (pc := 119) dX12_piece_119 ?_
        refine mr_genL (r64i _) fun z2902 q2903 h2904 => ?_
        refine ss_148 (pc := 120) dX12_piece_120 (A_148 hw) T2833 (rIx (n := 10) (rSub (e := 0) (f := 5) h1 (rR (x := 1)) rfl) rfl) h2904 fun μ2905 u2906 T2907 => ?_
        refine mr_lvS (lv' := [(0, .ref 106), (3, jv p2), (6, iv p3), (7, iv (f_levels - 1))]) (List.forall_mem_cons.mpr ⟨rfl, List.forall_mem_cons.mpr ⟨rfl, List.forall_mem_cons.mpr ⟨rfl, List.forall_mem_cons.mpr ⟨rfl, fun _ h => absurd h List.not_mem_nil⟩⟩⟩⟩) ?_
        exact J2856 μ2905 T2907 (mF.up mF.refl (A_148 hw) u2906 rfl) (UPg.fr h2835.1 hw T2907 rfl ((mF.up mF.refl (A_148 hw) u2906 rfl) : mF [148999] w μ2832 μ2905) rfl rfl rfl ((mG.upO mG.refl u2906 rfl) : mG [] μ2832 μ2905) (fun _ h => absurd h List.not_mem_nil)) (by rw [(u2906.f (Or.inl (mAt.ne (A_148 hw) (A_106 hw) rfl)) (F2834.f (A_106 hw) rfl q_f_code))]; exact (vc_X12_wrong_2 h1907 h2675))
      have h2908 : 1 ≤ z2820 ∧ z2820 ≤ 1 := (vc_X12_ring_24 h2826 h2819.1)
      have h2909 : f_code = 0 ∧ f_type = 3 ∧ f_number = (63 : Int) := (h2819.2.1 (vc_X12_best_l_18 h2826 h2908))
      have h2910 : 63 ≤ f_number ∧ f_number ≤ 63 := (vc_X12_piece_u_163 h2909 h1907 h2675 ht_f_number ht_f_type)
      exact ((vc_X12_piece_u_164 h2826 h2819.2.1 h2819.2.2.1 h1907 h2909 h2675 h2910 ht_f_type h2908)).elim
    have h2911 : 1 ≤ z2745 ∧ z2745 ≤ 1 := (vc_X12_ring_24 h2751 h2744.1)
    have h2912 : f_code = 0 ∧ f_type = 3 ∧ f_number = (63 : Int) := (h2744.2.1 (vc_X12_best_l_18 h2751 h2911))
    have h2913 : 63 ≤ f_number ∧ f_number ≤ 63 := (vc_X12_piece_u_163 h2912 h1907 h2675 ht_f_number ht_f_type)
    exact ((vc_X12_piece_u_164 h2751 h2744.2.1 h2744.2.2.1 h1907 h2912 h2675 h2913 ht_f_type h2911)).elim
  have h2914 : 1 ≤ z2706 ∧ z2706 ≤ 1 := (vc_X12_ring_24 h2712 h2705.1)
  have h2915 : f_code = 0 ∧ f_type = 3 ∧ f_number = (43 : Int) := (h2705.2.1 (vc_X12_best_l_18 h2712 h2914))
  have h2916 : 43 ≤ f_number ∧ f_number ≤ 43 := (vc_X12_piece_u_143 h2915 h1907 h2675 ht_f_number ht_f_type)
  exact ((vc_X12_piece_u_170 h2712 h2705.2.1 h2705.2.2.1 h1907 h2915 h2675 h2916 ht_f_type h2914)).elim
