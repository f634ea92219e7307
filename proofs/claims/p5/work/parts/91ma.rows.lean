theorem vc_X12_verdict_u_1 {p1 z1 z8 : Int} (h0 : z8 = 0) (h1 : (z8 = 1 → 0 ≤ p1 ∧ p1 < z1)) (h2 : (z8 = 0 → p1 < 0 ∨ z1 ≤ p1)) (h3 : (-2147483648) ≤ p1 ∧ p1 ≤ 2147483647) (h4 : 0 ≤ z1 ∧ z1 ≤ 10) (h5 : 0 ≤ z8 ∧ z8 ≤ 1) : 0 ≤ z8 ∧ z8 ≤ 0 := by omega
theorem vc_X12_verdict_u_2 {p1 z1 z8 : Int} (h0 : (z8 = 1 → 0 ≤ p1 ∧ p1 < z1)) (h1 : (z8 = 0 → p1 < 0 ∨ z1 ≤ p1)) (h2 : z8 = 0) (h3 : (-2147483648) ≤ p1 ∧ p1 ≤ 2147483647) (h4 : 0 ≤ z1 ∧ z1 ≤ 10) (h5 : 0 ≤ z8 ∧ z8 ≤ 0) : z8 = 0 := by omega
theorem vc_X12_verdict_u_3 {p1 z1 z8 : Int} (h0 : ¬ z8 = 0) (h1 : (z8 = 1 → 0 ≤ p1 ∧ p1 < z1)) (h2 : (z8 = 0 → p1 < 0 ∨ z1 ≤ p1)) (h3 : (-2147483648) ≤ p1 ∧ p1 ≤ 2147483647) (h4 : 0 ≤ z1 ∧ z1 ≤ 10) (h5 : 0 ≤ z8 ∧ z8 ≤ 1) : 1 ≤ z8 ∧ z8 ≤ 1 := by omega
theorem vc_X12_verdict_u_4 {p1 z1 z8 : Int} (h0 : (z8 = 1 → 0 ≤ p1 ∧ p1 < z1)) (h1 : (z8 = 0 → p1 < 0 ∨ z1 ≤ p1)) (h2 : ¬ z8 = 0) (h3 : (-2147483648) ≤ p1 ∧ p1 ≤ 2147483647) (h4 : 0 ≤ z1 ∧ z1 ≤ 10) (h5 : 1 ≤ z8 ∧ z8 ≤ 1) : z8 = 1 := by omega
theorem vc_X12_verdict_u_5 {p1 z1 z8 : Int} (h0 : 0 ≤ p1 ∧ p1 < z1) (h1 : (z8 = 1 → 0 ≤ p1 ∧ p1 < z1)) (h2 : (z8 = 0 → p1 < 0 ∨ z1 ≤ p1)) (h3 : (-2147483648) ≤ p1 ∧ p1 ≤ 2147483647) (h4 : 0 ≤ z1 ∧ z1 ≤ 10) (h5 : 1 ≤ z8 ∧ z8 ≤ 1) : 0 ≤ p1 ∧ p1 ≤ 9 := by omega
theorem vc_X12_verdict_u_6 {p1 z1 z8 : Int} (h0 : 0 ≤ p1 ∧ p1 < z1) (h1 : (z8 = 1 → 0 ≤ p1 ∧ p1 < z1)) (h2 : (z8 = 0 → p1 < 0 ∨ z1 ≤ p1)) (h3 : 0 ≤ p1 ∧ p1 ≤ 9) (h4 : 0 ≤ z1 ∧ z1 ≤ 10) (h5 : 1 ≤ z8 ∧ z8 ≤ 1) : 1 ≤ z1 ∧ z1 ≤ 10 := by omega
theorem vc_X12_verdict_u_7 {p3 : Int} (h0 : p3 < 0) (h1 : (-2147483648) ≤ p3 ∧ p3 ≤ 2147483647) : (-2147483648) ≤ p3 ∧ p3 ≤ (-1) := by omega
theorem vc_X12_verdict_u_8 {p3 : Int} (h0 : 0 ≤ p3) (h1 : (-2147483648) ≤ p3 ∧ p3 ≤ 2147483647) : 0 ≤ p3 ∧ p3 ≤ 2147483647 := by omega
theorem vc_X12_verdict_u_9 {p4 : Int} (h0 : 0 ≤ p4) (h1 : (-2147483648) ≤ p4 ∧ p4 ≤ 2147483647) : 0 ≤ p4 ∧ p4 ≤ 2147483647 := by omega
theorem vc_X12_verdict_u_10 {p4 : Int} (h0 : p4 < 0) (h1 : (-2147483648) ≤ p4 ∧ p4 ≤ 2147483647) : (-2147483648) ≤ p4 ∧ p4 ≤ (-1) := by omega
set_option maxRecDepth 4000 in
set_option maxHeartbeats 4000000 in
theorem c_X12_verdict_u {l : Launch} {D : va_G} {c : Nat → ClassId} {H0 : Heap} {sa : Nat × Nat × (Nat → Int32)} {w : mW} {μ : mM} (hw : mWF w) (hT : mT w μ) {p1 : Int} (hp1 : (-2147483648) ≤ p1 ∧ p1 ≤ 2147483647) {p2 : Int} (hp2 : (-2147483648) ≤ p2 ∧ p2 ≤ 2147483647) {p3 : Int} (hp3 : (-2147483648) ≤ p3 ∧ p3 ≤ 2147483647) {p4 : Int} (hp4 : (-2147483648) ≤ p4 ∧ p4 ≤ 2147483647) (hIJC : JC l D c H0 sa μ) : sC (gG l D c H0 sa) mX12_verdict 5 0 0 [.ref 106, iv p1, iv p2, iv p3, iv p4] (mk w μ) (qI w [106026, 106027, 106028, 106029, 106030, 106031] μ (fun z μ1 => ((-2147483648) ≤ z ∧ z ≤ 2147483647) ∧ JC l D c H0 sa μ1 ∧ True)) := by
  refine sC.of rfl (by decide) (le_t rfl) ?_
  refine mr_lvE (lv' := [(0, .ref 106), (1, iv p1), (2, iv p2), (3, iv p3), (4, iv p4)]) rfl ?_
  refine sv_aload_n (pc := 0) dX12_verdict_0 rfl rfl ?_
  refine mr_iload_n (pc := 1) (z := p1) dX12_verdict_1 rfl rfl ?_
  obtain ⟨z1, q2⟩ : ∃ z, μ 106 2 = z := ⟨_, rfl⟩
  have h3 : (0 ≤ z1 ∧ z1 ≤ 10) := by rw [← q2]; exact hT 106 106 (A_106 hw) 2
  refine mr_cVP (pc := 2) (c_X12_isPrefix hw hT hp1 q2) (gOk _ _ _ _ _) dX12_verdict_2 (tX12_isPrefix _ _ _ _ _) ⟨wV_X12_isPrefix, wL_X12_isPrefix⟩ wM_X12_92 (gCX12 _ _ _ _ _) rfl (A_106 hw) rfl ⟨le_t rfl, le_t rfl⟩ ⟨le_t rfl, le_t rfl⟩ rfl (le_t rfl) fun z8 h7 => ?_
  refine mr_if_eq (pc := 5) (tgt := 17) dX12_verdict_5 (by decide) (r32 h7.1 rfl) (fun h9 => ?_) (fun h9 => ?_)
  · have h10 : 0 ≤ z8 ∧ z8 ≤ 0 := (vc_X12_verdict_u_1 h9 h7.2.1 h7.2.2.1 hp1 h3 h7.1)
    have h11 : p1 < 0 ∨ z1 ≤ p1 := (h7.2.2.1 (vc_X12_verdict_u_2 h7.2.1 h7.2.2.1 h9 hp1 h3 h10))
    refine mr_iconst (pc := 17) (z := (-1)) dX12_verdict_17 ?_
    exact mr_iret dX12_verdict_18 rfl (le_t rfl) (le_t rfl) hT mF.refl ⟨(rW (c := (-2147483648)) (d := 2147483647) (rR (x := (-1))) rfl), hIJC, trivial⟩
  have h12 : 1 ≤ z8 ∧ z8 ≤ 1 := (vc_X12_verdict_u_3 h9 h7.2.1 h7.2.2.1 hp1 h3 h7.1)
  have h13 : 0 ≤ p1 ∧ p1 < z1 := (h7.2.1 (vc_X12_verdict_u_4 h7.2.1 h7.2.2.1 h9 hp1 h3 h12))
  have h14 : 0 ≤ p1 ∧ p1 ≤ 9 := (vc_X12_verdict_u_5 h13 h7.2.1 h7.2.2.1 hp1 h3 h12)
  have h15 : 1 ≤ z1 ∧ z1 ≤ 10 := (vc_X12_verdict_u_6 h13 h7.2.1 h7.2.2.1 h14 h3 h12)
  refine mr_iload_n (pc := 8) (z := p3) dX12_verdict_8 rfl rfl ?_
  refine mr_if_lt (pc := 9) (tgt := 17) dX12_verdict_9 (by decide) hp3 (fun h16 => ?_) (fun h16 => ?_)
  · have h17 : (-2147483648) ≤ p3 ∧ p3 ≤ (-1) := (vc_X12_verdict_u_7 h16 hp3)
    refine mr_iconst (pc := 17) (z := (-1)) dX12_verdict_17 ?_
    exact mr_iret dX12_verdict_18 rfl (le_t rfl) (le_t rfl) hT mF.refl ⟨(rW (c := (-2147483648)) (d := 2147483647) (rR (x := (-1))) rfl), hIJC, trivial⟩
  have h18 : 0 ≤ p3 ∧ p3 ≤ 2147483647 := (vc_X12_verdict_u_8 h16 hp3)
  refine mr_iload (pc := 12) (z := p4) dX12_verdict_12 rfl ?_
  refine mr_if_ge (pc := 14) (tgt := 19) dX12_verdict_14 (by decide) hp4 (fun h19 => ?_) (fun h19 => ?_)
  · have h20 : 0 ≤ p4 ∧ p4 ≤ 2147483647 := (vc_X12_verdict_u_9 h19 hp4)
    refine sv_aload_n (pc := 19) dX12_verdict_19 rfl rfl ?_
    refine mr_iload_n (pc := 20) (z := p1) dX12_verdict_20 rfl rfl ?_
    refine mr_iload_n (pc := 21) (z := p2) dX12_verdict_21 rfl rfl ?_
    refine mr_iload_n (pc := 22) (z := p3) dX12_verdict_22 rfl rfl ?_
    refine mr_iload (pc := 23) (z := p4) dX12_verdict_23 rfl ?_
    refine mr_cVI (pc := 25) (c_X12_judged_u hw hT h14 hp2 (rW (c := (-2147483648)) (d := 2147483647) h18 rfl) (rW (c := (-2147483648)) (d := 2147483647) h20 rfl) hIJC) (gOk _ _ _ _ _) dX12_verdict_25 (tX12_judged _ _ _ _ _) ⟨wV_X12_judged, wL_X12_judged⟩ wM_X12_145 (gCX12 _ _ _ _ _) rfl (A_106 hw) rfl ⟨le_t rfl, le_t rfl⟩ ⟨le_t rfl, le_t rfl⟩ rfl (le_t rfl) fun z25 μ21 T22 F23 h24 => ?_
    exact mr_iret dX12_verdict_28 rfl (le_t rfl) (le_t rfl) T22 (mF.call mF.refl F23 rfl) ⟨(rW (c := (-2147483648)) (d := 2147483647) h24.1 rfl), h24.2.1, trivial⟩
  have h26 : (-2147483648) ≤ p4 ∧ p4 ≤ (-1) := (vc_X12_verdict_u_10 h19 hp4)
  refine mr_iconst (pc := 17) (z := (-1)) dX12_verdict_17 ?_
  exact mr_iret dX12_verdict_18 rfl (le_t rfl) (le_t rfl) hT mF.refl ⟨(rW (c := (-2147483648)) (d := 2147483647) (rR (x := (-1))) rfl), hIJC, trivial⟩
theorem vc_X12_isSo_u_1 {p3 : Int} (h0 : 0 ≤ p3 ∧ p3 ≤ 2099) : 0 ≤ (40 * p3) := by omega
theorem vc_X12_isSo_u_2 {p3 : Int} (h0 : 0 ≤ p3 ∧ p3 ≤ 2099) : (40 * p3) % 40 = 0 := by omega
theorem vc_X12_isSo_u_3 {f_ties g1 : Int} (h0 : g1 < f_ties) (h1 : 0 ≤ f_ties ∧ f_ties ≤ 20) (h2 : 0 ≤ g1 ∧ g1 ≤ 19) : 1 ≤ f_ties ∧ f_ties ≤ 20 := by omega
theorem vc_X12_isSo_u_4 {f_x : Int} (h0 : 0 ≤ f_x) (h1 : (-1) ≤ f_x ∧ f_x ≤ 9) : 0 ≤ f_x ∧ f_x ≤ 9 := by omega
theorem vc_X12_isSo_u_5 {p3 : Int} (h0 : 0 ≤ p3 ∧ p3 ≤ 2099) : ((40 * p3) + 4) % 40 = 4 := by omega
theorem vc_X12_isSo_u_6 {z614 : Int} (h0 : ¬ z614 = 2) (h1 : ¬ z614 = 1) (h2 : 0 ≤ z614 ∧ z614 ≤ 2) : 0 ≤ z614 ∧ z614 ≤ 1 := by omega
theorem vc_X12_isSo_u_7 {z615 : Int} (h0 : z615 = 22) (h1 : (-2147483648) ≤ z615 ∧ z615 ≤ 2147483647) : 22 ≤ z615 ∧ z615 ≤ 22 := by omega
theorem vc_X12_isSo_u_8 {z614 : Int} (h0 : z614 = 2) (h1 : ¬ z614 = 1) (h2 : 0 ≤ z614 ∧ z614 ≤ 2) : 2 ≤ z614 ∧ z614 ≤ 2 := by omega
theorem vc_X12_isSo_u_9 {z615 : Int} (h0 : z615 = 21) (h1 : (-2147483648) ≤ z615 ∧ z615 ≤ 2147483647) : 21 ≤ z615 ∧ z615 ≤ 21 := by omega
theorem vc_X12_isSo_u_10 {z614 : Int} (h0 : z614 = 1) (h1 : 0 ≤ z614 ∧ z614 ≤ 2) : 1 ≤ z614 ∧ z614 ≤ 1 := by omega
theorem vc_X12_isSo_u_11 {z615 : Int} (h0 : z615 = 20) (h1 : (-2147483648) ≤ z615 ∧ z615 ≤ 2147483647) : 20 ≤ z615 ∧ z615 ≤ 20 := by omega
theorem vc_X12_isSo_u_12 {z442 : Int} (h0 : ¬ z442 = 0) (h1 : 0 ≤ z442 ∧ z442 ≤ 20) : 1 ≤ z442 ∧ z442 ≤ 20 := by omega
theorem vc_X12_isSo_u_13 {z442 : Int} (h0 : z442 = 0) (h1 : 0 ≤ z442 ∧ z442 ≤ 20) : 0 ≤ z442 ∧ z442 ≤ 0 := by omega
theorem vc_X12_isSo_u_14 {z446 : Int} (h0 : z446 = 14) (h1 : ¬ z446 = 6) (h2 : ¬ z446 = 8) (h3 : ¬ z446 = 9) (h4 : ¬ z446 = 10) (h5 : ¬ z446 = 11) (h6 : ¬ z446 = 12) (h7 : ¬ z446 = 13) (h8 : (-2147483648) ≤ z446 ∧ z446 ≤ 2147483647) : 14 ≤ z446 ∧ z446 ≤ 14 := by omega
theorem vc_X12_isSo_u_15 {z446 : Int} (h0 : z446 = 13) (h1 : ¬ z446 = 4) (h2 : ¬ z446 = 6) (h3 : ¬ z446 = 8) (h4 : ¬ z446 = 9) (h5 : ¬ z446 = 10) (h6 : ¬ z446 = 11) (h7 : ¬ z446 = 12) (h8 : (-2147483648) ≤ z446 ∧ z446 ≤ 2147483647) : 13 ≤ z446 ∧ z446 ≤ 13 := by omega
theorem vc_X12_isSo_u_16 {z446 : Int} (h0 : z446 = 12) (h1 : ¬ z446 = 4) (h2 : ¬ z446 = 6) (h3 : ¬ z446 = 8) (h4 : ¬ z446 = 9) (h5 : ¬ z446 = 10) (h6 : ¬ z446 = 11) (h7 : (-2147483648) ≤ z446 ∧ z446 ≤ 2147483647) : 12 ≤ z446 ∧ z446 ≤ 12 := by omega
theorem vc_X12_isSo_u_17 {z446 : Int} (h0 : z446 = 11) (h1 : ¬ z446 = 4) (h2 : ¬ z446 = 6) (h3 : ¬ z446 = 8) (h4 : ¬ z446 = 9) (h5 : ¬ z446 = 10) (h6 : (-2147483648) ≤ z446 ∧ z446 ≤ 2147483647) : 11 ≤ z446 ∧ z446 ≤ 11 := by omega
theorem vc_X12_isSo_u_18 {z446 : Int} (h0 : z446 = 10) (h1 : ¬ z446 = 4) (h2 : ¬ z446 = 6) (h3 : ¬ z446 = 8) (h4 : ¬ z446 = 9) (h5 : (-2147483648) ≤ z446 ∧ z446 ≤ 2147483647) : 10 ≤ z446 ∧ z446 ≤ 10 := by omega
theorem vc_X12_isSo_u_19 {f_ties g1 : Int} (h0 : g1 < f_ties) (h1 : 1 ≤ f_ties ∧ f_ties ≤ 20) (h2 : 0 ≤ g1 ∧ g1 ≤ 19) : g1 < f_ties := by omega
theorem vc_X12_isSo_u_20 {f_e0 f_e1 p4 p5 : Int} (h0 : (f_e0 = p4 ∧ f_e1 = p5) ∨ (f_e0 = p5 ∧ f_e1 = p4)) (h1 : 0 ≤ f_e0 ∧ f_e0 ≤ 9) (h2 : 0 ≤ f_e1 ∧ f_e1 ≤ 9) (h3 : (-2147483648) ≤ p4 ∧ p4 ≤ 2147483647) (h4 : (-2147483648) ≤ p5 ∧ p5 ≤ 2147483647) : (f_e0 = p4 ∧ f_e1 = p5) ∨ (f_e0 = p5 ∧ f_e1 = p4) := by omega
theorem vc_X12_isSo_u_21 {z698 z699 : Int} (h0 : z698 = z699) (h1 : 16 ≤ z698 ∧ z698 ≤ 19) (h2 : (-2147483648) ≤ z699 ∧ z699 ≤ 2147483647) : 16 ≤ z699 ∧ z699 ≤ 19 := by omega
theorem vc_X12_isSo_u_22 {z446 : Int} (h0 : z446 = 9) (h1 : ¬ z446 = 4) (h2 : ¬ z446 = 6) (h3 : ¬ z446 = 8) (h4 : (-2147483648) ≤ z446 ∧ z446 ≤ 2147483647) : 9 ≤ z446 ∧ z446 ≤ 9 := by omega
theorem vc_X12_isSo_u_23 {z446 : Int} (h0 : z446 = 8) (h1 : ¬ z446 = 4) (h2 : ¬ z446 = 6) (h3 : (-2147483648) ≤ z446 ∧ z446 ≤ 2147483647) : 8 ≤ z446 ∧ z446 ≤ 8 := by omega
theorem vc_X12_isSo_u_24 {z446 : Int} (h0 : z446 = 6) (h1 : ¬ z446 = 4) (h2 : (-2147483648) ≤ z446 ∧ z446 ≤ 2147483647) : 6 ≤ z446 ∧ z446 ≤ 6 := by omega
theorem vc_X12_isSo_u_25 {z446 : Int} (h0 : z446 = 4) (h1 : (-2147483648) ≤ z446 ∧ z446 ≤ 2147483647) : 4 ≤ z446 ∧ z446 ≤ 4 := by omega
theorem vc_X12_isSo_u_26 {z726 z729 : Int} (h0 : z726 < z729) (h1 : 0 ≤ z726 ∧ z726 ≤ 32) (h2 : (-2147483648) ≤ z729 ∧ z729 ≤ 2147483647) : 1 ≤ z729 ∧ z729 ≤ 2147483647 := by omega
theorem vc_X12_isSo_u_27 {z726 z729 : Int} (h0 : z729 ≤ z726) (h1 : 0 ≤ z726 ∧ z726 ≤ 32) (h2 : (-2147483648) ≤ z729 ∧ z729 ≤ 2147483647) : (-2147483648) ≤ z729 ∧ z729 ≤ 32 := by omega
theorem vc_X12_isSo_u_28 {z765 : Int} (h0 : z765 = 0) (h1 : 0 ≤ z765 ∧ z765 ≤ 1) : 0 ≤ z765 ∧ z765 ≤ 0 := by omega
theorem vc_X12_isSo_u_29 {z765 : Int} (h0 : ¬ z765 = 0) (h1 : 0 ≤ z765 ∧ z765 ≤ 1) : 1 ≤ z765 ∧ z765 ≤ 1 := by omega
theorem vc_X12_isSo_u_30 {z726 z729 z776 : Int} (h0 : z776 < z726) (h1 : z729 ≤ z726) (h2 : 0 ≤ z726 ∧ z726 ≤ 32) (h3 : (-2147483648) ≤ z729 ∧ z729 ≤ 32) (h4 : (-2147483648) ≤ z776 ∧ z776 ≤ 2147483647) : (-2147483648) ≤ z776 ∧ z776 ≤ 31 := by omega
theorem vc_X12_isSo_u_31 {z726 z729 z776 : Int} (h0 : z726 ≤ z776) (h1 : z729 ≤ z726) (h2 : 0 ≤ z726 ∧ z726 ≤ 32) (h3 : (-2147483648) ≤ z729 ∧ z729 ≤ 32) (h4 : (-2147483648) ≤ z776 ∧ z776 ≤ 2147483647) : 0 ≤ z776 ∧ z776 ≤ 2147483647 := by omega
set_option maxRecDepth 4000 in
set_option maxHeartbeats 4000000 in
theorem c_X12_isSo_u {l : Launch} {D : va_G} {c : Nat → ClassId} {H0 : Heap} {sa : Nat × Nat × (Nat → Int32)} {w : mW} {μ : mM} (hw : mWF w) (hT : mT w μ) {p1 : Int} (hp1 : 0 ≤ p1 ∧ p1 ≤ 11) {p2 : Int} (hp2 : 0 ≤ p2 ∧ p2 ≤ 3899) {p3 : Int} (hp3 : 0 ≤ p3 ∧ p3 ≤ 2099) {p4 : Int} (hp4 : (-2147483648) ≤ p4 ∧ p4 ≤ 2147483647) {p5 : Int} (hp5 : (-2147483648) ≤ p5 ∧ p5 ≤ 2147483647) {g1 : Int} (hg1 : 0 ≤ g1 ∧ g1 ≤ 19) {f_e0 : Int} (q_f_e0 : μ 110 ((2 * g1).toNat) = f_e0) {f_e1 : Int} (q_f_e1 : μ 110 (((2 * g1) + 1).toNat) = f_e1) {f_ties : Int} (q_f_ties : μ 106 6 = f_ties) {f_x : Int} (q_f_x : μ 126 ((40 * p3).toNat) = f_x) (hq0 : g1 < f_ties) (hq1 : (f_e0 = p4 ∧ f_e1 = p5) ∨ (f_e0 = p5 ∧ f_e1 = p4)) (hq2 : 0 ≤ f_x) (hIJC : JC l D c H0 sa μ) : sC (gG l D c H0 sa) mX12_isSo 5 0 0 [.ref 106, iv p1, iv p2, iv p3, iv p4, iv p5] (mk w μ) (qI w [106026, 106027, 106028, 106029, 106030, 106031] μ (fun z μ1 => (0 ≤ z ∧ z ≤ 1) ∧ JC l D c H0 sa μ1 ∧ True)) := by
  refine sC.of rfl (by decide) (le_t rfl) ?_
  have ht_f_e0 : (0 ≤ f_e0 ∧ f_e0 ≤ 9) := by rw [← q_f_e0]; exact hT 110 110 (A_110 hw) ((2 * g1).toNat)
  have ht_f_e1 : (0 ≤ f_e1 ∧ f_e1 ≤ 9) := by rw [← q_f_e1]; exact hT 110 110 (A_110 hw) (((2 * g1) + 1).toNat)
  have ht_f_ties : (0 ≤ f_ties ∧ f_ties ≤ 20) := by rw [← q_f_ties]; exact hT 106 106 (A_106 hw) 6
  have ht_f_x := rt7 hT (A_126 hw) (vc_X12_isSo_u_1 hp3) q_f_x
  have h1 : (-1) ≤ f_x ∧ f_x ≤ 9 := ht_f_x.2.1 (vc_X12_isSo_u_2 hp3)
  have h2 : 1 ≤ f_ties ∧ f_ties ≤ 20 := (vc_X12_isSo_u_3 hq0 ht_f_ties hg1)
  have h3 : 0 ≤ f_x ∧ f_x ≤ 9 := (vc_X12_isSo_u_4 hq2 h1)
  refine mr_lvE (lv' := [(0, .ref 106), (1, iv p1), (2, iv p2), (3, iv p3), (4, iv p4), (5, iv p5)]) rfl ?_
  refine sv_aload_n (pc := 0) dX12_isSo_0 rfl rfl ?_
  refine gf_X12_32 (pc := 1) dX12_isSo_1 wF_X12_148 (A_106 hw) hT ?_
  refine mr_bipush (pc := 4) (z := 40) dX12_isSo_4 (by decide) ?_
  refine mr_iload_n (pc := 6) (z := p3) dX12_isSo_6 rfl rfl ?_
  refine mr_imul (pc := 7) (x := 40) (y := p3) dX12_isSo_7 ?_
  refine lk_126 (pc := 8) dX12_isSo_8 (A_126 hw) (rIx (n := 84000) (rMulL (n := 40) (e := 0) (f := 83960) hp3 rfl) rfl) q_f_x ?_
  refine mr_istore (pc := 9) (lv' := [(6, iv f_x), (0, .ref 106), (1, iv p1), (2, iv p2), (3, iv p3), (4, iv p4), (5, iv p5)]) dX12_isSo_9 (by decide) rfl ?_
  refine sv_aload_n (pc := 11) dX12_isSo_11 rfl rfl ?_
  refine gf_X12_32 (pc := 12) dX12_isSo_12 wF_X12_148 (A_106 hw) hT ?_
  refine mr_bipush (pc := 15) (z := 40) dX12_isSo_15 (by decide) ?_
  refine mr_iload_n (pc := 17) (z := p3) dX12_isSo_17 rfl rfl ?_
  refine mr_imul (pc := 18) (x := 40) (y := p3) dX12_isSo_18 ?_
  refine mr_iconst (pc := 19) (z := 4) dX12_isSo_19 ?_
  refine mr_iadd (pc := 20) (x := (40 * p3)) (y := 4) dX12_isSo_20 ?_
  refine la_126 (pc := 21) dX12_isSo_21 (A_126 hw) hT (rIx (n := 84000) (rAdd (e := 4) (f := 83964) (rMulL (n := 40) (e := 0) (f := 83960) hp3 rfl) (rR (x := 4)) rfl) rfl) fun z442 q443 h444 => ?_
  have h445 : 0 ≤ z442 ∧ z442 ≤ 20 := h444.2.2.1 (vc_X12_isSo_u_5 hp3)
  refine mr_istore (pc := 22) (lv' := [(8, iv z442), (6, iv f_x), (0, .ref 106), (1, iv p1), (2, iv p2), (3, iv p3), (4, iv p4), (5, iv p5)]) dX12_isSo_22 (by decide) rfl ?_
  refine sv_aload_n (pc := 24) dX12_isSo_24 rfl rfl ?_
  refine gf_X12_45 (pc := 25) dX12_isSo_25 wF_X12_323 (A_106 hw) hT ?_
  refine mr_iload_n (pc := 28) (z := p2) dX12_isSo_28 rfl rfl ?_
  refine la_132 (pc := 29) dX12_isSo_29 (A_132 hw) hT (rIx (n := 3900) hp2 rfl) fun z446 q447 h448 => ?_
  refine mr_iconst (pc := 30) (z := 4) dX12_isSo_30 ?_
  have J585 : ∀ (z578 : Int) (μ580 : mM), (mT w μ580) → (mF [106026, 106027, 106028, 106029, 106030, 106031] w μ μ580) → ((0 ≤ z578 ∧ z578 ≤ 1)) → (JC l D c H0 sa μ580) → sV (gG l D c H0 sa) mX12_isSo (sRm 5 0 0) (sZ (gG l D c H0 sa) 0 0 (qI w [106026, 106027, 106028, 106029, 106030, 106031] μ (fun z μ1 => (0 ≤ z ∧ z ≤ 1) ∧ JC l D c H0 sa μ1 ∧ True))) 462 [(0, .ref 106), (2, iv p2), (7, iv z578)] [] (mk w μ580) 0 0 := by
    intro z578 μ580 T581 F582 h579 I584
    refine mr_iload (pc := 462) (z := z578) dX12_isSo_462 rfl ?_
    refine sv_aload_n (pc := 464) dX12_isSo_464 rfl rfl ?_
    refine gf_X12_46 (pc := 465) dX12_isSo_465 wF_X12_326 (A_106 hw) T581 ?_
    refine mr_iload_n (pc := 468) (z := p2) dX12_isSo_468 rfl rfl ?_
    refine la_133 (pc := 469) dX12_isSo_469 (A_133 hw) T581 (rIx (n := 3900) hp2 rfl) fun z586 q587 h588 => ?_
    refine mr_icmp_eq (pc := 470) (tgt := 477) dX12_isSo_470 (by decide) (r32 h579 rfl) (r32 h588 rfl) (fun h589 => ?_) (fun h589 => ?_)
    · refine mr_iconst (pc := 477) (z := 0) dX12_isSo_477 ?_
      exact mr_zret dX12_isSo_478 rfl (rW (c := 0) (d := 1) (rR (x := 0)) rfl) (le_t rfl) (le_t rfl) T581 (mF.call mF.refl F582 rfl) ⟨(rW (c := 0) (d := 1) (rR (x := 0)) rfl), I584, trivial⟩
    refine mr_iconst (pc := 473) (z := 1) dX12_isSo_473 ?_
    refine sv_goto (pc := 474) (tgt := 478) dX12_isSo_474 (by decide) ?_
    exact mr_zret dX12_isSo_478 rfl (rW (c := 0) (d := 1) (rR (x := 1)) rfl) (le_t rfl) (le_t rfl) T581 (mF.call mF.refl F582 rfl) ⟨(rW (c := 0) (d := 1) (rR (x := 1)) rfl), I584, trivial⟩
  refine mr_icmp_ne (pc := 31) (tgt := 101) dX12_isSo_31 (by decide) h448 (r32 (rR (x := 4)) rfl) (fun h590 => ?_) (fun h590 => ?_)
  · refine sv_aload_n (pc := 101) dX12_isSo_101 rfl rfl ?_
    refine gf_X12_45 (pc := 102) dX12_isSo_102 wF_X12_323 (A_106 hw) hT ?_
    refine mr_iload_n (pc := 105) (z := p2) dX12_isSo_105 rfl rfl ?_
    refine lk_132 (pc := 106) dX12_isSo_106 (A_132 hw) (rIx (n := 3900) hp2 rfl) q447 ?_
    refine mr_bipush (pc := 107) (z := 6) dX12_isSo_107 (by decide) ?_
    refine mr_icmp_ne (pc := 109) (tgt := 124) dX12_isSo_109 (by decide) h448 (r32 (rR (x := 6)) rfl) (fun h591 => ?_) (fun h591 => ?_)
    · refine sv_aload_n (pc := 124) dX12_isSo_124 rfl rfl ?_
      refine gf_X12_45 (pc := 125) dX12_isSo_125 wF_X12_323 (A_106 hw) hT ?_
      refine mr_iload_n (pc := 128) (z := p2) dX12_isSo_128 rfl rfl ?_
      refine lk_132 (pc := 129) dX12_isSo_129 (A_132 hw) (rIx (n := 3900) hp2 rfl) q447 ?_
      refine mr_bipush (pc := 130) (z := 8) dX12_isSo_130 (by decide) ?_
      refine mr_icmp_ne (pc := 132) (tgt := 151) dX12_isSo_132 (by decide) h448 (r32 (rR (x := 8)) rfl) (fun h592 => ?_) (fun h592 => ?_)
      · refine sv_aload_n (pc := 151) dX12_isSo_151 rfl rfl ?_
        refine gf_X12_45 (pc := 152) dX12_isSo_152 wF_X12_323 (A_106 hw) hT ?_
        refine mr_iload_n (pc := 155) (z := p2) dX12_isSo_155 rfl rfl ?_
        refine lk_132 (pc := 156) dX12_isSo_156 (A_132 hw) (rIx (n := 3900) hp2 rfl) q447 ?_
        refine mr_bipush (pc := 157) (z := 9) dX12_isSo_157 (by decide) ?_
        refine mr_icmp_ne (pc := 159) (tgt := 183) dX12_isSo_159 (by decide) h448 (r32 (rR (x := 9)) rfl) (fun h593 => ?_) (fun h593 => ?_)
        · refine sv_aload_n (pc := 183) dX12_isSo_183 rfl rfl ?_
          refine gf_X12_45 (pc := 184) dX12_isSo_184 wF_X12_323 (A_106 hw) hT ?_
          refine mr_iload_n (pc := 187) (z := p2) dX12_isSo_187 rfl rfl ?_
          refine lk_132 (pc := 188) dX12_isSo_188 (A_132 hw) (rIx (n := 3900) hp2 rfl) q447 ?_
          refine mr_bipush (pc := 189) (z := 10) dX12_isSo_189 (by decide) ?_
          refine mr_icmp_ne (pc := 191) (tgt := 221) dX12_isSo_191 (by decide) h448 (r32 (rR (x := 10)) rfl) (fun h594 => ?_) (fun h594 => ?_)
          · refine sv_aload_n (pc := 221) dX12_isSo_221 rfl rfl ?_
            refine gf_X12_45 (pc := 222) dX12_isSo_222 wF_X12_323 (A_106 hw) hT ?_
            refine mr_iload_n (pc := 225) (z := p2) dX12_isSo_225 rfl rfl ?_
            refine lk_132 (pc := 226) dX12_isSo_226 (A_132 hw) (rIx (n := 3900) hp2 rfl) q447 ?_
            refine mr_bipush (pc := 227) (z := 11) dX12_isSo_227 (by decide) ?_
            refine mr_icmp_ne (pc := 229) (tgt := 255) dX12_isSo_229 (by decide) h448 (r32 (rR (x := 11)) rfl) (fun h595 => ?_) (fun h595 => ?_)
            · refine sv_aload_n (pc := 255) dX12_isSo_255 rfl rfl ?_
              refine gf_X12_45 (pc := 256) dX12_isSo_256 wF_X12_323 (A_106 hw) hT ?_
              refine mr_iload_n (pc := 259) (z := p2) dX12_isSo_259 rfl rfl ?_
              refine lk_132 (pc := 260) dX12_isSo_260 (A_132 hw) (rIx (n := 3900) hp2 rfl) q447 ?_
              refine mr_bipush (pc := 261) (z := 12) dX12_isSo_261 (by decide) ?_
              refine mr_icmp_ne (pc := 263) (tgt := 298) dX12_isSo_263 (by decide) h448 (r32 (rR (x := 12)) rfl) (fun h596 => ?_) (fun h596 => ?_)
              · refine sv_aload_n (pc := 298) dX12_isSo_298 rfl rfl ?_
                refine gf_X12_45 (pc := 299) dX12_isSo_299 wF_X12_323 (A_106 hw) hT ?_
                refine mr_iload_n (pc := 302) (z := p2) dX12_isSo_302 rfl rfl ?_
                refine lk_132 (pc := 303) dX12_isSo_303 (A_132 hw) (rIx (n := 3900) hp2 rfl) q447 ?_
                refine mr_bipush (pc := 304) (z := 13) dX12_isSo_304 (by decide) ?_
                refine mr_icmp_ne (pc := 306) (tgt := 341) dX12_isSo_306 (by decide) h448 (r32 (rR (x := 13)) rfl) (fun h597 => ?_) (fun h597 => ?_)
                · refine sv_aload_n (pc := 341) dX12_isSo_341 rfl rfl ?_
                  refine gf_X12_45 (pc := 342) dX12_isSo_342 wF_X12_323 (A_106 hw) hT ?_
                  refine mr_iload_n (pc := 345) (z := p2) dX12_isSo_345 rfl rfl ?_
                  refine lk_132 (pc := 346) dX12_isSo_346 (A_132 hw) (rIx (n := 3900) hp2 rfl) q447 ?_
                  refine mr_bipush (pc := 347) (z := 14) dX12_isSo_347 (by decide) ?_
                  refine mr_icmp_ne (pc := 349) (tgt := 382) dX12_isSo_349 (by decide) h448 (r32 (rR (x := 14)) rfl) (fun h598 => ?_) (fun h598 => ?_)
                  · refine sv_aload_n (pc := 382) dX12_isSo_382 rfl rfl ?_
                    refine mr_iload (pc := 383) (z := f_x) dX12_isSo_383 rfl ?_
                    refine mr_iload (pc := 385) (z := z442) dX12_isSo_385 rfl ?_
                    have J606 : ∀ (z604 : Int), (((-2147483648) ≤ z604 ∧ z604 ≤ 2147483647)) → sV (gG l D c H0 sa) mX12_isSo (sRm 5 0 0) (sZ (gG l D c H0 sa) 0 0 (qI w [106026, 106027, 106028, 106029, 106030, 106031] μ (fun z μ1 => (0 ≤ z ∧ z ≤ 1) ∧ JC l D c H0 sa μ1 ∧ True))) 409 [(0, .ref 106), (2, iv p2)] [iv z604, iv f_x, .ref 106] (mk w μ) 0 0 := by
                      intro z604 h605
                      refine sv_aload_n (pc := 409) dX12_isSo_409 rfl rfl ?_
                      refine gf_X12_17 (pc := 410) dX12_isSo_410 wF_X12_85 (A_106 hw) hT fun z607 q608 h609 => ?_
                      refine sv_aload_n (pc := 413) dX12_isSo_413 rfl rfl ?_
                      refine gk_X12_17 (pc := 414) dX12_isSo_414 wF_X12_85 (A_106 hw) q608 ?_
                      refine mr_cVI (pc := 417) (c_X12_judged_u hw hT h3 h605 (rW (c := (-2147483648)) (d := 2147483647) h609 rfl) (rW (c := (-2147483648)) (d := 2147483647) h609 rfl) hIJC) (gOk _ _ _ _ _) dX12_isSo_417 (tX12_judged _ _ _ _ _) ⟨wV_X12_judged, wL_X12_judged⟩ wM_X12_145 (gCX12 _ _ _ _ _) rfl (A_106 hw) rfl ⟨le_t rfl, le_t rfl⟩ ⟨le_t rfl, le_t rfl⟩ rfl (le_t rfl) fun z614 μ610 T611 F612 h613 => ?_
                      refine mr_istore (pc := 420) (lv' := [(9, iv z614), (0, .ref 106), (2, iv p2)]) dX12_isSo_420 (by decide) rfl ?_
                      refine sv_aload_n (pc := 422) dX12_isSo_422 rfl rfl ?_
                      refine gf_X12_47 (pc := 423) dX12_isSo_423 wF_X12_329 (A_106 hw) T611 ?_
                      refine mr_iload_n (pc := 426) (z := p2) dX12_isSo_426 rfl rfl ?_
                      refine la_134 (pc := 427) dX12_isSo_427 (A_134 hw) T611 (rIx (n := 3900) hp2 rfl) fun z615 q616 h617 => ?_
                      refine mr_iload (pc := 428) (z := z614) dX12_isSo_428 rfl ?_
                      refine mr_iconst (pc := 430) (z := 1) dX12_isSo_430 ?_
                      refine mr_icmp_ne (pc := 431) (tgt := 439) dX12_isSo_431 (by decide) (r32 h613.1 rfl) (r32 (rR (x := 1)) rfl) (fun h621 => ?_) (fun h621 => ?_)
                      · refine mr_iload (pc := 439) (z := z614) dX12_isSo_439 rfl ?_
                        refine mr_iconst (pc := 441) (z := 2) dX12_isSo_441 ?_
                        refine mr_icmp_ne (pc := 442) (tgt := 450) dX12_isSo_442 (by decide) (r32 h613.1 rfl) (r32 (rR (x := 2)) rfl) (fun h624 => ?_) (fun h624 => ?_)
                        · have h625 : 0 ≤ z614 ∧ z614 ≤ 1 := (vc_X12_isSo_u_6 h624 h621 h613.1)
                          refine mr_bipush (pc := 450) (z := 22) dX12_isSo_450 (by decide) ?_
                          refine mr_icmp_ne (pc := 452) (tgt := 459) dX12_isSo_452 (by decide) h617 (r32 (rR (x := 22)) rfl) (fun h627 => ?_) (fun h627 => ?_)
                          · refine mr_iconst (pc := 459) (z := 0) dX12_isSo_459 ?_
                            refine mr_istore (pc := 460) (lv' := [(7, iv 0), (9, iv z614), (0, .ref 106), (2, iv p2)]) dX12_isSo_460 (by decide) rfl ?_
                            refine mr_lvS (lv' := [(0, .ref 106), (2, iv p2), (7, iv 0)]) (List.forall_mem_cons.mpr ⟨rfl, List.forall_mem_cons.mpr ⟨rfl, List.forall_mem_cons.mpr ⟨rfl, fun _ h => absurd h List.not_mem_nil⟩⟩⟩) ?_
                            exact J585 0 μ610 T611 (mF.call mF.refl F612 rfl) (rW (c := 0) (d := 1) (rR (x := 0)) rfl) h613.2.1
                          have h628 : 22 ≤ z615 ∧ z615 ≤ 22 := (vc_X12_isSo_u_7 h627 h617)
                          refine mr_iconst (pc := 455) (z := 1) dX12_isSo_455 ?_
                          refine sv_goto (pc := 456) (tgt := 460) dX12_isSo_456 (by decide) ?_
                          refine mr_istore (pc := 460) (lv' := [(7, iv 1), (9, iv z614), (0, .ref 106), (2, iv p2)]) dX12_isSo_460 (by decide) rfl ?_
                          refine mr_lvS (lv' := [(0, .ref 106), (2, iv p2), (7, iv 1)]) (List.forall_mem_cons.mpr ⟨rfl, List.forall_mem_cons.mpr ⟨rfl, List.forall_mem_cons.mpr ⟨rfl, fun _ h => absurd h List.not_mem_nil⟩⟩⟩) ?_
                          exact J585 1 μ610 T611 (mF.call mF.refl F612 rfl) (rW (c := 0) (d := 1) (rR (x := 1)) rfl) h613.2.1
                        have h629 : 2 ≤ z614 ∧ z614 ≤ 2 := (vc_X12_isSo_u_8 h624 h621 h613.1)
                        refine mr_bipush (pc := 445) (z := 21) dX12_isSo_445 (by decide) ?_
                        refine sv_goto (pc := 447) (tgt := 452) dX12_isSo_447 (by decide) ?_
                        refine mr_icmp_ne (pc := 452) (tgt := 459) dX12_isSo_452 (by decide) h617 (r32 (rR (x := 21)) rfl) (fun h631 => ?_) (fun h631 => ?_)
                        · refine mr_iconst (pc := 459) (z := 0) dX12_isSo_459 ?_
                          refine mr_istore (pc := 460) (lv' := [(7, iv 0), (9, iv z614), (0, .ref 106), (2, iv p2)]) dX12_isSo_460 (by decide) rfl ?_
                          refine mr_lvS (lv' := [(0, .ref 106), (2, iv p2), (7, iv 0)]) (List.forall_mem_cons.mpr ⟨rfl, List.forall_mem_cons.mpr ⟨rfl, List.forall_mem_cons.mpr ⟨rfl, fun _ h => absurd h List.not_mem_nil⟩⟩⟩) ?_
                          exact J585 0 μ610 T611 (mF.call mF.refl F612 rfl) (rW (c := 0) (d := 1) (rR (x := 0)) rfl) h613.2.1
                        have h632 : 21 ≤ z615 ∧ z615 ≤ 21 := (vc_X12_isSo_u_9 h631 h617)
                        refine mr_iconst (pc := 455) (z := 1) dX12_isSo_455 ?_
                        refine sv_goto (pc := 456) (tgt := 460) dX12_isSo_456 (by decide) ?_
                        refine mr_istore (pc := 460) (lv' := [(7, iv 1), (9, iv z614), (0, .ref 106), (2, iv p2)]) dX12_isSo_460 (by decide) rfl ?_
                        refine mr_lvS (lv' := [(0, .ref 106), (2, iv p2), (7, iv 1)]) (List.forall_mem_cons.mpr ⟨rfl, List.forall_mem_cons.mpr ⟨rfl, List.forall_mem_cons.mpr ⟨rfl, fun _ h => absurd h List.not_mem_nil⟩⟩⟩) ?_
                        exact J585 1 μ610 T611 (mF.call mF.refl F612 rfl) (rW (c := 0) (d := 1) (rR (x := 1)) rfl) h613.2.1
                      have h633 : 1 ≤ z614 ∧ z614 ≤ 1 := (vc_X12_isSo_u_10 h621 h613.1)
                      refine mr_bipush (pc := 434) (z := 20) dX12_isSo_434 (by decide) ?_
                      refine sv_goto (pc := 436) (tgt := 452) dX12_isSo_436 (by decide) ?_
                      refine mr_icmp_ne (pc := 452) (tgt := 459) dX12_isSo_452 (by decide) h617 (r32 (rR (x := 20)) rfl) (fun h635 => ?_) (fun h635 => ?_)
                      · refine mr_iconst (pc := 459) (z := 0) dX12_isSo_459 ?_
                        refine mr_istore (pc := 460) (lv' := [(7, iv 0), (9, iv z614), (0, .ref 106), (2, iv p2)]) dX12_isSo_460 (by decide) rfl ?_
                        refine mr_lvS (lv' := [(0, .ref 106), (2, iv p2), (7, iv 0)]) (List.forall_mem_cons.mpr ⟨rfl, List.forall_mem_cons.mpr ⟨rfl, List.forall_mem_cons.mpr ⟨rfl, fun _ h => absurd h List.not_mem_nil⟩⟩⟩) ?_
                        exact J585 0 μ610 T611 (mF.call mF.refl F612 rfl) (rW (c := 0) (d := 1) (rR (x := 0)) rfl) h613.2.1
                      have h636 : 20 ≤ z615 ∧ z615 ≤ 20 := (vc_X12_isSo_u_11 h635 h617)
                      refine mr_iconst (pc := 455) (z := 1) dX12_isSo_455 ?_
                      refine sv_goto (pc := 456) (tgt := 460) dX12_isSo_456 (by decide) ?_
                      refine mr_istore (pc := 460) (lv' := [(7, iv 1), (9, iv z614), (0, .ref 106), (2, iv p2)]) dX12_isSo_460 (by decide) rfl ?_
                      refine mr_lvS (lv' := [(0, .ref 106), (2, iv p2), (7, iv 1)]) (List.forall_mem_cons.mpr ⟨rfl, List.forall_mem_cons.mpr ⟨rfl, List.forall_mem_cons.mpr ⟨rfl, fun _ h => absurd h List.not_mem_nil⟩⟩⟩) ?_
                      exact J585 1 μ610 T611 (mF.call mF.refl F612 rfl) (rW (c := 0) (d := 1) (rR (x := 1)) rfl) h613.2.1
                    refine mr_if_ne (pc := 387) (tgt := 395) dX12_isSo_387 (by decide) (r32 h445 rfl) (fun h637 => ?_) (fun h637 => ?_)
                    · have h638 : 1 ≤ z442 ∧ z442 ≤ 20 := (vc_X12_isSo_u_12 h637 h445)
                      refine sv_aload_n (pc := 395) dX12_isSo_395 rfl rfl ?_
                      refine gf_X12_32 (pc := 396) dX12_isSo_396 wF_X12_148 (A_106 hw) hT ?_
                      refine mr_bipush (pc := 399) (z := 40) dX12_isSo_399 (by decide) ?_
                      refine mr_iload_n (pc := 401) (z := p3) dX12_isSo_401 rfl rfl ?_
                      refine mr_imul (pc := 402) (x := 40) (y := p3) dX12_isSo_402 ?_
                      refine mr_iconst (pc := 403) (z := 5) dX12_isSo_403 ?_
                      refine mr_iadd (pc := 404) (x := (40 * p3)) (y := 5) dX12_isSo_404 ?_
                      refine mr_iload (pc := 405) (z := z442) dX12_isSo_405 rfl ?_
                      refine mr_iadd (pc := 407) (x := ((40 * p3) + 5)) (y := z442) dX12_isSo_407 ?_
                      refine la_126 (pc := 408) dX12_isSo_408 (A_126 hw) hT (rIx (n := 84000) (rAdd (e := 6) (f := 83985) (rAdd (e := 5) (f := 83965) (rMulL (n := 40) (e := 0) (f := 83960) hp3 rfl) (rR (x := 5)) rfl) h638 rfl) rfl) fun z639 q640 h641 => ?_
                      refine mr_lvS (lv' := [(0, .ref 106), (2, iv p2)]) (List.forall_mem_cons.mpr ⟨rfl, List.forall_mem_cons.mpr ⟨rfl, fun _ h => absurd h List.not_mem_nil⟩⟩) ?_
                      exact J606 z639 h641.1
                    have h642 : 0 ≤ z442 ∧ z442 ≤ 0 := (vc_X12_isSo_u_13 h637 h445)
                    refine mr_iload (pc := 390) (z := p4) dX12_isSo_390 rfl ?_
                    refine sv_goto (pc := 392) (tgt := 409) dX12_isSo_392 (by decide) ?_
                    refine mr_lvS (lv' := [(0, .ref 106), (2, iv p2)]) (List.forall_mem_cons.mpr ⟨rfl, List.forall_mem_cons.mpr ⟨rfl, fun _ h => absurd h List.not_mem_nil⟩⟩) ?_
                    exact J606 p4 hp4
                  have h643 : 14 ≤ z446 ∧ z446 ≤ 14 := (vc_X12_isSo_u_14 h598 h591 h592 h593 h594 h595 h596 h597 h448)
                  refine sv_aload_n (pc := 352) dX12_isSo_352 rfl rfl ?_
                  refine gf_X12_32 (pc := 353) dX12_isSo_353 wF_X12_148 (A_106 hw) hT ?_
                  refine mr_bipush (pc := 356) (z := 40) dX12_isSo_356 (by decide) ?_
                  refine mr_iload_n (pc := 358) (z := p3) dX12_isSo_358 rfl rfl ?_
                  refine mr_imul (pc := 359) (x := 40) (y := p3) dX12_isSo_359 ?_
                  refine mr_iconst (pc := 360) (z := 2) dX12_isSo_360 ?_
                  refine mr_iadd (pc := 361) (x := (40 * p3)) (y := 2) dX12_isSo_361 ?_
                  refine la_126 (pc := 362) dX12_isSo_362 (A_126 hw) hT (rIx (n := 84000) (rAdd (e := 2) (f := 83962) (rMulL (n := 40) (e := 0) (f := 83960) hp3 rfl) (rR (x := 2)) rfl) rfl) fun z644 q645 h646 => ?_
                  refine sv_aload_n (pc := 363) dX12_isSo_363 rfl rfl ?_
                  refine gf_X12_47 (pc := 364) dX12_isSo_364 wF_X12_329 (A_106 hw) hT ?_
                  refine mr_iload_n (pc := 367) (z := p2) dX12_isSo_367 rfl rfl ?_
                  refine la_134 (pc := 368) dX12_isSo_368 (A_134 hw) hT (rIx (n := 3900) hp2 rfl) fun z647 q648 h649 => ?_
                  refine mr_icmp_ne (pc := 369) (tgt := 376) dX12_isSo_369 (by decide) h646.1 h649 (fun h650 => ?_) (fun h650 => ?_)
                  · refine mr_iconst (pc := 376) (z := 0) dX12_isSo_376 ?_
                    refine mr_istore (pc := 377) (lv' := [(7, iv 0), (8, iv z442), (6, iv f_x), (0, .ref 106), (1, iv p1), (2, iv p2), (3, iv p3), (4, iv p4), (5, iv p5)]) dX12_isSo_377 (by decide) rfl ?_
                    refine sv_goto (pc := 379) (tgt := 462) dX12_isSo_379 (by decide) ?_
                    refine mr_lvS (lv' := [(0, .ref 106), (2, iv p2), (7, iv 0)]) (List.forall_mem_cons.mpr ⟨rfl, List.forall_mem_cons.mpr ⟨rfl, List.forall_mem_cons.mpr ⟨rfl, fun _ h => absurd h List.not_mem_nil⟩⟩⟩) ?_
                    exact J585 0 μ hT mF.refl (rW (c := 0) (d := 1) (rR (x := 0)) rfl) hIJC
                  refine mr_iconst (pc := 372) (z := 1) dX12_isSo_372 ?_
                  refine sv_goto (pc := 373) (tgt := 377) dX12_isSo_373 (by decide) ?_
                  refine mr_istore (pc := 377) (lv' := [(7, iv 1), (8, iv z442), (6, iv f_x), (0, .ref 106), (1, iv p1), (2, iv p2), (3, iv p3), (4, iv p4), (5, iv p5)]) dX12_isSo_377 (by decide) rfl ?_
                  refine sv_goto (pc := 379) (tgt := 462) dX12_isSo_379 (by decide) ?_
                  refine mr_lvS (lv' := [(0, .ref 106), (2, iv p2), (7, iv 1)]) (List.forall_mem_cons.mpr ⟨rfl, List.forall_mem_cons.mpr ⟨rfl, List.forall_mem_cons.mpr ⟨rfl, fun _ h => absurd h List.not_mem_nil⟩⟩⟩) ?_
                  exact J585 1 μ hT mF.refl (rW (c := 0) (d := 1) (rR (x := 1)) rfl) hIJC
                have h651 : 13 ≤ z446 ∧ z446 ≤ 13 := (vc_X12_isSo_u_15 h597 h590 h591 h592 h593 h594 h595 h596 h448)
                refine sv_aload_n (pc := 309) dX12_isSo_309 rfl rfl ?_
                refine sv_aload_n (pc := 310) dX12_isSo_310 rfl rfl ?_
                refine gf_X12_32 (pc := 311) dX12_isSo_311 wF_X12_148 (A_106 hw) hT ?_
                refine mr_bipush (pc := 314) (z := 40) dX12_isSo_314 (by decide) ?_
                refine mr_iload_n (pc := 316) (z := p3) dX12_isSo_316 rfl rfl ?_
                refine mr_imul (pc := 317) (x := 40) (y := p3) dX12_isSo_317 ?_
                refine mr_iconst (pc := 318) (z := 3) dX12_isSo_318 ?_
                refine mr_iadd (pc := 319) (x := (40 * p3)) (y := 3) dX12_isSo_319 ?_
                refine la_126 (pc := 320) dX12_isSo_320 (A_126 hw) hT (rIx (n := 84000) (rAdd (e := 3) (f := 83963) (rMulL (n := 40) (e := 0) (f := 83960) hp3 rfl) (rR (x := 3)) rfl) rfl) fun z652 q653 h654 => ?_
                refine sv_aload_n (pc := 321) dX12_isSo_321 rfl rfl ?_
                refine gf_X12_48 (pc := 322) dX12_isSo_322 wF_X12_336 (A_106 hw) hT ?_
                refine mr_iload_n (pc := 325) (z := p2) dX12_isSo_325 rfl rfl ?_
                refine la_135 (pc := 326) dX12_isSo_326 (A_135 hw) hT (rIx (n := 3900) hp2 rfl) fun z655 q656 h657 => ?_
                refine sv_aload_n (pc := 327) dX12_isSo_327 rfl rfl ?_
                refine gf_X12_47 (pc := 328) dX12_isSo_328 wF_X12_329 (A_106 hw) hT ?_
                refine mr_iload_n (pc := 331) (z := p2) dX12_isSo_331 rfl rfl ?_
                refine la_134 (pc := 332) dX12_isSo_332 (A_134 hw) hT (rIx (n := 3900) hp2 rfl) fun z658 q659 h660 => ?_
                refine mr_cVP (pc := 333) (c_X12_related hw hT h654.1 h657 h660) (gOk _ _ _ _ _) dX12_isSo_333 (tX12_related _ _ _ _ _) ⟨wV_X12_related, wL_X12_related⟩ wM_X12_385 (gCX12 _ _ _ _ _) rfl (A_106 hw) rfl ⟨le_t rfl, le_t rfl⟩ ⟨le_t rfl, le_t rfl⟩ rfl (le_t rfl) fun z665 h664 => ?_
                refine mr_istore (pc := 336) (lv' := [(7, iv z665), (8, iv z442), (6, iv f_x), (0, .ref 106), (1, iv p1), (2, iv p2), (3, iv p3), (4, iv p4), (5, iv p5)]) dX12_isSo_336 (by decide) rfl ?_
                refine sv_goto (pc := 338) (tgt := 462) dX12_isSo_338 (by decide) ?_
                refine mr_lvS (lv' := [(0, .ref 106), (2, iv p2), (7, iv z665)]) (List.forall_mem_cons.mpr ⟨rfl, List.forall_mem_cons.mpr ⟨rfl, List.forall_mem_cons.mpr ⟨rfl, fun _ h => absurd h List.not_mem_nil⟩⟩⟩) ?_
                exact J585 z665 μ hT mF.refl h664.1 hIJC
              have h666 : 12 ≤ z446 ∧ z446 ≤ 12 := (vc_X12_isSo_u_16 h596 h590 h591 h592 h593 h594 h595 h448)
              refine sv_aload_n (pc := 266) dX12_isSo_266 rfl rfl ?_
              refine sv_aload_n (pc := 267) dX12_isSo_267 rfl rfl ?_
              refine gf_X12_32 (pc := 268) dX12_isSo_268 wF_X12_148 (A_106 hw) hT ?_
              refine mr_bipush (pc := 271) (z := 40) dX12_isSo_271 (by decide) ?_
              refine mr_iload_n (pc := 273) (z := p3) dX12_isSo_273 rfl rfl ?_
              refine mr_imul (pc := 274) (x := 40) (y := p3) dX12_isSo_274 ?_
              refine mr_iconst (pc := 275) (z := 1) dX12_isSo_275 ?_
              refine mr_iadd (pc := 276) (x := (40 * p3)) (y := 1) dX12_isSo_276 ?_
              refine la_126 (pc := 277) dX12_isSo_277 (A_126 hw) hT (rIx (n := 84000) (rAdd (e := 1) (f := 83961) (rMulL (n := 40) (e := 0) (f := 83960) hp3 rfl) (rR (x := 1)) rfl) rfl) fun z667 q668 h669 => ?_
              refine sv_aload_n (pc := 278) dX12_isSo_278 rfl rfl ?_
              refine gf_X12_48 (pc := 279) dX12_isSo_279 wF_X12_336 (A_106 hw) hT ?_
              refine mr_iload_n (pc := 282) (z := p2) dX12_isSo_282 rfl rfl ?_
              refine la_135 (pc := 283) dX12_isSo_283 (A_135 hw) hT (rIx (n := 3900) hp2 rfl) fun z670 q671 h672 => ?_
              refine sv_aload_n (pc := 284) dX12_isSo_284 rfl rfl ?_
              refine gf_X12_47 (pc := 285) dX12_isSo_285 wF_X12_329 (A_106 hw) hT ?_
              refine mr_iload_n (pc := 288) (z := p2) dX12_isSo_288 rfl rfl ?_
              refine la_134 (pc := 289) dX12_isSo_289 (A_134 hw) hT (rIx (n := 3900) hp2 rfl) fun z673 q674 h675 => ?_
              refine mr_cVP (pc := 290) (c_X12_related hw hT h669.1 h672 h675) (gOk _ _ _ _ _) dX12_isSo_290 (tX12_related _ _ _ _ _) ⟨wV_X12_related, wL_X12_related⟩ wM_X12_385 (gCX12 _ _ _ _ _) rfl (A_106 hw) rfl ⟨le_t rfl, le_t rfl⟩ ⟨le_t rfl, le_t rfl⟩ rfl (le_t rfl) fun z680 h679 => ?_
              refine mr_istore (pc := 293) (lv' := [(7, iv z680), (8, iv z442), (6, iv f_x), (0, .ref 106), (1, iv p1), (2, iv p2), (3, iv p3), (4, iv p4), (5, iv p5)]) dX12_isSo_293 (by decide) rfl ?_
              refine sv_goto (pc := 295) (tgt := 462) dX12_isSo_295 (by decide) ?_
              refine mr_lvS (lv' := [(0, .ref 106), (2, iv p2), (7, iv z680)]) (List.forall_mem_cons.mpr ⟨rfl, List.forall_mem_cons.mpr ⟨rfl, List.forall_mem_cons.mpr ⟨rfl, fun _ h => absurd h List.not_mem_nil⟩⟩⟩) ?_
              exact J585 z680 μ hT mF.refl h679.1 hIJC
            have h681 : 11 ≤ z446 ∧ z446 ≤ 11 := (vc_X12_isSo_u_17 h595 h590 h591 h592 h593 h594 h448)
            refine sv_aload_n (pc := 232) dX12_isSo_232 rfl rfl ?_
            refine mr_iload (pc := 233) (z := z442) dX12_isSo_233 rfl ?_
            refine sv_aload_n (pc := 235) dX12_isSo_235 rfl rfl ?_
            refine gf_X12_48 (pc := 236) dX12_isSo_236 wF_X12_336 (A_106 hw) hT ?_
            refine mr_iload_n (pc := 239) (z := p2) dX12_isSo_239 rfl rfl ?_
            refine la_135 (pc := 240) dX12_isSo_240 (A_135 hw) hT (rIx (n := 3900) hp2 rfl) fun z682 q683 h684 => ?_
            refine sv_aload_n (pc := 241) dX12_isSo_241 rfl rfl ?_
            refine gf_X12_47 (pc := 242) dX12_isSo_242 wF_X12_329 (A_106 hw) hT ?_
            refine mr_iload_n (pc := 245) (z := p2) dX12_isSo_245 rfl rfl ?_
            refine la_134 (pc := 246) dX12_isSo_246 (A_134 hw) hT (rIx (n := 3900) hp2 rfl) fun z685 q686 h687 => ?_
            refine mr_cVP (pc := 247) (c_X12_related hw hT (rW (c := (-2147483648)) (d := 2147483647) h445 rfl) h684 h687) (gOk _ _ _ _ _) dX12_isSo_247 (tX12_related _ _ _ _ _) ⟨wV_X12_related, wL_X12_related⟩ wM_X12_385 (gCX12 _ _ _ _ _) rfl (A_106 hw) rfl ⟨le_t rfl, le_t rfl⟩ ⟨le_t rfl, le_t rfl⟩ rfl (le_t rfl) fun z692 h691 => ?_
            refine mr_istore (pc := 250) (lv' := [(7, iv z692), (8, iv z442), (6, iv f_x), (0, .ref 106), (1, iv p1), (2, iv p2), (3, iv p3), (4, iv p4), (5, iv p5)]) dX12_isSo_250 (by decide) rfl ?_
            refine sv_goto (pc := 252) (tgt := 462) dX12_isSo_252 (by decide) ?_
            refine mr_lvS (lv' := [(0, .ref 106), (2, iv p2), (7, iv z692)]) (List.forall_mem_cons.mpr ⟨rfl, List.forall_mem_cons.mpr ⟨rfl, List.forall_mem_cons.mpr ⟨rfl, fun _ h => absurd h List.not_mem_nil⟩⟩⟩) ?_
            exact J585 z692 μ hT mF.refl h691.1 hIJC
          have h693 : 10 ≤ z446 ∧ z446 ≤ 10 := (vc_X12_isSo_u_18 h594 h590 h591 h592 h593 h448)
          refine sv_aload_n (pc := 194) dX12_isSo_194 rfl rfl ?_
          refine mr_iload (pc := 195) (z := p4) dX12_isSo_195 rfl ?_
          refine mr_iload (pc := 197) (z := p5) dX12_isSo_197 rfl ?_
          refine mr_cVP (pc := 199) (c_X12_tieWord hw hT hp4 hp5 hg1 q_f_e0 q_f_e1 q_f_ties (vc_X12_isSo_u_19 hq0 h2 hg1) (vc_X12_isSo_u_20 hq1 ht_f_e0 ht_f_e1 hp4 hp5)) (gOk _ _ _ _ _) dX12_isSo_199 (tX12_tieWord _ _ _ _ _) ⟨wV_X12_tieWord, wL_X12_tieWord⟩ wM_X12_382 (gCX12 _ _ _ _ _) rfl (A_106 hw) rfl ⟨le_t rfl, le_t rfl⟩ ⟨le_t rfl, le_t rfl⟩ rfl (le_t rfl) fun z698 h697 => ?_
          refine sv_aload_n (pc := 202) dX12_isSo_202 rfl rfl ?_
          refine gf_X12_47 (pc := 203) dX12_isSo_203 wF_X12_329 (A_106 hw) hT ?_
          refine mr_iload_n (pc := 206) (z := p2) dX12_isSo_206 rfl rfl ?_
          refine la_134 (pc := 207) dX12_isSo_207 (A_134 hw) hT (rIx (n := 3900) hp2 rfl) fun z699 q700 h701 => ?_
          refine mr_icmp_ne (pc := 208) (tgt := 215) dX12_isSo_208 (by decide) (r32 h697.1 rfl) h701 (fun h703 => ?_) (fun h703 => ?_)
          · refine mr_iconst (pc := 215) (z := 0) dX12_isSo_215 ?_
            refine mr_istore (pc := 216) (lv' := [(7, iv 0), (8, iv z442), (6, iv f_x), (0, .ref 106), (1, iv p1), (2, iv p2), (3, iv p3), (4, iv p4), (5, iv p5)]) dX12_isSo_216 (by decide) rfl ?_
            refine sv_goto (pc := 218) (tgt := 462) dX12_isSo_218 (by decide) ?_
            refine mr_lvS (lv' := [(0, .ref 106), (2, iv p2), (7, iv 0)]) (List.forall_mem_cons.mpr ⟨rfl, List.forall_mem_cons.mpr ⟨rfl, List.forall_mem_cons.mpr ⟨rfl, fun _ h => absurd h List.not_mem_nil⟩⟩⟩) ?_
            exact J585 0 μ hT mF.refl (rW (c := 0) (d := 1) (rR (x := 0)) rfl) hIJC
          have h704 : 16 ≤ z699 ∧ z699 ≤ 19 := (vc_X12_isSo_u_21 h703 h697.1 h701)
          refine mr_iconst (pc := 211) (z := 1) dX12_isSo_211 ?_
          refine sv_goto (pc := 212) (tgt := 216) dX12_isSo_212 (by decide) ?_
          refine mr_istore (pc := 216) (lv' := [(7, iv 1), (8, iv z442), (6, iv f_x), (0, .ref 106), (1, iv p1), (2, iv p2), (3, iv p3), (4, iv p4), (5, iv p5)]) dX12_isSo_216 (by decide) rfl ?_
          refine sv_goto (pc := 218) (tgt := 462) dX12_isSo_218 (by decide) ?_
          refine mr_lvS (lv' := [(0, .ref 106), (2, iv p2), (7, iv 1)]) (List.forall_mem_cons.mpr ⟨rfl, List.forall_mem_cons.mpr ⟨rfl, List.forall_mem_cons.mpr ⟨rfl, fun _ h => absurd h List.not_mem_nil⟩⟩⟩) ?_
          exact J585 1 μ hT mF.refl (rW (c := 0) (d := 1) (rR (x := 1)) rfl) hIJC
        have h705 : 9 ≤ z446 ∧ z446 ≤ 9 := (vc_X12_isSo_u_22 h593 h590 h591 h592 h448)
        refine mr_iload (pc := 162) (z := p5) dX12_isSo_162 rfl ?_
        refine sv_aload_n (pc := 164) dX12_isSo_164 rfl rfl ?_
        refine gf_X12_47 (pc := 165) dX12_isSo_165 wF_X12_329 (A_106 hw) hT ?_
        refine mr_iload_n (pc := 168) (z := p2) dX12_isSo_168 rfl rfl ?_
        refine la_134 (pc := 169) dX12_isSo_169 (A_134 hw) hT (rIx (n := 3900) hp2 rfl) fun z706 q707 h708 => ?_
        refine mr_icmp_ne (pc := 170) (tgt := 177) dX12_isSo_170 (by decide) hp5 h708 (fun h709 => ?_) (fun h709 => ?_)
        · refine mr_iconst (pc := 177) (z := 0) dX12_isSo_177 ?_
          refine mr_istore (pc := 178) (lv' := [(7, iv 0), (8, iv z442), (6, iv f_x), (0, .ref 106), (1, iv p1), (2, iv p2), (3, iv p3), (4, iv p4), (5, iv p5)]) dX12_isSo_178 (by decide) rfl ?_
          refine sv_goto (pc := 180) (tgt := 462) dX12_isSo_180 (by decide) ?_
          refine mr_lvS (lv' := [(0, .ref 106), (2, iv p2), (7, iv 0)]) (List.forall_mem_cons.mpr ⟨rfl, List.forall_mem_cons.mpr ⟨rfl, List.forall_mem_cons.mpr ⟨rfl, fun _ h => absurd h List.not_mem_nil⟩⟩⟩) ?_
          exact J585 0 μ hT mF.refl (rW (c := 0) (d := 1) (rR (x := 0)) rfl) hIJC
        refine mr_iconst (pc := 173) (z := 1) dX12_isSo_173 ?_
        refine sv_goto (pc := 174) (tgt := 178) dX12_isSo_174 (by decide) ?_
        refine mr_istore (pc := 178) (lv' := [(7, iv 1), (8, iv z442), (6, iv f_x), (0, .ref 106), (1, iv p1), (2, iv p2), (3, iv p3), (4, iv p4), (5, iv p5)]) dX12_isSo_178 (by decide) rfl ?_
        refine sv_goto (pc := 180) (tgt := 462) dX12_isSo_180 (by decide) ?_
        refine mr_lvS (lv' := [(0, .ref 106), (2, iv p2), (7, iv 1)]) (List.forall_mem_cons.mpr ⟨rfl, List.forall_mem_cons.mpr ⟨rfl, List.forall_mem_cons.mpr ⟨rfl, fun _ h => absurd h List.not_mem_nil⟩⟩⟩) ?_
        exact J585 1 μ hT mF.refl (rW (c := 0) (d := 1) (rR (x := 1)) rfl) hIJC
      have h710 : 8 ≤ z446 ∧ z446 ≤ 8 := (vc_X12_isSo_u_23 h592 h590 h591 h448)
      refine sv_aload_n (pc := 135) dX12_isSo_135 rfl rfl ?_
      refine mr_iload_n (pc := 136) (z := p3) dX12_isSo_136 rfl rfl ?_
      refine sv_aload_n (pc := 137) dX12_isSo_137 rfl rfl ?_
      refine gf_X12_47 (pc := 138) dX12_isSo_138 wF_X12_329 (A_106 hw) hT ?_
      refine mr_iload_n (pc := 141) (z := p2) dX12_isSo_141 rfl rfl ?_
      refine la_134 (pc := 142) dX12_isSo_142 (A_134 hw) hT (rIx (n := 3900) hp2 rfl) fun z711 q712 h713 => ?_
      refine mr_cVP (pc := 143) (c_X12_marked hw hT hp3 h713) (gOk _ _ _ _ _) dX12_isSo_143 (tX12_marked _ _ _ _ _) ⟨wV_X12_marked, wL_X12_marked⟩ wM_X12_154 (gCX12 _ _ _ _ _) rfl (A_106 hw) rfl ⟨le_t rfl, le_t rfl⟩ ⟨le_t rfl, le_t rfl⟩ rfl (le_t rfl) fun z718 h717 => ?_
      refine mr_istore (pc := 146) (lv' := [(7, iv z718), (8, iv z442), (6, iv f_x), (0, .ref 106), (1, iv p1), (2, iv p2), (3, iv p3), (4, iv p4), (5, iv p5)]) dX12_isSo_146 (by decide) rfl ?_
      refine sv_goto (pc := 148) (tgt := 462) dX12_isSo_148 (by decide) ?_
      refine mr_lvS (lv' := [(0, .ref 106), (2, iv p2), (7, iv z718)]) (List.forall_mem_cons.mpr ⟨rfl, List.forall_mem_cons.mpr ⟨rfl, List.forall_mem_cons.mpr ⟨rfl, fun _ h => absurd h List.not_mem_nil⟩⟩⟩) ?_
      exact J585 z718 μ hT mF.refl h717.1 hIJC
    have h719 : 6 ≤ z446 ∧ z446 ≤ 6 := (vc_X12_isSo_u_24 h591 h590 h448)
    refine sv_aload_n (pc := 112) dX12_isSo_112 rfl rfl ?_
    refine mr_iload_n (pc := 113) (z := p1) dX12_isSo_113 rfl rfl ?_
    refine mr_iload_n (pc := 114) (z := p2) dX12_isSo_114 rfl rfl ?_
    refine mr_iload_n (pc := 115) (z := p3) dX12_isSo_115 rfl rfl ?_
    refine mr_cVP (pc := 116) (c_X12_waysMatch hw hT hp1 hp2 hp3) (gOk _ _ _ _ _) dX12_isSo_116 (tX12_waysMatch _ _ _ _ _) ⟨wV_X12_waysMatch, wL_X12_waysMatch⟩ wM_X12_379 (gCX12 _ _ _ _ _) rfl (A_106 hw) rfl ⟨le_t rfl, le_t rfl⟩ ⟨le_t rfl, le_t rfl⟩ rfl (le_t rfl) fun z724 h723 => ?_
    refine mr_istore (pc := 119) (lv' := [(7, iv z724), (8, iv z442), (6, iv f_x), (0, .ref 106), (1, iv p1), (2, iv p2), (3, iv p3), (4, iv p4), (5, iv p5)]) dX12_isSo_119 (by decide) rfl ?_
    refine sv_goto (pc := 121) (tgt := 462) dX12_isSo_121 (by decide) ?_
    refine mr_lvS (lv' := [(0, .ref 106), (2, iv p2), (7, iv z724)]) (List.forall_mem_cons.mpr ⟨rfl, List.forall_mem_cons.mpr ⟨rfl, List.forall_mem_cons.mpr ⟨rfl, fun _ h => absurd h List.not_mem_nil⟩⟩⟩) ?_
    exact J585 z724 μ hT mF.refl h723.1 hIJC
  have h725 : 4 ≤ z446 ∧ z446 ≤ 4 := (vc_X12_isSo_u_25 h590 h448)
  refine sv_aload_n (pc := 34) dX12_isSo_34 rfl rfl ?_
  refine gf_X12_4 (pc := 35) dX12_isSo_35 wF_X12_26 (A_106 hw) hT ?_
  refine mr_iload (pc := 38) (z := f_x) dX12_isSo_38 rfl ?_
  refine la_109 (pc := 40) dX12_isSo_40 (A_109 hw) hT (rIx (n := 10) h3 rfl) fun z726 q727 h728 => ?_
  refine sv_aload_n (pc := 41) dX12_isSo_41 rfl rfl ?_
  refine gf_X12_48 (pc := 42) dX12_isSo_42 wF_X12_336 (A_106 hw) hT ?_
  refine mr_iload_n (pc := 45) (z := p2) dX12_isSo_45 rfl rfl ?_
  refine la_135 (pc := 46) dX12_isSo_46 (A_135 hw) hT (rIx (n := 3900) hp2 rfl) fun z729 q730 h731 => ?_
  refine mr_icmp_lt (pc := 47) (tgt := 95) dX12_isSo_47 (by decide) (r32 h728 rfl) h731 (fun h752 => ?_) (fun h752 => ?_)
  · have h753 : 1 ≤ z729 ∧ z729 ≤ 2147483647 := (vc_X12_isSo_u_26 h752 h728 h731)
    refine mr_iconst (pc := 95) (z := 0) dX12_isSo_95 ?_
    refine mr_istore (pc := 96) (lv' := [(7, iv 0), (8, iv z442), (6, iv f_x), (0, .ref 106), (1, iv p1), (2, iv p2), (3, iv p3), (4, iv p4), (5, iv p5)]) dX12_isSo_96 (by decide) rfl ?_
    refine sv_goto (pc := 98) (tgt := 462) dX12_isSo_98 (by decide) ?_
    refine mr_lvS (lv' := [(0, .ref 106), (2, iv p2), (7, iv 0)]) (List.forall_mem_cons.mpr ⟨rfl, List.forall_mem_cons.mpr ⟨rfl, List.forall_mem_cons.mpr ⟨rfl, fun _ h => absurd h List.not_mem_nil⟩⟩⟩) ?_
    exact J585 0 μ hT mF.refl (rW (c := 0) (d := 1) (rR (x := 0)) rfl) hIJC
  have h754 : (-2147483648) ≤ z729 ∧ z729 ≤ 32 := (vc_X12_isSo_u_27 h752 h728 h731)
  refine sv_aload_n (pc := 50) dX12_isSo_50 rfl rfl ?_
  refine gf_X12_47 (pc := 51) dX12_isSo_51 wF_X12_329 (A_106 hw) hT ?_
  refine mr_iload_n (pc := 54) (z := p2) dX12_isSo_54 rfl rfl ?_
  refine la_134 (pc := 55) dX12_isSo_55 (A_134 hw) hT (rIx (n := 3900) hp2 rfl) fun z755 q756 h757 => ?_
  refine sv_aload_n (pc := 56) dX12_isSo_56 rfl rfl ?_
  refine gf_X12_48 (pc := 57) dX12_isSo_57 wF_X12_336 (A_106 hw) hT ?_
  refine mr_iload_n (pc := 60) (z := p2) dX12_isSo_60 rfl rfl ?_
  refine lk_135 (pc := 61) dX12_isSo_61 (A_135 hw) (rIx (n := 3900) hp2 rfl) q730 ?_
  refine sv_aload_n (pc := 62) dX12_isSo_62 rfl rfl ?_
  refine gf_X12_3 (pc := 63) dX12_isSo_63 wF_X12_22 (A_106 hw) hT ?_
  refine mr_iload (pc := 66) (z := f_x) dX12_isSo_66 rfl ?_
  refine la_108 (pc := 68) dX12_isSo_68 (A_108 hw) hT (rIx (n := 10) h3 rfl) fun z758 q759 h760 => ?_
  refine mr_cSP (pc := 69) (c_X12_holds hw hT h757 (rW (c := (-2147483648)) (d := 2147483647) h754 rfl) h760) (gOk _ _ _ _ _) dX12_isSo_69 (tX12_holds _ _ _ _ _) wS_X12_holds wM_X12_142 ⟨le_t rfl, le_t rfl⟩ ⟨le_t rfl, le_t rfl⟩ rfl (le_t rfl) fun z765 h764 => ?_
  refine mr_if_eq (pc := 72) (tgt := 95) dX12_isSo_72 (by decide) (r32 h764.1 rfl) (fun h773 => ?_) (fun h773 => ?_)
  · have h774 : 0 ≤ z765 ∧ z765 ≤ 0 := (vc_X12_isSo_u_28 h773 h764.1)
    refine mr_iconst (pc := 95) (z := 0) dX12_isSo_95 ?_
    refine mr_istore (pc := 96) (lv' := [(7, iv 0), (8, iv z442), (6, iv f_x), (0, .ref 106), (1, iv p1), (2, iv p2), (3, iv p3), (4, iv p4), (5, iv p5)]) dX12_isSo_96 (by decide) rfl ?_
    refine sv_goto (pc := 98) (tgt := 462) dX12_isSo_98 (by decide) ?_
    refine mr_lvS (lv' := [(0, .ref 106), (2, iv p2), (7, iv 0)]) (List.forall_mem_cons.mpr ⟨rfl, List.forall_mem_cons.mpr ⟨rfl, List.forall_mem_cons.mpr ⟨rfl, fun _ h => absurd h List.not_mem_nil⟩⟩⟩) ?_
    exact J585 0 μ hT mF.refl (rW (c := 0) (d := 1) (rR (x := 0)) rfl) hIJC
  have h775 : 1 ≤ z765 ∧ z765 ≤ 1 := (vc_X12_isSo_u_29 h773 h764.1)
  refine sv_aload_n (pc := 75) dX12_isSo_75 rfl rfl ?_
  refine gf_X12_4 (pc := 76) dX12_isSo_76 wF_X12_26 (A_106 hw) hT ?_
  refine mr_iload (pc := 79) (z := f_x) dX12_isSo_79 rfl ?_
  refine lk_109 (pc := 81) dX12_isSo_81 (A_109 hw) (rIx (n := 10) h3 rfl) q727 ?_
  refine sv_aload_n (pc := 82) dX12_isSo_82 rfl rfl ?_
  refine gf_X12_49 (pc := 83) dX12_isSo_83 wF_X12_339 (A_106 hw) hT ?_
  refine mr_iload_n (pc := 86) (z := p2) dX12_isSo_86 rfl rfl ?_
  refine la_136 (pc := 87) dX12_isSo_87 (A_136 hw) hT (rIx (n := 3900) hp2 rfl) fun z776 q777 h778 => ?_
  refine mr_icmp_gt (pc := 88) (tgt := 95) dX12_isSo_88 (by decide) (r32 h728 rfl) h778 (fun h781 => ?_) (fun h781 => ?_)
  · have h782 : (-2147483648) ≤ z776 ∧ z776 ≤ 31 := (vc_X12_isSo_u_30 h781 h752 h728 h754 h778)
    refine mr_iconst (pc := 95) (z := 0) dX12_isSo_95 ?_
    refine mr_istore (pc := 96) (lv' := [(7, iv 0), (8, iv z442), (6, iv f_x), (0, .ref 106), (1, iv p1), (2, iv p2), (3, iv p3), (4, iv p4), (5, iv p5)]) dX12_isSo_96 (by decide) rfl ?_
    refine sv_goto (pc := 98) (tgt := 462) dX12_isSo_98 (by decide) ?_
    refine mr_lvS (lv' := [(0, .ref 106), (2, iv p2), (7, iv 0)]) (List.forall_mem_cons.mpr ⟨rfl, List.forall_mem_cons.mpr ⟨rfl, List.forall_mem_cons.mpr ⟨rfl, fun _ h => absurd h List.not_mem_nil⟩⟩⟩) ?_
    exact J585 0 μ hT mF.refl (rW (c := 0) (d := 1) (rR (x := 0)) rfl) hIJC
  have h783 : 0 ≤ z776 ∧ z776 ≤ 2147483647 := (vc_X12_isSo_u_31 h781 h752 h728 h754 h778)
  refine mr_iconst (pc := 91) (z := 1) dX12_isSo_91 ?_
  refine sv_goto (pc := 92) (tgt := 96) dX12_isSo_92 (by decide) ?_
  refine mr_istore (pc := 96) (lv' := [(7, iv 1), (8, iv z442), (6, iv f_x), (0, .ref 106), (1, iv p1), (2, iv p2), (3, iv p3), (4, iv p4), (5, iv p5)]) dX12_isSo_96 (by decide) rfl ?_
  refine sv_goto (pc := 98) (tgt := 462) dX12_isSo_98 (by decide) ?_
  refine mr_lvS (lv' := [(0, .ref 106), (2, iv p2), (7, iv 1)]) (List.forall_mem_cons.mpr ⟨rfl, List.forall_mem_cons.mpr ⟨rfl, List.forall_mem_cons.mpr ⟨rfl, fun _ h => absurd h List.not_mem_nil⟩⟩⟩) ?_
  exact J585 1 μ hT mF.refl (rW (c := 0) (d := 1) (rR (x := 1)) rfl) hIJC
theorem vc_X12_through_u_1 {p2 : Int} (h0 : 0 ≤ p2 ∧ p2 ≤ 2099) : 0 ≤ (40 * p2) := by omega
theorem vc_X12_through_u_2 {p2 : Int} (h0 : 0 ≤ p2 ∧ p2 ≤ 2099) : (40 * p2) % 40 = 0 := by omega
theorem vc_X12_through_u_3 {f_ties g1 : Int} (h0 : g1 < f_ties) (h1 : 0 ≤ f_ties ∧ f_ties ≤ 20) (h2 : 0 ≤ g1 ∧ g1 ≤ 19) : 1 ≤ f_ties ∧ f_ties ≤ 20 := by omega
theorem vc_X12_through_u_4 {f_x : Int} (h0 : 0 ≤ f_x) (h1 : (-1) ≤ f_x ∧ f_x ≤ 9) : 0 ≤ f_x ∧ f_x ≤ 9 := by omega
theorem vc_X12_through_u_5 {f_pol p1 : Int} (h0 : p1 = -99999999 ∨ (0 ≤ p1 ∧ p1 < f_pol)) (h1 : ¬ p1 = (-99999999)) (h2 : 0 ≤ f_pol ∧ f_pol ≤ 12) (h3 : (-2147483648) ≤ p1 ∧ p1 ≤ 2147483647) : 0 ≤ p1 ∧ p1 ≤ 11 := by omega
theorem vc_X12_through_u_6  : (0 : Int) ≤ ((0 : Int) : Int) := by omega
theorem vc_X12_through_u_7 {f_pol p1 : Int} (h0 : p1 = -99999999 ∨ (0 ≤ p1 ∧ p1 < f_pol)) (h1 : ¬ p1 = (-99999999)) (h2 : 0 ≤ f_pol ∧ f_pol ≤ 12) (h3 : (-2147483648) ≤ p1 ∧ p1 ≤ 2147483647) : 0 ≤ p1 ∧ p1 < f_pol ∧ p1 + (0 : Int) ≤ 11 := by omega
theorem vc_X12_through_u_8 {z17814 : Int} (h0 : 0 ≤ z17814 ∧ z17814 ≤ 30) : 0 ≤ z17814 := by omega
theorem vc_X12_through_u_9 {f_R z32214 z32215 : Int} (h0 : (((100 * (501 - z32214)) + (34 * z32215)) - f_R) < ((0 : Nat) : Int)) (h1 : (-1) ≤ f_R ∧ f_R ≤ 30) (h2 : 0 ≤ z32214 ∧ z32214 ≤ 500) (h3 : 0 ≤ z32215 ∧ z32215 ≤ 12) : False := by omega
theorem vc_X12_through_u_10 {z32215 : Int} (h0 : z32215 ≤ 0) (h1 : 0 ≤ z32215 ∧ z32215 ≤ 12) : 0 ≤ z32215 ∧ z32215 ≤ 0 := by omega
theorem vc_X12_through_u_11 {p2 : Int} (h0 : 0 ≤ p2 ∧ p2 ≤ 2099) : ((40 * p2) + 1) ≤ ((40 * p2) + 1) ∧ ((40 * p2) + 40) ≤ ((40 * p2) + 40) := by omega
theorem vc_X12_through_u_12 {f_x f_y : Int} (h0 : 0 ≤ f_x) (h1 : f_y = f_x) (h2 : 0 ≤ f_x ∧ f_x ≤ 9) (h3 : (-1) ≤ f_y ∧ f_y ≤ 9) : f_y = f_x := by omega
theorem vc_X12_through_u_13 {z32215 : Int} (h0 : 0 < z32215) (h1 : 0 ≤ z32215 ∧ z32215 ≤ 12) : 1 ≤ z32215 ∧ z32215 ≤ 12 := by omega
theorem vc_X12_through_u_14 {z32215 : Int} (h0 : 0 < z32215) (h1 : 1 ≤ z32215 ∧ z32215 ≤ 12) : 0 ≤ (z32215 - 1) ∧ (z32215 - 1) < z32215 := by omega
theorem vc_X12_through_u_15 {f_pol p1 z32215 z32237 : Int} (h0 : 0 < z32215) (h1 : 0 ≤ z32237 ∧ z32237 < f_pol ∧ z32237 + (z32215 - 1) ≤ 11) (h2 : p1 = -99999999 ∨ (0 ≤ p1 ∧ p1 < f_pol)) (h3 : 0 ≤ f_pol ∧ f_pol ≤ 12) (h4 : (-2147483648) ≤ p1 ∧ p1 ≤ 2147483647) (h5 : 1 ≤ z32215 ∧ z32215 ≤ 12) (h6 : 0 ≤ z32237 ∧ z32237 ≤ 11) : 0 ≤ (z32215 - 1) ∧ (z32215 - 1) < z32215 := by omega
theorem vc_X12_through_u_16 {f_pol p1 z32215 z32237 : Int} (h0 : 0 < z32215) (h1 : 0 ≤ z32237 ∧ z32237 < f_pol ∧ z32237 + (z32215 - 1) ≤ 11) (h2 : p1 = -99999999 ∨ (0 ≤ p1 ∧ p1 < f_pol)) (h3 : 0 ≤ f_pol ∧ f_pol ≤ 12) (h4 : (-2147483648) ≤ p1 ∧ p1 ≤ 2147483647) (h5 : 1 ≤ z32215 ∧ z32215 ≤ 12) (h6 : 0 ≤ z32237 ∧ z32237 ≤ 11) : ¬ z32215 = 0 := by omega
theorem vc_X12_through_u_17 {f_pol p1 z32215 z32237 : Int} (h0 : 0 < z32215) (h1 : 0 ≤ z32237 ∧ z32237 < f_pol ∧ z32237 + (z32215 - 1) ≤ 11) (h2 : p1 = -99999999 ∨ (0 ≤ p1 ∧ p1 < f_pol)) (h3 : 0 ≤ f_pol ∧ f_pol ≤ 12) (h4 : (-2147483648) ≤ p1 ∧ p1 ≤ 2147483647) (h5 : 1 ≤ z32215 ∧ z32215 ≤ 12) (h6 : 0 ≤ z32237 ∧ z32237 ≤ 11) : (z32215 - 1) = z32215 - 1 := by omega
theorem vc_X12_through_u_18 {f_R z32241 z32244 : Int} (h0 : z32241 < z32244) (h1 : z32241 < z32244 ∧ z32241 = f_R) (h2 : (-1) ≤ f_R ∧ f_R ≤ 30) (h3 : (-1) ≤ z32241 ∧ z32241 ≤ 30) (h4 : 0 ≤ z32244 ∧ z32244 ≤ 30) : (-1) ≤ z32241 ∧ z32241 ≤ 29 := by omega
theorem vc_X12_through_u_19 {f_R z32241 z32244 : Int} (h0 : z32241 < 0) (h1 : z32241 < z32244 ∧ z32241 = f_R) (h2 : z32241 < z32244) (h3 : (-1) ≤ f_R ∧ f_R ≤ 30) (h4 : (-1) ≤ z32241 ∧ z32241 ≤ 29) (h5 : 0 ≤ z32244 ∧ z32244 ≤ 30) : (-1) ≤ z32241 ∧ z32241 ≤ (-1) := by omega
theorem vc_X12_through_u_20 {f_R z32241 z32244 z33921 z33922 : Int} (h0 : (70 - ((2 * z33922) + z33921)) < ((0 : Nat) : Int)) (h1 : z33921 = 0 ∨ z33922 < z32244) (h2 : f_R < z33922) (h3 : z32241 < z32244 ∧ z32241 = f_R) (h4 : z32241 < z32244) (h5 : (-1) ≤ f_R ∧ f_R ≤ 30) (h6 : (-1) ≤ z32241 ∧ z32241 ≤ (-1)) (h7 : 0 ≤ z32244 ∧ z32244 ≤ 30) (h8 : 0 ≤ z33921 ∧ z33921 ≤ 1) (h9 : 0 ≤ z33922 ∧ z33922 ≤ 30) : False := by omega
theorem vc_X12_through_u_21 {z32244 z33921 z33922 : Int} (h0 : ¬ z33921 = 0) (h1 : z33921 = 0 ∨ z33922 < z32244) (h2 : 0 ≤ z32244 ∧ z32244 ≤ 30) (h3 : 0 ≤ z33921 ∧ z33921 ≤ 1) (h4 : 0 ≤ z33922 ∧ z33922 ≤ 30) : 1 ≤ z33921 ∧ z33921 ≤ 1 := by omega
theorem vc_X12_through_u_22 {f_pol p1 z32215 z32237 : Int} (h0 : p1 = -99999999 ∨ (0 ≤ p1 ∧ p1 < f_pol)) (h1 : 0 ≤ z32237 ∧ z32237 < f_pol ∧ z32237 + (z32215 - 1) ≤ 11) (h2 : ¬ p1 = (-99999999)) (h3 : 0 < z32215) (h4 : 0 ≤ f_pol ∧ f_pol ≤ 12) (h5 : (-2147483648) ≤ p1 ∧ p1 ≤ 2147483647) (h6 : 1 ≤ z32215 ∧ z32215 ≤ 12) (h7 : 0 ≤ z32237 ∧ z32237 ≤ 11) : 0 ≤ z32237 ∧ z32237 < f_pol := by omega
theorem vc_X12_through_u_23 {f_R z32241 z32244 z33921 z33922 : Int} (h0 : z32241 < z32244 ∧ z32241 = f_R) (h1 : z32241 < z32244) (h2 : z33921 = 0 ∨ z33922 < z32244) (h3 : f_R < z33922) (h4 : z32241 < 0) (h5 : ¬ z33921 = 0) (h6 : (-1) ≤ f_R ∧ f_R ≤ 30) (h7 : (-1) ≤ z32241 ∧ z32241 ≤ (-1)) (h8 : 0 ≤ z32244 ∧ z32244 ≤ 30) (h9 : 1 ≤ z33921 ∧ z33921 ≤ 1) (h10 : 0 ≤ z33922 ∧ z33922 ≤ 30) : 0 ≤ z33922 ∧ z33922 < z32244 := by omega
theorem vc_X12_through_u_24 {f_R f_pol p1 z32215 z32237 z32241 z32244 z33921 z33922 : Int} (h0 : 0 ≤ z32237 ∧ z32237 < f_pol ∧ z32237 + (z32215 - 1) ≤ 11) (h1 : z33921 = 0 ∨ z33922 < z32244) (h2 : f_R < z33922) (h3 : p1 = -99999999 ∨ (0 ≤ p1 ∧ p1 < f_pol)) (h4 : 0 < z32215) (h5 : z32241 < z32244 ∧ z32241 = f_R) (h6 : z32241 < z32244) (h7 : ¬ z33921 = 0) (h8 : (-1) ≤ f_R ∧ f_R ≤ 30) (h9 : 0 ≤ f_pol ∧ f_pol ≤ 12) (h10 : (-2147483648) ≤ p1 ∧ p1 ≤ 2147483647) (h11 : 1 ≤ z32215 ∧ z32215 ≤ 12) (h12 : 0 ≤ z32237 ∧ z32237 ≤ 11) (h13 : (-1) ≤ z32241 ∧ z32241 ≤ (-1)) (h14 : 0 ≤ z32244 ∧ z32244 ≤ 30) (h15 : 1 ≤ z33921 ∧ z33921 ≤ 1) (h16 : 0 ≤ z33922 ∧ z33922 ≤ 30) : ((31 * z32237) + z33922) = 31 * z32237 + z33922 := by omega
theorem vc_X12_through_u_25 {N f_R f_pol p1 z32214 z32215 z32237 z32241 z32244 z33921 z33922 : Int} (h0 : (((100 * (501 - z32214)) + (34 * z32215)) - f_R) < N + 1) (h1 : 0 < z32215) (h2 : 0 ≤ z32237 ∧ z32237 < f_pol ∧ z32237 + (z32215 - 1) ≤ 11) (h3 : z32241 < z32244 ∧ z32241 = f_R) (h4 : z33921 = 0 ∨ z33922 < z32244) (h5 : f_R < z33922) (h6 : p1 = -99999999 ∨ (0 ≤ p1 ∧ p1 < f_pol)) (h7 : z32241 < z32244) (h8 : z32241 < 0) (h9 : ¬ z33921 = 0) (h10 : (-1) ≤ f_R ∧ f_R ≤ 30) (h11 : 0 ≤ f_pol ∧ f_pol ≤ 12) (h12 : (-2147483648) ≤ p1 ∧ p1 ≤ 2147483647) (h13 : 0 ≤ z32214 ∧ z32214 ≤ 500) (h14 : 1 ≤ z32215 ∧ z32215 ≤ 12) (h15 : 0 ≤ z32237 ∧ z32237 ≤ 11) (h16 : (-1) ≤ z32241 ∧ z32241 ≤ (-1)) (h17 : 0 ≤ z32244 ∧ z32244 ≤ 30) (h18 : 1 ≤ z33921 ∧ z33921 ≤ 1) (h19 : 0 ≤ z33922 ∧ z33922 ≤ 30) : (((100 * (501 - z32214)) + (34 * z32215)) - z33922) < N := by omega
theorem vc_X12_through_u_26 {f_pol p1 z32215 z32237 : Int} (h0 : 0 < z32215) (h1 : 0 ≤ z32237 ∧ z32237 < f_pol ∧ z32237 + (z32215 - 1) ≤ 11) (h2 : p1 = -99999999 ∨ (0 ≤ p1 ∧ p1 < f_pol)) (h3 : 0 ≤ f_pol ∧ f_pol ≤ 12) (h4 : (-2147483648) ≤ p1 ∧ p1 ≤ 2147483647) (h5 : 1 ≤ z32215 ∧ z32215 ≤ 12) (h6 : 0 ≤ z32237 ∧ z32237 ≤ 11) : z32215 ≤ z32215 := by omega
theorem vc_X12_through_u_27 {z32244 z33921 z33922 : Int} (h0 : z33921 = 0) (h1 : z33921 = 0 ∨ z33922 < z32244) (h2 : 0 ≤ z32244 ∧ z32244 ≤ 30) (h3 : 0 ≤ z33921 ∧ z33921 ≤ 1) (h4 : 0 ≤ z33922 ∧ z33922 ≤ 30) : 0 ≤ z33921 ∧ z33921 ≤ 0 := by omega
theorem vc_X12_through_u_28 {f_pol z32215 z32237 : Int} (h0 : (z32215 + (-1)) = 0) (h1 : 0 < z32215) (h2 : 0 ≤ z32237 ∧ z32237 < f_pol ∧ z32237 + (z32215 - 1) ≤ 11) (h3 : 0 ≤ f_pol ∧ f_pol ≤ 12) (h4 : 1 ≤ z32215 ∧ z32215 ≤ 12) (h5 : 0 ≤ z32237 ∧ z32237 ≤ 11) : 1 ≤ z32215 ∧ z32215 ≤ 1 := by omega
theorem vc_X12_through_u_29 {N f_R f_pol p1 z32214 z32215 z32237 z32241 z32244 z33921 z33922 : Int} (h0 : (((100 * (501 - z32214)) + (34 * z32215)) - f_R) < N + 1) (h1 : 0 < z32215) (h2 : 0 ≤ z32237 ∧ z32237 < f_pol ∧ z32237 + (z32215 - 1) ≤ 11) (h3 : z32241 < z32244 ∧ z32241 = f_R) (h4 : f_R < z33922) (h5 : (z32215 + (-1)) = 0) (h6 : p1 = -99999999 ∨ (0 ≤ p1 ∧ p1 < f_pol)) (h7 : z32241 < z32244) (h8 : z32241 < 0) (h9 : z33921 = 0 ∨ z33922 < z32244) (h10 : (-1) ≤ f_R ∧ f_R ≤ 30) (h11 : 0 ≤ f_pol ∧ f_pol ≤ 12) (h12 : (-2147483648) ≤ p1 ∧ p1 ≤ 2147483647) (h13 : 0 ≤ z32214 ∧ z32214 ≤ 500) (h14 : 1 ≤ z32215 ∧ z32215 ≤ 1) (h15 : 0 ≤ z32237 ∧ z32237 ≤ 11) (h16 : (-1) ≤ z32241 ∧ z32241 ≤ (-1)) (h17 : 0 ≤ z32244 ∧ z32244 ≤ 30) (h18 : 0 ≤ z33921 ∧ z33921 ≤ 0) (h19 : 0 ≤ z33922 ∧ z33922 ≤ 30) : (((100 * (501 - z32214)) + (34 * (z32215 + (-1)))) - 0) < N := by omega
theorem vc_X12_through_u_30 {f_pol p1 z32215 z32237 : Int} (h0 : 0 < z32215) (h1 : 0 ≤ z32237 ∧ z32237 < f_pol ∧ z32237 + (z32215 - 1) ≤ 11) (h2 : (z32215 + (-1)) = 0) (h3 : p1 = -99999999 ∨ (0 ≤ p1 ∧ p1 < f_pol)) (h4 : 0 ≤ f_pol ∧ f_pol ≤ 12) (h5 : (-2147483648) ≤ p1 ∧ p1 ≤ 2147483647) (h6 : 1 ≤ z32215 ∧ z32215 ≤ 1) (h7 : 0 ≤ z32237 ∧ z32237 ≤ 11) : (z32215 + (-1)) ≤ z32215 := by omega
theorem vc_X12_through_u_31 {f_pol p1 z32215 z32237 : Int} (h0 : 0 < z32215) (h1 : 0 ≤ z32237 ∧ z32237 < f_pol ∧ z32237 + (z32215 - 1) ≤ 11) (h2 : (z32215 + (-1)) = 0) (h3 : p1 = -99999999 ∨ (0 ≤ p1 ∧ p1 < f_pol)) (h4 : 0 ≤ f_pol ∧ f_pol ≤ 12) (h5 : (-2147483648) ≤ p1 ∧ p1 ≤ 2147483647) (h6 : 1 ≤ z32215 ∧ z32215 ≤ 1) (h7 : 0 ≤ z32237 ∧ z32237 ≤ 11) : (z32215 + (-1)) = 0 := by omega
theorem vc_X12_through_u_32 {f_pol z32215 z32237 : Int} (h0 : ¬ (z32215 + (-1)) = 0) (h1 : 0 < z32215) (h2 : 0 ≤ z32237 ∧ z32237 < f_pol ∧ z32237 + (z32215 - 1) ≤ 11) (h3 : 0 ≤ f_pol ∧ f_pol ≤ 12) (h4 : 1 ≤ z32215 ∧ z32215 ≤ 12) (h5 : 0 ≤ z32237 ∧ z32237 ≤ 11) : 2 ≤ z32215 ∧ z32215 ≤ 12 := by omega
theorem vc_X12_through_u_33 {N f_R f_pol p1 z32214 z32215 z32237 z32241 z32244 z33921 z33922 z33994 : Int} (h0 : (((100 * (501 - z32214)) + (34 * z32215)) - f_R) < N + 1) (h1 : 0 < z32215) (h2 : 0 ≤ z32237 ∧ z32237 < f_pol ∧ z32237 + (z32215 - 1) ≤ 11) (h3 : z32241 < z32244 ∧ z32241 = f_R) (h4 : f_R < z33922) (h5 : ¬ (z32215 + (-1)) = 0) (h6 : p1 = -99999999 ∨ (0 ≤ p1 ∧ p1 < f_pol)) (h7 : z32241 < z32244) (h8 : z32241 < 0) (h9 : z33921 = 0 ∨ z33922 < z32244) (h10 : (-1) ≤ f_R ∧ f_R ≤ 30) (h11 : 0 ≤ f_pol ∧ f_pol ≤ 12) (h12 : (-2147483648) ≤ p1 ∧ p1 ≤ 2147483647) (h13 : 0 ≤ z32214 ∧ z32214 ≤ 500) (h14 : 2 ≤ z32215 ∧ z32215 ≤ 12) (h15 : 0 ≤ z32237 ∧ z32237 ≤ 11) (h16 : (-1) ≤ z32241 ∧ z32241 ≤ (-1)) (h17 : 0 ≤ z32244 ∧ z32244 ≤ 30) (h18 : 0 ≤ z33921 ∧ z33921 ≤ 0) (h19 : 0 ≤ z33922 ∧ z33922 ≤ 30) (h20 : (-1) ≤ z33994 ∧ z33994 ≤ 30) : (((100 * (501 - z32214)) + (34 * (z32215 + (-1)))) - z33994) < N := by omega
theorem vc_X12_through_u_34 {f_pol p1 z32215 z32237 : Int} (h0 : 0 < z32215) (h1 : 0 ≤ z32237 ∧ z32237 < f_pol ∧ z32237 + (z32215 - 1) ≤ 11) (h2 : ¬ (z32215 + (-1)) = 0) (h3 : p1 = -99999999 ∨ (0 ≤ p1 ∧ p1 < f_pol)) (h4 : 0 ≤ f_pol ∧ f_pol ≤ 12) (h5 : (-2147483648) ≤ p1 ∧ p1 ≤ 2147483647) (h6 : 2 ≤ z32215 ∧ z32215 ≤ 12) (h7 : 0 ≤ z32237 ∧ z32237 ≤ 11) : (z32215 + (-1)) ≤ z32215 := by omega
theorem vc_X12_through_u_35 {f_R z32241 z32244 z33921 z33922 : Int} (h0 : z33922 < z32244) (h1 : z32241 < z32244 ∧ z32241 = f_R) (h2 : z32241 < z32244) (h3 : z33921 = 0 ∨ z33922 < z32244) (h4 : f_R < z33922) (h5 : (-1) ≤ f_R ∧ f_R ≤ 30) (h6 : (-1) ≤ z32241 ∧ z32241 ≤ (-1)) (h7 : 0 ≤ z32244 ∧ z32244 ≤ 30) (h8 : 0 ≤ z33921 ∧ z33921 ≤ 1) (h9 : 0 ≤ z33922 ∧ z33922 ≤ 30) : 0 ≤ z33922 ∧ z33922 ≤ 29 := by omega
theorem vc_X12_through_u_36 {f_R z32241 z32244 z33921 z33922 : Int} (h0 : z33922 < z32244) (h1 : z32241 < z32244 ∧ z32241 = f_R) (h2 : z32241 < z32244) (h3 : z33921 = 0 ∨ z33922 < z32244) (h4 : f_R < z33922) (h5 : (-1) ≤ f_R ∧ f_R ≤ 30) (h6 : (-1) ≤ z32241 ∧ z32241 ≤ (-1)) (h7 : 0 ≤ z32244 ∧ z32244 ≤ 30) (h8 : 0 ≤ z33921 ∧ z33921 ≤ 1) (h9 : 0 ≤ z33922 ∧ z33922 ≤ 29) : 1 ≤ z32244 ∧ z32244 ≤ 30 := by omega
theorem vc_X12_through_u_37 {z32244 z33921 z33922 : Int} (h0 : ¬ z33921 = 0) (h1 : z33921 = 0 ∨ z33922 < z32244) (h2 : 1 ≤ z32244 ∧ z32244 ≤ 30) (h3 : 0 ≤ z33921 ∧ z33921 ≤ 1) (h4 : 0 ≤ z33922 ∧ z33922 ≤ 29) : 1 ≤ z33921 ∧ z33921 ≤ 1 := by omega
theorem vc_X12_through_u_38 {z32244 z33921 z33922 : Int} (h0 : z33921 = 0) (h1 : z33921 = 0 ∨ z33922 < z32244) (h2 : 1 ≤ z32244 ∧ z32244 ≤ 30) (h3 : 0 ≤ z33921 ∧ z33921 ≤ 1) (h4 : 0 ≤ z33922 ∧ z33922 ≤ 29) : 0 ≤ z33921 ∧ z33921 ≤ 0 := by omega
theorem vc_X12_through_u_39 {z34053 : Int} (h0 : (301 - z34053) < ((0 : Nat) : Int)) (h1 : 0 ≤ z34053 ∧ z34053 ≤ 300) : False := by omega
theorem vc_X12_through_u_40 {z34054 : Int} (h0 : ¬ z34054 = 0) (h1 : 0 ≤ z34054 ∧ z34054 ≤ 1) : 1 ≤ z34054 ∧ z34054 ≤ 1 := by omega
theorem vc_X12_through_u_41 {f_R z32241 z32244 z33921 z33922 z34054 : Int} (h0 : z32241 < z32244 ∧ z32241 = f_R) (h1 : z32241 < z32244) (h2 : z33921 = 0 ∨ z33922 < z32244) (h3 : f_R < z33922) (h4 : z33922 < z32244) (h5 : ¬ z34054 = 0) (h6 : z32241 < 0) (h7 : z33921 = 0) (h8 : (-1) ≤ f_R ∧ f_R ≤ 30) (h9 : (-1) ≤ z32241 ∧ z32241 ≤ (-1)) (h10 : 1 ≤ z32244 ∧ z32244 ≤ 30) (h11 : 0 ≤ z33921 ∧ z33921 ≤ 0) (h12 : 0 ≤ z33922 ∧ z33922 ≤ 29) (h13 : 1 ≤ z34054 ∧ z34054 ≤ 1) : z34054 = 0 ∨ z33922 < z32244 := by omega
theorem vc_X12_through_u_42 {f_R z32241 z32244 z33921 z33922 : Int} (h0 : z32241 < z32244 ∧ z32241 = f_R) (h1 : z33921 = 0 ∨ z33922 < z32244) (h2 : f_R < z33922) (h3 : z33922 < z32244) (h4 : z32241 < z32244) (h5 : z32241 < 0) (h6 : z33921 = 0) (h7 : (-1) ≤ f_R ∧ f_R ≤ 30) (h8 : (-1) ≤ z32241 ∧ z32241 ≤ (-1)) (h9 : 1 ≤ z32244 ∧ z32244 ≤ 30) (h10 : 0 ≤ z33921 ∧ z33921 ≤ 0) (h11 : 0 ≤ z33922 ∧ z33922 ≤ 29) : f_R < z33922 := by omega
theorem vc_X12_through_u_43 {N f_R z32241 z32244 z33921 z33922 z34054 : Int} (h0 : (70 - ((2 * z33922) + z33921)) < N + 1) (h1 : z33921 = 0 ∨ z33922 < z32244) (h2 : f_R < z33922) (h3 : z33922 < z32244) (h4 : z33921 = 0) (h5 : ¬ z34054 = 0) (h6 : z32241 < z32244 ∧ z32241 = f_R) (h7 : z32241 < z32244) (h8 : (-1) ≤ f_R ∧ f_R ≤ 30) (h9 : (-1) ≤ z32241 ∧ z32241 ≤ (-1)) (h10 : 1 ≤ z32244 ∧ z32244 ≤ 30) (h11 : 0 ≤ z33921 ∧ z33921 ≤ 0) (h12 : 0 ≤ z33922 ∧ z33922 ≤ 29) (h13 : 1 ≤ z34054 ∧ z34054 ≤ 1) : (70 - ((2 * z33922) + z34054)) < N := by omega
theorem vc_X12_through_u_44 {z34054 : Int} (h0 : z34054 = 0) (h1 : 0 ≤ z34054 ∧ z34054 ≤ 1) : 0 ≤ z34054 ∧ z34054 ≤ 0 := by omega
theorem vc_X12_through_u_45 {f_R z32241 z32244 z33921 z33922 z34054 : Int} (h0 : z32241 < z32244 ∧ z32241 = f_R) (h1 : z32241 < z32244) (h2 : z33921 = 0 ∨ z33922 < z32244) (h3 : f_R < z33922) (h4 : z33922 < z32244) (h5 : z34054 = 0) (h6 : z32241 < 0) (h7 : z33921 = 0) (h8 : (-1) ≤ f_R ∧ f_R ≤ 30) (h9 : (-1) ≤ z32241 ∧ z32241 ≤ (-1)) (h10 : 1 ≤ z32244 ∧ z32244 ≤ 30) (h11 : 0 ≤ z33921 ∧ z33921 ≤ 0) (h12 : 0 ≤ z33922 ∧ z33922 ≤ 29) (h13 : 0 ≤ z34054 ∧ z34054 ≤ 0) : z34054 = 0 ∨ (z33922 + 1) < z32244 := by omega
theorem vc_X12_through_u_46 {f_R z32241 z32244 z33921 z33922 : Int} (h0 : z32241 < z32244 ∧ z32241 = f_R) (h1 : z33921 = 0 ∨ z33922 < z32244) (h2 : f_R < z33922) (h3 : z33922 < z32244) (h4 : z32241 < z32244) (h5 : z32241 < 0) (h6 : z33921 = 0) (h7 : (-1) ≤ f_R ∧ f_R ≤ 30) (h8 : (-1) ≤ z32241 ∧ z32241 ≤ (-1)) (h9 : 1 ≤ z32244 ∧ z32244 ≤ 30) (h10 : 0 ≤ z33921 ∧ z33921 ≤ 0) (h11 : 0 ≤ z33922 ∧ z33922 ≤ 29) : f_R < (z33922 + 1) := by omega
theorem vc_X12_through_u_47 {N f_R z32241 z32244 z33921 z33922 z34054 : Int} (h0 : (70 - ((2 * z33922) + z33921)) < N + 1) (h1 : z33921 = 0 ∨ z33922 < z32244) (h2 : f_R < z33922) (h3 : z33922 < z32244) (h4 : z33921 = 0) (h5 : z34054 = 0) (h6 : z32241 < z32244 ∧ z32241 = f_R) (h7 : z32241 < z32244) (h8 : (-1) ≤ f_R ∧ f_R ≤ 30) (h9 : (-1) ≤ z32241 ∧ z32241 ≤ (-1)) (h10 : 1 ≤ z32244 ∧ z32244 ≤ 30) (h11 : 0 ≤ z33921 ∧ z33921 ≤ 0) (h12 : 0 ≤ z33922 ∧ z33922 ≤ 29) (h13 : 0 ≤ z34054 ∧ z34054 ≤ 0) : (70 - ((2 * (z33922 + 1)) + z34054)) < N := by omega
theorem vc_X12_through_u_48 {z34053 z34066 : Int} (h0 : z34053 < z34066) (h1 : 0 ≤ z34053 ∧ z34053 ≤ 300) (h2 : 0 ≤ z34066 ∧ z34066 ≤ 300) : 0 ≤ z34053 ∧ z34053 ≤ 299 := by omega
theorem vc_X12_through_u_49 {z34053 z34066 : Int} (h0 : z34053 < z34066) (h1 : 0 ≤ z34053 ∧ z34053 ≤ 299) (h2 : 0 ≤ z34066 ∧ z34066 ≤ 300) : 1 ≤ z34066 ∧ z34066 ≤ 300 := by omega
theorem vc_X12_through_u_50 {z34054 : Int} (h0 : ¬ z34054 = 0) (h1 : 0 ≤ z34054 ∧ z34054 ≤ 0) : False := by omega
theorem vc_X12_through_u_51 {f_ties g1 : Int} (h0 : g1 < f_ties) (h1 : 1 ≤ f_ties ∧ f_ties ≤ 20) (h2 : 0 ≤ g1 ∧ g1 ≤ 19) : g1 < f_ties := by omega
theorem vc_X12_through_u_52 {f_e0 f_e1 p3 p4 : Int} (h0 : (f_e0 = p3 ∧ f_e1 = p4) ∨ (f_e0 = p4 ∧ f_e1 = p3)) (h1 : 0 ≤ f_e0 ∧ f_e0 ≤ 9) (h2 : 0 ≤ f_e1 ∧ f_e1 ≤ 9) (h3 : (-2147483648) ≤ p3 ∧ p3 ≤ 2147483647) (h4 : (-2147483648) ≤ p4 ∧ p4 ≤ 2147483647) : (f_e0 = p3 ∧ f_e1 = p4) ∨ (f_e0 = p4 ∧ f_e1 = p3) := by omega
theorem vc_X12_through_u_53 {f_x f_y : Int} (h0 : f_y = f_x) (h1 : 0 ≤ f_x) (h2 : 0 ≤ f_x ∧ f_x ≤ 9) (h3 : (-1) ≤ f_y ∧ f_y ≤ 9) : 0 ≤ f_y := by omega
theorem vc_X12_through_u_54 {N z34053 z34066 : Int} (h0 : (301 - z34053) < N + 1) (h1 : z34053 < z34066) (h2 : 0 ≤ z34053 ∧ z34053 ≤ 299) (h3 : 1 ≤ z34066 ∧ z34066 ≤ 300) : (301 - (z34053 + 1)) < N := by omega
theorem vc_X12_through_u_55 {z34003 : Int} (h0 : 0 ≤ z34003 ∧ z34003 ≤ 300) : (301 - z34003) < ((302 : Nat) : Int) := by omega
theorem vc_X12_through_u_56 {f_R z32241 z32244 : Int} (h0 : z32241 < z32244 ∧ z32241 = f_R) (h1 : z32241 < z32244) (h2 : z32241 < 0) (h3 : (-1) ≤ f_R ∧ f_R ≤ 30) (h4 : (-1) ≤ z32241 ∧ z32241 ≤ (-1)) (h5 : 0 ≤ z32244 ∧ z32244 ≤ 30) : (0 : Int) = 0 ∨ (z32241 + 1) < z32244 := by omega
theorem vc_X12_through_u_57 {f_R z32241 z32244 : Int} (h0 : z32241 < z32244 ∧ z32241 = f_R) (h1 : z32241 < z32244) (h2 : z32241 < 0) (h3 : (-1) ≤ f_R ∧ f_R ≤ 30) (h4 : (-1) ≤ z32241 ∧ z32241 ≤ (-1)) (h5 : 0 ≤ z32244 ∧ z32244 ≤ 30) : f_R < (z32241 + 1) := by omega
theorem vc_X12_through_u_58 {f_R z32241 z32244 : Int} (h0 : z32241 < z32244 ∧ z32241 = f_R) (h1 : z32241 < z32244) (h2 : z32241 < 0) (h3 : (-1) ≤ f_R ∧ f_R ≤ 30) (h4 : (-1) ≤ z32241 ∧ z32241 ≤ (-1)) (h5 : 0 ≤ z32244 ∧ z32244 ≤ 30) : (70 - ((2 * (z32241 + 1)) + 0)) < ((71 : Nat) : Int) := by omega
theorem vc_X12_through_u_59 {f_R z32241 z32244 : Int} (h0 : 0 ≤ z32241) (h1 : z32241 < z32244 ∧ z32241 = f_R) (h2 : z32241 < z32244) (h3 : (-1) ≤ f_R ∧ f_R ≤ 30) (h4 : (-1) ≤ z32241 ∧ z32241 ≤ 29) (h5 : 0 ≤ z32244 ∧ z32244 ≤ 30) : 0 ≤ z32241 ∧ z32241 ≤ 29 := by omega
theorem vc_X12_through_u_60 {f_R f_pol p1 z32215 z32237 z32241 z32244 : Int} (h0 : 0 ≤ z32237 ∧ z32237 < f_pol ∧ z32237 + (z32215 - 1) ≤ 11) (h1 : z32241 < z32244 ∧ z32241 = f_R) (h2 : z32241 < z32244) (h3 : 0 ≤ z32241) (h4 : p1 = -99999999 ∨ (0 ≤ p1 ∧ p1 < f_pol)) (h5 : 0 < z32215) (h6 : (-1) ≤ f_R ∧ f_R ≤ 30) (h7 : 0 ≤ f_pol ∧ f_pol ≤ 12) (h8 : (-2147483648) ≤ p1 ∧ p1 ≤ 2147483647) (h9 : 1 ≤ z32215 ∧ z32215 ≤ 12) (h10 : 0 ≤ z32237 ∧ z32237 ≤ 11) (h11 : 0 ≤ z32241 ∧ z32241 ≤ 29) (h12 : 0 ≤ z32244 ∧ z32244 ≤ 30) : (((31 * z32237) + z32241) + 1) = 31 * z32237 + z32241 + 1 := by omega
theorem vc_X12_through_u_61 {f_pol p1 z32215 z32237 : Int} (h0 : 0 ≤ z32237 ∧ z32237 < f_pol ∧ z32237 + (z32215 - 1) ≤ 11) (h1 : p1 = -99999999 ∨ (0 ≤ p1 ∧ p1 < f_pol)) (h2 : 0 < z32215) (h3 : 0 ≤ f_pol ∧ f_pol ≤ 12) (h4 : (-2147483648) ≤ p1 ∧ p1 ≤ 2147483647) (h5 : 1 ≤ z32215 ∧ z32215 ≤ 12) (h6 : 0 ≤ z32237 ∧ z32237 ≤ 11) : 0 ≤ z32237 := by omega
theorem vc_X12_through_u_62 {f_R z32241 z32244 : Int} (h0 : z32241 < z32244 ∧ z32241 = f_R) (h1 : z32241 < z32244) (h2 : 0 ≤ z32241) (h3 : (-1) ≤ f_R ∧ f_R ≤ 30) (h4 : 0 ≤ z32241 ∧ z32241 ≤ 29) (h5 : 0 ≤ z32244 ∧ z32244 ≤ 30) : 0 ≤ z32241 := by omega
theorem vc_X12_through_u_63 {f_R z32241 z32244 : Int} (h0 : z32241 < z32244 ∧ z32241 = f_R) (h1 : z32241 < z32244) (h2 : 0 ≤ z32241) (h3 : (-1) ≤ f_R ∧ f_R ≤ 30) (h4 : 0 ≤ z32241 ∧ z32241 ≤ 29) (h5 : 0 ≤ z32244 ∧ z32244 ≤ 30) : 0 ≤ z32241 ∧ z32241 < z32244 := by omega
theorem vc_X12_through_u_64 {z32247 z34100 z34103 : Int} (h0 : z34100 ≤ z34103 ∧ z34103 ≤ z32247) (h1 : ¬ z34100 = z34103) (h2 : 0 ≤ z32247 ∧ z32247 ≤ 300) (h3 : 0 ≤ z34100 ∧ z34100 ≤ 300) (h4 : 0 ≤ z34103 ∧ z34103 ≤ 300) : 0 ≤ (z34100 + 1) ∧ (z34100 + 1) ≤ 300 := by omega
theorem vc_X12_through_u_65 {z32247 z34100 z34103 : Int} (h0 : z34100 ≤ z34103 ∧ z34103 ≤ z32247) (h1 : ¬ z34100 = z34103) (h2 : 0 ≤ z32247 ∧ z32247 ≤ 300) (h3 : 0 ≤ z34100 ∧ z34100 ≤ 300) (h4 : 0 ≤ z34103 ∧ z34103 ≤ 300) : (z34100 + 1) ≤ z34103 := by omega
theorem vc_X12_through_u_66 {z32214 : Int} (h0 : (z32214 + 1) ≤ 500) (h1 : 0 ≤ z32214 ∧ z32214 ≤ 500) : 0 ≤ z32214 ∧ z32214 ≤ 499 := by omega
theorem vc_X12_through_u_67 {p2 : Int} (h0 : 0 ≤ p2 ∧ p2 ≤ 2099) : (40 * p2) < ((40 * p2) + 1) ∨ ((40 * p2) + 40) ≤ (40 * p2) := by omega
theorem vc_X12_through_u_68 {N f_R f_pol p1 z32214 z32215 z32237 z32241 z32244 : Int} (h0 : (((100 * (501 - z32214)) + (34 * z32215)) - f_R) < N + 1) (h1 : 0 < z32215) (h2 : 0 ≤ z32237 ∧ z32237 < f_pol ∧ z32237 + (z32215 - 1) ≤ 11) (h3 : z32241 < z32244 ∧ z32241 = f_R) (h4 : z32241 < z32244) (h5 : 0 ≤ z32241) (h6 : (z32214 + 1) ≤ 500) (h7 : p1 = -99999999 ∨ (0 ≤ p1 ∧ p1 < f_pol)) (h8 : (-1) ≤ f_R ∧ f_R ≤ 30) (h9 : 0 ≤ f_pol ∧ f_pol ≤ 12) (h10 : (-2147483648) ≤ p1 ∧ p1 ≤ 2147483647) (h11 : 0 ≤ z32214 ∧ z32214 ≤ 499) (h12 : 1 ≤ z32215 ∧ z32215 ≤ 12) (h13 : 0 ≤ z32237 ∧ z32237 ≤ 11) (h14 : 0 ≤ z32241 ∧ z32241 ≤ 29) (h15 : 0 ≤ z32244 ∧ z32244 ≤ 30) : (((100 * (501 - (z32214 + 1))) + (34 * z32215)) - z32241) < N := by omega
theorem vc_X12_through_u_69 {z34114 : Int} (h0 : z34114 = 28) (h1 : ¬ z34114 = 23) (h2 : ¬ z34114 = 24) (h3 : ¬ z34114 = 27) (h4 : (-2147483648) ≤ z34114 ∧ z34114 ≤ 2147483647) : 28 ≤ z34114 ∧ z34114 ≤ 28 := by omega
theorem vc_X12_through_u_70 {f_pol p1 z32215 z32237 z32247 z34100 z34103 : Int} (h0 : 0 ≤ z32237 ∧ z32237 < f_pol ∧ z32237 + (z32215 - 1) ≤ 11) (h1 : z34100 ≤ z34103 ∧ z34103 ≤ z32247) (h2 : ¬ z34100 = z34103) (h3 : p1 = -99999999 ∨ (0 ≤ p1 ∧ p1 < f_pol)) (h4 : 0 < z32215) (h5 : 0 ≤ f_pol ∧ f_pol ≤ 12) (h6 : (-2147483648) ≤ p1 ∧ p1 ≤ 2147483647) (h7 : 1 ≤ z32215 ∧ z32215 ≤ 12) (h8 : 0 ≤ z32237 ∧ z32237 ≤ 11) (h9 : 0 ≤ z32247 ∧ z32247 ≤ 300) (h10 : 0 ≤ z34100 ∧ z34100 ≤ 300) (h11 : 0 ≤ z34103 ∧ z34103 ≤ 300) : 0 ≤ (((300 * z32237) + z34100) - (300 * z32237)) ∧ (((300 * z32237) + z34100) - (300 * z32237)) < z32247 := by omega
theorem vc_X12_through_u_71 {f_pol p1 z32215 z32237 z32247 z34100 z34103 : Int} (h0 : 0 ≤ z32237 ∧ z32237 < f_pol ∧ z32237 + (z32215 - 1) ≤ 11) (h1 : z34100 ≤ z34103 ∧ z34103 ≤ z32247) (h2 : ¬ z34100 = z34103) (h3 : p1 = -99999999 ∨ (0 ≤ p1 ∧ p1 < f_pol)) (h4 : 0 < z32215) (h5 : 0 ≤ f_pol ∧ f_pol ≤ 12) (h6 : (-2147483648) ≤ p1 ∧ p1 ≤ 2147483647) (h7 : 1 ≤ z32215 ∧ z32215 ≤ 12) (h8 : 0 ≤ z32237 ∧ z32237 ≤ 11) (h9 : 0 ≤ z32247 ∧ z32247 ≤ 300) (h10 : 0 ≤ z34100 ∧ z34100 ≤ 300) (h11 : 0 ≤ z34103 ∧ z34103 ≤ 300) : ((300 * z32237) + z34100) = 300 * z32237 + (((300 * z32237) + z34100) - (300 * z32237)) := by omega
theorem vc_X12_through_u_72 {z34114 : Int} (h0 : ¬ z34114 = 23) (h1 : ¬ z34114 = 24) (h2 : ¬ z34114 = 27) (h3 : z34114 = 28) (h4 : 28 ≤ z34114 ∧ z34114 ≤ 28) : z34114 = 28 := by omega
theorem vc_X12_through_u_73 {f_pol z32215 z32237 z34193 : Int} (h0 : 0 ≤ z34193 ∧ z34193 < z32237) (h1 : 0 ≤ z32237 ∧ z32237 < f_pol ∧ z32237 + (z32215 - 1) ≤ 11) (h2 : 0 ≤ f_pol ∧ f_pol ≤ 12) (h3 : 1 ≤ z32215 ∧ z32215 ≤ 12) (h4 : 0 ≤ z32237 ∧ z32237 ≤ 11) (h5 : (-2147483648) ≤ z34193 ∧ z34193 ≤ 2147483647) : 0 ≤ z34193 ∧ z34193 ≤ 10 := by omega
theorem vc_X12_through_u_74 {f_pol z32215 z32237 z34193 : Int} (h0 : 0 ≤ z34193 ∧ z34193 < z32237) (h1 : 0 ≤ z32237 ∧ z32237 < f_pol ∧ z32237 + (z32215 - 1) ≤ 11) (h2 : 0 ≤ f_pol ∧ f_pol ≤ 12) (h3 : 1 ≤ z32215 ∧ z32215 ≤ 12) (h4 : 0 ≤ z32237 ∧ z32237 ≤ 11) (h5 : 0 ≤ z34193 ∧ z34193 ≤ 10) : 1 ≤ z32237 ∧ z32237 ≤ 11 := by omega
theorem vc_X12_through_u_75 {f_pol p1 z32215 z32237 z34193 : Int} (h0 : 0 < z32215) (h1 : 0 ≤ z32237 ∧ z32237 < f_pol ∧ z32237 + (z32215 - 1) ≤ 11) (h2 : p1 = -99999999 ∨ (0 ≤ p1 ∧ p1 < f_pol)) (h3 : 0 ≤ z34193 ∧ z34193 < z32237) (h4 : 0 ≤ f_pol ∧ f_pol ≤ 12) (h5 : (-2147483648) ≤ p1 ∧ p1 ≤ 2147483647) (h6 : 1 ≤ z32215 ∧ z32215 ≤ 12) (h7 : 1 ≤ z32237 ∧ z32237 ≤ 11) (h8 : 0 ≤ z34193 ∧ z34193 ≤ 10) : 0 ≤ z32215 := by omega
theorem vc_X12_through_u_76 {f_pol p1 z32215 z32237 z34193 : Int} (h0 : p1 = -99999999 ∨ (0 ≤ p1 ∧ p1 < f_pol)) (h1 : 0 < z32215) (h2 : 0 ≤ z32237 ∧ z32237 < f_pol ∧ z32237 + (z32215 - 1) ≤ 11) (h3 : 0 ≤ z34193 ∧ z34193 < z32237) (h4 : ¬ p1 = (-99999999)) (h5 : 0 ≤ f_pol ∧ f_pol ≤ 12) (h6 : (-2147483648) ≤ p1 ∧ p1 ≤ 2147483647) (h7 : 1 ≤ z32215 ∧ z32215 ≤ 12) (h8 : 1 ≤ z32237 ∧ z32237 ≤ 11) (h9 : 0 ≤ z34193 ∧ z34193 ≤ 10) : 0 ≤ z34193 ∧ z34193 < f_pol ∧ z34193 + z32215 ≤ 11 := by omega
theorem vc_X12_through_u_77 {z34208 : Int} (h0 : 0 ≤ z34208 ∧ z34208 ≤ 30) : 0 ≤ z34208 := by omega
theorem vc_X12_through_u_78 {z32215 : Int} (h0 : 1 ≤ z32215 ∧ z32215 ≤ 12) : ((z32215 + 1) - 1) = z32215 := by omega
theorem vc_X12_through_u_79 {f_pol p1 z32215 z32237 z34193 : Int} (h0 : 0 < z32215) (h1 : 0 ≤ z32237 ∧ z32237 < f_pol ∧ z32237 + (z32215 - 1) ≤ 11) (h2 : p1 = -99999999 ∨ (0 ≤ p1 ∧ p1 < f_pol)) (h3 : 0 ≤ z34193 ∧ z34193 < z32237) (h4 : 0 ≤ f_pol ∧ f_pol ≤ 12) (h5 : (-2147483648) ≤ p1 ∧ p1 ≤ 2147483647) (h6 : 1 ≤ z32215 ∧ z32215 ≤ 12) (h7 : 1 ≤ z32237 ∧ z32237 ≤ 11) (h8 : 0 ≤ z34193 ∧ z34193 ≤ 10) : 0 ≤ (z32215 + 1) ∧ (z32215 + 1) ≤ 12 := by omega
theorem vc_X12_through_u_80 {N f_R f_pol p1 z32214 z32215 z32237 z32241 z32244 z34193 : Int} (h0 : (((100 * (501 - z32214)) + (34 * z32215)) - f_R) < N + 1) (h1 : 0 < z32215) (h2 : 0 ≤ z32237 ∧ z32237 < f_pol ∧ z32237 + (z32215 - 1) ≤ 11) (h3 : z32241 < z32244 ∧ z32241 = f_R) (h4 : (z32214 + 1) ≤ 500) (h5 : p1 = -99999999 ∨ (0 ≤ p1 ∧ p1 < f_pol)) (h6 : z32241 < z32244) (h7 : 0 ≤ z32241) (h8 : 0 ≤ z34193 ∧ z34193 < z32237) (h9 : (-1) ≤ f_R ∧ f_R ≤ 30) (h10 : 0 ≤ f_pol ∧ f_pol ≤ 12) (h11 : (-2147483648) ≤ p1 ∧ p1 ≤ 2147483647) (h12 : 0 ≤ z32214 ∧ z32214 ≤ 499) (h13 : 1 ≤ z32215 ∧ z32215 ≤ 12) (h14 : 1 ≤ z32237 ∧ z32237 ≤ 11) (h15 : 0 ≤ z32241 ∧ z32241 ≤ 29) (h16 : 0 ≤ z32244 ∧ z32244 ≤ 30) (h17 : 0 ≤ z34193 ∧ z34193 ≤ 10) : (((100 * (501 - (z32214 + 1))) + (34 * (z32215 + 1))) - (-1)) < N := by omega
theorem vc_X12_through_u_81 {f_pol p1 z32215 z32237 z34193 : Int} (h0 : 0 < z32215) (h1 : 0 ≤ z32237 ∧ z32237 < f_pol ∧ z32237 + (z32215 - 1) ≤ 11) (h2 : p1 = -99999999 ∨ (0 ≤ p1 ∧ p1 < f_pol)) (h3 : 0 ≤ z34193 ∧ z34193 < z32237) (h4 : 0 ≤ f_pol ∧ f_pol ≤ 12) (h5 : (-2147483648) ≤ p1 ∧ p1 ≤ 2147483647) (h6 : 1 ≤ z32215 ∧ z32215 ≤ 12) (h7 : 1 ≤ z32237 ∧ z32237 ≤ 11) (h8 : 0 ≤ z34193 ∧ z34193 ≤ 10) : (z32215 + 1) ≤ (z32215 + 1) := by omega
theorem vc_X12_through_u_82 {z34114 : Int} (h0 : z34114 = 27) (h1 : ¬ z34114 = 23) (h2 : ¬ z34114 = 24) (h3 : (-2147483648) ≤ z34114 ∧ z34114 ≤ 2147483647) : 27 ≤ z34114 ∧ z34114 ≤ 27 := by omega
theorem vc_X12_through_u_83 {p2 : Int} (h0 : 0 ≤ p2 ∧ p2 ≤ 2099) : ((40 * p2) + 4) % 40 = 4 := by omega
theorem vc_X12_through_u_84 {z34213 : Int} (h0 : z34213 ≤ 0) (h1 : 0 ≤ z34213 ∧ z34213 ≤ 20) : 0 ≤ z34213 ∧ z34213 ≤ 0 := by omega
theorem vc_X12_through_u_85 {z34114 : Int} (h0 : z34114 = 28) (h1 : 27 ≤ z34114 ∧ z34114 ≤ 27) : False := by omega
theorem vc_X12_through_u_86 {z34213 : Int} (h0 : 0 < z34213) (h1 : 0 ≤ z34213 ∧ z34213 ≤ 20) : 1 ≤ z34213 ∧ z34213 ≤ 20 := by omega
theorem vc_X12_through_u_87 {z34226 : Int} (h0 : z34226 ≤ 20) (h1 : (-2147483648) ≤ z34226 ∧ z34226 ≤ 2147483647) : (-2147483648) ≤ z34226 ∧ z34226 ≤ 20 := by omega
theorem vc_X12_through_u_88 {z34223 z34590 : Int} (h0 : ((z34223 - z34590) + 4294967296) < ((0 : Nat) : Int)) (h1 : (-2147483648) ≤ z34223 ∧ z34223 ≤ 2147483647) (h2 : 0 ≤ z34590 ∧ z34590 ≤ 2147483647) : False := by omega
theorem vc_X12_through_u_89 {z34223 z34590 : Int} (h0 : z34590 < z34223) (h1 : (-2147483648) ≤ z34223 ∧ z34223 ≤ 2147483647) (h2 : 0 ≤ z34590 ∧ z34590 ≤ 2147483647) : 0 ≤ z34590 ∧ z34590 ≤ 2147483646 := by omega
theorem vc_X12_through_u_90 {z34223 z34590 : Int} (h0 : z34590 < z34223) (h1 : (-2147483648) ≤ z34223 ∧ z34223 ≤ 2147483647) (h2 : 0 ≤ z34590 ∧ z34590 ≤ 2147483646) : 1 ≤ z34223 ∧ z34223 ≤ 2147483647 := by omega
theorem vc_X12_through_u_91 {N z34223 z34590 : Int} (h0 : ((z34223 - z34590) + 4294967296) < N + 1) (h1 : z34590 < z34223) (h2 : 1 ≤ z34223 ∧ z34223 ≤ 2147483647) (h3 : 0 ≤ z34590 ∧ z34590 ≤ 2147483646) : ((z34223 - (z34590 + 1)) + 4294967296) < N := by omega
theorem vc_X12_through_u_92 {z34223 : Int} (h0 : (-2147483648) ≤ z34223 ∧ z34223 ≤ 2147483647) : ((z34223 - 0) + 4294967296) < ((6442450944 : Nat) : Int) := by omega
theorem vc_X12_through_u_93 {z34226 : Int} (h0 : 20 < z34226) (h1 : (-2147483648) ≤ z34226 ∧ z34226 ≤ 2147483647) : 21 ≤ z34226 ∧ z34226 ≤ 2147483647 := by omega
theorem vc_X12_through_u_94 {z34114 : Int} (h0 : z34114 = 13) (h1 : ¬ z34114 = 23) (h2 : ¬ z34114 = 24) (h3 : (-2147483648) ≤ z34114 ∧ z34114 ≤ 2147483647) : 13 ≤ z34114 ∧ z34114 ≤ 13 := by omega
theorem vc_X12_through_u_95 {p2 z34619 : Int} (h0 : 0 ≤ p2 ∧ p2 ≤ 2099) (h1 : (-2147483648) ≤ z34619 ∧ z34619 ≤ 2147483647) : (-2147483648 ≤ z34619 ∧ z34619 ≤ 2147483647) ∧ (((40 * p2) + 3) % 40 = 0 → -1 ≤ z34619 ∧ z34619 ≤ 9) ∧ (((40 * p2) + 3) % 40 = 4 → 0 ≤ z34619 ∧ z34619 ≤ 20) ∧ (((40 * p2) + 3) % 40 = 5 → 0 ≤ z34619 ∧ z34619 ≤ 8) := by omega
theorem vc_X12_through_u_96 {p2 : Int} (h0 : 0 ≤ p2 ∧ p2 ≤ 2099) : 0 ≤ ((40 * p2) + 3) ∧ ((40 * p2) + 1) ≤ ((40 * p2) + 3) ∧ ((40 * p2) + 3) < ((40 * p2) + 40) := by omega
theorem vc_X12_through_u_97 {z34114 : Int} (h0 : z34114 = 12) (h1 : ¬ z34114 = 23) (h2 : ¬ z34114 = 24) (h3 : (-2147483648) ≤ z34114 ∧ z34114 ≤ 2147483647) : 12 ≤ z34114 ∧ z34114 ≤ 12 := by omega
theorem vc_X12_through_u_98 {p2 z34627 : Int} (h0 : 0 ≤ p2 ∧ p2 ≤ 2099) (h1 : (-2147483648) ≤ z34627 ∧ z34627 ≤ 2147483647) : (-2147483648 ≤ z34627 ∧ z34627 ≤ 2147483647) ∧ (((40 * p2) + 1) % 40 = 0 → -1 ≤ z34627 ∧ z34627 ≤ 9) ∧ (((40 * p2) + 1) % 40 = 4 → 0 ≤ z34627 ∧ z34627 ≤ 20) ∧ (((40 * p2) + 1) % 40 = 5 → 0 ≤ z34627 ∧ z34627 ≤ 8) := by omega
theorem vc_X12_through_u_99 {p2 : Int} (h0 : 0 ≤ p2 ∧ p2 ≤ 2099) : 0 ≤ ((40 * p2) + 1) ∧ ((40 * p2) + 1) ≤ ((40 * p2) + 1) ∧ ((40 * p2) + 1) < ((40 * p2) + 40) := by omega
theorem vc_X12_through_u_100 {z34114 : Int} (h0 : z34114 = 26) (h1 : ¬ z34114 = 23) (h2 : ¬ z34114 = 24) (h3 : (-2147483648) ≤ z34114 ∧ z34114 ≤ 2147483647) : 26 ≤ z34114 ∧ z34114 ≤ 26 := by omega
theorem vc_X12_through_u_101 {z34114 : Int} (h0 : z34114 = 25) (h1 : ¬ z34114 = 23) (h2 : ¬ z34114 = 24) (h3 : (-2147483648) ≤ z34114 ∧ z34114 ≤ 2147483647) : 25 ≤ z34114 ∧ z34114 ≤ 25 := by omega
theorem vc_X12_through_u_102 {z34114 : Int} (h0 : z34114 = 24) (h1 : ¬ z34114 = 23) (h2 : (-2147483648) ≤ z34114 ∧ z34114 ≤ 2147483647) : 24 ≤ z34114 ∧ z34114 ≤ 24 := by omega
theorem vc_X12_through_u_103 {z34114 : Int} (h0 : z34114 = 23) (h1 : (-2147483648) ≤ z34114 ∧ z34114 ≤ 2147483647) : 23 ≤ z34114 ∧ z34114 ≤ 23 := by omega
theorem vc_X12_through_u_104 {z32214 : Int} (h0 : 500 < (z32214 + 1)) (h1 : 0 ≤ z32214 ∧ z32214 ≤ 500) : 500 ≤ z32214 ∧ z32214 ≤ 500 := by omega
theorem vc_X12_through_u_105 {f_R z32241 z32244 z34821 z34822 : Int} (h0 : (70 - ((2 * z34822) + z34821)) < ((0 : Nat) : Int)) (h1 : z34821 = 0 ∨ z34822 < z32244) (h2 : f_R < z34822) (h3 : z32241 < z32244 ∧ z32241 = f_R) (h4 : z32241 < z32244) (h5 : (-1) ≤ f_R ∧ f_R ≤ 30) (h6 : 0 ≤ z32241 ∧ z32241 ≤ 29) (h7 : 0 ≤ z32244 ∧ z32244 ≤ 30) (h8 : 0 ≤ z34821 ∧ z34821 ≤ 1) (h9 : 1 ≤ z34822 ∧ z34822 ≤ 30) : False := by omega
theorem vc_X12_through_u_106 {z32244 z34821 z34822 : Int} (h0 : ¬ z34821 = 0) (h1 : z34821 = 0 ∨ z34822 < z32244) (h2 : 0 ≤ z32244 ∧ z32244 ≤ 30) (h3 : 0 ≤ z34821 ∧ z34821 ≤ 1) (h4 : 1 ≤ z34822 ∧ z34822 ≤ 30) : 1 ≤ z34821 ∧ z34821 ≤ 1 := by omega
theorem vc_X12_through_u_107 {f_R z32241 z32244 z34821 z34822 : Int} (h0 : z32241 < z32244 ∧ z32241 = f_R) (h1 : z32241 < z32244) (h2 : z34821 = 0 ∨ z34822 < z32244) (h3 : f_R < z34822) (h4 : 0 ≤ z32241) (h5 : ¬ z34821 = 0) (h6 : (-1) ≤ f_R ∧ f_R ≤ 30) (h7 : 0 ≤ z32241 ∧ z32241 ≤ 29) (h8 : 0 ≤ z32244 ∧ z32244 ≤ 30) (h9 : 1 ≤ z34821 ∧ z34821 ≤ 1) (h10 : 1 ≤ z34822 ∧ z34822 ≤ 30) : 0 ≤ z34822 ∧ z34822 < z32244 := by omega
theorem vc_X12_through_u_108 {f_R f_pol p1 z32215 z32237 z32241 z32244 z34821 z34822 : Int} (h0 : 0 ≤ z32237 ∧ z32237 < f_pol ∧ z32237 + (z32215 - 1) ≤ 11) (h1 : z34821 = 0 ∨ z34822 < z32244) (h2 : f_R < z34822) (h3 : p1 = -99999999 ∨ (0 ≤ p1 ∧ p1 < f_pol)) (h4 : 0 < z32215) (h5 : z32241 < z32244 ∧ z32241 = f_R) (h6 : z32241 < z32244) (h7 : ¬ z34821 = 0) (h8 : (-1) ≤ f_R ∧ f_R ≤ 30) (h9 : 0 ≤ f_pol ∧ f_pol ≤ 12) (h10 : (-2147483648) ≤ p1 ∧ p1 ≤ 2147483647) (h11 : 1 ≤ z32215 ∧ z32215 ≤ 12) (h12 : 0 ≤ z32237 ∧ z32237 ≤ 11) (h13 : 0 ≤ z32241 ∧ z32241 ≤ 29) (h14 : 0 ≤ z32244 ∧ z32244 ≤ 30) (h15 : 1 ≤ z34821 ∧ z34821 ≤ 1) (h16 : 1 ≤ z34822 ∧ z34822 ≤ 30) : ((31 * z32237) + z34822) = 31 * z32237 + z34822 := by omega
theorem vc_X12_through_u_109 {N f_R f_pol p1 z32214 z32215 z32237 z32241 z32244 z34821 z34822 : Int} (h0 : (((100 * (501 - z32214)) + (34 * z32215)) - f_R) < N + 1) (h1 : 0 < z32215) (h2 : 0 ≤ z32237 ∧ z32237 < f_pol ∧ z32237 + (z32215 - 1) ≤ 11) (h3 : z32241 < z32244 ∧ z32241 = f_R) (h4 : z34821 = 0 ∨ z34822 < z32244) (h5 : f_R < z34822) (h6 : p1 = -99999999 ∨ (0 ≤ p1 ∧ p1 < f_pol)) (h7 : z32241 < z32244) (h8 : 0 ≤ z32241) (h9 : ¬ z34821 = 0) (h10 : (-1) ≤ f_R ∧ f_R ≤ 30) (h11 : 0 ≤ f_pol ∧ f_pol ≤ 12) (h12 : (-2147483648) ≤ p1 ∧ p1 ≤ 2147483647) (h13 : 0 ≤ z32214 ∧ z32214 ≤ 500) (h14 : 1 ≤ z32215 ∧ z32215 ≤ 12) (h15 : 0 ≤ z32237 ∧ z32237 ≤ 11) (h16 : 0 ≤ z32241 ∧ z32241 ≤ 29) (h17 : 0 ≤ z32244 ∧ z32244 ≤ 30) (h18 : 1 ≤ z34821 ∧ z34821 ≤ 1) (h19 : 1 ≤ z34822 ∧ z34822 ≤ 30) : (((100 * (501 - z32214)) + (34 * z32215)) - z34822) < N := by omega
theorem vc_X12_through_u_110 {z32244 z34821 z34822 : Int} (h0 : z34821 = 0) (h1 : z34821 = 0 ∨ z34822 < z32244) (h2 : 0 ≤ z32244 ∧ z32244 ≤ 30) (h3 : 0 ≤ z34821 ∧ z34821 ≤ 1) (h4 : 1 ≤ z34822 ∧ z34822 ≤ 30) : 0 ≤ z34821 ∧ z34821 ≤ 0 := by omega
theorem vc_X12_through_u_111 {N f_R f_pol p1 z32214 z32215 z32237 z32241 z32244 z34821 z34822 : Int} (h0 : (((100 * (501 - z32214)) + (34 * z32215)) - f_R) < N + 1) (h1 : 0 < z32215) (h2 : 0 ≤ z32237 ∧ z32237 < f_pol ∧ z32237 + (z32215 - 1) ≤ 11) (h3 : z32241 < z32244 ∧ z32241 = f_R) (h4 : f_R < z34822) (h5 : (z32215 + (-1)) = 0) (h6 : p1 = -99999999 ∨ (0 ≤ p1 ∧ p1 < f_pol)) (h7 : z32241 < z32244) (h8 : 0 ≤ z32241) (h9 : z34821 = 0 ∨ z34822 < z32244) (h10 : (-1) ≤ f_R ∧ f_R ≤ 30) (h11 : 0 ≤ f_pol ∧ f_pol ≤ 12) (h12 : (-2147483648) ≤ p1 ∧ p1 ≤ 2147483647) (h13 : 0 ≤ z32214 ∧ z32214 ≤ 500) (h14 : 1 ≤ z32215 ∧ z32215 ≤ 1) (h15 : 0 ≤ z32237 ∧ z32237 ≤ 11) (h16 : 0 ≤ z32241 ∧ z32241 ≤ 29) (h17 : 0 ≤ z32244 ∧ z32244 ≤ 30) (h18 : 0 ≤ z34821 ∧ z34821 ≤ 0) (h19 : 1 ≤ z34822 ∧ z34822 ≤ 30) : (((100 * (501 - z32214)) + (34 * (z32215 + (-1)))) - 0) < N := by omega
theorem vc_X12_through_u_112 {N f_R f_pol p1 z32214 z32215 z32237 z32241 z32244 z34821 z34822 z34894 : Int} (h0 : (((100 * (501 - z32214)) + (34 * z32215)) - f_R) < N + 1) (h1 : 0 < z32215) (h2 : 0 ≤ z32237 ∧ z32237 < f_pol ∧ z32237 + (z32215 - 1) ≤ 11) (h3 : z32241 < z32244 ∧ z32241 = f_R) (h4 : f_R < z34822) (h5 : ¬ (z32215 + (-1)) = 0) (h6 : p1 = -99999999 ∨ (0 ≤ p1 ∧ p1 < f_pol)) (h7 : z32241 < z32244) (h8 : 0 ≤ z32241) (h9 : z34821 = 0 ∨ z34822 < z32244) (h10 : (-1) ≤ f_R ∧ f_R ≤ 30) (h11 : 0 ≤ f_pol ∧ f_pol ≤ 12) (h12 : (-2147483648) ≤ p1 ∧ p1 ≤ 2147483647) (h13 : 0 ≤ z32214 ∧ z32214 ≤ 500) (h14 : 2 ≤ z32215 ∧ z32215 ≤ 12) (h15 : 0 ≤ z32237 ∧ z32237 ≤ 11) (h16 : 0 ≤ z32241 ∧ z32241 ≤ 29) (h17 : 0 ≤ z32244 ∧ z32244 ≤ 30) (h18 : 0 ≤ z34821 ∧ z34821 ≤ 0) (h19 : 1 ≤ z34822 ∧ z34822 ≤ 30) (h20 : (-1) ≤ z34894 ∧ z34894 ≤ 30) : (((100 * (501 - z32214)) + (34 * (z32215 + (-1)))) - z34894) < N := by omega
theorem vc_X12_through_u_113 {f_R z32241 z32244 z34821 z34822 : Int} (h0 : z34822 < z32244) (h1 : z32241 < z32244 ∧ z32241 = f_R) (h2 : z32241 < z32244) (h3 : z34821 = 0 ∨ z34822 < z32244) (h4 : f_R < z34822) (h5 : (-1) ≤ f_R ∧ f_R ≤ 30) (h6 : 0 ≤ z32241 ∧ z32241 ≤ 29) (h7 : 0 ≤ z32244 ∧ z32244 ≤ 30) (h8 : 0 ≤ z34821 ∧ z34821 ≤ 1) (h9 : 1 ≤ z34822 ∧ z34822 ≤ 30) : 1 ≤ z34822 ∧ z34822 ≤ 29 := by omega
theorem vc_X12_through_u_114 {f_R z32241 z32244 z34821 z34822 : Int} (h0 : z34822 < z32244) (h1 : z32241 < z32244 ∧ z32241 = f_R) (h2 : z32241 < z32244) (h3 : z34821 = 0 ∨ z34822 < z32244) (h4 : f_R < z34822) (h5 : (-1) ≤ f_R ∧ f_R ≤ 30) (h6 : 0 ≤ z32241 ∧ z32241 ≤ 29) (h7 : 0 ≤ z32244 ∧ z32244 ≤ 30) (h8 : 0 ≤ z34821 ∧ z34821 ≤ 1) (h9 : 1 ≤ z34822 ∧ z34822 ≤ 29) : 2 ≤ z32244 ∧ z32244 ≤ 30 := by omega
theorem vc_X12_through_u_115 {z32244 z34821 z34822 : Int} (h0 : ¬ z34821 = 0) (h1 : z34821 = 0 ∨ z34822 < z32244) (h2 : 2 ≤ z32244 ∧ z32244 ≤ 30) (h3 : 0 ≤ z34821 ∧ z34821 ≤ 1) (h4 : 1 ≤ z34822 ∧ z34822 ≤ 29) : 1 ≤ z34821 ∧ z34821 ≤ 1 := by omega
theorem vc_X12_through_u_116 {z32244 z34821 z34822 : Int} (h0 : z34821 = 0) (h1 : z34821 = 0 ∨ z34822 < z32244) (h2 : 2 ≤ z32244 ∧ z32244 ≤ 30) (h3 : 0 ≤ z34821 ∧ z34821 ≤ 1) (h4 : 1 ≤ z34822 ∧ z34822 ≤ 29) : 0 ≤ z34821 ∧ z34821 ≤ 0 := by omega
theorem vc_X12_through_u_117 {z34953 : Int} (h0 : (301 - z34953) < ((0 : Nat) : Int)) (h1 : 0 ≤ z34953 ∧ z34953 ≤ 300) : False := by omega
theorem vc_X12_through_u_118 {z34954 : Int} (h0 : ¬ z34954 = 0) (h1 : 0 ≤ z34954 ∧ z34954 ≤ 1) : 1 ≤ z34954 ∧ z34954 ≤ 1 := by omega
theorem vc_X12_through_u_119 {f_R z32241 z32244 z34821 z34822 z34954 : Int} (h0 : z32241 < z32244 ∧ z32241 = f_R) (h1 : z32241 < z32244) (h2 : z34821 = 0 ∨ z34822 < z32244) (h3 : f_R < z34822) (h4 : z34822 < z32244) (h5 : ¬ z34954 = 0) (h6 : 0 ≤ z32241) (h7 : z34821 = 0) (h8 : (-1) ≤ f_R ∧ f_R ≤ 30) (h9 : 0 ≤ z32241 ∧ z32241 ≤ 29) (h10 : 2 ≤ z32244 ∧ z32244 ≤ 30) (h11 : 0 ≤ z34821 ∧ z34821 ≤ 0) (h12 : 1 ≤ z34822 ∧ z34822 ≤ 29) (h13 : 1 ≤ z34954 ∧ z34954 ≤ 1) : z34954 = 0 ∨ z34822 < z32244 := by omega
theorem vc_X12_through_u_120 {f_R z32241 z32244 z34821 z34822 : Int} (h0 : z32241 < z32244 ∧ z32241 = f_R) (h1 : z34821 = 0 ∨ z34822 < z32244) (h2 : f_R < z34822) (h3 : z34822 < z32244) (h4 : z32241 < z32244) (h5 : 0 ≤ z32241) (h6 : z34821 = 0) (h7 : (-1) ≤ f_R ∧ f_R ≤ 30) (h8 : 0 ≤ z32241 ∧ z32241 ≤ 29) (h9 : 2 ≤ z32244 ∧ z32244 ≤ 30) (h10 : 0 ≤ z34821 ∧ z34821 ≤ 0) (h11 : 1 ≤ z34822 ∧ z34822 ≤ 29) : f_R < z34822 := by omega
theorem vc_X12_through_u_121 {N f_R z32241 z32244 z34821 z34822 z34954 : Int} (h0 : (70 - ((2 * z34822) + z34821)) < N + 1) (h1 : z34821 = 0 ∨ z34822 < z32244) (h2 : f_R < z34822) (h3 : z34822 < z32244) (h4 : z34821 = 0) (h5 : ¬ z34954 = 0) (h6 : z32241 < z32244 ∧ z32241 = f_R) (h7 : z32241 < z32244) (h8 : (-1) ≤ f_R ∧ f_R ≤ 30) (h9 : 0 ≤ z32241 ∧ z32241 ≤ 29) (h10 : 2 ≤ z32244 ∧ z32244 ≤ 30) (h11 : 0 ≤ z34821 ∧ z34821 ≤ 0) (h12 : 1 ≤ z34822 ∧ z34822 ≤ 29) (h13 : 1 ≤ z34954 ∧ z34954 ≤ 1) : (70 - ((2 * z34822) + z34954)) < N := by omega
theorem vc_X12_through_u_122 {z34954 : Int} (h0 : z34954 = 0) (h1 : 0 ≤ z34954 ∧ z34954 ≤ 1) : 0 ≤ z34954 ∧ z34954 ≤ 0 := by omega
theorem vc_X12_through_u_123 {f_R z32241 z32244 z34821 z34822 z34954 : Int} (h0 : z32241 < z32244 ∧ z32241 = f_R) (h1 : z32241 < z32244) (h2 : z34821 = 0 ∨ z34822 < z32244) (h3 : f_R < z34822) (h4 : z34822 < z32244) (h5 : z34954 = 0) (h6 : 0 ≤ z32241) (h7 : z34821 = 0) (h8 : (-1) ≤ f_R ∧ f_R ≤ 30) (h9 : 0 ≤ z32241 ∧ z32241 ≤ 29) (h10 : 2 ≤ z32244 ∧ z32244 ≤ 30) (h11 : 0 ≤ z34821 ∧ z34821 ≤ 0) (h12 : 1 ≤ z34822 ∧ z34822 ≤ 29) (h13 : 0 ≤ z34954 ∧ z34954 ≤ 0) : z34954 = 0 ∨ (z34822 + 1) < z32244 := by omega
theorem vc_X12_through_u_124 {f_R z32241 z32244 z34821 z34822 : Int} (h0 : z32241 < z32244 ∧ z32241 = f_R) (h1 : z34821 = 0 ∨ z34822 < z32244) (h2 : f_R < z34822) (h3 : z34822 < z32244) (h4 : z32241 < z32244) (h5 : 0 ≤ z32241) (h6 : z34821 = 0) (h7 : (-1) ≤ f_R ∧ f_R ≤ 30) (h8 : 0 ≤ z32241 ∧ z32241 ≤ 29) (h9 : 2 ≤ z32244 ∧ z32244 ≤ 30) (h10 : 0 ≤ z34821 ∧ z34821 ≤ 0) (h11 : 1 ≤ z34822 ∧ z34822 ≤ 29) : f_R < (z34822 + 1) := by omega
theorem vc_X12_through_u_125 {N f_R z32241 z32244 z34821 z34822 z34954 : Int} (h0 : (70 - ((2 * z34822) + z34821)) < N + 1) (h1 : z34821 = 0 ∨ z34822 < z32244) (h2 : f_R < z34822) (h3 : z34822 < z32244) (h4 : z34821 = 0) (h5 : z34954 = 0) (h6 : z32241 < z32244 ∧ z32241 = f_R) (h7 : z32241 < z32244) (h8 : (-1) ≤ f_R ∧ f_R ≤ 30) (h9 : 0 ≤ z32241 ∧ z32241 ≤ 29) (h10 : 2 ≤ z32244 ∧ z32244 ≤ 30) (h11 : 0 ≤ z34821 ∧ z34821 ≤ 0) (h12 : 1 ≤ z34822 ∧ z34822 ≤ 29) (h13 : 0 ≤ z34954 ∧ z34954 ≤ 0) : (70 - ((2 * (z34822 + 1)) + z34954)) < N := by omega
theorem vc_X12_through_u_126 {z34953 z34966 : Int} (h0 : z34953 < z34966) (h1 : 0 ≤ z34953 ∧ z34953 ≤ 300) (h2 : 0 ≤ z34966 ∧ z34966 ≤ 300) : 0 ≤ z34953 ∧ z34953 ≤ 299 := by omega
theorem vc_X12_through_u_127 {z34953 z34966 : Int} (h0 : z34953 < z34966) (h1 : 0 ≤ z34953 ∧ z34953 ≤ 299) (h2 : 0 ≤ z34966 ∧ z34966 ≤ 300) : 1 ≤ z34966 ∧ z34966 ≤ 300 := by omega
theorem vc_X12_through_u_128 {z34954 : Int} (h0 : ¬ z34954 = 0) (h1 : 0 ≤ z34954 ∧ z34954 ≤ 0) : False := by omega
theorem vc_X12_through_u_129 {N z34953 z34966 : Int} (h0 : (301 - z34953) < N + 1) (h1 : z34953 < z34966) (h2 : 0 ≤ z34953 ∧ z34953 ≤ 299) (h3 : 1 ≤ z34966 ∧ z34966 ≤ 300) : (301 - (z34953 + 1)) < N := by omega
theorem vc_X12_through_u_130 {z34903 : Int} (h0 : 0 ≤ z34903 ∧ z34903 ≤ 300) : (301 - z34903) < ((302 : Nat) : Int) := by omega
theorem vc_X12_through_u_131 {f_R z32241 z32244 : Int} (h0 : z32241 < z32244 ∧ z32241 = f_R) (h1 : z32241 < z32244) (h2 : 0 ≤ z32241) (h3 : (-1) ≤ f_R ∧ f_R ≤ 30) (h4 : 0 ≤ z32241 ∧ z32241 ≤ 29) (h5 : 0 ≤ z32244 ∧ z32244 ≤ 30) : (0 : Int) = 0 ∨ (z32241 + 1) < z32244 := by omega
theorem vc_X12_through_u_132 {f_R z32241 z32244 : Int} (h0 : z32241 < z32244 ∧ z32241 = f_R) (h1 : z32241 < z32244) (h2 : 0 ≤ z32241) (h3 : (-1) ≤ f_R ∧ f_R ≤ 30) (h4 : 0 ≤ z32241 ∧ z32241 ≤ 29) (h5 : 0 ≤ z32244 ∧ z32244 ≤ 30) : f_R < (z32241 + 1) := by omega
theorem vc_X12_through_u_133 {f_R z32241 z32244 : Int} (h0 : z32241 < z32244 ∧ z32241 = f_R) (h1 : z32241 < z32244) (h2 : 0 ≤ z32241) (h3 : (-1) ≤ f_R ∧ f_R ≤ 30) (h4 : 0 ≤ z32241 ∧ z32241 ≤ 29) (h5 : 0 ≤ z32244 ∧ z32244 ≤ 30) : (70 - ((2 * (z32241 + 1)) + 0)) < ((69 : Nat) : Int) := by omega
theorem vc_X12_through_u_134  : ((1 : Int) - (1 : Int)) = (0 : Int) := by omega
theorem vc_X12_through_u_135 {f_x : Int} (h0 : 0 ≤ f_x) (h1 : 0 ≤ f_x ∧ f_x ≤ 9) : f_x = f_x := by omega
theorem vc_X12_through_u_136  : (((100 * (501 - 0)) + (34 * 1)) - (-1)) < ((50136 : Nat) : Int) := by omega
theorem vc_X12_through_u_137  : ((1 : Int) : Int) ≤ (0 : Int) + (1 : Int) := by omega
theorem vc_X12_through_u_138 {f_pol p1 : Int} (h0 : p1 = (-99999999)) (h1 : p1 = -99999999 ∨ (0 ≤ p1 ∧ p1 < f_pol)) (h2 : 0 ≤ f_pol ∧ f_pol ≤ 12) (h3 : (-2147483648) ≤ p1 ∧ p1 ≤ 2147483647) : (-99999999) ≤ p1 ∧ p1 ≤ (-99999999) := by omega
set_option maxRecDepth 4000 in
set_option maxHeartbeats 4000000 in
theorem c_X12_through_u {l : Launch} {D : va_G} {c : Nat → ClassId} {H0 : Heap} {sa : Nat × Nat × (Nat → Int32)} {w : mW} {μ : mM} (hw : mWF w) (hT : mT w μ) {p1 : Int} (hp1 : (-2147483648) ≤ p1 ∧ p1 ≤ 2147483647) {p2 : Int} (hp2 : 0 ≤ p2 ∧ p2 ≤ 2099) {p3 : Int} (hp3 : (-2147483648) ≤ p3 ∧ p3 ≤ 2147483647) {p4 : Int} (hp4 : (-2147483648) ≤ p4 ∧ p4 ≤ 2147483647) {g1 : Int} (hg1 : 0 ≤ g1 ∧ g1 ≤ 19) {f_e0 : Int} (q_f_e0 : μ 110 ((2 * g1).toNat) = f_e0) {f_e1 : Int} (q_f_e1 : μ 110 (((2 * g1) + 1).toNat) = f_e1) {f_ties : Int} (q_f_ties : μ 106 6 = f_ties) {f_x : Int} (q_f_x : μ 126 ((40 * p2).toNat) = f_x) {f_pol : Int} (q_f_pol : μ 106 39 = f_pol) (hq0 : g1 < f_ties) (hq1 : (f_e0 = p3 ∧ f_e1 = p4) ∨ (f_e0 = p4 ∧ f_e1 = p3)) (hq2 : 0 ≤ f_x) (hq3 : p1 = -99999999 ∨ (0 ≤ p1 ∧ p1 < f_pol)) (hIJC : JC l D c H0 sa μ) (hIPK : PK μ) : sC (gG l D c H0 sa) mX12_through 6 0 0 [.ref 106, iv p1, iv p2, iv p3, iv p4] (mk w μ) (qI w [106026, 106027, 106028, 106029, 106030, 106031, 126999, 151999, 152999, 153999] μ (fun z μ1 => ∃ o_x : Int, μ1 126 ((40 * p2).toNat) = o_x ∧ (0 ≤ z ∧ z ≤ 1) ∧ mG [(((40 * p2) + 1), ((40 * p2) + 40))] μ μ1 ∧ JC l D c H0 sa μ1 ∧ (o_x = f_x) ∧ True)) := by
  refine sC.of rfl (by decide) (le_t rfl) ?_
  have ht_f_e0 : (0 ≤ f_e0 ∧ f_e0 ≤ 9) := by rw [← q_f_e0]; exact hT 110 110 (A_110 hw) ((2 * g1).toNat)
  have ht_f_e1 : (0 ≤ f_e1 ∧ f_e1 ≤ 9) := by rw [← q_f_e1]; exact hT 110 110 (A_110 hw) (((2 * g1) + 1).toNat)
  have ht_f_ties : (0 ≤ f_ties ∧ f_ties ≤ 20) := by rw [← q_f_ties]; exact hT 106 106 (A_106 hw) 6
  have ht_f_x := rt7 hT (A_126 hw) (vc_X12_through_u_1 hp2) q_f_x
  have h1 : (-1) ≤ f_x ∧ f_x ≤ 9 := ht_f_x.2.1 (vc_X12_through_u_2 hp2)
  have ht_f_pol : (0 ≤ f_pol ∧ f_pol ≤ 12) := by rw [← q_f_pol]; exact hT 106 106 (A_106 hw) 39
  have h2 : 1 ≤ f_ties ∧ f_ties ≤ 20 := (vc_X12_through_u_3 hq0 ht_f_ties hg1)
  have h3 : 0 ≤ f_x ∧ f_x ≤ 9 := (vc_X12_through_u_4 hq2 h1)
  refine mr_lvE (lv' := [(0, .ref 106), (1, iv p1), (2, iv p2), (3, iv p3), (4, iv p4)]) rfl ?_
  refine mr_iload_n (pc := 0) (z := p1) dX12_through_0 rfl rfl ?_
  refine mr_ldc (pc := 1) (z := (-99999999)) dX12_through_1 wG_X12_29 (by decide) ?_
  refine mr_icmp_ne (pc := 3) (tgt := 8) dX12_through_3 (by decide) hp1 (r32 (rR (x := (-99999999))) rfl) (fun h17804 => ?_) (fun h17804 => ?_)
  · refine mr_iconst (pc := 8) (z := 1) dX12_through_8 ?_
    refine mr_istore (pc := 9) (lv' := [(5, iv 1), (0, .ref 106), (1, iv p1), (2, iv p2), (3, iv p3), (4, iv p4)]) dX12_through_9 (by decide) rfl ?_
    refine mr_iconst (pc := 11) (z := 0) dX12_through_11 ?_
    refine mr_istore (pc := 12) (lv' := [(6, iv 0), (5, iv 1), (0, .ref 106), (1, iv p1), (2, iv p2), (3, iv p3), (4, iv p4)]) dX12_through_12 (by decide) rfl ?_
    refine sv_aload_n (pc := 14) dX12_through_14 rfl rfl ?_
    refine gf_X12_67 (pc := 15) dX12_through_15 wF_X12_388 (A_106 hw) hT ?_
    refine mr_iconst (pc := 18) (z := 0) dX12_through_18 ?_
    refine mr_iload_n (pc := 19) (z := p1) dX12_through_19 rfl rfl ?_
    refine ss_151 (pc := 20) dX12_through_20 (A_151 hw) hT (rIx (n := 14) (rR (x := 0)) rfl) (vc_X12_through_u_5 hq3 h17804 ht_f_pol hp1) fun μ17805 u17806 T17807 => ?_
    refine sv_aload_n (pc := 21) dX12_through_21 rfl rfl ?_
    refine gf_X12_68 (pc := 22) dX12_through_22 wF_X12_391 (A_106 hw) T17807 ?_
    refine mr_iconst (pc := 25) (z := 0) dX12_through_25 ?_
    refine mr_iconst (pc := 26) (z := (-1)) dX12_through_26 ?_
    refine ss_152 (pc := 27) dX12_through_27 (A_152 hw) T17807 (rIx (n := 14) (rR (x := 0)) rfl) (rW (c := (-1)) (d := 30) (rR (x := (-1))) rfl) fun μ17808 u17809 T17810 => ?_
    refine sv_aload_n (pc := 28) dX12_through_28 rfl rfl ?_
    refine gf_X12_69 (pc := 29) dX12_through_29 wF_X12_394 (A_106 hw) T17810 ?_
    refine mr_iconst (pc := 32) (z := 0) dX12_through_32 ?_
    refine mr_iconst (pc := 33) (z := 0) dX12_through_33 ?_
    refine ss_153 (pc := 34) dX12_through_34 (A_153 hw) T17810 (rIx (n := 14) (rR (x := 0)) rfl) (rW (c := 0) (d := 300) (rR (x := 0)) rfl) fun μ17811 u17812 T17813 => ?_
    obtain ⟨z17814, q17815⟩ : ∃ z, μ17811 127 (p1.toNat) = z := ⟨_, rfl⟩
    have h17816 : (0 ≤ z17814 ∧ z17814 ≤ 30) := by rw [← q17815]; exact T17813 127 127 (A_127 hw) (p1.toNat)
    have I17817 : lvOK μ17811 ((0 : Int) + 1) := lvOK.push lvOK.zero vc_X12_through_u_6 u17806 u17809 u17812 (u17812.f (Or.inl (mAt.ne (A_153 hw) (A_106 hw) rfl)) (u17809.f (Or.inl (mAt.ne (A_152 hw) (A_106 hw) rfl)) (u17806.f (Or.inl (mAt.ne (A_151 hw) (A_106 hw) rfl)) q_f_pol))) (vc_X12_through_u_7 hq3 h17804 ht_f_pol hp1) q17815 (vc_X12_through_u_8 h17816)
    have L32217 : ∀ (nL32217 : Nat) (z32215 z32214 f_R : Int) (μ32216 : mM) (f_y : Int), mT w μ32216 → mF [106026, 106027, 106028, 106029, 106030, 106031, 126999, 151999, 152999, 153999] w μ17811 μ32216 → mG [(((40 * p2) + 1), ((40 * p2) + 40))] μ17811 μ32216 → μ32216 126 ((40 * p2).toNat) = f_y → (0 ≤ z32215 ∧ z32215 ≤ 12) → (0 ≤ z32214 ∧ z32214 ≤ 500) → ((-1) ≤ f_R ∧ f_R ≤ 30) → (f_y = f_x) → JC l D c H0 sa μ32216 → PK μ32216 → lvOK μ32216 z32215 → (z32215 = 0 ∨ μ32216 152 (z32215 - 1).toNat = f_R) → (((100 * (501 - z32214)) + (34 * z32215)) - f_R) < (nL32217 : Int) → sV (gG l D c H0 sa) mX12_through (sRm 6 0 0) (sZ (gG l D c H0 sa) 0 0 (qI w [106026, 106027, 106028, 106029, 106030, 106031, 126999, 151999, 152999, 153999] μ (fun z μ1 => ∃ o_x : Int, μ1 126 ((40 * p2).toNat) = o_x ∧ (0 ≤ z ∧ z ≤ 1) ∧ mG [(((40 * p2) + 1), ((40 * p2) + 40))] μ μ1 ∧ JC l D c H0 sa μ1 ∧ (o_x = f_x) ∧ True))) 35 [(0, .ref 106), (2, iv p2), (3, iv p3), (4, iv p4), (5, iv z32215), (6, iv z32214)] [] (mk w μ32216) 0 0 := by
      intro nL32217
      induction nL32217 with
      | zero => intro z32215 z32214 f_R μ32216 f_y T32221 F32222 G32223 q32230 h32218 h32219 h32220 h32224 I32225 I32226 R32227 R32228 h32229; exact ((vc_X12_through_u_9 h32229 h32220 h32219 h32218)).elim
      | succ nL32217 ih32231 =>
        intro z32215 z32214 f_R μ32216 f_y T32221 F32222 G32223 q32230 h32218 h32219 h32220 h32224 I32225 I32226 R32227 R32228 h32229
        have h32232 := rt7 T32221 (A_126 hw) (vc_X12_through_u_1 hp2) q32230
        have h32233 : (-1) ≤ f_y ∧ f_y ≤ 9 := h32232.2.1 (vc_X12_through_u_2 hp2)
        refine mr_iload (pc := 35) (z := z32215) dX12_through_35 rfl ?_
        refine mr_if_le (pc := 37) (tgt := 529) dX12_through_37 (by decide) (r32 h32218 rfl) (fun h32234 => ?_) (fun h32234 => ?_)
        · have h32235 : 0 ≤ z32215 ∧ z32215 ≤ 0 := (vc_X12_through_u_10 h32234 h32218)
          refine mr_iconst (pc := 529) (z := 1) dX12_through_529 ?_
          exact mr_zret dX12_through_530 rfl (rW (c := 0) (d := 1) (rR (x := 1)) rfl) (le_t rfl) (le_t rfl) T32221 (mF.call (mF.up (mF.up (mF.up mF.refl (A_151 hw) u17806 rfl) (A_152 hw) u17809 rfl) (A_153 hw) u17812 rfl) F32222 rfl) ⟨f_y, q32230, (rW (c := 0) (d := 1) (rR (x := 1)) rfl), (mG.call (mG.upO (mG.upO (mG.upO mG.refl u17806 rfl) u17809 rfl) u17812 rfl) G32223 (List.forall_mem_cons.mpr ⟨⟨_, List.mem_cons_self, (vc_X12_through_u_11 hp2)⟩, (fun _ h => absurd h List.not_mem_nil)⟩)), I32225, (vc_X12_through_u_12 hq2 h32224 h3 h32233), trivial⟩
        have h32236 : 1 ≤ z32215 ∧ z32215 ≤ 12 := (vc_X12_through_u_13 h32234 h32218)
        refine mr_iload (pc := 40) (z := z32215) dX12_through_40 rfl ?_
        refine mr_iconst (pc := 42) (z := 1) dX12_through_42 ?_
        refine mr_isub (pc := 43) (x := z32215) (y := 1) dX12_through_43 ?_
        refine mr_istore (pc := 44) (lv' := [(7, iv (z32215 - 1)), (0, .ref 106), (2, iv p2), (3, iv p3), (4, iv p4), (5, iv z32215), (6, iv z32214)]) dX12_through_44 (by decide) rfl ?_
        refine sv_aload_n (pc := 46) dX12_through_46 rfl rfl ?_
        refine gf_X12_67 (pc := 47) dX12_through_47 wF_X12_388 (A_106 hw) T32221 ?_
        refine mr_iload (pc := 50) (z := (z32215 - 1)) dX12_through_50 rfl ?_
        refine la_151 (pc := 52) dX12_through_52 (A_151 hw) T32221 (rIx (n := 14) (rSub (e := 0) (f := 11) h32236 (rR (x := 1)) rfl) rfl) fun z32237 q32238 h32239 => ?_
        have h32240 : 0 ≤ z32237 ∧ z32237 < f_pol ∧ z32237 + (z32215 - 1) ≤ 11 := lvOK.p R32227 (vc_X12_through_u_14 h32234 h32236) q32238 (F32222.f (A_106 hw) rfl (u17812.f (Or.inl (mAt.ne (A_153 hw) (A_106 hw) rfl)) (u17809.f (Or.inl (mAt.ne (A_152 hw) (A_106 hw) rfl)) (u17806.f (Or.inl (mAt.ne (A_151 hw) (A_106 hw) rfl)) q_f_pol))))
        refine mr_istore (pc := 53) (lv' := [(8, iv z32237), (7, iv (z32215 - 1)), (0, .ref 106), (2, iv p2), (3, iv p3), (4, iv p4), (5, iv z32215), (6, iv z32214)]) dX12_through_53 (by decide) rfl ?_
        refine sv_aload_n (pc := 55) dX12_through_55 rfl rfl ?_
        refine gf_X12_68 (pc := 56) dX12_through_56 wF_X12_391 (A_106 hw) T32221 ?_
        refine mr_iload (pc := 59) (z := (z32215 - 1)) dX12_through_59 rfl ?_
        refine la_152 (pc := 61) dX12_through_61 (A_152 hw) T32221 (rIx (n := 14) (rSub (e := 0) (f := 11) h32236 (rR (x := 1)) rfl) rfl) fun z32241 q32242 h32243 => ?_
        obtain ⟨z32244, q32245⟩ : ∃ z, μ32216 127 (z32237.toNat) = z := ⟨_, rfl⟩
        have h32246 : (0 ≤ z32244 ∧ z32244 ≤ 30) := by rw [← q32245]; exact T32221 127 127 (A_127 hw) (z32237.toNat)
        obtain ⟨z32247, q32248⟩ : ∃ z, μ32216 131 (z32237.toNat) = z := ⟨_, rfl⟩
        have h32249 : (0 ≤ z32247 ∧ z32247 ≤ 300) := by rw [← q32248]; exact T32221 131 131 (A_131 hw) (z32237.toNat)
        have h32250 : z32241 < z32244 ∧ z32241 = f_R := ⟨lvOK.r R32227 (vc_X12_through_u_15 h32234 h32240 hq3 ht_f_pol hp1 h32236 h32239) q32238 q32242 q32245, topE R32228 (vc_X12_through_u_16 h32234 h32240 hq3 ht_f_pol hp1 h32236 h32239) (vc_X12_through_u_17 h32234 h32240 hq3 ht_f_pol hp1 h32236 h32239) q32242⟩
        have h32251 : (-1) ≤ z32241 ∧ z32241 ≤ 29 := (vc_X12_through_u_18 h32250.1 h32250 h32220 h32243 h32246)
        refine mr_istore (pc := 62) (lv' := [(9, iv z32241), (8, iv z32237), (7, iv (z32215 - 1)), (0, .ref 106), (2, iv p2), (3, iv p3), (4, iv p4), (5, iv z32215), (6, iv z32214)]) dX12_through_62 (by decide) rfl ?_
        refine mr_iload (pc := 64) (z := z32241) dX12_through_64 rfl ?_
        refine mr_if_lt (pc := 66) (tgt := 94) dX12_through_66 (by decide) (r32 h32251 rfl) (fun h32252 => ?_) (fun h32252 => ?_)
        · have h32253 : (-1) ≤ z32241 ∧ z32241 ≤ (-1) := (vc_X12_through_u_19 h32252 h32250 h32250.1 h32220 h32251 h32246)
          refine mr_iinc (pc := 94) (lv' := [(9, iv (z32241 + 1)), (8, iv z32237), (7, iv (z32215 - 1)), (0, .ref 106), (2, iv p2), (3, iv p3), (4, iv p4), (5, iv z32215), (6, iv z32214)]) dX12_through_94 rfl (by decide) rfl ?_
          refine mr_iconst (pc := 97) (z := 0) dX12_through_97 ?_
          refine mr_istore (pc := 98) (lv' := [(10, iv 0), (9, iv (z32241 + 1)), (8, iv z32237), (7, iv (z32215 - 1)), (0, .ref 106), (2, iv p2), (3, iv p3), (4, iv p4), (5, iv z32215), (6, iv z32214)]) dX12_through_98 (by decide) rfl ?_
          have L33924 : ∀ (nL33924 : Nat) (z33922 z33921 : Int) (μ33923 : mM), mT w μ33923 → mF [106026, 106027, 106028, 106029, 106030, 106031] w μ32216 μ33923 → (0 ≤ z33922 ∧ z33922 ≤ 30) → (0 ≤ z33921 ∧ z33921 ≤ 1) → (z33921 = 0 ∨ z33922 < z32244) → (f_R < z33922) → JC l D c H0 sa μ33923 → PK μ33923 → (70 - ((2 * z33922) + z33921)) < (nL33924 : Int) → sV (gG l D c H0 sa) mX12_through (sRm 6 0 0) (sZ (gG l D c H0 sa) 0 0 (qI w [106026, 106027, 106028, 106029, 106030, 106031, 126999, 151999, 152999, 153999] μ (fun z μ1 => ∃ o_x : Int, μ1 126 ((40 * p2).toNat) = o_x ∧ (0 ≤ z ∧ z ≤ 1) ∧ mG [(((40 * p2) + 1), ((40 * p2) + 40))] μ μ1 ∧ JC l D c H0 sa μ1 ∧ (o_x = f_x) ∧ True))) 100 [(0, .ref 106), (2, iv p2), (3, iv p3), (4, iv p4), (5, iv z32215), (6, iv z32214), (7, iv (z32215 - 1)), (8, iv z32237), (9, iv z33922), (10, iv z33921)] [] (mk w μ33923) 0 0 := by
            intro nL33924
            induction nL33924 with
            | zero => intro z33922 z33921 μ33923 T33927 F33928 h33925 h33926 h33930 h33931 I33932 I33933 h33934; exact ((vc_X12_through_u_20 h33934 h33930 h33931 h32250 h32250.1 h32220 h32253 h32246 h33926 h33925)).elim
            | succ nL33924 ih33935 =>
              intro z33922 z33921 μ33923 T33927 F33928 h33925 h33926 h33930 h33931 I33932 I33933 h33934
              refine mr_iload (pc := 100) (z := z33922) dX12_through_100 rfl ?_
              refine sv_aload_n (pc := 102) dX12_through_102 rfl rfl ?_
              refine gf_X12_40 (pc := 103) dX12_through_103 wF_X12_358 (A_106 hw) T33927 ?_
              refine mr_iload (pc := 106) (z := z32237) dX12_through_106 rfl ?_
              refine lk_127 (pc := 108) dX12_through_108 (A_127 hw) (rIx (n := 13) h32239 rfl) (F33928.f (A_127 hw) rfl q32245) ?_
              have J33977 : sV (gG l D c H0 sa) mX12_through (sRm 6 0 0) (sZ (gG l D c H0 sa) 0 0 (qI w [106026, 106027, 106028, 106029, 106030, 106031, 126999, 151999, 152999, 153999] μ (fun z μ1 => ∃ o_x : Int, μ1 126 ((40 * p2).toNat) = o_x ∧ (0 ≤ z ∧ z ≤ 1) ∧ mG [(((40 * p2) + 1), ((40 * p2) + 40))] μ μ1 ∧ JC l D c H0 sa μ1 ∧ (o_x = f_x) ∧ True))) 198 [(0, .ref 106), (2, iv p2), (3, iv p3), (4, iv p4), (5, iv z32215), (6, iv z32214), (7, iv (z32215 - 1)), (8, iv z32237), (9, iv z33922), (10, iv z33921)] [] (mk w μ33923) 0 0 := by
                refine mr_iload (pc := 198) (z := z33921) dX12_through_198 rfl ?_
                refine mr_if_ne (pc := 200) (tgt := 209) dX12_through_200 (by decide) (r32 h33926 rfl) (fun h33978 => ?_) (fun h33978 => ?_)
                · have h33979 : 1 ≤ z33921 ∧ z33921 ≤ 1 := (vc_X12_through_u_21 h33978 h33930 h32246 h33926 h33925)
                  refine sv_aload_n (pc := 209) dX12_through_209 rfl rfl ?_
                  refine gf_X12_68 (pc := 210) dX12_through_210 wF_X12_391 (A_106 hw) T33927 ?_
                  refine mr_iload (pc := 213) (z := (z32215 - 1)) dX12_through_213 rfl ?_
                  refine mr_iload (pc := 215) (z := z33922) dX12_through_215 rfl ?_
                  refine ss_152 (pc := 217) dX12_through_217 (A_152 hw) T33927 (rIx (n := 14) (rSub (e := 0) (f := 11) h32236 (rR (x := 1)) rfl) rfl) (rW (c := (-1)) (d := 30) h33925 rfl) fun μ33980 u33981 T33982 => ?_
                  refine sv_aload_n (pc := 218) dX12_through_218 rfl rfl ?_
                  refine gf_X12_69 (pc := 219) dX12_through_219 wF_X12_394 (A_106 hw) T33982 ?_
                  refine mr_iload (pc := 222) (z := (z32215 - 1)) dX12_through_222 rfl ?_
                  refine sv_aload_n (pc := 224) dX12_through_224 rfl rfl ?_
                  refine gf_X12_42 (pc := 225) dX12_through_225 wF_X12_364 (A_106 hw) T33982 ?_
                  refine mr_bipush (pc := 228) (z := 31) dX12_through_228 (by decide) ?_
                  refine mr_iload (pc := 230) (z := z32237) dX12_through_230 rfl ?_
                  refine mr_imul (pc := 232) (x := 31) (y := z32237) dX12_through_232 ?_
                  refine mr_iload (pc := 233) (z := z33922) dX12_through_233 rfl ?_
                  refine mr_iadd (pc := 235) (x := (31 * z32237)) (y := z33922) dX12_through_235 ?_
                  refine la_129 (pc := 236) dX12_through_236 (A_129 hw) T33982 (rIx (n := 403) (rAdd (e := 0) (f := 371) (rMulL (n := 31) (e := 0) (f := 341) h32239 rfl) h33925 rfl) rfl) fun z33983 q33984 h33985 => ?_
                  refine ss_153 (pc := 237) dX12_through_237 (A_153 hw) T33982 (rIx (n := 14) (rSub (e := 0) (f := 11) h32236 (rR (x := 1)) rfl) rfl) h33985 fun μ33986 u33987 T33988 => ?_
                  have I33989 : lvOK μ33986 z32215 := lvOK.row (lvOK.keep R32227 hw ((mF.call mF.refl F33928 rfl) : mF [106026, 106027, 106028, 106029, 106030, 106031] w μ32216 _) rfl) (PK.keep I33933 hw ((mF.up (mF.up mF.refl (A_152 hw) u33981 rfl) (A_153 hw) u33987 rfl) : mF [152999, 153999] w μ33923 μ33986) rfl) (vc_X12_through_u_15 h32234 h32240 hq3 ht_f_pol hp1 h32236 h32239) u33981 u33987 (u33987.f (Or.inl (mAt.ne (A_153 hw) (A_151 hw) rfl)) (u33981.f (Or.inl (mAt.ne (A_152 hw) (A_151 hw) rfl)) (F33928.f (A_151 hw) rfl q32238))) (vc_X12_through_u_22 hq3 h32240 h17804 h32234 ht_f_pol hp1 h32236 h32239) (u33987.f (Or.inl (mAt.ne (A_153 hw) (A_106 hw) rfl)) (u33981.f (Or.inl (mAt.ne (A_152 hw) (A_106 hw) rfl)) (F33928.f (A_106 hw) rfl (F32222.f (A_106 hw) rfl (u17812.f (Or.inl (mAt.ne (A_153 hw) (A_106 hw) rfl)) (u17809.f (Or.inl (mAt.ne (A_152 hw) (A_106 hw) rfl)) (u17806.f (Or.inl (mAt.ne (A_151 hw) (A_106 hw) rfl)) q_f_pol))))))) (vc_X12_through_u_23 h32250 h32250.1 h33930 h33931 h32252 h33978 h32220 h32253 h32246 h33979 h33925) (u33987.f (Or.inl (mAt.ne (A_153 hw) (A_127 hw) rfl)) (u33981.f (Or.inl (mAt.ne (A_152 hw) (A_127 hw) rfl)) (F33928.f (A_127 hw) rfl q32245))) (vc_X12_through_u_24 h32240 h33930 h33931 hq3 h32234 h32250 h32250.1 h33978 h32220 ht_f_pol hp1 h32236 h32239 h32253 h32246 h33979 h33925) (u33987.f (Or.inl (mAt.ne (A_153 hw) (A_129 hw) rfl)) q33984)
                  refine sv_goto (pc := 238) (tgt := 35) dX12_through_238 (by decide) ?_
                  refine mr_lvS (lv' := [(0, .ref 106), (2, iv p2), (3, iv p3), (4, iv p4), (5, iv z32215), (6, iv z32214)]) (List.forall_mem_cons.mpr ⟨rfl, List.forall_mem_cons.mpr ⟨rfl, List.forall_mem_cons.mpr ⟨rfl, List.forall_mem_cons.mpr ⟨rfl, List.forall_mem_cons.mpr ⟨rfl, List.forall_mem_cons.mpr ⟨rfl, fun _ h => absurd h List.not_mem_nil⟩⟩⟩⟩⟩⟩) ?_
                  exact ih32231 z32215 z32214 z33922 μ33986 f_y T33988 (mF.up (mF.up (mF.call (mF.call mF.refl F32222 rfl) F33928 rfl) (A_152 hw) u33981 rfl) (A_153 hw) u33987 rfl) (mG.upO (mG.upO (mG.fr (mG.call mG.refl G32223 (List.forall_mem_cons.mpr ⟨⟨_, List.mem_cons_self, (vc_X12_through_u_11 hp2)⟩, (fun _ h => absurd h List.not_mem_nil)⟩)) F33928 (A_126 hw) rfl) u33981 rfl) u33987 rfl) (u33987.f (Or.inl (mAt.ne (A_153 hw) (A_126 hw) rfl)) (u33981.f (Or.inl (mAt.ne (A_152 hw) (A_126 hw) rfl)) (F33928.f (A_126 hw) rfl q32230))) (rW (c := 0) (d := 12) h32236 rfl) h32219 (rW (c := (-1)) (d := 30) h33925 rfl) (vc_X12_through_u_12 hq2 h32224 h3 h32233) (JC.keep I33932 hw ((mF.up (mF.up mF.refl (A_152 hw) u33981 rfl) (A_153 hw) u33987 rfl) : mF [152999, 153999] w μ33923 μ33986) rfl rfl) (PK.keep I33933 hw ((mF.up (mF.up mF.refl (A_152 hw) u33981 rfl) (A_153 hw) u33987 rfl) : mF [152999, 153999] w μ33923 μ33986) rfl) (lvOK.pred I33989 (vc_X12_through_u_26 h32234 h32240 hq3 ht_f_pol hp1 h32236 h32239)) (Or.inr (u33987.f (Or.inl (mAt.ne (A_153 hw) (A_152 hw) rfl)) u33981.1)) (vc_X12_through_u_25 (nS h32229) h32234 h32240 h32250 h33930 h33931 hq3 h32250.1 h32252 h33978 h32220 ht_f_pol hp1 h32219 h32236 h32239 h32253 h32246 h33979 h33925)
                have h33990 : 0 ≤ z33921 ∧ z33921 ≤ 0 := (vc_X12_through_u_27 h33978 h33930 h32246 h33926 h33925)
                refine mr_iinc (pc := 203) (lv' := [(5, iv (z32215 + (-1))), (0, .ref 106), (2, iv p2), (3, iv p3), (4, iv p4), (6, iv z32214), (7, iv (z32215 - 1)), (8, iv z32237), (9, iv z33922), (10, iv z33921)]) dX12_through_203 rfl (by decide) rfl ?_
                by_cases h33991 : (z32215 + (-1)) = 0
                · have h33992 : 1 ≤ z32215 ∧ z32215 ≤ 1 := (vc_X12_through_u_28 h33991 h32234 h32240 ht_f_pol h32236 h32239)
                  refine sv_goto (pc := 206) (tgt := 35) dX12_through_206 (by decide) ?_
                  refine mr_lvS (lv' := [(0, .ref 106), (2, iv p2), (3, iv p3), (4, iv p4), (5, iv (z32215 + (-1))), (6, iv z32214)]) (List.forall_mem_cons.mpr ⟨rfl, List.forall_mem_cons.mpr ⟨rfl, List.forall_mem_cons.mpr ⟨rfl, List.forall_mem_cons.mpr ⟨rfl, List.forall_mem_cons.mpr ⟨rfl, List.forall_mem_cons.mpr ⟨rfl, fun _ h => absurd h List.not_mem_nil⟩⟩⟩⟩⟩⟩) ?_
                  exact ih32231 (z32215 + (-1)) z32214 0 μ33923 f_y T33927 (mF.call (mF.call mF.refl F32222 rfl) F33928 rfl) (mG.fr (mG.call mG.refl G32223 (List.forall_mem_cons.mpr ⟨⟨_, List.mem_cons_self, (vc_X12_through_u_11 hp2)⟩, (fun _ h => absurd h List.not_mem_nil)⟩)) F33928 (A_126 hw) rfl) (F33928.f (A_126 hw) rfl q32230) (rW (c := 0) (d := 12) (rAdd (e := 0) (f := 0) h33992 (rR (x := (-1))) rfl) rfl) h32219 (rW (c := (-1)) (d := 30) (rR (x := 0)) rfl) (vc_X12_through_u_12 hq2 h32224 h3 h32233) I33932 I33933 (lvOK.pred (lvOK.keep R32227 hw ((mF.call mF.refl F33928 rfl) : mF [106026, 106027, 106028, 106029, 106030, 106031] w μ32216 μ33923) rfl) (vc_X12_through_u_30 h32234 h32240 h33991 hq3 ht_f_pol hp1 h33992 h32239)) (Or.inl (vc_X12_through_u_31 h32234 h32240 h33991 hq3 ht_f_pol hp1 h33992 h32239)) (vc_X12_through_u_29 (nS h32229) h32234 h32240 h32250 h33931 h33991 hq3 h32250.1 h32252 h33930 h32220 ht_f_pol hp1 h32219 h33992 h32239 h32253 h32246 h33990 h33925)
                have h33993 : 2 ≤ z32215 ∧ z32215 ≤ 12 := (vc_X12_through_u_32 h33991 h32234 h32240 ht_f_pol h32236 h32239)
                refine sv_goto (pc := 206) (tgt := 35) dX12_through_206 (by decide) ?_
                obtain ⟨z33994, q33995⟩ : ∃ z, μ33923 152 (((z32215 + (-1)) - 1).toNat) = z := ⟨_, rfl⟩
                have h33996 : ((-1) ≤ z33994 ∧ z33994 ≤ 30) := by rw [← q33995]; exact T33927 152 152 (A_152 hw) (((z32215 + (-1)) - 1).toNat)
                refine mr_lvS (lv' := [(0, .ref 106), (2, iv p2), (3, iv p3), (4, iv p4), (5, iv (z32215 + (-1))), (6, iv z32214)]) (List.forall_mem_cons.mpr ⟨rfl, List.forall_mem_cons.mpr ⟨rfl, List.forall_mem_cons.mpr ⟨rfl, List.forall_mem_cons.mpr ⟨rfl, List.forall_mem_cons.mpr ⟨rfl, List.forall_mem_cons.mpr ⟨rfl, fun _ h => absurd h List.not_mem_nil⟩⟩⟩⟩⟩⟩) ?_
                exact ih32231 (z32215 + (-1)) z32214 z33994 μ33923 f_y T33927 (mF.call (mF.call mF.refl F32222 rfl) F33928 rfl) (mG.fr (mG.call mG.refl G32223 (List.forall_mem_cons.mpr ⟨⟨_, List.mem_cons_self, (vc_X12_through_u_11 hp2)⟩, (fun _ h => absurd h List.not_mem_nil)⟩)) F33928 (A_126 hw) rfl) (F33928.f (A_126 hw) rfl q32230) (rW (c := 0) (d := 12) (rAdd (e := 1) (f := 11) h33993 (rR (x := (-1))) rfl) rfl) h32219 h33996 (vc_X12_through_u_12 hq2 h32224 h3 h32233) I33932 I33933 (lvOK.pred (lvOK.keep R32227 hw ((mF.call mF.refl F33928 rfl) : mF [106026, 106027, 106028, 106029, 106030, 106031] w μ32216 μ33923) rfl) (vc_X12_through_u_34 h32234 h32240 h33991 hq3 ht_f_pol hp1 h33993 h32239)) (Or.inr q33995) (vc_X12_through_u_33 (nS h32229) h32234 h32240 h32250 h33931 h33991 hq3 h32250.1 h32252 h33930 h32220 ht_f_pol hp1 h32219 h33993 h32239 h32253 h32246 h33990 h33925 h33996)
              refine mr_icmp_ge (pc := 109) (tgt := 198) dX12_through_109 (by decide) (r32 h33925 rfl) (r32 h32246 rfl) (fun h33997 => ?_) (fun h33997 => ?_)
              · exact J33977 
              have h33998 : 0 ≤ z33922 ∧ z33922 ≤ 29 := (vc_X12_through_u_35 h33997 h32250 h32250.1 h33930 h33931 h32220 h32253 h32246 h33926 h33925)
              have h33999 : 1 ≤ z32244 ∧ z32244 ≤ 30 := (vc_X12_through_u_36 h33997 h32250 h32250.1 h33930 h33931 h32220 h32253 h32246 h33926 h33998)
              refine mr_iload (pc := 112) (z := z33921) dX12_through_112 rfl ?_
              refine mr_if_ne (pc := 114) (tgt := 198) dX12_through_114 (by decide) (r32 h33926 rfl) (fun h34000 => ?_) (fun h34000 => ?_)
              · have h34001 : 1 ≤ z33921 ∧ z33921 ≤ 1 := (vc_X12_through_u_37 h34000 h33930 h33999 h33926 h33998)
                exact J33977 
              have h34002 : 0 ≤ z33921 ∧ z33921 ≤ 0 := (vc_X12_through_u_38 h34000 h33930 h33999 h33926 h33998)
              refine mr_iconst (pc := 117) (z := 1) dX12_through_117 ?_
              refine mr_istore (pc := 118) (lv' := [(10, iv 1), (0, .ref 106), (2, iv p2), (3, iv p3), (4, iv p4), (5, iv z32215), (6, iv z32214), (7, iv (z32215 - 1)), (8, iv z32237), (9, iv z33922)]) dX12_through_118 (by decide) rfl ?_
              refine sv_aload_n (pc := 120) dX12_through_120 rfl rfl ?_
              refine gf_X12_41 (pc := 121) dX12_through_121 wF_X12_361 (A_106 hw) T33927 ?_
              refine mr_bipush (pc := 124) (z := 31) dX12_through_124 (by decide) ?_
              refine mr_iload (pc := 126) (z := z32237) dX12_through_126 rfl ?_
              refine mr_imul (pc := 128) (x := 31) (y := z32237) dX12_through_128 ?_
              refine mr_iload (pc := 129) (z := z33922) dX12_through_129 rfl ?_
              refine mr_iadd (pc := 131) (x := (31 * z32237)) (y := z33922) dX12_through_131 ?_
              refine la_128 (pc := 132) dX12_through_132 (A_128 hw) T33927 (rIx (n := 403) (rAdd (e := 0) (f := 370) (rMulL (n := 31) (e := 0) (f := 341) h32239 rfl) h33998 rfl) rfl) fun z34003 q34004 h34005 => ?_
              refine mr_istore (pc := 133) (lv' := [(11, iv z34003), (10, iv 1), (0, .ref 106), (2, iv p2), (3, iv p3), (4, iv p4), (5, iv z32215), (6, iv z32214), (7, iv (z32215 - 1)), (8, iv z32237), (9, iv z33922)]) dX12_through_133 (by decide) rfl ?_
              have L34056 : ∀ (nL34056 : Nat) (z34054 z34053 : Int) (μ34055 : mM), mT w μ34055 → mF [106026, 106027, 106028, 106029, 106030, 106031] w μ33923 μ34055 → (0 ≤ z34054 ∧ z34054 ≤ 1) → (0 ≤ z34053 ∧ z34053 ≤ 300) → JC l D c H0 sa μ34055 → PK μ34055 → (301 - z34053) < (nL34056 : Int) → sV (gG l D c H0 sa) mX12_through (sRm 6 0 0) (sZ (gG l D c H0 sa) 0 0 (qI w [106026, 106027, 106028, 106029, 106030, 106031, 126999, 151999, 152999, 153999] μ (fun z μ1 => ∃ o_x : Int, μ1 126 ((40 * p2).toNat) = o_x ∧ (0 ≤ z ∧ z ≤ 1) ∧ mG [(((40 * p2) + 1), ((40 * p2) + 40))] μ μ1 ∧ JC l D c H0 sa μ1 ∧ (o_x = f_x) ∧ True))) 135 [(0, .ref 106), (2, iv p2), (3, iv p3), (4, iv p4), (5, iv z32215), (6, iv z32214), (7, iv (z32215 - 1)), (8, iv z32237), (9, iv z33922), (10, iv z34054), (11, iv z34053)] [] (mk w μ34055) 0 0 := by
                intro nL34056
                induction nL34056 with
                | zero => intro z34054 z34053 μ34055 T34059 F34060 h34057 h34058 I34062 I34063 h34064; exact ((vc_X12_through_u_39 h34064 h34058)).elim
                | succ nL34056 ih34065 =>
                  intro z34054 z34053 μ34055 T34059 F34060 h34057 h34058 I34062 I34063 h34064
                  refine mr_iload (pc := 135) (z := z34053) dX12_through_135 rfl ?_
                  refine sv_aload_n (pc := 137) dX12_through_137 rfl rfl ?_
                  refine gf_X12_41 (pc := 138) dX12_through_138 wF_X12_361 (A_106 hw) T34059 ?_
                  refine mr_bipush (pc := 141) (z := 31) dX12_through_141 (by decide) ?_
                  refine mr_iload (pc := 143) (z := z32237) dX12_through_143 rfl ?_
                  refine mr_imul (pc := 145) (x := 31) (y := z32237) dX12_through_145 ?_
                  refine mr_iload (pc := 146) (z := z33922) dX12_through_146 rfl ?_
                  refine mr_iadd (pc := 148) (x := (31 * z32237)) (y := z33922) dX12_through_148 ?_
                  refine mr_iconst (pc := 149) (z := 1) dX12_through_149 ?_
                  refine mr_iadd (pc := 150) (x := ((31 * z32237) + z33922)) (y := 1) dX12_through_150 ?_
                  refine la_128 (pc := 151) dX12_through_151 (A_128 hw) T34059 (rIx (n := 403) (rAdd (e := 1) (f := 371) (rAdd (e := 0) (f := 370) (rMulL (n := 31) (e := 0) (f := 341) h32239 rfl) h33998 rfl) (rR (x := 1)) rfl) rfl) fun z34066 q34067 h34068 => ?_
                  refine mr_icmp_ge (pc := 152) (tgt := 187) dX12_through_152 (by decide) (r32 h34058 rfl) (r32 h34068 rfl) (fun h34078 => ?_) (fun h34078 => ?_)
                  · refine mr_iload (pc := 187) (z := z34054) dX12_through_187 rfl ?_
                    refine mr_if_ne (pc := 189) (tgt := 100) dX12_through_189 (by decide) (r32 h34057 rfl) (fun h34079 => ?_) (fun h34079 => ?_)
                    · have h34080 : 1 ≤ z34054 ∧ z34054 ≤ 1 := (vc_X12_through_u_40 h34079 h34057)
                      refine mr_lvS (lv' := [(0, .ref 106), (2, iv p2), (3, iv p3), (4, iv p4), (5, iv z32215), (6, iv z32214), (7, iv (z32215 - 1)), (8, iv z32237), (9, iv z33922), (10, iv z34054)]) (List.forall_mem_cons.mpr ⟨rfl, List.forall_mem_cons.mpr ⟨rfl, List.forall_mem_cons.mpr ⟨rfl, List.forall_mem_cons.mpr ⟨rfl, List.forall_mem_cons.mpr ⟨rfl, List.forall_mem_cons.mpr ⟨rfl, List.forall_mem_cons.mpr ⟨rfl, List.forall_mem_cons.mpr ⟨rfl, List.forall_mem_cons.mpr ⟨rfl, List.forall_mem_cons.mpr ⟨rfl, fun _ h => absurd h List.not_mem_nil⟩⟩⟩⟩⟩⟩⟩⟩⟩⟩) ?_
                      exact ih33935 z33922 z34054 μ34055 T34059 (mF.call (mF.call mF.refl F33928 rfl) F34060 rfl) (rW (c := 0) (d := 30) h33998 rfl) (rW (c := 0) (d := 1) h34080 rfl) (vc_X12_through_u_41 h32250 h32250.1 h33930 h33931 h33997 h34079 h32252 h34000 h32220 h32253 h33999 h34002 h33998 h34080) (vc_X12_through_u_42 h32250 h33930 h33931 h33997 h32250.1 h32252 h34000 h32220 h32253 h33999 h34002 h33998) I34062 I34063 (vc_X12_through_u_43 (nS h33934) h33930 h33931 h33997 h34000 h34079 h32250 h32250.1 h32220 h32253 h33999 h34002 h33998 h34080)
                    have h34081 : 0 ≤ z34054 ∧ z34054 ≤ 0 := (vc_X12_through_u_44 h34079 h34057)
                    refine mr_iinc (pc := 192) (lv' := [(9, iv (z33922 + 1)), (0, .ref 106), (2, iv p2), (3, iv p3), (4, iv p4), (5, iv z32215), (6, iv z32214), (7, iv (z32215 - 1)), (8, iv z32237), (10, iv z34054), (11, iv z34053)]) dX12_through_192 rfl (by decide) rfl ?_
                    refine sv_goto (pc := 195) (tgt := 100) dX12_through_195 (by decide) ?_
                    refine mr_lvS (lv' := [(0, .ref 106), (2, iv p2), (3, iv p3), (4, iv p4), (5, iv z32215), (6, iv z32214), (7, iv (z32215 - 1)), (8, iv z32237), (9, iv (z33922 + 1)), (10, iv z34054)]) (List.forall_mem_cons.mpr ⟨rfl, List.forall_mem_cons.mpr ⟨rfl, List.forall_mem_cons.mpr ⟨rfl, List.forall_mem_cons.mpr ⟨rfl, List.forall_mem_cons.mpr ⟨rfl, List.forall_mem_cons.mpr ⟨rfl, List.forall_mem_cons.mpr ⟨rfl, List.forall_mem_cons.mpr ⟨rfl, List.forall_mem_cons.mpr ⟨rfl, List.forall_mem_cons.mpr ⟨rfl, fun _ h => absurd h List.not_mem_nil⟩⟩⟩⟩⟩⟩⟩⟩⟩⟩) ?_
                    exact ih33935 (z33922 + 1) z34054 μ34055 T34059 (mF.call (mF.call mF.refl F33928 rfl) F34060 rfl) (rW (c := 0) (d := 30) (rAdd (e := 1) (f := 30) h33998 (rR (x := 1)) rfl) rfl) (rW (c := 0) (d := 1) h34081 rfl) (vc_X12_through_u_45 h32250 h32250.1 h33930 h33931 h33997 h34079 h32252 h34000 h32220 h32253 h33999 h34002 h33998 h34081) (vc_X12_through_u_46 h32250 h33930 h33931 h33997 h32250.1 h32252 h34000 h32220 h32253 h33999 h34002 h33998) I34062 I34063 (vc_X12_through_u_47 (nS h33934) h33930 h33931 h33997 h34000 h34079 h32250 h32250.1 h32220 h32253 h33999 h34002 h33998 h34081)
                  have h34082 : 0 ≤ z34053 ∧ z34053 ≤ 299 := (vc_X12_through_u_48 h34078 h34058 h34068)
                  have h34083 : 1 ≤ z34066 ∧ z34066 ≤ 300 := (vc_X12_through_u_49 h34078 h34082 h34068)
                  refine mr_iload (pc := 155) (z := z34054) dX12_through_155 rfl ?_
                  refine mr_if_eq (pc := 157) (tgt := 187) dX12_through_157 (by decide) (r32 h34057 rfl) (fun h34091 => ?_) (fun h34091 => ?_)
                  · have h34092 : 0 ≤ z34054 ∧ z34054 ≤ 0 := (vc_X12_through_u_44 h34091 h34057)
                    refine mr_iload (pc := 187) (z := z34054) dX12_through_187 rfl ?_
                    refine mr_if_ne (pc := 189) (tgt := 100) dX12_through_189 (by decide) (r32 h34092 rfl) (fun h => ((vc_X12_through_u_50 h h34092)).elim) (fun _ => ?_)
                    refine mr_iinc (pc := 192) (lv' := [(9, iv (z33922 + 1)), (0, .ref 106), (2, iv p2), (3, iv p3), (4, iv p4), (5, iv z32215), (6, iv z32214), (7, iv (z32215 - 1)), (8, iv z32237), (10, iv z34054), (11, iv z34053)]) dX12_through_192 rfl (by decide) rfl ?_
                    refine sv_goto (pc := 195) (tgt := 100) dX12_through_195 (by decide) ?_
                    refine mr_lvS (lv' := [(0, .ref 106), (2, iv p2), (3, iv p3), (4, iv p4), (5, iv z32215), (6, iv z32214), (7, iv (z32215 - 1)), (8, iv z32237), (9, iv (z33922 + 1)), (10, iv z34054)]) (List.forall_mem_cons.mpr ⟨rfl, List.forall_mem_cons.mpr ⟨rfl, List.forall_mem_cons.mpr ⟨rfl, List.forall_mem_cons.mpr ⟨rfl, List.forall_mem_cons.mpr ⟨rfl, List.forall_mem_cons.mpr ⟨rfl, List.forall_mem_cons.mpr ⟨rfl, List.forall_mem_cons.mpr ⟨rfl, List.forall_mem_cons.mpr ⟨rfl, List.forall_mem_cons.mpr ⟨rfl, fun _ h => absurd h List.not_mem_nil⟩⟩⟩⟩⟩⟩⟩⟩⟩⟩) ?_
                    exact ih33935 (z33922 + 1) z34054 μ34055 T34059 (mF.call (mF.call mF.refl F33928 rfl) F34060 rfl) (rW (c := 0) (d := 30) (rAdd (e := 1) (f := 30) h33998 (rR (x := 1)) rfl) rfl) (rW (c := 0) (d := 1) h34092 rfl) (vc_X12_through_u_45 h32250 h32250.1 h33930 h33931 h33997 h34091 h32252 h34000 h32220 h32253 h33999 h34002 h33998 h34092) (vc_X12_through_u_46 h32250 h33930 h33931 h33997 h32250.1 h32252 h34000 h32220 h32253 h33999 h34002 h33998) I34062 I34063 (vc_X12_through_u_47 (nS h33934) h33930 h33931 h33997 h34000 h34091 h32250 h32250.1 h32220 h32253 h33999 h34002 h33998 h34092)
                  have h34093 : 1 ≤ z34054 ∧ z34054 ≤ 1 := (vc_X12_through_u_40 h34091 h34057)
                  refine sv_aload_n (pc := 160) dX12_through_160 rfl rfl ?_
                  refine mr_iload (pc := 161) (z := z32237) dX12_through_161 rfl ?_
                  refine mr_sipush (pc := 163) (z := 300) dX12_through_163 (by decide) ?_
                  refine mr_iload (pc := 166) (z := z32237) dX12_through_166 rfl ?_
                  refine mr_imul (pc := 168) (x := 300) (y := z32237) dX12_through_168 ?_
                  refine mr_iload (pc := 169) (z := z34053) dX12_through_169 rfl ?_
                  refine mr_iadd (pc := 171) (x := (300 * z32237)) (y := z34053) dX12_through_171 ?_
                  refine mr_iload_n (pc := 172) (z := p2) dX12_through_172 rfl rfl ?_
                  refine mr_iload_n (pc := 173) (z := p3) dX12_through_173 rfl rfl ?_
                  refine mr_iload (pc := 174) (z := p4) dX12_through_174 rfl ?_
                  refine mr_cVI (pc := 176) (c_X12_isSo_u hw T34059 h32239 (rW (c := 0) (d := 3899) (rAdd (e := 0) (f := 3599) (rMulL (n := 300) (e := 0) (f := 3300) h32239 rfl) h34082 rfl) rfl) hp2 hp3 hp4 hg1 (F34060.f (A_110 hw) rfl (F33928.f (A_110 hw) rfl (F32222.f (A_110 hw) rfl (u17812.f (Or.inl (mAt.ne (A_153 hw) (A_110 hw) rfl)) (u17809.f (Or.inl (mAt.ne (A_152 hw) (A_110 hw) rfl)) (u17806.f (Or.inl (mAt.ne (A_151 hw) (A_110 hw) rfl)) q_f_e0)))))) (F34060.f (A_110 hw) rfl (F33928.f (A_110 hw) rfl (F32222.f (A_110 hw) rfl (u17812.f (Or.inl (mAt.ne (A_153 hw) (A_110 hw) rfl)) (u17809.f (Or.inl (mAt.ne (A_152 hw) (A_110 hw) rfl)) (u17806.f (Or.inl (mAt.ne (A_151 hw) (A_110 hw) rfl)) q_f_e1)))))) (F34060.f (A_106 hw) rfl (F33928.f (A_106 hw) rfl (F32222.f (A_106 hw) rfl (u17812.f (Or.inl (mAt.ne (A_153 hw) (A_106 hw) rfl)) (u17809.f (Or.inl (mAt.ne (A_152 hw) (A_106 hw) rfl)) (u17806.f (Or.inl (mAt.ne (A_151 hw) (A_106 hw) rfl)) q_f_ties)))))) (F34060.f (A_126 hw) rfl (F33928.f (A_126 hw) rfl q32230)) (vc_X12_through_u_51 hq0 h2 hg1) (vc_X12_through_u_52 hq1 ht_f_e0 ht_f_e1 hp3 hp4) (vc_X12_through_u_53 h32224 hq2 h3 h32233) I34062) (gOk _ _ _ _ _) dX12_through_176 (tX12_isSo _ _ _ _ _) ⟨wV_X12_isSo, wL_X12_isSo⟩ wM_X12_397 (gCX12 _ _ _ _ _) rfl (A_106 hw) rfl ⟨le_t rfl, le_t rfl⟩ ⟨le_t rfl, le_t rfl⟩ rfl (le_t rfl) fun z34098 μ34094 T34095 F34096 h34097 => ?_
                  refine mr_istore (pc := 179) (lv' := [(10, iv z34098), (0, .ref 106), (2, iv p2), (3, iv p3), (4, iv p4), (5, iv z32215), (6, iv z32214), (7, iv (z32215 - 1)), (8, iv z32237), (9, iv z33922), (11, iv z34053)]) dX12_through_179 (by decide) rfl ?_
                  refine mr_iinc (pc := 181) (lv' := [(11, iv (z34053 + 1)), (10, iv z34098), (0, .ref 106), (2, iv p2), (3, iv p3), (4, iv p4), (5, iv z32215), (6, iv z32214), (7, iv (z32215 - 1)), (8, iv z32237), (9, iv z33922)]) dX12_through_181 rfl (by decide) rfl ?_
                  refine sv_goto (pc := 184) (tgt := 135) dX12_through_184 (by decide) ?_
                  refine mr_lvS (lv' := [(0, .ref 106), (2, iv p2), (3, iv p3), (4, iv p4), (5, iv z32215), (6, iv z32214), (7, iv (z32215 - 1)), (8, iv z32237), (9, iv z33922), (10, iv z34098), (11, iv (z34053 + 1))]) (List.forall_mem_cons.mpr ⟨rfl, List.forall_mem_cons.mpr ⟨rfl, List.forall_mem_cons.mpr ⟨rfl, List.forall_mem_cons.mpr ⟨rfl, List.forall_mem_cons.mpr ⟨rfl, List.forall_mem_cons.mpr ⟨rfl, List.forall_mem_cons.mpr ⟨rfl, List.forall_mem_cons.mpr ⟨rfl, List.forall_mem_cons.mpr ⟨rfl, List.forall_mem_cons.mpr ⟨rfl, List.forall_mem_cons.mpr ⟨rfl, fun _ h => absurd h List.not_mem_nil⟩⟩⟩⟩⟩⟩⟩⟩⟩⟩⟩) ?_
                  exact ih34065 z34098 (z34053 + 1) μ34094 T34095 (mF.call (mF.call mF.refl F34060 rfl) F34096 rfl) h34097.1 (rW (c := 0) (d := 300) (rAdd (e := 1) (f := 300) h34082 (rR (x := 1)) rfl) rfl) h34097.2.1 (PK.keep I34063 hw ((mF.call mF.refl F34096 rfl) : mF [106026, 106027, 106028, 106029, 106030, 106031] w μ34055 μ34094) rfl) (vc_X12_through_u_54 (nS h34064) h34078 h34082 h34083)
              refine mr_lvS (lv' := [(0, .ref 106), (2, iv p2), (3, iv p3), (4, iv p4), (5, iv z32215), (6, iv z32214), (7, iv (z32215 - 1)), (8, iv z32237), (9, iv z33922), (10, iv 1), (11, iv z34003)]) (List.forall_mem_cons.mpr ⟨rfl, List.forall_mem_cons.mpr ⟨rfl, List.forall_mem_cons.mpr ⟨rfl, List.forall_mem_cons.mpr ⟨rfl, List.forall_mem_cons.mpr ⟨rfl, List.forall_mem_cons.mpr ⟨rfl, List.forall_mem_cons.mpr ⟨rfl, List.forall_mem_cons.mpr ⟨rfl, List.forall_mem_cons.mpr ⟨rfl, List.forall_mem_cons.mpr ⟨rfl, List.forall_mem_cons.mpr ⟨rfl, fun _ h => absurd h List.not_mem_nil⟩⟩⟩⟩⟩⟩⟩⟩⟩⟩⟩) ?_
              exact L34056 302 1 z34003 μ33923 T33927 mF.refl (rW (c := 0) (d := 1) (rR (x := 1)) rfl) h34005 I33932 I33933 (vc_X12_through_u_55 h34005)
          refine mr_lvS (lv' := [(0, .ref 106), (2, iv p2), (3, iv p3), (4, iv p4), (5, iv z32215), (6, iv z32214), (7, iv (z32215 - 1)), (8, iv z32237), (9, iv (z32241 + 1)), (10, iv 0)]) (List.forall_mem_cons.mpr ⟨rfl, List.forall_mem_cons.mpr ⟨rfl, List.forall_mem_cons.mpr ⟨rfl, List.forall_mem_cons.mpr ⟨rfl, List.forall_mem_cons.mpr ⟨rfl, List.forall_mem_cons.mpr ⟨rfl, List.forall_mem_cons.mpr ⟨rfl, List.forall_mem_cons.mpr ⟨rfl, List.forall_mem_cons.mpr ⟨rfl, List.forall_mem_cons.mpr ⟨rfl, fun _ h => absurd h List.not_mem_nil⟩⟩⟩⟩⟩⟩⟩⟩⟩⟩) ?_
          exact L33924 71 (z32241 + 1) 0 μ32216 T32221 mF.refl (rW (c := 0) (d := 30) (rAdd (e := 0) (f := 0) h32253 (rR (x := 1)) rfl) rfl) (rW (c := 0) (d := 1) (rR (x := 0)) rfl) (vc_X12_through_u_56 h32250 h32250.1 h32252 h32220 h32253 h32246) (vc_X12_through_u_57 h32250 h32250.1 h32252 h32220 h32253 h32246) I32225 I32226 (vc_X12_through_u_58 h32250 h32250.1 h32252 h32220 h32253 h32246)
        have h34099 : 0 ≤ z32241 ∧ z32241 ≤ 29 := (vc_X12_through_u_59 h32252 h32250 h32250.1 h32220 h32251 h32246)
        refine sv_aload_n (pc := 69) dX12_through_69 rfl rfl ?_
        refine gf_X12_69 (pc := 70) dX12_through_70 wF_X12_394 (A_106 hw) T32221 ?_
        refine mr_iload (pc := 73) (z := (z32215 - 1)) dX12_through_73 rfl ?_
        refine la_153 (pc := 75) dX12_through_75 (A_153 hw) T32221 (rIx (n := 14) (rSub (e := 0) (f := 11) h32236 (rR (x := 1)) rfl) rfl) fun z34100 q34101 h34102 => ?_
        refine sv_aload_n (pc := 76) dX12_through_76 rfl rfl ?_
        refine gf_X12_42 (pc := 77) dX12_through_77 wF_X12_364 (A_106 hw) T32221 ?_
        refine mr_bipush (pc := 80) (z := 31) dX12_through_80 (by decide) ?_
        refine mr_iload (pc := 82) (z := z32237) dX12_through_82 rfl ?_
        refine mr_imul (pc := 84) (x := 31) (y := z32237) dX12_through_84 ?_
        refine mr_iload (pc := 85) (z := z32241) dX12_through_85 rfl ?_
        refine mr_iadd (pc := 87) (x := (31 * z32237)) (y := z32241) dX12_through_87 ?_
        refine mr_iconst (pc := 88) (z := 1) dX12_through_88 ?_
        refine mr_iadd (pc := 89) (x := ((31 * z32237) + z32241)) (y := 1) dX12_through_89 ?_
        refine la_129 (pc := 90) dX12_through_90 (A_129 hw) T32221 (rIx (n := 403) (rAdd (e := 1) (f := 371) (rAdd (e := 0) (f := 370) (rMulL (n := 31) (e := 0) (f := 341) h32239 rfl) h34099 rfl) (rR (x := 1)) rfl) rfl) fun z34103 q34104 h34105 => ?_
        have h34106 : z34100 ≤ z34103 ∧ z34103 ≤ z32247 := ⟨lvOK.a R32227 (vc_X12_through_u_15 h32234 h32240 hq3 ht_f_pol hp1 h32236 h32239) q32238 q32242 q34101 (vc_X12_through_u_61 h32240 hq3 h32234 ht_f_pol hp1 h32236 h32239) (vc_X12_through_u_62 h32250 h32250.1 h32252 h32220 h34099 h32246) (vc_X12_through_u_60 h32240 h32250 h32250.1 h32252 hq3 h32234 h32220 ht_f_pol hp1 h32236 h32239 h34099 h32246) q34104, PK.act I32226 (vc_X12_through_u_22 hq3 h32240 h17804 h32234 ht_f_pol hp1 h32236 h32239) (F32222.f (A_106 hw) rfl (u17812.f (Or.inl (mAt.ne (A_153 hw) (A_106 hw) rfl)) (u17809.f (Or.inl (mAt.ne (A_152 hw) (A_106 hw) rfl)) (u17806.f (Or.inl (mAt.ne (A_151 hw) (A_106 hw) rfl)) q_f_pol)))) (vc_X12_through_u_63 h32250 h32250.1 h32252 h32220 h34099 h32246) q32245 (vc_X12_through_u_60 h32240 h32250 h32250.1 h32252 hq3 h32234 h32220 ht_f_pol hp1 h32236 h32239 h34099 h32246) q34104 q32248⟩
        refine mr_icmp_ne (pc := 91) (tgt := 241) dX12_through_91 (by decide) (r32 h34102 rfl) (r32 h34105 rfl) (fun h34107 => ?_) (fun h34107 => ?_)
        · refine mr_sipush (pc := 241) (z := 300) dX12_through_241 (by decide) ?_
          refine mr_iload (pc := 244) (z := z32237) dX12_through_244 rfl ?_
          refine mr_imul (pc := 246) (x := 300) (y := z32237) dX12_through_246 ?_
          refine sv_aload_n (pc := 247) dX12_through_247 rfl rfl ?_
          refine gf_X12_69 (pc := 248) dX12_through_248 wF_X12_394 (A_106 hw) T32221 ?_
          refine mr_iload (pc := 251) (z := (z32215 - 1)) dX12_through_251 rfl ?_
          refine lk_153 (pc := 253) dX12_through_253 (A_153 hw) (rIx (n := 14) (rSub (e := 0) (f := 11) h32236 (rR (x := 1)) rfl) rfl) q34101 ?_
          refine mr_iadd (pc := 254) (x := (300 * z32237)) (y := z34100) dX12_through_254 ?_
          refine mr_istore (pc := 255) (lv' := [(10, iv ((300 * z32237) + z34100)), (9, iv z32241), (8, iv z32237), (7, iv (z32215 - 1)), (0, .ref 106), (2, iv p2), (3, iv p3), (4, iv p4), (5, iv z32215), (6, iv z32214)]) dX12_through_255 (by decide) rfl ?_
          refine sv_aload_n (pc := 257) dX12_through_257 rfl rfl ?_
          refine gf_X12_69 (pc := 258) dX12_through_258 wF_X12_394 (A_106 hw) T32221 ?_
          refine mr_iload (pc := 261) (z := (z32215 - 1)) dX12_through_261 rfl ?_
          refine sv_dup2 (pc := 263) dX12_through_263 rfl rfl ?_
          refine lk_153 (pc := 264) dX12_through_264 (A_153 hw) (rIx (n := 14) (rSub (e := 0) (f := 11) h32236 (rR (x := 1)) rfl) rfl) q34101 ?_
          refine mr_iconst (pc := 265) (z := 1) dX12_through_265 ?_
          refine mr_iadd (pc := 266) (x := z34100) (y := 1) dX12_through_266 ?_
          refine ss_153 (pc := 267) dX12_through_267 (A_153 hw) T32221 (rIx (n := 14) (rSub (e := 0) (f := 11) h32236 (rR (x := 1)) rfl) rfl) (vc_X12_through_u_64 h34106 h34107 h32249 h34102 h34105) fun μ34108 u34109 T34110 => ?_
          have I34111 : lvOK μ34108 z32215 := lvOK.act R32227 (vc_X12_through_u_15 h32234 h32240 hq3 ht_f_pol hp1 h32236 h32239) u34109 (u34109.f (Or.inl (mAt.ne (A_153 hw) (A_151 hw) rfl)) q32238) (u34109.f (Or.inl (mAt.ne (A_153 hw) (A_152 hw) rfl)) q32242) (vc_X12_through_u_61 h32240 hq3 h32234 ht_f_pol hp1 h32236 h32239) (vc_X12_through_u_62 h32250 h32250.1 h32252 h32220 h34099 h32246) (vc_X12_through_u_60 h32240 h32250 h32250.1 h32252 hq3 h32234 h32220 ht_f_pol hp1 h32236 h32239 h34099 h32246) (u34109.f (Or.inl (mAt.ne (A_153 hw) (A_129 hw) rfl)) q34104) (vc_X12_through_u_65 h34106 h34107 h32249 h34102 h34105)
          refine mr_iinc (pc := 268) (lv' := [(6, iv (z32214 + 1)), (10, iv ((300 * z32237) + z34100)), (9, iv z32241), (8, iv z32237), (7, iv (z32215 - 1)), (0, .ref 106), (2, iv p2), (3, iv p3), (4, iv p4), (5, iv z32215)]) dX12_through_268 rfl (by decide) rfl ?_
          refine mr_iload (pc := 271) (z := (z32214 + 1)) dX12_through_271 rfl ?_
          refine mr_sipush (pc := 273) (z := 500) dX12_through_273 (by decide) ?_
          refine mr_icmp_le (pc := 276) (tgt := 281) dX12_through_276 (by decide) (r32 (rAdd (e := 1) (f := 501) h32219 (rR (x := 1)) rfl) rfl) (r32 (rR (x := 500)) rfl) (fun h34112 => ?_) (fun h34112 => ?_)
          · have h34113 : 0 ≤ z32214 ∧ z32214 ≤ 499 := (vc_X12_through_u_66 h34112 h32219)
            refine sv_aload_n (pc := 281) dX12_through_281 rfl rfl ?_
            refine gf_X12_53 (pc := 282) dX12_through_282 wF_X12_349 (A_106 hw) T34110 ?_
            refine mr_iload (pc := 285) (z := ((300 * z32237) + z34100)) dX12_through_285 rfl ?_
            refine la_140 (pc := 287) dX12_through_287 (A_140 hw) T34110 (rIx (n := 3900) (rAdd (e := 0) (f := 3600) (rMulL (n := 300) (e := 0) (f := 3300) h32239 rfl) h34102 rfl) rfl) fun z34114 q34115 h34116 => ?_
            refine mr_istore (pc := 288) (lv' := [(11, iv z34114), (6, iv (z32214 + 1)), (10, iv ((300 * z32237) + z34100)), (9, iv z32241), (8, iv z32237), (7, iv (z32215 - 1)), (0, .ref 106), (2, iv p2), (3, iv p3), (4, iv p4), (5, iv z32215)]) dX12_through_288 (by decide) rfl ?_
            refine mr_iload (pc := 290) (z := z34114) dX12_through_290 rfl ?_
            refine mr_bipush (pc := 292) (z := 23) dX12_through_292 (by decide) ?_
            refine mr_icmp_ne (pc := 294) (tgt := 299) dX12_through_294 (by decide) h34116 (r32 (rR (x := 23)) rfl) (fun h34117 => ?_) (fun h34117 => ?_)
            · refine mr_iload (pc := 299) (z := z34114) dX12_through_299 rfl ?_
              refine mr_bipush (pc := 301) (z := 24) dX12_through_301 (by decide) ?_
              refine mr_icmp_ne (pc := 303) (tgt := 308) dX12_through_303 (by decide) h34116 (r32 (rR (x := 24)) rfl) (fun h34118 => ?_) (fun h34118 => ?_)
              · refine mr_iload (pc := 308) (z := z34114) dX12_through_308 rfl ?_
                refine mr_bipush (pc := 310) (z := 25) dX12_through_310 (by decide) ?_
                have J34133 : ∀ (μ34127 : mM), (mT w μ34127) → (mF [126999] w μ34108 μ34127) → (mG [(((40 * p2) + 1), ((40 * p2) + 40))] μ34108 μ34127) → (JC l D c H0 sa μ34127) → (PK μ34127) → sV (gG l D c H0 sa) mX12_through (sRm 6 0 0) (sZ (gG l D c H0 sa) 0 0 (qI w [106026, 106027, 106028, 106029, 106030, 106031, 126999, 151999, 152999, 153999] μ (fun z μ1 => ∃ o_x : Int, μ1 126 ((40 * p2).toNat) = o_x ∧ (0 ≤ z ∧ z ≤ 1) ∧ mG [(((40 * p2) + 1), ((40 * p2) + 40))] μ μ1 ∧ JC l D c H0 sa μ1 ∧ (o_x = f_x) ∧ True))) 327 [(0, .ref 106), (2, iv p2), (3, iv p3), (4, iv p4), (5, iv z32215), (6, iv (z32214 + 1)), (10, iv ((300 * z32237) + z34100)), (11, iv z34114)] [] (mk w μ34127) 0 0 := by
                  intro μ34127 T34128 F34129 G34130 I34131 I34132
                  refine mr_iload (pc := 327) (z := z34114) dX12_through_327 rfl ?_
                  refine mr_bipush (pc := 329) (z := 26) dX12_through_329 (by decide) ?_
                  have J34148 : ∀ (μ34142 : mM), (mT w μ34142) → (mF [126999] w μ34127 μ34142) → (mG [(((40 * p2) + 1), ((40 * p2) + 40))] μ34127 μ34142) → (JC l D c H0 sa μ34142) → (PK μ34142) → sV (gG l D c H0 sa) mX12_through (sRm 6 0 0) (sZ (gG l D c H0 sa) 0 0 (qI w [106026, 106027, 106028, 106029, 106030, 106031, 126999, 151999, 152999, 153999] μ (fun z μ1 => ∃ o_x : Int, μ1 126 ((40 * p2).toNat) = o_x ∧ (0 ≤ z ∧ z ≤ 1) ∧ mG [(((40 * p2) + 1), ((40 * p2) + 40))] μ μ1 ∧ JC l D c H0 sa μ1 ∧ (o_x = f_x) ∧ True))) 346 [(0, .ref 106), (2, iv p2), (3, iv p3), (4, iv p4), (5, iv z32215), (6, iv (z32214 + 1)), (10, iv ((300 * z32237) + z34100)), (11, iv z34114)] [] (mk w μ34142) 0 0 := by
                    intro μ34142 T34143 F34144 G34145 I34146 I34147
                    refine mr_iload (pc := 346) (z := z34114) dX12_through_346 rfl ?_
                    refine mr_bipush (pc := 348) (z := 12) dX12_through_348 (by decide) ?_
                    have J34162 : ∀ (μ34156 : mM), (mT w μ34156) → (mF [126999] w μ34142 μ34156) → (mG [(((40 * p2) + 1), ((40 * p2) + 40))] μ34142 μ34156) → (JC l D c H0 sa μ34156) → (PK μ34156) → sV (gG l D c H0 sa) mX12_through (sRm 6 0 0) (sZ (gG l D c H0 sa) 0 0 (qI w [106026, 106027, 106028, 106029, 106030, 106031, 126999, 151999, 152999, 153999] μ (fun z μ1 => ∃ o_x : Int, μ1 126 ((40 * p2).toNat) = o_x ∧ (0 ≤ z ∧ z ≤ 1) ∧ mG [(((40 * p2) + 1), ((40 * p2) + 40))] μ μ1 ∧ JC l D c H0 sa μ1 ∧ (o_x = f_x) ∧ True))) 371 [(0, .ref 106), (2, iv p2), (3, iv p3), (4, iv p4), (5, iv z32215), (6, iv (z32214 + 1)), (10, iv ((300 * z32237) + z34100)), (11, iv z34114)] [] (mk w μ34156) 0 0 := by
                      intro μ34156 T34157 F34158 G34159 I34160 I34161
                      refine mr_iload (pc := 371) (z := z34114) dX12_through_371 rfl ?_
                      refine mr_bipush (pc := 373) (z := 13) dX12_through_373 (by decide) ?_
                      have J34176 : ∀ (μ34170 : mM), (mT w μ34170) → (mF [126999] w μ34156 μ34170) → (mG [(((40 * p2) + 1), ((40 * p2) + 40))] μ34156 μ34170) → (JC l D c H0 sa μ34170) → (PK μ34170) → sV (gG l D c H0 sa) mX12_through (sRm 6 0 0) (sZ (gG l D c H0 sa) 0 0 (qI w [106026, 106027, 106028, 106029, 106030, 106031, 126999, 151999, 152999, 153999] μ (fun z μ1 => ∃ o_x : Int, μ1 126 ((40 * p2).toNat) = o_x ∧ (0 ≤ z ∧ z ≤ 1) ∧ mG [(((40 * p2) + 1), ((40 * p2) + 40))] μ μ1 ∧ JC l D c H0 sa μ1 ∧ (o_x = f_x) ∧ True))) 396 [(0, .ref 106), (2, iv p2), (3, iv p3), (4, iv p4), (5, iv z32215), (6, iv (z32214 + 1)), (10, iv ((300 * z32237) + z34100)), (11, iv z34114)] [] (mk w μ34170) 0 0 := by
                        intro μ34170 T34171 F34172 G34173 I34174 I34175
                        refine mr_iload (pc := 396) (z := z34114) dX12_through_396 rfl ?_
                        refine mr_bipush (pc := 398) (z := 27) dX12_through_398 (by decide) ?_
                        refine mr_icmp_ne (pc := 400) (tgt := 486) dX12_through_400 (by decide) h34116 (r32 (rR (x := 27)) rfl) (fun h34177 => ?_) (fun h34177 => ?_)
                        · refine mr_iload (pc := 486) (z := z34114) dX12_through_486 rfl ?_
                          refine mr_bipush (pc := 488) (z := 28) dX12_through_488 (by decide) ?_
                          refine mr_icmp_ne (pc := 490) (tgt := 526) dX12_through_490 (by decide) h34116 (r32 (rR (x := 28)) rfl) (fun h34191 => ?_) (fun h34191 => ?_)
                          · refine sv_goto (pc := 526) (tgt := 35) dX12_through_526 (by decide) ?_
                            refine mr_lvS (lv' := [(0, .ref 106), (2, iv p2), (3, iv p3), (4, iv p4), (5, iv z32215), (6, iv (z32214 + 1))]) (List.forall_mem_cons.mpr ⟨rfl, List.forall_mem_cons.mpr ⟨rfl, List.forall_mem_cons.mpr ⟨rfl, List.forall_mem_cons.mpr ⟨rfl, List.forall_mem_cons.mpr ⟨rfl, List.forall_mem_cons.mpr ⟨rfl, fun _ h => absurd h List.not_mem_nil⟩⟩⟩⟩⟩⟩) ?_
                            exact ih32231 z32215 (z32214 + 1) z32241 μ34170 f_y T34171 (mF.call (mF.call (mF.call (mF.call (mF.up (mF.call mF.refl F32222 rfl) (A_153 hw) u34109 rfl) F34129 rfl) F34144 rfl) F34158 rfl) F34172 rfl) (mG.call (mG.call (mG.call (mG.call (mG.upO (mG.call mG.refl G32223 (List.forall_mem_cons.mpr ⟨⟨_, List.mem_cons_self, (vc_X12_through_u_11 hp2)⟩, (fun _ h => absurd h List.not_mem_nil)⟩)) u34109 rfl) G34130 (List.forall_mem_cons.mpr ⟨⟨_, List.mem_cons_self, (vc_X12_through_u_11 hp2)⟩, (fun _ h => absurd h List.not_mem_nil)⟩)) G34145 (List.forall_mem_cons.mpr ⟨⟨_, List.mem_cons_self, (vc_X12_through_u_11 hp2)⟩, (fun _ h => absurd h List.not_mem_nil)⟩)) G34159 (List.forall_mem_cons.mpr ⟨⟨_, List.mem_cons_self, (vc_X12_through_u_11 hp2)⟩, (fun _ h => absurd h List.not_mem_nil)⟩)) G34173 (List.forall_mem_cons.mpr ⟨⟨_, List.mem_cons_self, (vc_X12_through_u_11 hp2)⟩, (fun _ h => absurd h List.not_mem_nil)⟩)) (G34173.f (vc_X12_through_u_1 hp2) (List.forall_mem_cons.mpr ⟨(vc_X12_through_u_67 hp2), (fun _ h => absurd h List.not_mem_nil)⟩) (G34159.f (vc_X12_through_u_1 hp2) (List.forall_mem_cons.mpr ⟨(vc_X12_through_u_67 hp2), (fun _ h => absurd h List.not_mem_nil)⟩) (G34145.f (vc_X12_through_u_1 hp2) (List.forall_mem_cons.mpr ⟨(vc_X12_through_u_67 hp2), (fun _ h => absurd h List.not_mem_nil)⟩) (G34130.f (vc_X12_through_u_1 hp2) (List.forall_mem_cons.mpr ⟨(vc_X12_through_u_67 hp2), (fun _ h => absurd h List.not_mem_nil)⟩) (u34109.f (Or.inl (mAt.ne (A_153 hw) (A_126 hw) rfl)) q32230))))) (rW (c := 0) (d := 12) h32236 rfl) (rW (c := 0) (d := 500) (rAdd (e := 1) (f := 500) h34113 (rR (x := 1)) rfl) rfl) (rW (c := (-1)) (d := 30) h34099 rfl) (vc_X12_through_u_12 hq2 h32224 h3 h32233) I34174 I34175 (lvOK.pred (lvOK.keep I34111 hw ((mF.call (mF.call (mF.call (mF.call mF.refl F34129 rfl) F34144 rfl) F34158 rfl) F34172 rfl) : mF [126999] w μ34108 μ34170) rfl) (vc_X12_through_u_26 h32234 h32240 hq3 ht_f_pol hp1 h32236 h32239)) (Or.inr (F34172.f (A_152 hw) rfl (F34158.f (A_152 hw) rfl (F34144.f (A_152 hw) rfl (F34129.f (A_152 hw) rfl (u34109.f (Or.inl (mAt.ne (A_153 hw) (A_152 hw) rfl)) q32242)))))) (vc_X12_through_u_68 (nS h32229) h32234 h32240 h32250 h32250.1 h32252 h34112 hq3 h32220 ht_f_pol hp1 h34113 h32236 h32239 h34099 h32246)
                          have h34192 : 28 ≤ z34114 ∧ z34114 ≤ 28 := (vc_X12_through_u_69 h34191 h34117 h34118 h34177 h34116)
                          refine sv_aload_n (pc := 493) dX12_through_493 rfl rfl ?_
                          refine gf_X12_67 (pc := 494) dX12_through_494 wF_X12_388 (A_106 hw) T34171 ?_
                          refine mr_iload (pc := 497) (z := z32215) dX12_through_497 rfl ?_
                          refine sv_aload_n (pc := 499) dX12_through_499 rfl rfl ?_
                          refine gf_X12_54 (pc := 500) dX12_through_500 wF_X12_352 (A_106 hw) T34171 ?_
                          refine mr_iload (pc := 503) (z := ((300 * z32237) + z34100)) dX12_through_503 rfl ?_
                          refine la_141 (pc := 505) dX12_through_505 (A_141 hw) T34171 (rIx (n := 3900) (rAdd (e := 0) (f := 3600) (rMulL (n := 300) (e := 0) (f := 3300) h32239 rfl) h34102 rfl) rfl) fun z34193 q34194 h34195 => ?_
                          have h34196 : 0 ≤ z34193 ∧ z34193 < z32237 := PK.call I34175 (vc_X12_through_u_22 hq3 h32240 h17804 h32234 ht_f_pol hp1 h32236 h32239) (F34172.f (A_106 hw) rfl (F34158.f (A_106 hw) rfl (F34144.f (A_106 hw) rfl (F34129.f (A_106 hw) rfl (u34109.f (Or.inl (mAt.ne (A_153 hw) (A_106 hw) rfl)) (F32222.f (A_106 hw) rfl (u17812.f (Or.inl (mAt.ne (A_153 hw) (A_106 hw) rfl)) (u17809.f (Or.inl (mAt.ne (A_152 hw) (A_106 hw) rfl)) (u17806.f (Or.inl (mAt.ne (A_151 hw) (A_106 hw) rfl)) q_f_pol))))))))) (a := (((300 * z32237) + z34100) - (300 * z32237))) (vc_X12_through_u_70 h32240 h34106 h34107 hq3 h32234 ht_f_pol hp1 h32236 h32239 h32249 h34102 h34105) (F34172.f (A_131 hw) rfl (F34158.f (A_131 hw) rfl (F34144.f (A_131 hw) rfl (F34129.f (A_131 hw) rfl (u34109.f (Or.inl (mAt.ne (A_153 hw) (A_131 hw) rfl)) q32248))))) (vc_X12_through_u_71 h32240 h34106 h34107 hq3 h32234 ht_f_pol hp1 h32236 h32239 h32249 h34102 h34105) (F34172.f (A_140 hw) rfl (F34158.f (A_140 hw) rfl (F34144.f (A_140 hw) rfl (F34129.f (A_140 hw) rfl q34115)))) (vc_X12_through_u_72 h34117 h34118 h34177 h34191 h34192) q34194
                          have h34197 : 0 ≤ z34193 ∧ z34193 ≤ 10 := (vc_X12_through_u_73 h34196 h32240 ht_f_pol h32236 h32239 h34195)
                          have h34198 : 1 ≤ z32237 ∧ z32237 ≤ 11 := (vc_X12_through_u_74 h34196 h32240 ht_f_pol h32236 h32239 h34197)
                          refine ss_151 (pc := 506) dX12_through_506 (A_151 hw) T34171 (rIx (n := 14) h32236 rfl) (rW (c := 0) (d := 11) h34197 rfl) fun μ34199 u34200 T34201 => ?_
                          refine sv_aload_n (pc := 507) dX12_through_507 rfl rfl ?_
                          refine gf_X12_68 (pc := 508) dX12_through_508 wF_X12_391 (A_106 hw) T34201 ?_
                          refine mr_iload (pc := 511) (z := z32215) dX12_through_511 rfl ?_
                          refine mr_iconst (pc := 513) (z := (-1)) dX12_through_513 ?_
                          refine ss_152 (pc := 514) dX12_through_514 (A_152 hw) T34201 (rIx (n := 14) h32236 rfl) (rW (c := (-1)) (d := 30) (rR (x := (-1))) rfl) fun μ34202 u34203 T34204 => ?_
                          refine sv_aload_n (pc := 515) dX12_through_515 rfl rfl ?_
                          refine gf_X12_69 (pc := 516) dX12_through_516 wF_X12_394 (A_106 hw) T34204 ?_
                          refine mr_iload (pc := 519) (z := z32215) dX12_through_519 rfl ?_
                          refine mr_iconst (pc := 521) (z := 0) dX12_through_521 ?_
                          refine ss_153 (pc := 522) dX12_through_522 (A_153 hw) T34204 (rIx (n := 14) h32236 rfl) (rW (c := 0) (d := 300) (rR (x := 0)) rfl) fun μ34205 u34206 T34207 => ?_
                          obtain ⟨z34208, q34209⟩ : ∃ z, μ34205 127 (z34193.toNat) = z := ⟨_, rfl⟩
                          have h34210 : (0 ≤ z34208 ∧ z34208 ≤ 30) := by rw [← q34209]; exact T34207 127 127 (A_127 hw) (z34193.toNat)
                          have I34211 : lvOK μ34205 (z32215 + 1) := lvOK.push (lvOK.keep I34111 hw ((mF.call (mF.call (mF.call (mF.call mF.refl F34129 rfl) F34144 rfl) F34158 rfl) F34172 rfl) : mF [126999] w μ34108 _) rfl) (vc_X12_through_u_75 h32234 h32240 hq3 h34196 ht_f_pol hp1 h32236 h34198 h34197) u34200 u34203 u34206 (u34206.f (Or.inl (mAt.ne (A_153 hw) (A_106 hw) rfl)) (u34203.f (Or.inl (mAt.ne (A_152 hw) (A_106 hw) rfl)) (u34200.f (Or.inl (mAt.ne (A_151 hw) (A_106 hw) rfl)) (F34172.f (A_106 hw) rfl (F34158.f (A_106 hw) rfl (F34144.f (A_106 hw) rfl (F34129.f (A_106 hw) rfl (u34109.f (Or.inl (mAt.ne (A_153 hw) (A_106 hw) rfl)) (F32222.f (A_106 hw) rfl (u17812.f (Or.inl (mAt.ne (A_153 hw) (A_106 hw) rfl)) (u17809.f (Or.inl (mAt.ne (A_152 hw) (A_106 hw) rfl)) (u17806.f (Or.inl (mAt.ne (A_151 hw) (A_106 hw) rfl)) q_f_pol)))))))))))) (vc_X12_through_u_76 hq3 h32234 h32240 h34196 h17804 ht_f_pol hp1 h32236 h34198 h34197) q34209 (vc_X12_through_u_77 h34210)
                          refine mr_iinc (pc := 523) (lv' := [(5, iv (z32215 + 1)), (0, .ref 106), (2, iv p2), (3, iv p3), (4, iv p4), (6, iv (z32214 + 1)), (10, iv ((300 * z32237) + z34100)), (11, iv z34114)]) dX12_through_523 rfl (by decide) rfl ?_
                          refine sv_goto (pc := 526) (tgt := 35) dX12_through_526 (by decide) ?_
                          refine mr_lvS (lv' := [(0, .ref 106), (2, iv p2), (3, iv p3), (4, iv p4), (5, iv (z32215 + 1)), (6, iv (z32214 + 1))]) (List.forall_mem_cons.mpr ⟨rfl, List.forall_mem_cons.mpr ⟨rfl, List.forall_mem_cons.mpr ⟨rfl, List.forall_mem_cons.mpr ⟨rfl, List.forall_mem_cons.mpr ⟨rfl, List.forall_mem_cons.mpr ⟨rfl, fun _ h => absurd h List.not_mem_nil⟩⟩⟩⟩⟩⟩) ?_
                          exact ih32231 (z32215 + 1) (z32214 + 1) (-1) μ34205 f_y T34207 (mF.up (mF.up (mF.up (mF.call (mF.call (mF.call (mF.call (mF.up (mF.call mF.refl F32222 rfl) (A_153 hw) u34109 rfl) F34129 rfl) F34144 rfl) F34158 rfl) F34172 rfl) (A_151 hw) u34200 rfl) (A_152 hw) u34203 rfl) (A_153 hw) u34206 rfl) (mG.upO (mG.upO (mG.upO (mG.call (mG.call (mG.call (mG.call (mG.upO (mG.call mG.refl G32223 (List.forall_mem_cons.mpr ⟨⟨_, List.mem_cons_self, (vc_X12_through_u_11 hp2)⟩, (fun _ h => absurd h List.not_mem_nil)⟩)) u34109 rfl) G34130 (List.forall_mem_cons.mpr ⟨⟨_, List.mem_cons_self, (vc_X12_through_u_11 hp2)⟩, (fun _ h => absurd h List.not_mem_nil)⟩)) G34145 (List.forall_mem_cons.mpr ⟨⟨_, List.mem_cons_self, (vc_X12_through_u_11 hp2)⟩, (fun _ h => absurd h List.not_mem_nil)⟩)) G34159 (List.forall_mem_cons.mpr ⟨⟨_, List.mem_cons_self, (vc_X12_through_u_11 hp2)⟩, (fun _ h => absurd h List.not_mem_nil)⟩)) G34173 (List.forall_mem_cons.mpr ⟨⟨_, List.mem_cons_self, (vc_X12_through_u_11 hp2)⟩, (fun _ h => absurd h List.not_mem_nil)⟩)) u34200 rfl) u34203 rfl) u34206 rfl) (u34206.f (Or.inl (mAt.ne (A_153 hw) (A_126 hw) rfl)) (u34203.f (Or.inl (mAt.ne (A_152 hw) (A_126 hw) rfl)) (u34200.f (Or.inl (mAt.ne (A_151 hw) (A_126 hw) rfl)) (G34173.f (vc_X12_through_u_1 hp2) (List.forall_mem_cons.mpr ⟨(vc_X12_through_u_67 hp2), (fun _ h => absurd h List.not_mem_nil)⟩) (G34159.f (vc_X12_through_u_1 hp2) (List.forall_mem_cons.mpr ⟨(vc_X12_through_u_67 hp2), (fun _ h => absurd h List.not_mem_nil)⟩) (G34145.f (vc_X12_through_u_1 hp2) (List.forall_mem_cons.mpr ⟨(vc_X12_through_u_67 hp2), (fun _ h => absurd h List.not_mem_nil)⟩) (G34130.f (vc_X12_through_u_1 hp2) (List.forall_mem_cons.mpr ⟨(vc_X12_through_u_67 hp2), (fun _ h => absurd h List.not_mem_nil)⟩) (u34109.f (Or.inl (mAt.ne (A_153 hw) (A_126 hw) rfl)) q32230)))))))) (vc_X12_through_u_79 h32234 h32240 hq3 h34196 ht_f_pol hp1 h32236 h34198 h34197) (rW (c := 0) (d := 500) (rAdd (e := 1) (f := 500) h34113 (rR (x := 1)) rfl) rfl) (rW (c := (-1)) (d := 30) (rR (x := (-1))) rfl) (vc_X12_through_u_12 hq2 h32224 h3 h32233) (JC.keep I34174 hw ((mF.up (mF.up (mF.up mF.refl (A_151 hw) u34200 rfl) (A_152 hw) u34203 rfl) (A_153 hw) u34206 rfl) : mF [151999, 152999, 153999] w μ34170 μ34205) rfl rfl) (PK.keep I34175 hw ((mF.up (mF.up (mF.up mF.refl (A_151 hw) u34200 rfl) (A_152 hw) u34203 rfl) (A_153 hw) u34206 rfl) : mF [151999, 152999, 153999] w μ34170 μ34205) rfl) (lvOK.pred I34211 (vc_X12_through_u_81 h32234 h32240 hq3 h34196 ht_f_pol hp1 h32236 h34198 h34197)) (Or.inr (eqIx (vc_X12_through_u_78 h32236) (u34206.f (Or.inl (mAt.ne (A_153 hw) (A_152 hw) rfl)) u34203.1))) (vc_X12_through_u_80 (nS h32229) h32234 h32240 h32250 h34112 hq3 h32250.1 h32252 h34196 h32220 ht_f_pol hp1 h34113 h32236 h34198 h34099 h32246 h34197)
                        have h34212 : 27 ≤ z34114 ∧ z34114 ≤ 27 := (vc_X12_through_u_82 h34177 h34117 h34118 h34116)
                        refine sv_aload_n (pc := 403) dX12_through_403 rfl rfl ?_
                        refine gf_X12_32 (pc := 404) dX12_through_404 wF_X12_148 (A_106 hw) T34171 ?_
                        refine mr_bipush (pc := 407) (z := 40) dX12_through_407 (by decide) ?_
                        refine mr_iload_n (pc := 409) (z := p2) dX12_through_409 rfl rfl ?_
                        refine mr_imul (pc := 410) (x := 40) (y := p2) dX12_through_410 ?_
                        refine mr_iconst (pc := 411) (z := 4) dX12_through_411 ?_
                        refine mr_iadd (pc := 412) (x := (40 * p2)) (y := 4) dX12_through_412 ?_
                        refine la_126 (pc := 413) dX12_through_413 (A_126 hw) T34171 (rIx (n := 84000) (rAdd (e := 4) (f := 83964) (rMulL (n := 40) (e := 0) (f := 83960) hp2 rfl) (rR (x := 4)) rfl) rfl) fun z34213 q34214 h34215 => ?_
                        have h34216 : 0 ≤ z34213 ∧ z34213 ≤ 20 := h34215.2.2.1 (vc_X12_through_u_83 hp2)
                        refine mr_if_le (pc := 414) (tgt := 486) dX12_through_414 (by decide) (r32 h34216 rfl) (fun h34217 => ?_) (fun h34217 => ?_)
                        · have h34218 : 0 ≤ z34213 ∧ z34213 ≤ 0 := (vc_X12_through_u_84 h34217 h34216)
                          refine mr_iload (pc := 486) (z := z34114) dX12_through_486 rfl ?_
                          refine mr_bipush (pc := 488) (z := 28) dX12_through_488 (by decide) ?_
                          refine mr_icmp_ne (pc := 490) (tgt := 526) dX12_through_490 (by decide) (r32 h34212 rfl) (r32 (rR (x := 28)) rfl) (fun _ => ?_) (fun h => ((vc_X12_through_u_85 h h34212)).elim)
                          refine sv_goto (pc := 526) (tgt := 35) dX12_through_526 (by decide) ?_
                          refine mr_lvS (lv' := [(0, .ref 106), (2, iv p2), (3, iv p3), (4, iv p4), (5, iv z32215), (6, iv (z32214 + 1))]) (List.forall_mem_cons.mpr ⟨rfl, List.forall_mem_cons.mpr ⟨rfl, List.forall_mem_cons.mpr ⟨rfl, List.forall_mem_cons.mpr ⟨rfl, List.forall_mem_cons.mpr ⟨rfl, List.forall_mem_cons.mpr ⟨rfl, fun _ h => absurd h List.not_mem_nil⟩⟩⟩⟩⟩⟩) ?_
                          exact ih32231 z32215 (z32214 + 1) z32241 μ34170 f_y T34171 (mF.call (mF.call (mF.call (mF.call (mF.up (mF.call mF.refl F32222 rfl) (A_153 hw) u34109 rfl) F34129 rfl) F34144 rfl) F34158 rfl) F34172 rfl) (mG.call (mG.call (mG.call (mG.call (mG.upO (mG.call mG.refl G32223 (List.forall_mem_cons.mpr ⟨⟨_, List.mem_cons_self, (vc_X12_through_u_11 hp2)⟩, (fun _ h => absurd h List.not_mem_nil)⟩)) u34109 rfl) G34130 (List.forall_mem_cons.mpr ⟨⟨_, List.mem_cons_self, (vc_X12_through_u_11 hp2)⟩, (fun _ h => absurd h List.not_mem_nil)⟩)) G34145 (List.forall_mem_cons.mpr ⟨⟨_, List.mem_cons_self, (vc_X12_through_u_11 hp2)⟩, (fun _ h => absurd h List.not_mem_nil)⟩)) G34159 (List.forall_mem_cons.mpr ⟨⟨_, List.mem_cons_self, (vc_X12_through_u_11 hp2)⟩, (fun _ h => absurd h List.not_mem_nil)⟩)) G34173 (List.forall_mem_cons.mpr ⟨⟨_, List.mem_cons_self, (vc_X12_through_u_11 hp2)⟩, (fun _ h => absurd h List.not_mem_nil)⟩)) (G34173.f (vc_X12_through_u_1 hp2) (List.forall_mem_cons.mpr ⟨(vc_X12_through_u_67 hp2), (fun _ h => absurd h List.not_mem_nil)⟩) (G34159.f (vc_X12_through_u_1 hp2) (List.forall_mem_cons.mpr ⟨(vc_X12_through_u_67 hp2), (fun _ h => absurd h List.not_mem_nil)⟩) (G34145.f (vc_X12_through_u_1 hp2) (List.forall_mem_cons.mpr ⟨(vc_X12_through_u_67 hp2), (fun _ h => absurd h List.not_mem_nil)⟩) (G34130.f (vc_X12_through_u_1 hp2) (List.forall_mem_cons.mpr ⟨(vc_X12_through_u_67 hp2), (fun _ h => absurd h List.not_mem_nil)⟩) (u34109.f (Or.inl (mAt.ne (A_153 hw) (A_126 hw) rfl)) q32230))))) (rW (c := 0) (d := 12) h32236 rfl) (rW (c := 0) (d := 500) (rAdd (e := 1) (f := 500) h34113 (rR (x := 1)) rfl) rfl) (rW (c := (-1)) (d := 30) h34099 rfl) (vc_X12_through_u_12 hq2 h32224 h3 h32233) I34174 I34175 (lvOK.pred (lvOK.keep I34111 hw ((mF.call (mF.call (mF.call (mF.call mF.refl F34129 rfl) F34144 rfl) F34158 rfl) F34172 rfl) : mF [126999] w μ34108 μ34170) rfl) (vc_X12_through_u_26 h32234 h32240 hq3 ht_f_pol hp1 h32236 h32239)) (Or.inr (F34172.f (A_152 hw) rfl (F34158.f (A_152 hw) rfl (F34144.f (A_152 hw) rfl (F34129.f (A_152 hw) rfl (u34109.f (Or.inl (mAt.ne (A_153 hw) (A_152 hw) rfl)) q32242)))))) (vc_X12_through_u_68 (nS h32229) h32234 h32240 h32250 h32250.1 h32252 h34112 hq3 h32220 ht_f_pol hp1 h34113 h32236 h32239 h34099 h32246)
                        have h34219 : 1 ≤ z34213 ∧ z34213 ≤ 20 := (vc_X12_through_u_86 h34217 h34216)
                        refine sv_aload_n (pc := 417) dX12_through_417 rfl rfl ?_
                        refine gf_X12_32 (pc := 418) dX12_through_418 wF_X12_148 (A_106 hw) T34171 ?_
                        refine mr_bipush (pc := 421) (z := 40) dX12_through_421 (by decide) ?_
                        refine mr_iload_n (pc := 423) (z := p2) dX12_through_423 rfl rfl ?_
                        refine mr_imul (pc := 424) (x := 40) (y := p2) dX12_through_424 ?_
                        refine mr_bipush (pc := 425) (z := 6) dX12_through_425 (by decide) ?_
                        refine mr_iadd (pc := 427) (x := (40 * p2)) (y := 6) dX12_through_427 ?_
                        refine la_126 (pc := 428) dX12_through_428 (A_126 hw) T34171 (rIx (n := 84000) (rAdd (e := 6) (f := 83966) (rMulL (n := 40) (e := 0) (f := 83960) hp2 rfl) (rR (x := 6)) rfl) rfl) fun z34220 q34221 h34222 => ?_
                        refine mr_istore (pc := 429) (lv' := [(12, iv z34220), (0, .ref 106), (2, iv p2), (3, iv p3), (4, iv p4), (5, iv z32215), (6, iv (z32214 + 1)), (10, iv ((300 * z32237) + z34100)), (11, iv z34114)]) dX12_through_429 (by decide) rfl ?_
                        refine sv_aload_n (pc := 431) dX12_through_431 rfl rfl ?_
                        refine gf_X12_32 (pc := 432) dX12_through_432 wF_X12_148 (A_106 hw) T34171 ?_
                        refine mr_bipush (pc := 435) (z := 40) dX12_through_435 (by decide) ?_
                        refine mr_iload_n (pc := 437) (z := p2) dX12_through_437 rfl rfl ?_
                        refine mr_imul (pc := 438) (x := 40) (y := p2) dX12_through_438 ?_
                        refine mr_iconst (pc := 439) (z := 4) dX12_through_439 ?_
                        refine mr_iadd (pc := 440) (x := (40 * p2)) (y := 4) dX12_through_440 ?_
                        refine lk_126 (pc := 441) dX12_through_441 (A_126 hw) (rIx (n := 84000) (rAdd (e := 4) (f := 83964) (rMulL (n := 40) (e := 0) (f := 83960) hp2 rfl) (rR (x := 4)) rfl) rfl) q34214 ?_
                        refine sv_aload_n (pc := 442) dX12_through_442 rfl rfl ?_
                        refine gf_X12_54 (pc := 443) dX12_through_443 wF_X12_352 (A_106 hw) T34171 ?_
                        refine mr_iload (pc := 446) (z := ((300 * z32237) + z34100)) dX12_through_446 rfl ?_
                        refine la_141 (pc := 448) dX12_through_448 (A_141 hw) T34171 (rIx (n := 3900) (rAdd (e := 0) (f := 3600) (rMulL (n := 300) (e := 0) (f := 3300) h32239 rfl) h34102 rfl) rfl) fun z34223 q34224 h34225 => ?_
                        refine mr_iadd (pc := 449) (x := z34213) (y := z34223) dX12_through_449 ?_
                        refine mr_wrap fun z34226 h34227 => ?_
                        refine mr_bipush (pc := 450) (z := 20) dX12_through_450 (by decide) ?_
                        refine mr_icmp_le (pc := 452) (tgt := 457) dX12_through_452 (by decide) h34227 (r32 (rR (x := 20)) rfl) (fun h34228 => ?_) (fun h34228 => ?_)
                        · have h34229 : (-2147483648) ≤ z34226 ∧ z34226 ≤ 20 := (vc_X12_through_u_87 h34228 h34227)
                          refine mr_iconst (pc := 457) (z := 0) dX12_through_457 ?_
                          refine mr_istore (pc := 458) (lv' := [(13, iv 0), (12, iv z34220), (0, .ref 106), (2, iv p2), (3, iv p3), (4, iv p4), (5, iv z32215), (6, iv (z32214 + 1)), (10, iv ((300 * z32237) + z34100)), (11, iv z34114)]) dX12_through_458 (by decide) rfl ?_
                          have L34592 : ∀ (nL34592 : Nat) (z34590 : Int) (μ34591 : mM), mT w μ34591 → mF [126999] w μ34170 μ34591 → mG [(((40 * p2) + 1), ((40 * p2) + 40))] μ34170 μ34591 → (0 ≤ z34590 ∧ z34590 ≤ 2147483647) → JC l D c H0 sa μ34591 → PK μ34591 → ((z34223 - z34590) + 4294967296) < (nL34592 : Int) → sV (gG l D c H0 sa) mX12_through (sRm 6 0 0) (sZ (gG l D c H0 sa) 0 0 (qI w [106026, 106027, 106028, 106029, 106030, 106031, 126999, 151999, 152999, 153999] μ (fun z μ1 => ∃ o_x : Int, μ1 126 ((40 * p2).toNat) = o_x ∧ (0 ≤ z ∧ z ≤ 1) ∧ mG [(((40 * p2) + 1), ((40 * p2) + 40))] μ μ1 ∧ JC l D c H0 sa μ1 ∧ (o_x = f_x) ∧ True))) 460 [(0, .ref 106), (2, iv p2), (3, iv p3), (4, iv p4), (5, iv z32215), (6, iv (z32214 + 1)), (10, iv ((300 * z32237) + z34100)), (11, iv z34114), (12, iv z34220), (13, iv z34590)] [] (mk w μ34591) 0 0 := by
                            intro nL34592
                            induction nL34592 with
                            | zero => intro z34590 μ34591 T34594 F34595 G34596 h34593 I34597 I34598 h34599; exact ((vc_X12_through_u_88 h34599 h34225 h34593)).elim
                            | succ nL34592 ih34600 =>
                              intro z34590 μ34591 T34594 F34595 G34596 h34593 I34597 I34598 h34599
                              refine mr_iload (pc := 460) (z := z34590) dX12_through_460 rfl ?_
                              refine sv_aload_n (pc := 462) dX12_through_462 rfl rfl ?_
                              refine gf_X12_54 (pc := 463) dX12_through_463 wF_X12_352 (A_106 hw) T34594 ?_
                              refine mr_iload (pc := 466) (z := ((300 * z32237) + z34100)) dX12_through_466 rfl ?_
                              refine lk_141 (pc := 468) dX12_through_468 (A_141 hw) (rIx (n := 3900) (rAdd (e := 0) (f := 3600) (rMulL (n := 300) (e := 0) (f := 3300) h32239 rfl) h34102 rfl) rfl) (F34595.f (A_141 hw) rfl q34224) ?_
                              refine mr_icmp_ge (pc := 469) (tgt := 486) dX12_through_469 (by decide) (r32 h34593 rfl) h34225 (fun h34608 => ?_) (fun h34608 => ?_)
                              · refine mr_iload (pc := 486) (z := z34114) dX12_through_486 rfl ?_
                                refine mr_bipush (pc := 488) (z := 28) dX12_through_488 (by decide) ?_
                                refine mr_icmp_ne (pc := 490) (tgt := 526) dX12_through_490 (by decide) (r32 h34212 rfl) (r32 (rR (x := 28)) rfl) (fun _ => ?_) (fun h => ((vc_X12_through_u_85 h h34212)).elim)
                                refine sv_goto (pc := 526) (tgt := 35) dX12_through_526 (by decide) ?_
                                refine mr_lvS (lv' := [(0, .ref 106), (2, iv p2), (3, iv p3), (4, iv p4), (5, iv z32215), (6, iv (z32214 + 1))]) (List.forall_mem_cons.mpr ⟨rfl, List.forall_mem_cons.mpr ⟨rfl, List.forall_mem_cons.mpr ⟨rfl, List.forall_mem_cons.mpr ⟨rfl, List.forall_mem_cons.mpr ⟨rfl, List.forall_mem_cons.mpr ⟨rfl, fun _ h => absurd h List.not_mem_nil⟩⟩⟩⟩⟩⟩) ?_
                                exact ih32231 z32215 (z32214 + 1) z32241 μ34591 f_y T34594 (mF.call (mF.call (mF.call (mF.call (mF.call (mF.up (mF.call mF.refl F32222 rfl) (A_153 hw) u34109 rfl) F34129 rfl) F34144 rfl) F34158 rfl) F34172 rfl) F34595 rfl) (mG.call (mG.call (mG.call (mG.call (mG.call (mG.upO (mG.call mG.refl G32223 (List.forall_mem_cons.mpr ⟨⟨_, List.mem_cons_self, (vc_X12_through_u_11 hp2)⟩, (fun _ h => absurd h List.not_mem_nil)⟩)) u34109 rfl) G34130 (List.forall_mem_cons.mpr ⟨⟨_, List.mem_cons_self, (vc_X12_through_u_11 hp2)⟩, (fun _ h => absurd h List.not_mem_nil)⟩)) G34145 (List.forall_mem_cons.mpr ⟨⟨_, List.mem_cons_self, (vc_X12_through_u_11 hp2)⟩, (fun _ h => absurd h List.not_mem_nil)⟩)) G34159 (List.forall_mem_cons.mpr ⟨⟨_, List.mem_cons_self, (vc_X12_through_u_11 hp2)⟩, (fun _ h => absurd h List.not_mem_nil)⟩)) G34173 (List.forall_mem_cons.mpr ⟨⟨_, List.mem_cons_self, (vc_X12_through_u_11 hp2)⟩, (fun _ h => absurd h List.not_mem_nil)⟩)) G34596 (List.forall_mem_cons.mpr ⟨⟨_, List.mem_cons_self, (vc_X12_through_u_11 hp2)⟩, (fun _ h => absurd h List.not_mem_nil)⟩)) (G34596.f (vc_X12_through_u_1 hp2) (List.forall_mem_cons.mpr ⟨(vc_X12_through_u_67 hp2), (fun _ h => absurd h List.not_mem_nil)⟩) (G34173.f (vc_X12_through_u_1 hp2) (List.forall_mem_cons.mpr ⟨(vc_X12_through_u_67 hp2), (fun _ h => absurd h List.not_mem_nil)⟩) (G34159.f (vc_X12_through_u_1 hp2) (List.forall_mem_cons.mpr ⟨(vc_X12_through_u_67 hp2), (fun _ h => absurd h List.not_mem_nil)⟩) (G34145.f (vc_X12_through_u_1 hp2) (List.forall_mem_cons.mpr ⟨(vc_X12_through_u_67 hp2), (fun _ h => absurd h List.not_mem_nil)⟩) (G34130.f (vc_X12_through_u_1 hp2) (List.forall_mem_cons.mpr ⟨(vc_X12_through_u_67 hp2), (fun _ h => absurd h List.not_mem_nil)⟩) (u34109.f (Or.inl (mAt.ne (A_153 hw) (A_126 hw) rfl)) q32230)))))) (rW (c := 0) (d := 12) h32236 rfl) (rW (c := 0) (d := 500) (rAdd (e := 1) (f := 500) h34113 (rR (x := 1)) rfl) rfl) (rW (c := (-1)) (d := 30) h34099 rfl) (vc_X12_through_u_12 hq2 h32224 h3 h32233) I34597 I34598 (lvOK.pred (lvOK.keep I34111 hw ((mF.call (mF.call (mF.call (mF.call (mF.call mF.refl F34129 rfl) F34144 rfl) F34158 rfl) F34172 rfl) F34595 rfl) : mF [126999] w μ34108 μ34591) rfl) (vc_X12_through_u_26 h32234 h32240 hq3 ht_f_pol hp1 h32236 h32239)) (Or.inr (F34595.f (A_152 hw) rfl (F34172.f (A_152 hw) rfl (F34158.f (A_152 hw) rfl (F34144.f (A_152 hw) rfl (F34129.f (A_152 hw) rfl (u34109.f (Or.inl (mAt.ne (A_153 hw) (A_152 hw) rfl)) q32242))))))) (vc_X12_through_u_68 (nS h32229) h32234 h32240 h32250 h32250.1 h32252 h34112 hq3 h32220 ht_f_pol hp1 h34113 h32236 h32239 h34099 h32246)
                              have h34609 : 0 ≤ z34590 ∧ z34590 ≤ 2147483646 := (vc_X12_through_u_89 h34608 h34225 h34593)
                              have h34610 : 1 ≤ z34223 ∧ z34223 ≤ 2147483647 := (vc_X12_through_u_90 h34608 h34225 h34609)
                              refine sv_aload_n (pc := 472) dX12_through_472 rfl rfl ?_
                              refine mr_iload_n (pc := 473) (z := p2) dX12_through_473 rfl rfl ?_
                              refine mr_iload (pc := 474) (z := z34220) dX12_through_474 rfl ?_
                              refine mr_cVI (pc := 476) (c_X12_front hw T34594 hp2 h34222.1) (gOk _ _ _ _ _) dX12_through_476 (tX12_front _ _ _ _ _) ⟨wV_X12_front, wL_X12_front⟩ wM_X12_408 (gCX12 _ _ _ _ _) rfl (A_106 hw) rfl ⟨le_t rfl, le_t rfl⟩ ⟨le_t rfl, le_t rfl⟩ rfl (le_t rfl) fun z34615 μ34611 T34612 F34613 h34614 => ?_
                              refine sv_pop (pc := 479) dX12_through_479 rfl ?_
                              refine mr_iinc (pc := 480) (lv' := [(13, iv (z34590 + 1)), (0, .ref 106), (2, iv p2), (3, iv p3), (4, iv p4), (5, iv z32215), (6, iv (z32214 + 1)), (10, iv ((300 * z32237) + z34100)), (11, iv z34114), (12, iv z34220)]) dX12_through_480 rfl (by decide) rfl ?_
                              refine sv_goto (pc := 483) (tgt := 460) dX12_through_483 (by decide) ?_
                              refine mr_lvS (lv' := [(0, .ref 106), (2, iv p2), (3, iv p3), (4, iv p4), (5, iv z32215), (6, iv (z32214 + 1)), (10, iv ((300 * z32237) + z34100)), (11, iv z34114), (12, iv z34220), (13, iv (z34590 + 1))]) (List.forall_mem_cons.mpr ⟨rfl, List.forall_mem_cons.mpr ⟨rfl, List.forall_mem_cons.mpr ⟨rfl, List.forall_mem_cons.mpr ⟨rfl, List.forall_mem_cons.mpr ⟨rfl, List.forall_mem_cons.mpr ⟨rfl, List.forall_mem_cons.mpr ⟨rfl, List.forall_mem_cons.mpr ⟨rfl, List.forall_mem_cons.mpr ⟨rfl, List.forall_mem_cons.mpr ⟨rfl, fun _ h => absurd h List.not_mem_nil⟩⟩⟩⟩⟩⟩⟩⟩⟩⟩) ?_
                              exact ih34600 (z34590 + 1) μ34611 T34612 (mF.call (mF.call mF.refl F34595 rfl) F34613 rfl) (mG.call (mG.call mG.refl G34596 (List.forall_mem_cons.mpr ⟨⟨_, List.mem_cons_self, (vc_X12_through_u_11 hp2)⟩, (fun _ h => absurd h List.not_mem_nil)⟩)) h34614.2.1 (List.forall_mem_cons.mpr ⟨⟨_, List.mem_cons_self, (vc_X12_through_u_11 hp2)⟩, (fun _ h => absurd h List.not_mem_nil)⟩)) (rW (c := 0) (d := 2147483647) (rAdd (e := 1) (f := 2147483647) h34609 (rR (x := 1)) rfl) rfl) (JC.keep I34597 hw ((mF.call mF.refl F34613 rfl) : mF [126999] w μ34591 μ34611) rfl rfl) (PK.keep I34598 hw ((mF.call mF.refl F34613 rfl) : mF [126999] w μ34591 μ34611) rfl) (vc_X12_through_u_91 (nS h34599) h34608 h34610 h34609)
                          refine mr_lvS (lv' := [(0, .ref 106), (2, iv p2), (3, iv p3), (4, iv p4), (5, iv z32215), (6, iv (z32214 + 1)), (10, iv ((300 * z32237) + z34100)), (11, iv z34114), (12, iv z34220), (13, iv 0)]) (List.forall_mem_cons.mpr ⟨rfl, List.forall_mem_cons.mpr ⟨rfl, List.forall_mem_cons.mpr ⟨rfl, List.forall_mem_cons.mpr ⟨rfl, List.forall_mem_cons.mpr ⟨rfl, List.forall_mem_cons.mpr ⟨rfl, List.forall_mem_cons.mpr ⟨rfl, List.forall_mem_cons.mpr ⟨rfl, List.forall_mem_cons.mpr ⟨rfl, List.forall_mem_cons.mpr ⟨rfl, fun _ h => absurd h List.not_mem_nil⟩⟩⟩⟩⟩⟩⟩⟩⟩⟩) ?_
                          exact L34592 6442450944 0 μ34170 T34171 mF.refl mG.refl (rW (c := 0) (d := 2147483647) (rR (x := 0)) rfl) I34174 I34175 (vc_X12_through_u_92 h34225)
                        have h34616 : 21 ≤ z34226 ∧ z34226 ≤ 2147483647 := (vc_X12_through_u_93 h34228 h34227)
                        refine mr_iconst (pc := 455) (z := 0) dX12_through_455 ?_
                        exact mr_zret dX12_through_456 rfl (rW (c := 0) (d := 1) (rR (x := 0)) rfl) (le_t rfl) (le_t rfl) T34171 (mF.call (mF.call (mF.call (mF.call (mF.up (mF.call (mF.up (mF.up (mF.up mF.refl (A_151 hw) u17806 rfl) (A_152 hw) u17809 rfl) (A_153 hw) u17812 rfl) F32222 rfl) (A_153 hw) u34109 rfl) F34129 rfl) F34144 rfl) F34158 rfl) F34172 rfl) ⟨f_y, (G34173.f (vc_X12_through_u_1 hp2) (List.forall_mem_cons.mpr ⟨(vc_X12_through_u_67 hp2), (fun _ h => absurd h List.not_mem_nil)⟩) (G34159.f (vc_X12_through_u_1 hp2) (List.forall_mem_cons.mpr ⟨(vc_X12_through_u_67 hp2), (fun _ h => absurd h List.not_mem_nil)⟩) (G34145.f (vc_X12_through_u_1 hp2) (List.forall_mem_cons.mpr ⟨(vc_X12_through_u_67 hp2), (fun _ h => absurd h List.not_mem_nil)⟩) (G34130.f (vc_X12_through_u_1 hp2) (List.forall_mem_cons.mpr ⟨(vc_X12_through_u_67 hp2), (fun _ h => absurd h List.not_mem_nil)⟩) (u34109.f (Or.inl (mAt.ne (A_153 hw) (A_126 hw) rfl)) q32230))))), (rW (c := 0) (d := 1) (rR (x := 0)) rfl), (mG.call (mG.call (mG.call (mG.call (mG.upO (mG.call (mG.upO (mG.upO (mG.upO mG.refl u17806 rfl) u17809 rfl) u17812 rfl) G32223 (List.forall_mem_cons.mpr ⟨⟨_, List.mem_cons_self, (vc_X12_through_u_11 hp2)⟩, (fun _ h => absurd h List.not_mem_nil)⟩)) u34109 rfl) G34130 (List.forall_mem_cons.mpr ⟨⟨_, List.mem_cons_self, (vc_X12_through_u_11 hp2)⟩, (fun _ h => absurd h List.not_mem_nil)⟩)) G34145 (List.forall_mem_cons.mpr ⟨⟨_, List.mem_cons_self, (vc_X12_through_u_11 hp2)⟩, (fun _ h => absurd h List.not_mem_nil)⟩)) G34159 (List.forall_mem_cons.mpr ⟨⟨_, List.mem_cons_self, (vc_X12_through_u_11 hp2)⟩, (fun _ h => absurd h List.not_mem_nil)⟩)) G34173 (List.forall_mem_cons.mpr ⟨⟨_, List.mem_cons_self, (vc_X12_through_u_11 hp2)⟩, (fun _ h => absurd h List.not_mem_nil)⟩)), I34174, (vc_X12_through_u_12 hq2 h32224 h3 h32233), trivial⟩
                      refine mr_icmp_ne (pc := 375) (tgt := 396) dX12_through_375 (by decide) h34116 (r32 (rR (x := 13)) rfl) (fun h34617 => ?_) (fun h34617 => ?_)
                      · exact J34176 μ34156 T34157 mF.refl mG.refl I34160 I34161
                      have h34618 : 13 ≤ z34114 ∧ z34114 ≤ 13 := (vc_X12_through_u_94 h34617 h34117 h34118 h34116)
                      refine sv_aload_n (pc := 378) dX12_through_378 rfl rfl ?_
                      refine gf_X12_32 (pc := 379) dX12_through_379 wF_X12_148 (A_106 hw) T34157 ?_
                      refine mr_bipush (pc := 382) (z := 40) dX12_through_382 (by decide) ?_
                      refine mr_iload_n (pc := 384) (z := p2) dX12_through_384 rfl rfl ?_
                      refine mr_imul (pc := 385) (x := 40) (y := p2) dX12_through_385 ?_
                      refine mr_iconst (pc := 386) (z := 3) dX12_through_386 ?_
                      refine mr_iadd (pc := 387) (x := (40 * p2)) (y := 3) dX12_through_387 ?_
                      refine sv_aload_n (pc := 388) dX12_through_388 rfl rfl ?_
                      refine gf_X12_54 (pc := 389) dX12_through_389 wF_X12_352 (A_106 hw) T34157 ?_
                      refine mr_iload (pc := 392) (z := ((300 * z32237) + z34100)) dX12_through_392 rfl ?_
                      refine la_141 (pc := 394) dX12_through_394 (A_141 hw) T34157 (rIx (n := 3900) (rAdd (e := 0) (f := 3600) (rMulL (n := 300) (e := 0) (f := 3300) h32239 rfl) h34102 rfl) rfl) fun z34619 q34620 h34621 => ?_
                      refine ss_126 (pc := 395) dX12_through_395 (A_126 hw) T34157 (rIx (n := 84000) (rAdd (e := 3) (f := 83963) (rMulL (n := 40) (e := 0) (f := 83960) hp2 rfl) (rR (x := 3)) rfl) rfl) (vc_X12_through_u_95 hp2 h34621) fun μ34622 u34623 T34624 => ?_
                      exact J34176 μ34622 T34624 (mF.up mF.refl (A_126 hw) u34623 rfl) (mG.up mG.refl u34623 List.mem_cons_self (vc_X12_through_u_96 hp2)) (JC.keep I34160 hw ((mF.up mF.refl (A_126 hw) u34623 rfl) : mF [126999] w μ34156 μ34622) rfl rfl) (PK.keep I34161 hw ((mF.up mF.refl (A_126 hw) u34623 rfl) : mF [126999] w μ34156 μ34622) rfl)
                    refine mr_icmp_ne (pc := 350) (tgt := 371) dX12_through_350 (by decide) h34116 (r32 (rR (x := 12)) rfl) (fun h34625 => ?_) (fun h34625 => ?_)
                    · exact J34162 μ34142 T34143 mF.refl mG.refl I34146 I34147
                    have h34626 : 12 ≤ z34114 ∧ z34114 ≤ 12 := (vc_X12_through_u_97 h34625 h34117 h34118 h34116)
                    refine sv_aload_n (pc := 353) dX12_through_353 rfl rfl ?_
                    refine gf_X12_32 (pc := 354) dX12_through_354 wF_X12_148 (A_106 hw) T34143 ?_
                    refine mr_bipush (pc := 357) (z := 40) dX12_through_357 (by decide) ?_
                    refine mr_iload_n (pc := 359) (z := p2) dX12_through_359 rfl rfl ?_
                    refine mr_imul (pc := 360) (x := 40) (y := p2) dX12_through_360 ?_
                    refine mr_iconst (pc := 361) (z := 1) dX12_through_361 ?_
                    refine mr_iadd (pc := 362) (x := (40 * p2)) (y := 1) dX12_through_362 ?_
                    refine sv_aload_n (pc := 363) dX12_through_363 rfl rfl ?_
                    refine gf_X12_54 (pc := 364) dX12_through_364 wF_X12_352 (A_106 hw) T34143 ?_
                    refine mr_iload (pc := 367) (z := ((300 * z32237) + z34100)) dX12_through_367 rfl ?_
                    refine la_141 (pc := 369) dX12_through_369 (A_141 hw) T34143 (rIx (n := 3900) (rAdd (e := 0) (f := 3600) (rMulL (n := 300) (e := 0) (f := 3300) h32239 rfl) h34102 rfl) rfl) fun z34627 q34628 h34629 => ?_
                    refine ss_126 (pc := 370) dX12_through_370 (A_126 hw) T34143 (rIx (n := 84000) (rAdd (e := 1) (f := 83961) (rMulL (n := 40) (e := 0) (f := 83960) hp2 rfl) (rR (x := 1)) rfl) rfl) (vc_X12_through_u_98 hp2 h34629) fun μ34630 u34631 T34632 => ?_
                    exact J34162 μ34630 T34632 (mF.up mF.refl (A_126 hw) u34631 rfl) (mG.up mG.refl u34631 List.mem_cons_self (vc_X12_through_u_99 hp2)) (JC.keep I34146 hw ((mF.up mF.refl (A_126 hw) u34631 rfl) : mF [126999] w μ34142 μ34630) rfl rfl) (PK.keep I34147 hw ((mF.up mF.refl (A_126 hw) u34631 rfl) : mF [126999] w μ34142 μ34630) rfl)
                  refine mr_icmp_ne (pc := 331) (tgt := 346) dX12_through_331 (by decide) h34116 (r32 (rR (x := 26)) rfl) (fun h34633 => ?_) (fun h34633 => ?_)
                  · exact J34148 μ34127 T34128 mF.refl mG.refl I34131 I34132
                  have h34634 : 26 ≤ z34114 ∧ z34114 ≤ 26 := (vc_X12_through_u_100 h34633 h34117 h34118 h34116)
                  refine sv_aload_n (pc := 334) dX12_through_334 rfl rfl ?_
                  refine mr_iload_n (pc := 335) (z := p2) dX12_through_335 rfl rfl ?_
                  refine sv_aload_n (pc := 336) dX12_through_336 rfl rfl ?_
                  refine gf_X12_54 (pc := 337) dX12_through_337 wF_X12_352 (A_106 hw) T34128 ?_
                  refine mr_iload (pc := 340) (z := ((300 * z32237) + z34100)) dX12_through_340 rfl ?_
                  refine la_141 (pc := 342) dX12_through_342 (A_141 hw) T34128 (rIx (n := 3900) (rAdd (e := 0) (f := 3600) (rMulL (n := 300) (e := 0) (f := 3300) h32239 rfl) h34102 rfl) rfl) fun z34635 q34636 h34637 => ?_
                  refine mr_cVV (pc := 343) (c_X12_dropMark hw T34128 hp2 h34637) (gOk _ _ _ _ _) dX12_through_343 (tX12_dropMark _ _ _ _ _) ⟨wV_X12_dropMark, wL_X12_dropMark⟩ wM_X12_405 (gCX12 _ _ _ _ _) rfl (A_106 hw) rfl ⟨le_t rfl, le_t rfl⟩ ⟨le_t rfl, le_t rfl⟩ rfl (le_t rfl) fun μ34638 T34639 F34640 h34641 => ?_
                  exact J34148 μ34638 T34639 (mF.call mF.refl F34640 rfl) (mG.call mG.refl h34641.1 (List.forall_mem_cons.mpr ⟨⟨_, List.mem_cons_self, (vc_X12_through_u_11 hp2)⟩, (fun _ h => absurd h List.not_mem_nil)⟩)) (JC.keep I34131 hw ((mF.call mF.refl F34640 rfl) : mF [126999] w μ34127 μ34638) rfl rfl) (PK.keep I34132 hw ((mF.call mF.refl F34640 rfl) : mF [126999] w μ34127 μ34638) rfl)
                refine mr_icmp_ne (pc := 312) (tgt := 327) dX12_through_312 (by decide) h34116 (r32 (rR (x := 25)) rfl) (fun h34642 => ?_) (fun h34642 => ?_)
                · refine mr_lvS (lv' := [(0, .ref 106), (2, iv p2), (3, iv p3), (4, iv p4), (5, iv z32215), (6, iv (z32214 + 1)), (10, iv ((300 * z32237) + z34100)), (11, iv z34114)]) (List.forall_mem_cons.mpr ⟨rfl, List.forall_mem_cons.mpr ⟨rfl, List.forall_mem_cons.mpr ⟨rfl, List.forall_mem_cons.mpr ⟨rfl, List.forall_mem_cons.mpr ⟨rfl, List.forall_mem_cons.mpr ⟨rfl, List.forall_mem_cons.mpr ⟨rfl, List.forall_mem_cons.mpr ⟨rfl, fun _ h => absurd h List.not_mem_nil⟩⟩⟩⟩⟩⟩⟩⟩) ?_
                  exact J34133 μ34108 T34110 mF.refl mG.refl (JC.keep I32225 hw ((mF.up mF.refl (A_153 hw) u34109 rfl) : mF [153999] w μ32216 μ34108) rfl rfl) (PK.keep I32226 hw ((mF.up mF.refl (A_153 hw) u34109 rfl) : mF [153999] w μ32216 μ34108) rfl)
                have h34643 : 25 ≤ z34114 ∧ z34114 ≤ 25 := (vc_X12_through_u_101 h34642 h34117 h34118 h34116)
                refine sv_aload_n (pc := 315) dX12_through_315 rfl rfl ?_
                refine mr_iload_n (pc := 316) (z := p2) dX12_through_316 rfl rfl ?_
                refine sv_aload_n (pc := 317) dX12_through_317 rfl rfl ?_
                refine gf_X12_54 (pc := 318) dX12_through_318 wF_X12_352 (A_106 hw) T34110 ?_
                refine mr_iload (pc := 321) (z := ((300 * z32237) + z34100)) dX12_through_321 rfl ?_
                refine la_141 (pc := 323) dX12_through_323 (A_141 hw) T34110 (rIx (n := 3900) (rAdd (e := 0) (f := 3600) (rMulL (n := 300) (e := 0) (f := 3300) h32239 rfl) h34102 rfl) rfl) fun z34644 q34645 h34646 => ?_
                refine mr_cVV (pc := 324) (c_X12_addMark hw T34110 hp2 h34646) (gOk _ _ _ _ _) dX12_through_324 (tX12_addMark _ _ _ _ _) ⟨wV_X12_addMark, wL_X12_addMark⟩ wM_X12_401 (gCX12 _ _ _ _ _) rfl (A_106 hw) rfl ⟨le_t rfl, le_t rfl⟩ ⟨le_t rfl, le_t rfl⟩ rfl (le_t rfl) fun μ34647 T34648 F34649 h34650 => ?_
                refine mr_lvS (lv' := [(0, .ref 106), (2, iv p2), (3, iv p3), (4, iv p4), (5, iv z32215), (6, iv (z32214 + 1)), (10, iv ((300 * z32237) + z34100)), (11, iv z34114)]) (List.forall_mem_cons.mpr ⟨rfl, List.forall_mem_cons.mpr ⟨rfl, List.forall_mem_cons.mpr ⟨rfl, List.forall_mem_cons.mpr ⟨rfl, List.forall_mem_cons.mpr ⟨rfl, List.forall_mem_cons.mpr ⟨rfl, List.forall_mem_cons.mpr ⟨rfl, List.forall_mem_cons.mpr ⟨rfl, fun _ h => absurd h List.not_mem_nil⟩⟩⟩⟩⟩⟩⟩⟩) ?_
                exact J34133 μ34647 T34648 (mF.call mF.refl F34649 rfl) (mG.call mG.refl h34650.1 (List.forall_mem_cons.mpr ⟨⟨_, List.mem_cons_self, (vc_X12_through_u_11 hp2)⟩, (fun _ h => absurd h List.not_mem_nil)⟩)) (JC.keep I32225 hw ((mF.call (mF.up mF.refl (A_153 hw) u34109 rfl) F34649 rfl) : mF [126999, 153999] w μ32216 μ34647) rfl rfl) (PK.keep I32226 hw ((mF.call (mF.up mF.refl (A_153 hw) u34109 rfl) F34649 rfl) : mF [126999, 153999] w μ32216 μ34647) rfl)
              have h34651 : 24 ≤ z34114 ∧ z34114 ≤ 24 := (vc_X12_through_u_102 h34118 h34117 h34116)
              refine mr_iconst (pc := 306) (z := 0) dX12_through_306 ?_
              exact mr_zret dX12_through_307 rfl (rW (c := 0) (d := 1) (rR (x := 0)) rfl) (le_t rfl) (le_t rfl) T34110 (mF.up (mF.call (mF.up (mF.up (mF.up mF.refl (A_151 hw) u17806 rfl) (A_152 hw) u17809 rfl) (A_153 hw) u17812 rfl) F32222 rfl) (A_153 hw) u34109 rfl) ⟨f_y, (u34109.f (Or.inl (mAt.ne (A_153 hw) (A_126 hw) rfl)) q32230), (rW (c := 0) (d := 1) (rR (x := 0)) rfl), (mG.upO (mG.call (mG.upO (mG.upO (mG.upO mG.refl u17806 rfl) u17809 rfl) u17812 rfl) G32223 (List.forall_mem_cons.mpr ⟨⟨_, List.mem_cons_self, (vc_X12_through_u_11 hp2)⟩, (fun _ h => absurd h List.not_mem_nil)⟩)) u34109 rfl), (JC.keep I32225 hw ((mF.up mF.refl (A_153 hw) u34109 rfl) : mF [153999] w μ32216 μ34108) rfl rfl), (vc_X12_through_u_12 hq2 h32224 h3 h32233), trivial⟩
            have h34652 : 23 ≤ z34114 ∧ z34114 ≤ 23 := (vc_X12_through_u_103 h34117 h34116)
            refine mr_iconst (pc := 297) (z := 1) dX12_through_297 ?_
            exact mr_zret dX12_through_298 rfl (rW (c := 0) (d := 1) (rR (x := 1)) rfl) (le_t rfl) (le_t rfl) T34110 (mF.up (mF.call (mF.up (mF.up (mF.up mF.refl (A_151 hw) u17806 rfl) (A_152 hw) u17809 rfl) (A_153 hw) u17812 rfl) F32222 rfl) (A_153 hw) u34109 rfl) ⟨f_y, (u34109.f (Or.inl (mAt.ne (A_153 hw) (A_126 hw) rfl)) q32230), (rW (c := 0) (d := 1) (rR (x := 1)) rfl), (mG.upO (mG.call (mG.upO (mG.upO (mG.upO mG.refl u17806 rfl) u17809 rfl) u17812 rfl) G32223 (List.forall_mem_cons.mpr ⟨⟨_, List.mem_cons_self, (vc_X12_through_u_11 hp2)⟩, (fun _ h => absurd h List.not_mem_nil)⟩)) u34109 rfl), (JC.keep I32225 hw ((mF.up mF.refl (A_153 hw) u34109 rfl) : mF [153999] w μ32216 μ34108) rfl rfl), (vc_X12_through_u_12 hq2 h32224 h3 h32233), trivial⟩
          have h34653 : 500 ≤ z32214 ∧ z32214 ≤ 500 := (vc_X12_through_u_104 h34112 h32219)
          refine mr_iconst (pc := 279) (z := 0) dX12_through_279 ?_
          exact mr_zret dX12_through_280 rfl (rW (c := 0) (d := 1) (rR (x := 0)) rfl) (le_t rfl) (le_t rfl) T34110 (mF.up (mF.call (mF.up (mF.up (mF.up mF.refl (A_151 hw) u17806 rfl) (A_152 hw) u17809 rfl) (A_153 hw) u17812 rfl) F32222 rfl) (A_153 hw) u34109 rfl) ⟨f_y, (u34109.f (Or.inl (mAt.ne (A_153 hw) (A_126 hw) rfl)) q32230), (rW (c := 0) (d := 1) (rR (x := 0)) rfl), (mG.upO (mG.call (mG.upO (mG.upO (mG.upO mG.refl u17806 rfl) u17809 rfl) u17812 rfl) G32223 (List.forall_mem_cons.mpr ⟨⟨_, List.mem_cons_self, (vc_X12_through_u_11 hp2)⟩, (fun _ h => absurd h List.not_mem_nil)⟩)) u34109 rfl), (JC.keep I32225 hw ((mF.up mF.refl (A_153 hw) u34109 rfl) : mF [153999] w μ32216 μ34108) rfl rfl), (vc_X12_through_u_12 hq2 h32224 h3 h32233), trivial⟩
        refine mr_iinc (pc := 94) (lv' := [(9, iv (z32241 + 1)), (8, iv z32237), (7, iv (z32215 - 1)), (0, .ref 106), (2, iv p2), (3, iv p3), (4, iv p4), (5, iv z32215), (6, iv z32214)]) dX12_through_94 rfl (by decide) rfl ?_
        refine mr_iconst (pc := 97) (z := 0) dX12_through_97 ?_
        refine mr_istore (pc := 98) (lv' := [(10, iv 0), (9, iv (z32241 + 1)), (8, iv z32237), (7, iv (z32215 - 1)), (0, .ref 106), (2, iv p2), (3, iv p3), (4, iv p4), (5, iv z32215), (6, iv z32214)]) dX12_through_98 (by decide) rfl ?_
        have L34824 : ∀ (nL34824 : Nat) (z34822 z34821 : Int) (μ34823 : mM), mT w μ34823 → mF [106026, 106027, 106028, 106029, 106030, 106031] w μ32216 μ34823 → (1 ≤ z34822 ∧ z34822 ≤ 30) → (0 ≤ z34821 ∧ z34821 ≤ 1) → (z34821 = 0 ∨ z34822 < z32244) → (f_R < z34822) → JC l D c H0 sa μ34823 → PK μ34823 → (70 - ((2 * z34822) + z34821)) < (nL34824 : Int) → sV (gG l D c H0 sa) mX12_through (sRm 6 0 0) (sZ (gG l D c H0 sa) 0 0 (qI w [106026, 106027, 106028, 106029, 106030, 106031, 126999, 151999, 152999, 153999] μ (fun z μ1 => ∃ o_x : Int, μ1 126 ((40 * p2).toNat) = o_x ∧ (0 ≤ z ∧ z ≤ 1) ∧ mG [(((40 * p2) + 1), ((40 * p2) + 40))] μ μ1 ∧ JC l D c H0 sa μ1 ∧ (o_x = f_x) ∧ True))) 100 [(0, .ref 106), (2, iv p2), (3, iv p3), (4, iv p4), (5, iv z32215), (6, iv z32214), (7, iv (z32215 - 1)), (8, iv z32237), (9, iv z34822), (10, iv z34821)] [] (mk w μ34823) 0 0 := by
          intro nL34824
          induction nL34824 with
          | zero => intro z34822 z34821 μ34823 T34827 F34828 h34825 h34826 h34830 h34831 I34832 I34833 h34834; exact ((vc_X12_through_u_105 h34834 h34830 h34831 h32250 h32250.1 h32220 h34099 h32246 h34826 h34825)).elim
          | succ nL34824 ih34835 =>
            intro z34822 z34821 μ34823 T34827 F34828 h34825 h34826 h34830 h34831 I34832 I34833 h34834
            refine mr_iload (pc := 100) (z := z34822) dX12_through_100 rfl ?_
            refine sv_aload_n (pc := 102) dX12_through_102 rfl rfl ?_
            refine gf_X12_40 (pc := 103) dX12_through_103 wF_X12_358 (A_106 hw) T34827 ?_
            refine mr_iload (pc := 106) (z := z32237) dX12_through_106 rfl ?_
            refine lk_127 (pc := 108) dX12_through_108 (A_127 hw) (rIx (n := 13) h32239 rfl) (F34828.f (A_127 hw) rfl q32245) ?_
            have J34877 : sV (gG l D c H0 sa) mX12_through (sRm 6 0 0) (sZ (gG l D c H0 sa) 0 0 (qI w [106026, 106027, 106028, 106029, 106030, 106031, 126999, 151999, 152999, 153999] μ (fun z μ1 => ∃ o_x : Int, μ1 126 ((40 * p2).toNat) = o_x ∧ (0 ≤ z ∧ z ≤ 1) ∧ mG [(((40 * p2) + 1), ((40 * p2) + 40))] μ μ1 ∧ JC l D c H0 sa μ1 ∧ (o_x = f_x) ∧ True))) 198 [(0, .ref 106), (2, iv p2), (3, iv p3), (4, iv p4), (5, iv z32215), (6, iv z32214), (7, iv (z32215 - 1)), (8, iv z32237), (9, iv z34822), (10, iv z34821)] [] (mk w μ34823) 0 0 := by
              refine mr_iload (pc := 198) (z := z34821) dX12_through_198 rfl ?_
              refine mr_if_ne (pc := 200) (tgt := 209) dX12_through_200 (by decide) (r32 h34826 rfl) (fun h34878 => ?_) (fun h34878 => ?_)
              · have h34879 : 1 ≤ z34821 ∧ z34821 ≤ 1 := (vc_X12_through_u_106 h34878 h34830 h32246 h34826 h34825)
                refine sv_aload_n (pc := 209) dX12_through_209 rfl rfl ?_
                refine gf_X12_68 (pc := 210) dX12_through_210 wF_X12_391 (A_106 hw) T34827 ?_
                refine mr_iload (pc := 213) (z := (z32215 - 1)) dX12_through_213 rfl ?_
                refine mr_iload (pc := 215) (z := z34822) dX12_through_215 rfl ?_
                refine ss_152 (pc := 217) dX12_through_217 (A_152 hw) T34827 (rIx (n := 14) (rSub (e := 0) (f := 11) h32236 (rR (x := 1)) rfl) rfl) (rW (c := (-1)) (d := 30) h34825 rfl) fun μ34880 u34881 T34882 => ?_
                refine sv_aload_n (pc := 218) dX12_through_218 rfl rfl ?_
                refine gf_X12_69 (pc := 219) dX12_through_219 wF_X12_394 (A_106 hw) T34882 ?_
                refine mr_iload (pc := 222) (z := (z32215 - 1)) dX12_through_222 rfl ?_
                refine sv_aload_n (pc := 224) dX12_through_224 rfl rfl ?_
                refine gf_X12_42 (pc := 225) dX12_through_225 wF_X12_364 (A_106 hw) T34882 ?_
                refine mr_bipush (pc := 228) (z := 31) dX12_through_228 (by decide) ?_
                refine mr_iload (pc := 230) (z := z32237) dX12_through_230 rfl ?_
                refine mr_imul (pc := 232) (x := 31) (y := z32237) dX12_through_232 ?_
                refine mr_iload (pc := 233) (z := z34822) dX12_through_233 rfl ?_
                refine mr_iadd (pc := 235) (x := (31 * z32237)) (y := z34822) dX12_through_235 ?_
                refine la_129 (pc := 236) dX12_through_236 (A_129 hw) T34882 (rIx (n := 403) (rAdd (e := 1) (f := 371) (rMulL (n := 31) (e := 0) (f := 341) h32239 rfl) h34825 rfl) rfl) fun z34883 q34884 h34885 => ?_
                refine ss_153 (pc := 237) dX12_through_237 (A_153 hw) T34882 (rIx (n := 14) (rSub (e := 0) (f := 11) h32236 (rR (x := 1)) rfl) rfl) h34885 fun μ34886 u34887 T34888 => ?_
                have I34889 : lvOK μ34886 z32215 := lvOK.row (lvOK.keep R32227 hw ((mF.call mF.refl F34828 rfl) : mF [106026, 106027, 106028, 106029, 106030, 106031] w μ32216 _) rfl) (PK.keep I34833 hw ((mF.up (mF.up mF.refl (A_152 hw) u34881 rfl) (A_153 hw) u34887 rfl) : mF [152999, 153999] w μ34823 μ34886) rfl) (vc_X12_through_u_15 h32234 h32240 hq3 ht_f_pol hp1 h32236 h32239) u34881 u34887 (u34887.f (Or.inl (mAt.ne (A_153 hw) (A_151 hw) rfl)) (u34881.f (Or.inl (mAt.ne (A_152 hw) (A_151 hw) rfl)) (F34828.f (A_151 hw) rfl q32238))) (vc_X12_through_u_22 hq3 h32240 h17804 h32234 ht_f_pol hp1 h32236 h32239) (u34887.f (Or.inl (mAt.ne (A_153 hw) (A_106 hw) rfl)) (u34881.f (Or.inl (mAt.ne (A_152 hw) (A_106 hw) rfl)) (F34828.f (A_106 hw) rfl (F32222.f (A_106 hw) rfl (u17812.f (Or.inl (mAt.ne (A_153 hw) (A_106 hw) rfl)) (u17809.f (Or.inl (mAt.ne (A_152 hw) (A_106 hw) rfl)) (u17806.f (Or.inl (mAt.ne (A_151 hw) (A_106 hw) rfl)) q_f_pol))))))) (vc_X12_through_u_107 h32250 h32250.1 h34830 h34831 h32252 h34878 h32220 h34099 h32246 h34879 h34825) (u34887.f (Or.inl (mAt.ne (A_153 hw) (A_127 hw) rfl)) (u34881.f (Or.inl (mAt.ne (A_152 hw) (A_127 hw) rfl)) (F34828.f (A_127 hw) rfl q32245))) (vc_X12_through_u_108 h32240 h34830 h34831 hq3 h32234 h32250 h32250.1 h34878 h32220 ht_f_pol hp1 h32236 h32239 h34099 h32246 h34879 h34825) (u34887.f (Or.inl (mAt.ne (A_153 hw) (A_129 hw) rfl)) q34884)
                refine sv_goto (pc := 238) (tgt := 35) dX12_through_238 (by decide) ?_
                refine mr_lvS (lv' := [(0, .ref 106), (2, iv p2), (3, iv p3), (4, iv p4), (5, iv z32215), (6, iv z32214)]) (List.forall_mem_cons.mpr ⟨rfl, List.forall_mem_cons.mpr ⟨rfl, List.forall_mem_cons.mpr ⟨rfl, List.forall_mem_cons.mpr ⟨rfl, List.forall_mem_cons.mpr ⟨rfl, List.forall_mem_cons.mpr ⟨rfl, fun _ h => absurd h List.not_mem_nil⟩⟩⟩⟩⟩⟩) ?_
                exact ih32231 z32215 z32214 z34822 μ34886 f_y T34888 (mF.up (mF.up (mF.call (mF.call mF.refl F32222 rfl) F34828 rfl) (A_152 hw) u34881 rfl) (A_153 hw) u34887 rfl) (mG.upO (mG.upO (mG.fr (mG.call mG.refl G32223 (List.forall_mem_cons.mpr ⟨⟨_, List.mem_cons_self, (vc_X12_through_u_11 hp2)⟩, (fun _ h => absurd h List.not_mem_nil)⟩)) F34828 (A_126 hw) rfl) u34881 rfl) u34887 rfl) (u34887.f (Or.inl (mAt.ne (A_153 hw) (A_126 hw) rfl)) (u34881.f (Or.inl (mAt.ne (A_152 hw) (A_126 hw) rfl)) (F34828.f (A_126 hw) rfl q32230))) (rW (c := 0) (d := 12) h32236 rfl) h32219 (rW (c := (-1)) (d := 30) h34825 rfl) (vc_X12_through_u_12 hq2 h32224 h3 h32233) (JC.keep I34832 hw ((mF.up (mF.up mF.refl (A_152 hw) u34881 rfl) (A_153 hw) u34887 rfl) : mF [152999, 153999] w μ34823 μ34886) rfl rfl) (PK.keep I34833 hw ((mF.up (mF.up mF.refl (A_152 hw) u34881 rfl) (A_153 hw) u34887 rfl) : mF [152999, 153999] w μ34823 μ34886) rfl) (lvOK.pred I34889 (vc_X12_through_u_26 h32234 h32240 hq3 ht_f_pol hp1 h32236 h32239)) (Or.inr (u34887.f (Or.inl (mAt.ne (A_153 hw) (A_152 hw) rfl)) u34881.1)) (vc_X12_through_u_109 (nS h32229) h32234 h32240 h32250 h34830 h34831 hq3 h32250.1 h32252 h34878 h32220 ht_f_pol hp1 h32219 h32236 h32239 h34099 h32246 h34879 h34825)
              have h34890 : 0 ≤ z34821 ∧ z34821 ≤ 0 := (vc_X12_through_u_110 h34878 h34830 h32246 h34826 h34825)
              refine mr_iinc (pc := 203) (lv' := [(5, iv (z32215 + (-1))), (0, .ref 106), (2, iv p2), (3, iv p3), (4, iv p4), (6, iv z32214), (7, iv (z32215 - 1)), (8, iv z32237), (9, iv z34822), (10, iv z34821)]) dX12_through_203 rfl (by decide) rfl ?_
              by_cases h34891 : (z32215 + (-1)) = 0
              · have h34892 : 1 ≤ z32215 ∧ z32215 ≤ 1 := (vc_X12_through_u_28 h34891 h32234 h32240 ht_f_pol h32236 h32239)
                refine sv_goto (pc := 206) (tgt := 35) dX12_through_206 (by decide) ?_
                refine mr_lvS (lv' := [(0, .ref 106), (2, iv p2), (3, iv p3), (4, iv p4), (5, iv (z32215 + (-1))), (6, iv z32214)]) (List.forall_mem_cons.mpr ⟨rfl, List.forall_mem_cons.mpr ⟨rfl, List.forall_mem_cons.mpr ⟨rfl, List.forall_mem_cons.mpr ⟨rfl, List.forall_mem_cons.mpr ⟨rfl, List.forall_mem_cons.mpr ⟨rfl, fun _ h => absurd h List.not_mem_nil⟩⟩⟩⟩⟩⟩) ?_
                exact ih32231 (z32215 + (-1)) z32214 0 μ34823 f_y T34827 (mF.call (mF.call mF.refl F32222 rfl) F34828 rfl) (mG.fr (mG.call mG.refl G32223 (List.forall_mem_cons.mpr ⟨⟨_, List.mem_cons_self, (vc_X12_through_u_11 hp2)⟩, (fun _ h => absurd h List.not_mem_nil)⟩)) F34828 (A_126 hw) rfl) (F34828.f (A_126 hw) rfl q32230) (rW (c := 0) (d := 12) (rAdd (e := 0) (f := 0) h34892 (rR (x := (-1))) rfl) rfl) h32219 (rW (c := (-1)) (d := 30) (rR (x := 0)) rfl) (vc_X12_through_u_12 hq2 h32224 h3 h32233) I34832 I34833 (lvOK.pred (lvOK.keep R32227 hw ((mF.call mF.refl F34828 rfl) : mF [106026, 106027, 106028, 106029, 106030, 106031] w μ32216 μ34823) rfl) (vc_X12_through_u_30 h32234 h32240 h34891 hq3 ht_f_pol hp1 h34892 h32239)) (Or.inl (vc_X12_through_u_31 h32234 h32240 h34891 hq3 ht_f_pol hp1 h34892 h32239)) (vc_X12_through_u_111 (nS h32229) h32234 h32240 h32250 h34831 h34891 hq3 h32250.1 h32252 h34830 h32220 ht_f_pol hp1 h32219 h34892 h32239 h34099 h32246 h34890 h34825)
              have h34893 : 2 ≤ z32215 ∧ z32215 ≤ 12 := (vc_X12_through_u_32 h34891 h32234 h32240 ht_f_pol h32236 h32239)
              refine sv_goto (pc := 206) (tgt := 35) dX12_through_206 (by decide) ?_
              obtain ⟨z34894, q34895⟩ : ∃ z, μ34823 152 (((z32215 + (-1)) - 1).toNat) = z := ⟨_, rfl⟩
              have h34896 : ((-1) ≤ z34894 ∧ z34894 ≤ 30) := by rw [← q34895]; exact T34827 152 152 (A_152 hw) (((z32215 + (-1)) - 1).toNat)
              refine mr_lvS (lv' := [(0, .ref 106), (2, iv p2), (3, iv p3), (4, iv p4), (5, iv (z32215 + (-1))), (6, iv z32214)]) (List.forall_mem_cons.mpr ⟨rfl, List.forall_mem_cons.mpr ⟨rfl, List.forall_mem_cons.mpr ⟨rfl, List.forall_mem_cons.mpr ⟨rfl, List.forall_mem_cons.mpr ⟨rfl, List.forall_mem_cons.mpr ⟨rfl, fun _ h => absurd h List.not_mem_nil⟩⟩⟩⟩⟩⟩) ?_
              exact ih32231 (z32215 + (-1)) z32214 z34894 μ34823 f_y T34827 (mF.call (mF.call mF.refl F32222 rfl) F34828 rfl) (mG.fr (mG.call mG.refl G32223 (List.forall_mem_cons.mpr ⟨⟨_, List.mem_cons_self, (vc_X12_through_u_11 hp2)⟩, (fun _ h => absurd h List.not_mem_nil)⟩)) F34828 (A_126 hw) rfl) (F34828.f (A_126 hw) rfl q32230) (rW (c := 0) (d := 12) (rAdd (e := 1) (f := 11) h34893 (rR (x := (-1))) rfl) rfl) h32219 h34896 (vc_X12_through_u_12 hq2 h32224 h3 h32233) I34832 I34833 (lvOK.pred (lvOK.keep R32227 hw ((mF.call mF.refl F34828 rfl) : mF [106026, 106027, 106028, 106029, 106030, 106031] w μ32216 μ34823) rfl) (vc_X12_through_u_34 h32234 h32240 h34891 hq3 ht_f_pol hp1 h34893 h32239)) (Or.inr q34895) (vc_X12_through_u_112 (nS h32229) h32234 h32240 h32250 h34831 h34891 hq3 h32250.1 h32252 h34830 h32220 ht_f_pol hp1 h32219 h34893 h32239 h34099 h32246 h34890 h34825 h34896)
            refine mr_icmp_ge (pc := 109) (tgt := 198) dX12_through_109 (by decide) (r32 h34825 rfl) (r32 h32246 rfl) (fun h34897 => ?_) (fun h34897 => ?_)
            · exact J34877 
            have h34898 : 1 ≤ z34822 ∧ z34822 ≤ 29 := (vc_X12_through_u_113 h34897 h32250 h32250.1 h34830 h34831 h32220 h34099 h32246 h34826 h34825)
            have h34899 : 2 ≤ z32244 ∧ z32244 ≤ 30 := (vc_X12_through_u_114 h34897 h32250 h32250.1 h34830 h34831 h32220 h34099 h32246 h34826 h34898)
            refine mr_iload (pc := 112) (z := z34821) dX12_through_112 rfl ?_
            refine mr_if_ne (pc := 114) (tgt := 198) dX12_through_114 (by decide) (r32 h34826 rfl) (fun h34900 => ?_) (fun h34900 => ?_)
            · have h34901 : 1 ≤ z34821 ∧ z34821 ≤ 1 := (vc_X12_through_u_115 h34900 h34830 h34899 h34826 h34898)
              exact J34877 
            have h34902 : 0 ≤ z34821 ∧ z34821 ≤ 0 := (vc_X12_through_u_116 h34900 h34830 h34899 h34826 h34898)
            refine mr_iconst (pc := 117) (z := 1) dX12_through_117 ?_
            refine mr_istore (pc := 118) (lv' := [(10, iv 1), (0, .ref 106), (2, iv p2), (3, iv p3), (4, iv p4), (5, iv z32215), (6, iv z32214), (7, iv (z32215 - 1)), (8, iv z32237), (9, iv z34822)]) dX12_through_118 (by decide) rfl ?_
            refine sv_aload_n (pc := 120) dX12_through_120 rfl rfl ?_
            refine gf_X12_41 (pc := 121) dX12_through_121 wF_X12_361 (A_106 hw) T34827 ?_
            refine mr_bipush (pc := 124) (z := 31) dX12_through_124 (by decide) ?_
            refine mr_iload (pc := 126) (z := z32237) dX12_through_126 rfl ?_
            refine mr_imul (pc := 128) (x := 31) (y := z32237) dX12_through_128 ?_
            refine mr_iload (pc := 129) (z := z34822) dX12_through_129 rfl ?_
            refine mr_iadd (pc := 131) (x := (31 * z32237)) (y := z34822) dX12_through_131 ?_
            refine la_128 (pc := 132) dX12_through_132 (A_128 hw) T34827 (rIx (n := 403) (rAdd (e := 1) (f := 370) (rMulL (n := 31) (e := 0) (f := 341) h32239 rfl) h34898 rfl) rfl) fun z34903 q34904 h34905 => ?_
            refine mr_istore (pc := 133) (lv' := [(11, iv z34903), (10, iv 1), (0, .ref 106), (2, iv p2), (3, iv p3), (4, iv p4), (5, iv z32215), (6, iv z32214), (7, iv (z32215 - 1)), (8, iv z32237), (9, iv z34822)]) dX12_through_133 (by decide) rfl ?_
            have L34956 : ∀ (nL34956 : Nat) (z34954 z34953 : Int) (μ34955 : mM), mT w μ34955 → mF [106026, 106027, 106028, 106029, 106030, 106031] w μ34823 μ34955 → (0 ≤ z34954 ∧ z34954 ≤ 1) → (0 ≤ z34953 ∧ z34953 ≤ 300) → JC l D c H0 sa μ34955 → PK μ34955 → (301 - z34953) < (nL34956 : Int) → sV (gG l D c H0 sa) mX12_through (sRm 6 0 0) (sZ (gG l D c H0 sa) 0 0 (qI w [106026, 106027, 106028, 106029, 106030, 106031, 126999, 151999, 152999, 153999] μ (fun z μ1 => ∃ o_x : Int, μ1 126 ((40 * p2).toNat) = o_x ∧ (0 ≤ z ∧ z ≤ 1) ∧ mG [(((40 * p2) + 1), ((40 * p2) + 40))] μ μ1 ∧ JC l D c H0 sa μ1 ∧ (o_x = f_x) ∧ True))) 135 [(0, .ref 106), (2, iv p2), (3, iv p3), (4, iv p4), (5, iv z32215), (6, iv z32214), (7, iv (z32215 - 1)), (8, iv z32237), (9, iv z34822), (10, iv z34954), (11, iv z34953)] [] (mk w μ34955) 0 0 := by
              intro nL34956
              induction nL34956 with
              | zero => intro z34954 z34953 μ34955 T34959 F34960 h34957 h34958 I34962 I34963 h34964; exact ((vc_X12_through_u_117 h34964 h34958)).elim
              | succ nL34956 ih34965 =>
                intro z34954 z34953 μ34955 T34959 F34960 h34957 h34958 I34962 I34963 h34964
                refine mr_iload (pc := 135) (z := z34953) dX12_through_135 rfl ?_
                refine sv_aload_n (pc := 137) dX12_through_137 rfl rfl ?_
                refine gf_X12_41 (pc := 138) dX12_through_138 wF_X12_361 (A_106 hw) T34959 ?_
                refine mr_bipush (pc := 141) (z := 31) dX12_through_141 (by decide) ?_
                refine mr_iload (pc := 143) (z := z32237) dX12_through_143 rfl ?_
                refine mr_imul (pc := 145) (x := 31) (y := z32237) dX12_through_145 ?_
                refine mr_iload (pc := 146) (z := z34822) dX12_through_146 rfl ?_
                refine mr_iadd (pc := 148) (x := (31 * z32237)) (y := z34822) dX12_through_148 ?_
                refine mr_iconst (pc := 149) (z := 1) dX12_through_149 ?_
                refine mr_iadd (pc := 150) (x := ((31 * z32237) + z34822)) (y := 1) dX12_through_150 ?_
                refine la_128 (pc := 151) dX12_through_151 (A_128 hw) T34959 (rIx (n := 403) (rAdd (e := 2) (f := 371) (rAdd (e := 1) (f := 370) (rMulL (n := 31) (e := 0) (f := 341) h32239 rfl) h34898 rfl) (rR (x := 1)) rfl) rfl) fun z34966 q34967 h34968 => ?_
                refine mr_icmp_ge (pc := 152) (tgt := 187) dX12_through_152 (by decide) (r32 h34958 rfl) (r32 h34968 rfl) (fun h34978 => ?_) (fun h34978 => ?_)
                · refine mr_iload (pc := 187) (z := z34954) dX12_through_187 rfl ?_
                  refine mr_if_ne (pc := 189) (tgt := 100) dX12_through_189 (by decide) (r32 h34957 rfl) (fun h34979 => ?_) (fun h34979 => ?_)
                  · have h34980 : 1 ≤ z34954 ∧ z34954 ≤ 1 := (vc_X12_through_u_118 h34979 h34957)
                    refine mr_lvS (lv' := [(0, .ref 106), (2, iv p2), (3, iv p3), (4, iv p4), (5, iv z32215), (6, iv z32214), (7, iv (z32215 - 1)), (8, iv z32237), (9, iv z34822), (10, iv z34954)]) (List.forall_mem_cons.mpr ⟨rfl, List.forall_mem_cons.mpr ⟨rfl, List.forall_mem_cons.mpr ⟨rfl, List.forall_mem_cons.mpr ⟨rfl, List.forall_mem_cons.mpr ⟨rfl, List.forall_mem_cons.mpr ⟨rfl, List.forall_mem_cons.mpr ⟨rfl, List.forall_mem_cons.mpr ⟨rfl, List.forall_mem_cons.mpr ⟨rfl, List.forall_mem_cons.mpr ⟨rfl, fun _ h => absurd h List.not_mem_nil⟩⟩⟩⟩⟩⟩⟩⟩⟩⟩) ?_
                    exact ih34835 z34822 z34954 μ34955 T34959 (mF.call (mF.call mF.refl F34828 rfl) F34960 rfl) (rW (c := 1) (d := 30) h34898 rfl) (rW (c := 0) (d := 1) h34980 rfl) (vc_X12_through_u_119 h32250 h32250.1 h34830 h34831 h34897 h34979 h32252 h34900 h32220 h34099 h34899 h34902 h34898 h34980) (vc_X12_through_u_120 h32250 h34830 h34831 h34897 h32250.1 h32252 h34900 h32220 h34099 h34899 h34902 h34898) I34962 I34963 (vc_X12_through_u_121 (nS h34834) h34830 h34831 h34897 h34900 h34979 h32250 h32250.1 h32220 h34099 h34899 h34902 h34898 h34980)
                  have h34981 : 0 ≤ z34954 ∧ z34954 ≤ 0 := (vc_X12_through_u_122 h34979 h34957)
                  refine mr_iinc (pc := 192) (lv' := [(9, iv (z34822 + 1)), (0, .ref 106), (2, iv p2), (3, iv p3), (4, iv p4), (5, iv z32215), (6, iv z32214), (7, iv (z32215 - 1)), (8, iv z32237), (10, iv z34954), (11, iv z34953)]) dX12_through_192 rfl (by decide) rfl ?_
                  refine sv_goto (pc := 195) (tgt := 100) dX12_through_195 (by decide) ?_
                  refine mr_lvS (lv' := [(0, .ref 106), (2, iv p2), (3, iv p3), (4, iv p4), (5, iv z32215), (6, iv z32214), (7, iv (z32215 - 1)), (8, iv z32237), (9, iv (z34822 + 1)), (10, iv z34954)]) (List.forall_mem_cons.mpr ⟨rfl, List.forall_mem_cons.mpr ⟨rfl, List.forall_mem_cons.mpr ⟨rfl, List.forall_mem_cons.mpr ⟨rfl, List.forall_mem_cons.mpr ⟨rfl, List.forall_mem_cons.mpr ⟨rfl, List.forall_mem_cons.mpr ⟨rfl, List.forall_mem_cons.mpr ⟨rfl, List.forall_mem_cons.mpr ⟨rfl, List.forall_mem_cons.mpr ⟨rfl, fun _ h => absurd h List.not_mem_nil⟩⟩⟩⟩⟩⟩⟩⟩⟩⟩) ?_
                  exact ih34835 (z34822 + 1) z34954 μ34955 T34959 (mF.call (mF.call mF.refl F34828 rfl) F34960 rfl) (rW (c := 1) (d := 30) (rAdd (e := 2) (f := 30) h34898 (rR (x := 1)) rfl) rfl) (rW (c := 0) (d := 1) h34981 rfl) (vc_X12_through_u_123 h32250 h32250.1 h34830 h34831 h34897 h34979 h32252 h34900 h32220 h34099 h34899 h34902 h34898 h34981) (vc_X12_through_u_124 h32250 h34830 h34831 h34897 h32250.1 h32252 h34900 h32220 h34099 h34899 h34902 h34898) I34962 I34963 (vc_X12_through_u_125 (nS h34834) h34830 h34831 h34897 h34900 h34979 h32250 h32250.1 h32220 h34099 h34899 h34902 h34898 h34981)
                have h34982 : 0 ≤ z34953 ∧ z34953 ≤ 299 := (vc_X12_through_u_126 h34978 h34958 h34968)
                have h34983 : 1 ≤ z34966 ∧ z34966 ≤ 300 := (vc_X12_through_u_127 h34978 h34982 h34968)
                refine mr_iload (pc := 155) (z := z34954) dX12_through_155 rfl ?_
                refine mr_if_eq (pc := 157) (tgt := 187) dX12_through_157 (by decide) (r32 h34957 rfl) (fun h34991 => ?_) (fun h34991 => ?_)
                · have h34992 : 0 ≤ z34954 ∧ z34954 ≤ 0 := (vc_X12_through_u_122 h34991 h34957)
                  refine mr_iload (pc := 187) (z := z34954) dX12_through_187 rfl ?_
                  refine mr_if_ne (pc := 189) (tgt := 100) dX12_through_189 (by decide) (r32 h34992 rfl) (fun h => ((vc_X12_through_u_128 h h34992)).elim) (fun _ => ?_)
                  refine mr_iinc (pc := 192) (lv' := [(9, iv (z34822 + 1)), (0, .ref 106), (2, iv p2), (3, iv p3), (4, iv p4), (5, iv z32215), (6, iv z32214), (7, iv (z32215 - 1)), (8, iv z32237), (10, iv z34954), (11, iv z34953)]) dX12_through_192 rfl (by decide) rfl ?_
                  refine sv_goto (pc := 195) (tgt := 100) dX12_through_195 (by decide) ?_
                  refine mr_lvS (lv' := [(0, .ref 106), (2, iv p2), (3, iv p3), (4, iv p4), (5, iv z32215), (6, iv z32214), (7, iv (z32215 - 1)), (8, iv z32237), (9, iv (z34822 + 1)), (10, iv z34954)]) (List.forall_mem_cons.mpr ⟨rfl, List.forall_mem_cons.mpr ⟨rfl, List.forall_mem_cons.mpr ⟨rfl, List.forall_mem_cons.mpr ⟨rfl, List.forall_mem_cons.mpr ⟨rfl, List.forall_mem_cons.mpr ⟨rfl, List.forall_mem_cons.mpr ⟨rfl, List.forall_mem_cons.mpr ⟨rfl, List.forall_mem_cons.mpr ⟨rfl, List.forall_mem_cons.mpr ⟨rfl, fun _ h => absurd h List.not_mem_nil⟩⟩⟩⟩⟩⟩⟩⟩⟩⟩) ?_
                  exact ih34835 (z34822 + 1) z34954 μ34955 T34959 (mF.call (mF.call mF.refl F34828 rfl) F34960 rfl) (rW (c := 1) (d := 30) (rAdd (e := 2) (f := 30) h34898 (rR (x := 1)) rfl) rfl) (rW (c := 0) (d := 1) h34992 rfl) (vc_X12_through_u_123 h32250 h32250.1 h34830 h34831 h34897 h34991 h32252 h34900 h32220 h34099 h34899 h34902 h34898 h34992) (vc_X12_through_u_124 h32250 h34830 h34831 h34897 h32250.1 h32252 h34900 h32220 h34099 h34899 h34902 h34898) I34962 I34963 (vc_X12_through_u_125 (nS h34834) h34830 h34831 h34897 h34900 h34991 h32250 h32250.1 h32220 h34099 h34899 h34902 h34898 h34992)
                have h34993 : 1 ≤ z34954 ∧ z34954 ≤ 1 := (vc_X12_through_u_118 h34991 h34957)
                refine sv_aload_n (pc := 160) dX12_through_160 rfl rfl ?_
                refine mr_iload (pc := 161) (z := z32237) dX12_through_161 rfl ?_
                refine mr_sipush (pc := 163) (z := 300) dX12_through_163 (by decide) ?_
                refine mr_iload (pc := 166) (z := z32237) dX12_through_166 rfl ?_
                refine mr_imul (pc := 168) (x := 300) (y := z32237) dX12_through_168 ?_
                refine mr_iload (pc := 169) (z := z34953) dX12_through_169 rfl ?_
                refine mr_iadd (pc := 171) (x := (300 * z32237)) (y := z34953) dX12_through_171 ?_
                refine mr_iload_n (pc := 172) (z := p2) dX12_through_172 rfl rfl ?_
                refine mr_iload_n (pc := 173) (z := p3) dX12_through_173 rfl rfl ?_
                refine mr_iload (pc := 174) (z := p4) dX12_through_174 rfl ?_
                refine mr_cVI (pc := 176) (c_X12_isSo_u hw T34959 h32239 (rW (c := 0) (d := 3899) (rAdd (e := 0) (f := 3599) (rMulL (n := 300) (e := 0) (f := 3300) h32239 rfl) h34982 rfl) rfl) hp2 hp3 hp4 hg1 (F34960.f (A_110 hw) rfl (F34828.f (A_110 hw) rfl (F32222.f (A_110 hw) rfl (u17812.f (Or.inl (mAt.ne (A_153 hw) (A_110 hw) rfl)) (u17809.f (Or.inl (mAt.ne (A_152 hw) (A_110 hw) rfl)) (u17806.f (Or.inl (mAt.ne (A_151 hw) (A_110 hw) rfl)) q_f_e0)))))) (F34960.f (A_110 hw) rfl (F34828.f (A_110 hw) rfl (F32222.f (A_110 hw) rfl (u17812.f (Or.inl (mAt.ne (A_153 hw) (A_110 hw) rfl)) (u17809.f (Or.inl (mAt.ne (A_152 hw) (A_110 hw) rfl)) (u17806.f (Or.inl (mAt.ne (A_151 hw) (A_110 hw) rfl)) q_f_e1)))))) (F34960.f (A_106 hw) rfl (F34828.f (A_106 hw) rfl (F32222.f (A_106 hw) rfl (u17812.f (Or.inl (mAt.ne (A_153 hw) (A_106 hw) rfl)) (u17809.f (Or.inl (mAt.ne (A_152 hw) (A_106 hw) rfl)) (u17806.f (Or.inl (mAt.ne (A_151 hw) (A_106 hw) rfl)) q_f_ties)))))) (F34960.f (A_126 hw) rfl (F34828.f (A_126 hw) rfl q32230)) (vc_X12_through_u_51 hq0 h2 hg1) (vc_X12_through_u_52 hq1 ht_f_e0 ht_f_e1 hp3 hp4) (vc_X12_through_u_53 h32224 hq2 h3 h32233) I34962) (gOk _ _ _ _ _) dX12_through_176 (tX12_isSo _ _ _ _ _) ⟨wV_X12_isSo, wL_X12_isSo⟩ wM_X12_397 (gCX12 _ _ _ _ _) rfl (A_106 hw) rfl ⟨le_t rfl, le_t rfl⟩ ⟨le_t rfl, le_t rfl⟩ rfl (le_t rfl) fun z34998 μ34994 T34995 F34996 h34997 => ?_
                refine mr_istore (pc := 179) (lv' := [(10, iv z34998), (0, .ref 106), (2, iv p2), (3, iv p3), (4, iv p4), (5, iv z32215), (6, iv z32214), (7, iv (z32215 - 1)), (8, iv z32237), (9, iv z34822), (11, iv z34953)]) dX12_through_179 (by decide) rfl ?_
                refine mr_iinc (pc := 181) (lv' := [(11, iv (z34953 + 1)), (10, iv z34998), (0, .ref 106), (2, iv p2), (3, iv p3), (4, iv p4), (5, iv z32215), (6, iv z32214), (7, iv (z32215 - 1)), (8, iv z32237), (9, iv z34822)]) dX12_through_181 rfl (by decide) rfl ?_
                refine sv_goto (pc := 184) (tgt := 135) dX12_through_184 (by decide) ?_
                refine mr_lvS (lv' := [(0, .ref 106), (2, iv p2), (3, iv p3), (4, iv p4), (5, iv z32215), (6, iv z32214), (7, iv (z32215 - 1)), (8, iv z32237), (9, iv z34822), (10, iv z34998), (11, iv (z34953 + 1))]) (List.forall_mem_cons.mpr ⟨rfl, List.forall_mem_cons.mpr ⟨rfl, List.forall_mem_cons.mpr ⟨rfl, List.forall_mem_cons.mpr ⟨rfl, List.forall_mem_cons.mpr ⟨rfl, List.forall_mem_cons.mpr ⟨rfl, List.forall_mem_cons.mpr ⟨rfl, List.forall_mem_cons.mpr ⟨rfl, List.forall_mem_cons.mpr ⟨rfl, List.forall_mem_cons.mpr ⟨rfl, List.forall_mem_cons.mpr ⟨rfl, fun _ h => absurd h List.not_mem_nil⟩⟩⟩⟩⟩⟩⟩⟩⟩⟩⟩) ?_
                exact ih34965 z34998 (z34953 + 1) μ34994 T34995 (mF.call (mF.call mF.refl F34960 rfl) F34996 rfl) h34997.1 (rW (c := 0) (d := 300) (rAdd (e := 1) (f := 300) h34982 (rR (x := 1)) rfl) rfl) h34997.2.1 (PK.keep I34963 hw ((mF.call mF.refl F34996 rfl) : mF [106026, 106027, 106028, 106029, 106030, 106031] w μ34955 μ34994) rfl) (vc_X12_through_u_129 (nS h34964) h34978 h34982 h34983)
            refine mr_lvS (lv' := [(0, .ref 106), (2, iv p2), (3, iv p3), (4, iv p4), (5, iv z32215), (6, iv z32214), (7, iv (z32215 - 1)), (8, iv z32237), (9, iv z34822), (10, iv 1), (11, iv z34903)]) (List.forall_mem_cons.mpr ⟨rfl, List.forall_mem_cons.mpr ⟨rfl, List.forall_mem_cons.mpr ⟨rfl, List.forall_mem_cons.mpr ⟨rfl, List.forall_mem_cons.mpr ⟨rfl, List.forall_mem_cons.mpr ⟨rfl, List.forall_mem_cons.mpr ⟨rfl, List.forall_mem_cons.mpr ⟨rfl, List.forall_mem_cons.mpr ⟨rfl, List.forall_mem_cons.mpr ⟨rfl, List.forall_mem_cons.mpr ⟨rfl, fun _ h => absurd h List.not_mem_nil⟩⟩⟩⟩⟩⟩⟩⟩⟩⟩⟩) ?_
            exact L34956 302 1 z34903 μ34823 T34827 mF.refl (rW (c := 0) (d := 1) (rR (x := 1)) rfl) h34905 I34832 I34833 (vc_X12_through_u_130 h34905)
        refine mr_lvS (lv' := [(0, .ref 106), (2, iv p2), (3, iv p3), (4, iv p4), (5, iv z32215), (6, iv z32214), (7, iv (z32215 - 1)), (8, iv z32237), (9, iv (z32241 + 1)), (10, iv 0)]) (List.forall_mem_cons.mpr ⟨rfl, List.forall_mem_cons.mpr ⟨rfl, List.forall_mem_cons.mpr ⟨rfl, List.forall_mem_cons.mpr ⟨rfl, List.forall_mem_cons.mpr ⟨rfl, List.forall_mem_cons.mpr ⟨rfl, List.forall_mem_cons.mpr ⟨rfl, List.forall_mem_cons.mpr ⟨rfl, List.forall_mem_cons.mpr ⟨rfl, List.forall_mem_cons.mpr ⟨rfl, fun _ h => absurd h List.not_mem_nil⟩⟩⟩⟩⟩⟩⟩⟩⟩⟩) ?_
        exact L34824 69 (z32241 + 1) 0 μ32216 T32221 mF.refl (rAdd (e := 1) (f := 30) h34099 (rR (x := 1)) rfl) (rW (c := 0) (d := 1) (rR (x := 0)) rfl) (vc_X12_through_u_131 h32250 h32250.1 h32252 h32220 h34099 h32246) (vc_X12_through_u_132 h32250 h32250.1 h32252 h32220 h34099 h32246) I32225 I32226 (vc_X12_through_u_133 h32250 h32250.1 h32252 h32220 h34099 h32246)
    refine mr_lvS (lv' := [(0, .ref 106), (2, iv p2), (3, iv p3), (4, iv p4), (5, iv 1), (6, iv 0)]) (List.forall_mem_cons.mpr ⟨rfl, List.forall_mem_cons.mpr ⟨rfl, List.forall_mem_cons.mpr ⟨rfl, List.forall_mem_cons.mpr ⟨rfl, List.forall_mem_cons.mpr ⟨rfl, List.forall_mem_cons.mpr ⟨rfl, fun _ h => absurd h List.not_mem_nil⟩⟩⟩⟩⟩⟩) ?_
    exact L32217 50136 1 0 (-1) μ17811 f_x T17813 mF.refl mG.refl (u17812.f (Or.inl (mAt.ne (A_153 hw) (A_126 hw) rfl)) (u17809.f (Or.inl (mAt.ne (A_152 hw) (A_126 hw) rfl)) (u17806.f (Or.inl (mAt.ne (A_151 hw) (A_126 hw) rfl)) q_f_x))) (rW (c := 0) (d := 12) (rR (x := 1)) rfl) (rW (c := 0) (d := 500) (rR (x := 0)) rfl) (rW (c := (-1)) (d := 30) (rR (x := (-1))) rfl) (vc_X12_through_u_135 hq2 h3) (JC.keep hIJC hw ((mF.up (mF.up (mF.up mF.refl (A_151 hw) u17806 rfl) (A_152 hw) u17809 rfl) (A_153 hw) u17812 rfl) : mF [151999, 152999, 153999] w μ μ17811) rfl rfl) (PK.keep hIPK hw ((mF.up (mF.up (mF.up mF.refl (A_151 hw) u17806 rfl) (A_152 hw) u17809 rfl) (A_153 hw) u17812 rfl) : mF [151999, 152999, 153999] w μ μ17811) rfl) (lvOK.pred I17817 vc_X12_through_u_137) (Or.inr (eqIx vc_X12_through_u_134 (u17812.f (Or.inl (mAt.ne (A_153 hw) (A_152 hw) rfl)) u17809.1))) vc_X12_through_u_136
  have h34999 : (-99999999) ≤ p1 ∧ p1 ≤ (-99999999) := (vc_X12_through_u_138 h17804 hq3 ht_f_pol hp1)
  refine mr_iconst (pc := 6) (z := 1) dX12_through_6 ?_
  exact mr_zret dX12_through_7 rfl (rW (c := 0) (d := 1) (rR (x := 1)) rfl) (le_t rfl) (le_t rfl) hT mF.refl ⟨f_x, q_f_x, (rW (c := 0) (d := 1) (rR (x := 1)) rfl), mG.refl, hIJC, (vc_X12_through_u_135 hq2 h3), trivial⟩
theorem vc_X12_say_u_1 {f_ties p2 : Int} (h0 : p2 < f_ties) (h1 : 0 ≤ f_ties ∧ f_ties ≤ 20) (h2 : 0 ≤ p2 ∧ p2 ≤ 19) : 1 ≤ f_ties ∧ f_ties ≤ 20 := by omega
theorem vc_X12_say_u_2 {f_e0 f_ties p1 p2 p3 z753 z758 : Int} (h0 : z758 = (((20 * p2) + (10 * z753)) + p3)) (h1 : p2 < f_ties) (h2 : (z753 = 0 → f_e0 = p1)) (h3 : (z753 = 1 → ¬ f_e0 = p1)) (h4 : 0 ≤ f_e0 ∧ f_e0 ≤ 9) (h5 : 1 ≤ f_ties ∧ f_ties ≤ 20) (h6 : 0 ≤ p1 ∧ p1 ≤ 9) (h7 : 0 ≤ p2 ∧ p2 ≤ 19) (h8 : 0 ≤ p3 ∧ p3 ≤ 9) (h9 : 0 ≤ z753 ∧ z753 ≤ 1) (h10 : 0 ≤ z758 ∧ z758 ≤ 449) : 0 ≤ z758 ∧ z758 ≤ 399 := by omega
theorem vc_X12_say_u_3  : (0 : Int) ≤ ((40 : Int) * (2 : Int)) := by omega
theorem vc_X12_say_u_4  : (((40 : Int) * (2 : Int)) : Int) % (40 : Int) = (0 : Int) := by omega
theorem vc_X12_say_u_5 {z764 : Int} (h0 : z764 = -1) (h1 : (-1) ≤ z764 ∧ z764 ≤ 9) : (-1) ≤ z764 ∧ z764 ≤ (-1) := by omega
theorem vc_X12_say_u_6 {z771 : Int} (h0 : z771 = -99999999 ∨ z771 = -4 ∨ (0 ≤ z771 ∧ z771 ≤ 19)) : -99999999 ≤ z771 ∧ z771 ≤ 19 := by omega
theorem vc_X12_say_u_7 {f_e0 f_e1 f_ties p1 p2 p3 z753 z758 : Int} (h0 : f_e0 = p1 ∨ f_e1 = p1) (h1 : (z753 = 0 → f_e0 = p1)) (h2 : (z753 = 1 → ¬ f_e0 = p1)) (h3 : z758 = (((20 * p2) + (10 * z753)) + p3)) (h4 : p2 < f_ties) (h5 : 0 ≤ f_e0 ∧ f_e0 ≤ 9) (h6 : 0 ≤ f_e1 ∧ f_e1 ≤ 9) (h7 : 1 ≤ f_ties ∧ f_ties ≤ 20) (h8 : 0 ≤ p1 ∧ p1 ≤ 9) (h9 : 0 ≤ p2 ∧ p2 ≤ 19) (h10 : 0 ≤ p3 ∧ p3 ≤ 9) (h11 : 0 ≤ z753 ∧ z753 ≤ 1) (h12 : 0 ≤ z758 ∧ z758 ≤ 399) : 0 ≤ (40 * (30 + ((10 * p1) + p3))) := by omega
theorem vc_X12_say_u_8 {f_e0 f_e1 f_ties p1 p2 p3 z753 z758 : Int} (h0 : f_e0 = p1 ∨ f_e1 = p1) (h1 : (z753 = 0 → f_e0 = p1)) (h2 : (z753 = 1 → ¬ f_e0 = p1)) (h3 : z758 = (((20 * p2) + (10 * z753)) + p3)) (h4 : p2 < f_ties) (h5 : 0 ≤ f_e0 ∧ f_e0 ≤ 9) (h6 : 0 ≤ f_e1 ∧ f_e1 ≤ 9) (h7 : 1 ≤ f_ties ∧ f_ties ≤ 20) (h8 : 0 ≤ p1 ∧ p1 ≤ 9) (h9 : 0 ≤ p2 ∧ p2 ≤ 19) (h10 : 0 ≤ p3 ∧ p3 ≤ 9) (h11 : 0 ≤ z753 ∧ z753 ≤ 1) (h12 : 0 ≤ z758 ∧ z758 ≤ 399) : (40 * (30 + ((10 * p1) + p3))) % 40 = 0 := by omega
theorem vc_X12_say_u_9  : ((40 : Int) * (2 : Int)) ≤ ((40 : Int) * (2 : Int)) ∧ (((40 : Int) * (2 : Int)) + (1 : Int)) ≤ (((40 : Int) * (2 : Int)) + (1 : Int)) := by omega
theorem vc_X12_say_u_10  : ((1 : Int) ≤ (((40 : Int) * (2 : Int)) : Int) ∧ ((((40 : Int) * (2 : Int)) + (1 : Int)) : Int) ≤ (1200 : Int)) ∨ (5200 : Int) ≤ (((40 : Int) * (2 : Int)) : Int) := by omega
theorem vc_X12_say_u_11 {f_e0 f_e1 f_ties p1 p2 p3 z753 z758 : Int} (h0 : f_e0 = p1 ∨ f_e1 = p1) (h1 : (z753 = 0 → f_e0 = p1)) (h2 : (z753 = 1 → ¬ f_e0 = p1)) (h3 : z758 = (((20 * p2) + (10 * z753)) + p3)) (h4 : p2 < f_ties) (h5 : 0 ≤ f_e0 ∧ f_e0 ≤ 9) (h6 : 0 ≤ f_e1 ∧ f_e1 ≤ 9) (h7 : 1 ≤ f_ties ∧ f_ties ≤ 20) (h8 : 0 ≤ p1 ∧ p1 ≤ 9) (h9 : 0 ≤ p2 ∧ p2 ≤ 19) (h10 : 0 ≤ p3 ∧ p3 ≤ 9) (h11 : 0 ≤ z753 ∧ z753 ≤ 1) (h12 : 0 ≤ z758 ∧ z758 ≤ 399) : (40 * (30 + ((10 * p1) + p3))) = 1200 + 40 * ((10 * p1) + p3) := by omega
theorem vc_X12_say_u_12 {z867 : Int} (h0 : z867 = 0) (h1 : 0 ≤ z867 ∧ z867 ≤ 1) : 0 ≤ z867 ∧ z867 ≤ 0 := by omega
theorem vc_X12_say_u_13 {z870 : Int} (h0 : z870 = 0) (h1 : 0 ≤ z870 ∧ z870 ≤ 1) : 0 ≤ z870 ∧ z870 ≤ 0 := by omega
theorem vc_X12_say_u_14 {f_e0 f_ties p1 p2 p3 z753 z758 : Int} (h0 : z758 = (((20 * p2) + (10 * z753)) + p3)) (h1 : p2 < f_ties) (h2 : (z753 = 0 → f_e0 = p1)) (h3 : (z753 = 1 → ¬ f_e0 = p1)) (h4 : 0 ≤ f_e0 ∧ f_e0 ≤ 9) (h5 : 1 ≤ f_ties ∧ f_ties ≤ 20) (h6 : 0 ≤ p1 ∧ p1 ≤ 9) (h7 : 0 ≤ p2 ∧ p2 ≤ 19) (h8 : 0 ≤ p3 ∧ p3 ≤ 9) (h9 : 0 ≤ z753 ∧ z753 ≤ 1) (h10 : 0 ≤ z758 ∧ z758 ≤ 399) : (2 : Int) < (530 + z758) ∨ (530 + z758) < (2 : Int) := by omega
theorem vc_X12_say_u_15 {f_e0 f_ties p1 p2 p3 z753 z758 : Int} (h0 : z758 = (((20 * p2) + (10 * z753)) + p3)) (h1 : p2 < f_ties) (h2 : (z753 = 0 → f_e0 = p1)) (h3 : (z753 = 1 → ¬ f_e0 = p1)) (h4 : 0 ≤ f_e0 ∧ f_e0 ≤ 9) (h5 : 1 ≤ f_ties ∧ f_ties ≤ 20) (h6 : 0 ≤ p1 ∧ p1 ≤ 9) (h7 : 0 ≤ p2 ∧ p2 ≤ 19) (h8 : 0 ≤ p3 ∧ p3 ≤ 9) (h9 : 0 ≤ z753 ∧ z753 ≤ 1) (h10 : 0 ≤ z758 ∧ z758 ≤ 399) : 0 ≤ (40 * (530 + z758)) := by omega
theorem vc_X12_say_u_16 {f_e0 f_ties p1 p2 p3 z753 z758 : Int} (h0 : z758 = (((20 * p2) + (10 * z753)) + p3)) (h1 : p2 < f_ties) (h2 : (z753 = 0 → f_e0 = p1)) (h3 : (z753 = 1 → ¬ f_e0 = p1)) (h4 : 0 ≤ f_e0 ∧ f_e0 ≤ 9) (h5 : 1 ≤ f_ties ∧ f_ties ≤ 20) (h6 : 0 ≤ p1 ∧ p1 ≤ 9) (h7 : 0 ≤ p2 ∧ p2 ≤ 19) (h8 : 0 ≤ p3 ∧ p3 ≤ 9) (h9 : 0 ≤ z753 ∧ z753 ≤ 1) (h10 : 0 ≤ z758 ∧ z758 ≤ 399) : (40 * (530 + z758)) % 40 = 0 := by omega
theorem vc_X12_say_u_17 {f_e0 f_ties p1 p2 p3 z753 z758 : Int} (h0 : z758 = (((20 * p2) + (10 * z753)) + p3)) (h1 : p2 < f_ties) (h2 : (z753 = 0 → f_e0 = p1)) (h3 : (z753 = 1 → ¬ f_e0 = p1)) (h4 : 0 ≤ f_e0 ∧ f_e0 ≤ 9) (h5 : 1 ≤ f_ties ∧ f_ties ≤ 20) (h6 : 0 ≤ p1 ∧ p1 ≤ 9) (h7 : 0 ≤ p2 ∧ p2 ≤ 19) (h8 : 0 ≤ p3 ∧ p3 ≤ 9) (h9 : 0 ≤ z753 ∧ z753 ≤ 1) (h10 : 0 ≤ z758 ∧ z758 ≤ 399) : (40 * 2) < (40 * (530 + z758)) ∨ ((40 * (530 + z758)) + 40) ≤ (40 * 2) := by omega
theorem vc_X12_say_u_18 {f_e0 f_ties p1 p2 p3 z753 z758 : Int} (h0 : z758 = (((20 * p2) + (10 * z753)) + p3)) (h1 : p2 < f_ties) (h2 : (z753 = 0 → f_e0 = p1)) (h3 : (z753 = 1 → ¬ f_e0 = p1)) (h4 : 0 ≤ f_e0 ∧ f_e0 ≤ 9) (h5 : 1 ≤ f_ties ∧ f_ties ≤ 20) (h6 : 0 ≤ p1 ∧ p1 ≤ 9) (h7 : 0 ≤ p2 ∧ p2 ≤ 19) (h8 : 0 ≤ p3 ∧ p3 ≤ 9) (h9 : 0 ≤ z753 ∧ z753 ≤ 1) (h10 : 0 ≤ z758 ∧ z758 ≤ 399) : (2 : Int) < (930 + z758) ∨ (930 + z758) < (2 : Int) := by omega
theorem vc_X12_say_u_19 {f_e0 f_ties p1 p2 p3 z753 z758 : Int} (h0 : z758 = (((20 * p2) + (10 * z753)) + p3)) (h1 : p2 < f_ties) (h2 : (z753 = 0 → f_e0 = p1)) (h3 : (z753 = 1 → ¬ f_e0 = p1)) (h4 : 0 ≤ f_e0 ∧ f_e0 ≤ 9) (h5 : 1 ≤ f_ties ∧ f_ties ≤ 20) (h6 : 0 ≤ p1 ∧ p1 ≤ 9) (h7 : 0 ≤ p2 ∧ p2 ≤ 19) (h8 : 0 ≤ p3 ∧ p3 ≤ 9) (h9 : 0 ≤ z753 ∧ z753 ≤ 1) (h10 : 0 ≤ z758 ∧ z758 ≤ 399) : 0 ≤ (40 * (930 + z758)) := by omega
theorem vc_X12_say_u_20 {f_e0 f_ties p1 p2 p3 z753 z758 : Int} (h0 : z758 = (((20 * p2) + (10 * z753)) + p3)) (h1 : p2 < f_ties) (h2 : (z753 = 0 → f_e0 = p1)) (h3 : (z753 = 1 → ¬ f_e0 = p1)) (h4 : 0 ≤ f_e0 ∧ f_e0 ≤ 9) (h5 : 1 ≤ f_ties ∧ f_ties ≤ 20) (h6 : 0 ≤ p1 ∧ p1 ≤ 9) (h7 : 0 ≤ p2 ∧ p2 ≤ 19) (h8 : 0 ≤ p3 ∧ p3 ≤ 9) (h9 : 0 ≤ z753 ∧ z753 ≤ 1) (h10 : 0 ≤ z758 ∧ z758 ≤ 399) : (40 * (930 + z758)) % 40 = 0 := by omega
theorem vc_X12_say_u_21 {f_e0 f_ties p1 p2 p3 z753 z758 : Int} (h0 : z758 = (((20 * p2) + (10 * z753)) + p3)) (h1 : p2 < f_ties) (h2 : (z753 = 0 → f_e0 = p1)) (h3 : (z753 = 1 → ¬ f_e0 = p1)) (h4 : 0 ≤ f_e0 ∧ f_e0 ≤ 9) (h5 : 1 ≤ f_ties ∧ f_ties ≤ 20) (h6 : 0 ≤ p1 ∧ p1 ≤ 9) (h7 : 0 ≤ p2 ∧ p2 ≤ 19) (h8 : 0 ≤ p3 ∧ p3 ≤ 9) (h9 : 0 ≤ z753 ∧ z753 ≤ 1) (h10 : 0 ≤ z758 ∧ z758 ≤ 399) : 0 ≤ z758 := by omega
theorem vc_X12_say_u_22 {f_e0 f_ties p1 p2 p3 z753 z758 z892 z908 : Int} (h0 : p2 < f_ties) (h1 : z758 = (((20 * p2) + (10 * z753)) + p3)) (h2 : (z753 = 0 → f_e0 = p1)) (h3 : (z753 = 1 → ¬ f_e0 = p1)) (h4 : 0 ≤ f_e0 ∧ f_e0 ≤ 9) (h5 : 1 ≤ f_ties ∧ f_ties ≤ 20) (h6 : 0 ≤ p1 ∧ p1 ≤ 9) (h7 : 0 ≤ p2 ∧ p2 ≤ 19) (h8 : 0 ≤ p3 ∧ p3 ≤ 9) (h9 : 0 ≤ z753 ∧ z753 ≤ 1) (h10 : 0 ≤ z758 ∧ z758 ≤ 399) (h11 : 0 ≤ z892 ∧ z892 ≤ 2000000000) (h12 : 0 ≤ z908 ∧ z908 ≤ 1000) : (z892 + z908) < 0 ∨ z758 < 20 * f_ties := by omega
theorem vc_X12_say_u_23  : (80 : Int) ≤ ((40 : Int) * (2 : Int)) ∧ (((40 : Int) * (2 : Int)) + (1 : Int)) ≤ (120 : Int) := by omega
theorem vc_X12_say_u_24  : (80 : Int) ≤ (80 : Int) ∧ (120 : Int) ≤ (120 : Int) := by omega
theorem vc_X12_say_u_25  : (21200 : Int) ≤ (21200 : Int) ∧ (53200 : Int) ≤ (53200 : Int) := by omega
theorem vc_X12_say_u_26 {f_e0 f_ties p1 p2 p3 z753 z758 : Int} (h0 : z758 = (((20 * p2) + (10 * z753)) + p3)) (h1 : p2 < f_ties) (h2 : (z753 = 0 → f_e0 = p1)) (h3 : (z753 = 1 → ¬ f_e0 = p1)) (h4 : 0 ≤ f_e0 ∧ f_e0 ≤ 9) (h5 : 1 ≤ f_ties ∧ f_ties ≤ 20) (h6 : 0 ≤ p1 ∧ p1 ≤ 9) (h7 : 0 ≤ p2 ∧ p2 ≤ 19) (h8 : 0 ≤ p3 ∧ p3 ≤ 9) (h9 : 0 ≤ z753 ∧ z753 ≤ 1) (h10 : 0 ≤ z758 ∧ z758 ≤ 399) : 21200 ≤ (40 * (530 + z758)) ∧ ((40 * (530 + z758)) + 40) ≤ 53200 := by omega
theorem vc_X12_say_u_27 {f_e0 f_ties p1 p2 p3 z753 z758 : Int} (h0 : z758 = (((20 * p2) + (10 * z753)) + p3)) (h1 : p2 < f_ties) (h2 : (z753 = 0 → f_e0 = p1)) (h3 : (z753 = 1 → ¬ f_e0 = p1)) (h4 : 0 ≤ f_e0 ∧ f_e0 ≤ 9) (h5 : 1 ≤ f_ties ∧ f_ties ≤ 20) (h6 : 0 ≤ p1 ∧ p1 ≤ 9) (h7 : 0 ≤ p2 ∧ p2 ≤ 19) (h8 : 0 ≤ p3 ∧ p3 ≤ 9) (h9 : 0 ≤ z753 ∧ z753 ≤ 1) (h10 : 0 ≤ z758 ∧ z758 ≤ 399) : 21200 ≤ (40 * (930 + z758)) ∧ ((40 * (930 + z758)) + 40) ≤ 53200 := by omega
theorem vc_X12_say_u_28 {f_e0 f_ties p1 p2 p3 z753 z758 : Int} (h0 : z758 = (((20 * p2) + (10 * z753)) + p3)) (h1 : p2 < f_ties) (h2 : (z753 = 0 → f_e0 = p1)) (h3 : (z753 = 1 → ¬ f_e0 = p1)) (h4 : 0 ≤ f_e0 ∧ f_e0 ≤ 9) (h5 : 1 ≤ f_ties ∧ f_ties ≤ 20) (h6 : 0 ≤ p1 ∧ p1 ≤ 9) (h7 : 0 ≤ p2 ∧ p2 ≤ 19) (h8 : 0 ≤ p3 ∧ p3 ≤ 9) (h9 : 0 ≤ z753 ∧ z753 ≤ 1) (h10 : 0 ≤ z758 ∧ z758 ≤ 399) : (40 * (530 + z758)) ≤ (40 * (530 + z758)) ∧ ((40 * (530 + z758)) + 40) ≤ ((40 * (530 + z758)) + 40) := by omega
theorem vc_X12_say_u_29 {f_e0 f_ties p1 p2 p3 z753 z758 : Int} (h0 : z758 = (((20 * p2) + (10 * z753)) + p3)) (h1 : p2 < f_ties) (h2 : (z753 = 0 → f_e0 = p1)) (h3 : (z753 = 1 → ¬ f_e0 = p1)) (h4 : 0 ≤ f_e0 ∧ f_e0 ≤ 9) (h5 : 1 ≤ f_ties ∧ f_ties ≤ 20) (h6 : 0 ≤ p1 ∧ p1 ≤ 9) (h7 : 0 ≤ p2 ∧ p2 ≤ 19) (h8 : 0 ≤ p3 ∧ p3 ≤ 9) (h9 : 0 ≤ z753 ∧ z753 ≤ 1) (h10 : 0 ≤ z758 ∧ z758 ≤ 399) : (40 * (930 + z758)) ≤ (40 * (930 + z758)) ∧ ((40 * (930 + z758)) + 40) ≤ ((40 * (930 + z758)) + 40) := by omega
theorem vc_X12_say_u_30 {f_e0 f_ties p1 p2 p3 z753 z758 : Int} (h0 : z758 = (((20 * p2) + (10 * z753)) + p3)) (h1 : p2 < f_ties) (h2 : (z753 = 0 → f_e0 = p1)) (h3 : (z753 = 1 → ¬ f_e0 = p1)) (h4 : 0 ≤ f_e0 ∧ f_e0 ≤ 9) (h5 : 1 ≤ f_ties ∧ f_ties ≤ 20) (h6 : 0 ≤ p1 ∧ p1 ≤ 9) (h7 : 0 ≤ p2 ∧ p2 ≤ 19) (h8 : 0 ≤ p3 ∧ p3 ≤ 9) (h9 : 0 ≤ z753 ∧ z753 ≤ 1) (h10 : 0 ≤ z758 ∧ z758 ≤ 399) : (1 ≤ (40 * (930 + z758)) ∧ ((40 * (930 + z758)) + 40) ≤ 1200) ∨ 5200 ≤ (40 * (930 + z758)) := by omega
theorem vc_X12_say_u_31 {f_e0 f_ties p1 p2 p3 z753 z758 : Int} (h0 : z758 = (((20 * p2) + (10 * z753)) + p3)) (h1 : p2 < f_ties) (h2 : (z753 = 0 → f_e0 = p1)) (h3 : (z753 = 1 → ¬ f_e0 = p1)) (h4 : 0 ≤ f_e0 ∧ f_e0 ≤ 9) (h5 : 1 ≤ f_ties ∧ f_ties ≤ 20) (h6 : 0 ≤ p1 ∧ p1 ≤ 9) (h7 : 0 ≤ p2 ∧ p2 ≤ 19) (h8 : 0 ≤ p3 ∧ p3 ≤ 9) (h9 : 0 ≤ z753 ∧ z753 ≤ 1) (h10 : 0 ≤ z758 ∧ z758 ≤ 399) : (1 ≤ (40 * (530 + z758)) ∧ ((40 * (530 + z758)) + 40) ≤ 1200) ∨ 5200 ≤ (40 * (530 + z758)) := by omega
theorem vc_X12_say_u_32 {z870 : Int} (h0 : ¬ z870 = 0) (h1 : 0 ≤ z870 ∧ z870 ≤ 1) : 1 ≤ z870 ∧ z870 ≤ 1 := by omega
theorem vc_X12_say_u_33 {f_e0 f_ties p1 p2 p3 z753 z758 z927 z930 z933 z967 : Int} (h0 : p2 < f_ties) (h1 : z758 = (((20 * p2) + (10 * z753)) + p3)) (h2 : (z930 + z933) ≤ z927) (h3 : (z753 = 0 → f_e0 = p1)) (h4 : (z753 = 1 → ¬ f_e0 = p1)) (h5 : 0 ≤ f_e0 ∧ f_e0 ≤ 9) (h6 : 1 ≤ f_ties ∧ f_ties ≤ 20) (h7 : 0 ≤ p1 ∧ p1 ≤ 9) (h8 : 0 ≤ p2 ∧ p2 ≤ 19) (h9 : 0 ≤ p3 ∧ p3 ≤ 9) (h10 : 0 ≤ z753 ∧ z753 ≤ 1) (h11 : 0 ≤ z758 ∧ z758 ≤ 399) (h12 : 0 ≤ z927 ∧ z927 ≤ 2000000000) (h13 : 0 ≤ z930 ∧ z930 ≤ 2000000000) (h14 : 0 ≤ z933 ∧ z933 ≤ 1000) (h15 : 0 ≤ z967 ∧ z967 ≤ 1000) : (z927 + z967) < 0 ∨ z758 < 20 * f_ties := by omega
theorem vc_X12_say_u_34 {z985 : Int} (h0 : 0 ≤ z985) (h1 : (-1) ≤ z985 ∧ z985 ≤ 2000001000) : 0 ≤ z985 ∧ z985 ≤ 2000001000 := by omega
theorem vc_X12_say_u_35 {z985 : Int} (h0 : z985 < 0) (h1 : (-1) ≤ z985 ∧ z985 ≤ 2000001000) : (-1) ≤ z985 ∧ z985 ≤ (-1) := by omega
theorem vc_X12_say_u_36 {f_e0 f_ties p1 p2 p3 z753 z758 z927 z930 z933 : Int} (h0 : p2 < f_ties) (h1 : z758 = (((20 * p2) + (10 * z753)) + p3)) (h2 : z927 < (z930 + z933)) (h3 : (z753 = 0 → f_e0 = p1)) (h4 : (z753 = 1 → ¬ f_e0 = p1)) (h5 : 0 ≤ f_e0 ∧ f_e0 ≤ 9) (h6 : 1 ≤ f_ties ∧ f_ties ≤ 20) (h7 : 0 ≤ p1 ∧ p1 ≤ 9) (h8 : 0 ≤ p2 ∧ p2 ≤ 19) (h9 : 0 ≤ p3 ∧ p3 ≤ 9) (h10 : 0 ≤ z753 ∧ z753 ≤ 1) (h11 : 0 ≤ z758 ∧ z758 ≤ 399) (h12 : 0 ≤ z927 ∧ z927 ≤ 2000000000) (h13 : 0 ≤ z930 ∧ z930 ≤ 2000000000) (h14 : 0 ≤ z933 ∧ z933 ≤ 1000) : (z930 + z933) < 0 ∨ z758 < 20 * f_ties := by omega
theorem vc_X12_say_u_37 {z867 : Int} (h0 : ¬ z867 = 0) (h1 : 0 ≤ z867 ∧ z867 ≤ 1) : 1 ≤ z867 ∧ z867 ≤ 1 := by omega
theorem vc_X12_say_u_38 {z771 z775 : Int} (h0 : z771 = (-99999999)) (h1 : z771 = -99999999 ∨ 0 ≤ z775) (h2 : (-99999999) ≤ z771 ∧ z771 ≤ 19) (h3 : z771 = -99999999 ∨ z771 = -4 ∨ (0 ≤ z771 ∧ z771 ≤ 19)) (h4 : (-1) ≤ z775 ∧ z775 ≤ 9) : (-99999999) ≤ z771 ∧ z771 ≤ (-99999999) := by omega
theorem vc_X12_say_u_39 {z771 z775 : Int} (h0 : ¬ z771 = (-99999999)) (h1 : z771 = -99999999 ∨ 0 ≤ z775) (h2 : (-99999999) ≤ z771 ∧ z771 ≤ 19) (h3 : z771 = -99999999 ∨ z771 = -4 ∨ (0 ≤ z771 ∧ z771 ≤ 19)) (h4 : (-1) ≤ z775 ∧ z775 ≤ 9) : (-4) ≤ z771 ∧ z771 ≤ 19 := by omega
theorem vc_X12_say_u_40 {f_ties p2 p3 z753 z758 z771 z775 : Int} (h0 : z771 = p2) (h1 : p2 < f_ties) (h2 : z758 = (((20 * p2) + (10 * z753)) + p3)) (h3 : z771 = -99999999 ∨ 0 ≤ z775) (h4 : ¬ z771 = (-99999999)) (h5 : 1 ≤ f_ties ∧ f_ties ≤ 20) (h6 : 0 ≤ p2 ∧ p2 ≤ 19) (h7 : 0 ≤ p3 ∧ p3 ≤ 9) (h8 : 0 ≤ z753 ∧ z753 ≤ 1) (h9 : 0 ≤ z758 ∧ z758 ≤ 399) (h10 : (-4) ≤ z771 ∧ z771 ≤ 19) (h11 : z771 = -99999999 ∨ z771 = -4 ∨ (0 ≤ z771 ∧ z771 ≤ 19)) (h12 : (-1) ≤ z775 ∧ z775 ≤ 9) : 0 ≤ z771 ∧ z771 ≤ 19 := by omega
theorem vc_X12_say_u_41 {f_e0 f_e1 f_ties p1 p2 p3 z753 z758 z771 : Int} (h0 : f_e0 = p1 ∨ f_e1 = p1) (h1 : (z753 = 0 → f_e0 = p1)) (h2 : (z753 = 1 → ¬ f_e0 = p1)) (h3 : z758 = (((20 * p2) + (10 * z753)) + p3)) (h4 : p2 < f_ties) (h5 : ¬ z771 = p2) (h6 : 0 ≤ f_e0 ∧ f_e0 ≤ 9) (h7 : 0 ≤ f_e1 ∧ f_e1 ≤ 9) (h8 : 1 ≤ f_ties ∧ f_ties ≤ 20) (h9 : 0 ≤ p1 ∧ p1 ≤ 9) (h10 : 0 ≤ p2 ∧ p2 ≤ 19) (h11 : 0 ≤ p3 ∧ p3 ≤ 9) (h12 : 0 ≤ z753 ∧ z753 ≤ 1) (h13 : 0 ≤ z758 ∧ z758 ≤ 399) (h14 : (-4) ≤ z771 ∧ z771 ≤ 19) (h15 : z771 = -99999999 ∨ z771 = -4 ∨ (0 ≤ z771 ∧ z771 ≤ 19)) : (30 + ((10 * p1) + p3)) < (2 : Int) ∨ (2 : Int) < (30 + ((10 * p1) + p3)) := by omega
theorem vc_X12_say_u_42  : (-(2147483648 : Int) ≤ ((100 : Int) : Int) ∧ ((100 : Int) : Int) ≤ (2147483647 : Int)) ∧ (((81 : Int) : Int) % (40 : Int) = (0 : Int) → -(1 : Int) ≤ ((100 : Int) : Int) ∧ ((100 : Int) : Int) ≤ (9 : Int)) ∧ (((81 : Int) : Int) % (40 : Int) = (4 : Int) → (0 : Int) ≤ ((100 : Int) : Int) ∧ ((100 : Int) : Int) ≤ (20 : Int)) ∧ (((81 : Int) : Int) % (40 : Int) = (5 : Int) → (0 : Int) ≤ ((100 : Int) : Int) ∧ ((100 : Int) : Int) ≤ (8 : Int)) := by omega
theorem vc_X12_say_u_43 {z1073 : Int} (h0 : ¬ z1073 = 0) (h1 : 0 ≤ z1073 ∧ z1073 ≤ 1) : 1 ≤ z1073 ∧ z1073 ≤ 1 := by omega
theorem vc_X12_say_u_44  : (80 : Int) ≤ ((40 : Int) * (2 : Int)) ∧ (((40 : Int) * (2 : Int)) + (40 : Int)) ≤ (120 : Int) := by omega
theorem vc_X12_say_u_45  : (0 : Int) ≤ (81 : Int) ∧ (80 : Int) ≤ (81 : Int) ∧ (81 : Int) < (120 : Int) := by omega
theorem vc_X12_say_u_46  : (80 : Int) ≤ (((40 : Int) * (2 : Int)) + (1 : Int)) ∧ (((40 : Int) * (2 : Int)) + (40 : Int)) ≤ (120 : Int) := by omega
theorem vc_X12_say_u_47  : (0 : Int) ≤ (81 : Int) ∧ (81 : Int) ≤ (81 : Int) ∧ (81 : Int) < ((81 : Int) + (1 : Int)) := by omega
theorem vc_X12_say_u_48  : ((1 : Int) ≤ ((81 : Int) : Int) ∧ (((81 : Int) + (1 : Int)) : Int) ≤ (1200 : Int)) ∨ (5200 : Int) ≤ ((81 : Int) : Int) := by omega
theorem vc_X12_say_u_49 {z1073 : Int} (h0 : z1073 = 0) (h1 : 0 ≤ z1073 ∧ z1073 ≤ 1) : 0 ≤ z1073 ∧ z1073 ≤ 0 := by omega
theorem vc_X12_say_u_50 {z1094 : Int} (h0 : z1094 = -1) (h1 : (-1) ≤ z1094 ∧ z1094 ≤ 9) : (-1) ≤ z1094 ∧ z1094 ≤ (-1) := by omega
theorem vc_X12_say_u_51 {z1045 : Int} (h0 : z1045 = 0) (h1 : 0 ≤ z1045 ∧ z1045 ≤ 1) : 0 ≤ z1045 ∧ z1045 ≤ 0 := by omega
theorem vc_X12_say_u_52  : ((40 : Int) * (2 : Int)) ≤ ((40 : Int) * (2 : Int)) ∧ (((40 : Int) * (2 : Int)) + (40 : Int)) ≤ (((40 : Int) * (2 : Int)) + (40 : Int)) := by omega
theorem vc_X12_say_u_53  : (0 : Int) ≤ (81 : Int) ∧ ((40 : Int) * (2 : Int)) ≤ (81 : Int) ∧ (81 : Int) < (((40 : Int) * (2 : Int)) + (40 : Int)) := by omega
theorem vc_X12_say_u_54  : ((40 : Int) * (2 : Int)) ≤ (((40 : Int) * (2 : Int)) + (1 : Int)) ∧ (((40 : Int) * (2 : Int)) + (40 : Int)) ≤ (((40 : Int) * (2 : Int)) + (40 : Int)) := by omega
theorem vc_X12_say_u_55  : ((1 : Int) ≤ ((((40 : Int) * (2 : Int)) + (1 : Int)) : Int) ∧ ((((40 : Int) * (2 : Int)) + (40 : Int)) : Int) ≤ (1200 : Int)) ∨ (5200 : Int) ≤ ((((40 : Int) * (2 : Int)) + (1 : Int)) : Int) := by omega
theorem vc_X12_say_u_56  : ((1 : Int) ≤ (((40 : Int) * (2 : Int)) : Int) ∧ ((((40 : Int) * (2 : Int)) + (40 : Int)) : Int) ≤ (1200 : Int)) ∨ (5200 : Int) ≤ (((40 : Int) * (2 : Int)) : Int) := by omega
theorem vc_X12_say_u_57 {z1045 : Int} (h0 : ¬ z1045 = 0) (h1 : 0 ≤ z1045 ∧ z1045 ≤ 1) : 1 ≤ z1045 ∧ z1045 ≤ 1 := by omega
theorem vc_X12_say_u_58 {z1104 : Int} (h0 : z1104 = -99999999 ∨ (0 ≤ z1104 ∧ z1104 ≤ 11)) : -99999999 ≤ z1104 ∧ z1104 ≤ 11 := by omega
theorem vc_X12_say_u_59 {f_e0 f_e1 f_ties p1 p2 p3 z753 z758 z771 z775 : Int} (h0 : p2 < f_ties) (h1 : (z753 = 0 → f_e0 = p1)) (h2 : (z753 = 1 → ¬ f_e0 = p1)) (h3 : z758 = (((20 * p2) + (10 * z753)) + p3)) (h4 : ¬ z771 = p2) (h5 : f_e0 = p1 ∨ f_e1 = p1) (h6 : z771 = -99999999 ∨ 0 ≤ z775) (h7 : ¬ z771 = (-99999999)) (h8 : 0 ≤ f_e0 ∧ f_e0 ≤ 9) (h9 : 0 ≤ f_e1 ∧ f_e1 ≤ 9) (h10 : 1 ≤ f_ties ∧ f_ties ≤ 20) (h11 : 0 ≤ p1 ∧ p1 ≤ 9) (h12 : 0 ≤ p2 ∧ p2 ≤ 19) (h13 : 0 ≤ p3 ∧ p3 ≤ 9) (h14 : 0 ≤ z753 ∧ z753 ≤ 1) (h15 : 0 ≤ z758 ∧ z758 ≤ 399) (h16 : (-4) ≤ z771 ∧ z771 ≤ 19) (h17 : z771 = -99999999 ∨ z771 = -4 ∨ (0 ≤ z771 ∧ z771 ≤ 19)) (h18 : (-1) ≤ z775 ∧ z775 ≤ 9) : (((4 * p2) + (2 * z753)) + 1) < 4 * f_ties := by omega
theorem vc_X12_say_u_60  : ((40 * 2) : Int).toNat ≠ (81 : Int).toNat := by omega
theorem vc_X12_say_u_61  : ((40 : Int) * (2 : Int)) < (((40 : Int) * (2 : Int)) + (1 : Int)) ∨ (((40 : Int) * (2 : Int)) + (40 : Int)) ≤ ((40 : Int) * (2 : Int)) := by omega
theorem vc_X12_say_u_62 {f_e0 f_ties p1 p2 p3 z753 z758 z771 z775 : Int} (h0 : p2 < f_ties) (h1 : z758 = (((20 * p2) + (10 * z753)) + p3)) (h2 : ¬ z771 = p2) (h3 : (z753 = 0 → f_e0 = p1)) (h4 : (z753 = 1 → ¬ f_e0 = p1)) (h5 : z771 = -99999999 ∨ 0 ≤ z775) (h6 : ¬ z771 = (-99999999)) (h7 : 0 ≤ f_e0 ∧ f_e0 ≤ 9) (h8 : 1 ≤ f_ties ∧ f_ties ≤ 20) (h9 : 0 ≤ p1 ∧ p1 ≤ 9) (h10 : 0 ≤ p2 ∧ p2 ≤ 19) (h11 : 0 ≤ p3 ∧ p3 ≤ 9) (h12 : 0 ≤ z753 ∧ z753 ≤ 1) (h13 : 0 ≤ z758 ∧ z758 ≤ 399) (h14 : (-4) ≤ z771 ∧ z771 ≤ 19) (h15 : z771 = -99999999 ∨ z771 = -4 ∨ (0 ≤ z771 ∧ z771 ≤ 19)) (h16 : (-1) ≤ z775 ∧ z775 ≤ 9) : p2 < f_ties := by omega
theorem vc_X12_say_u_63 {f_e0 f_e1 p1 p2 p3 z1116 z753 z758 : Int} (h0 : f_e0 = p1 ∨ f_e1 = p1) (h1 : (z753 = 0 → f_e0 = p1)) (h2 : (z753 = 1 → ¬ f_e0 = p1)) (h3 : (f_e0 = p1 → z1116 = f_e1) ∧ (¬ f_e0 = p1 → z1116 = f_e0)) (h4 : z758 = (((20 * p2) + (10 * z753)) + p3)) (h5 : 0 ≤ f_e0 ∧ f_e0 ≤ 9) (h6 : 0 ≤ f_e1 ∧ f_e1 ≤ 9) (h7 : 0 ≤ p1 ∧ p1 ≤ 9) (h8 : 0 ≤ p2 ∧ p2 ≤ 19) (h9 : 0 ≤ p3 ∧ p3 ≤ 9) (h10 : 0 ≤ z1116 ∧ z1116 ≤ 9) (h11 : 0 ≤ z753 ∧ z753 ≤ 1) (h12 : 0 ≤ z758 ∧ z758 ≤ 399) : (f_e0 = p1 ∧ f_e1 = z1116) ∨ (f_e0 = z1116 ∧ f_e1 = p1) := by omega
theorem vc_X12_say_u_64 {p2 z1032 z771 z775 : Int} (h0 : z771 = -99999999 ∨ 0 ≤ z775) (h1 : z1032 = z775) (h2 : ¬ z771 = (-99999999)) (h3 : ¬ z771 = p2) (h4 : 0 ≤ p2 ∧ p2 ≤ 19) (h5 : (-1) ≤ z1032 ∧ z1032 ≤ 9) (h6 : (-4) ≤ z771 ∧ z771 ≤ 19) (h7 : z771 = -99999999 ∨ z771 = -4 ∨ (0 ≤ z771 ∧ z771 ≤ 19)) (h8 : (-1) ≤ z775 ∧ z775 ≤ 9) : 0 ≤ z775 := by omega
theorem vc_X12_say_u_65 {z1104 z1108 : Int} (h0 : z1104 = -99999999 ∨ (0 ≤ z1104 ∧ z1104 < z1108)) (h1 : (-99999999) ≤ z1104 ∧ z1104 ≤ 11) (h2 : z1104 = -99999999 ∨ (0 ≤ z1104 ∧ z1104 ≤ 11)) (h3 : 0 ≤ z1108 ∧ z1108 ≤ 12) : z1104 = -99999999 ∨ (0 ≤ z1104 ∧ z1104 < z1108) := by omega
theorem vc_X12_say_u_66 {z1121 : Int} (h0 : z1121 = 0) (h1 : 0 ≤ z1121 ∧ z1121 ≤ 1) : 0 ≤ z1121 ∧ z1121 ≤ 0 := by omega
theorem vc_X12_say_u_67 {z1121 : Int} (h0 : ¬ z1121 = 0) (h1 : 0 ≤ z1121 ∧ z1121 ≤ 1) : 1 ≤ z1121 ∧ z1121 ≤ 1 := by omega
set_option maxRecDepth 4000 in
set_option maxHeartbeats 4000000 in
theorem c_X12_say_u {l : Launch} {D : va_G} {c : Nat → ClassId} {H0 : Heap} {sa : Nat × Nat × (Nat → Int32)} {w : mW} {μ : mM} (hw : mWF w) (hT : mT w μ) {p1 : Int} (hp1 : 0 ≤ p1 ∧ p1 ≤ 9) {p2 : Int} (hp2 : 0 ≤ p2 ∧ p2 ≤ 19) {p3 : Int} (hp3 : 0 ≤ p3 ∧ p3 ≤ 9) {f_e0 : Int} (q_f_e0 : μ 110 ((2 * p2).toNat) = f_e0) {f_e1 : Int} (q_f_e1 : μ 110 (((2 * p2) + 1).toNat) = f_e1) {f_ties : Int} (q_f_ties : μ 106 6 = f_ties) (hq0 : p2 < f_ties) (hq1 : f_e0 = p1 ∨ f_e1 = p1) (hIJC : JC l D c H0 sa μ) (hIG1 : G1 μ) (hIEV : EV μ) (hIPK : PK μ) : sC (gG l D c H0 sa) mX12_say 7 0 0 [.ref 106, iv p1, iv p2, iv p3] (mk w μ) (qV w [106026, 106027, 106028, 106029, 106030, 106031, 106072, 126999, 151999, 152999, 153999, 155999, 156999, 157999, 158999, 159999, 160999] μ (fun μ1 => mG [(80, 120), (21200, 53200)] μ μ1 ∧ JC l D c H0 sa μ1 ∧ G1 μ1 ∧ EV μ1 ∧ True)) := by
  refine sC.of rfl (by decide) (le_t rfl) ?_
  have ht_f_e0 : (0 ≤ f_e0 ∧ f_e0 ≤ 9) := by rw [← q_f_e0]; exact hT 110 110 (A_110 hw) ((2 * p2).toNat)
  have ht_f_e1 : (0 ≤ f_e1 ∧ f_e1 ≤ 9) := by rw [← q_f_e1]; exact hT 110 110 (A_110 hw) (((2 * p2) + 1).toNat)
  have ht_f_ties : (0 ≤ f_ties ∧ f_ties ≤ 20) := by rw [← q_f_ties]; exact hT 106 106 (A_106 hw) 6
  have h1 : 1 ≤ f_ties ∧ f_ties ≤ 20 := (vc_X12_say_u_1 hq0 ht_f_ties hp2)
  refine mr_lvE (lv' := [(0, .ref 106), (1, iv p1), (2, iv p2), (3, iv p3)]) rfl ?_
  refine sv_aload_n (pc := 0) dX12_say_0 rfl rfl ?_
  refine mr_iload_n (pc := 1) (z := p2) dX12_say_1 rfl rfl ?_
  refine mr_iload_n (pc := 2) (z := p1) dX12_say_2 rfl rfl ?_
  refine mr_cVP (pc := 3) (c_X12_sideOf hw hT hp2 (rW (c := (-2147483648)) (d := 2147483647) hp1 rfl) q_f_e0) (gOk _ _ _ _ _) dX12_say_3 (tX12_sideOf _ _ _ _ _) ⟨wV_X12_sideOf, wL_X12_sideOf⟩ wM_X12_542 (gCX12 _ _ _ _ _) rfl (A_106 hw) rfl ⟨le_t rfl, le_t rfl⟩ ⟨le_t rfl, le_t rfl⟩ rfl (le_t rfl) fun z753 h752 => ?_
  refine mr_istore (pc := 6) (lv' := [(4, iv z753), (0, .ref 106), (1, iv p1), (2, iv p2), (3, iv p3)]) dX12_say_6 (by decide) rfl ?_
  refine mr_iload_n (pc := 8) (z := p2) dX12_say_8 rfl rfl ?_
  refine mr_iload (pc := 9) (z := z753) dX12_say_9 rfl ?_
  refine mr_iload_n (pc := 11) (z := p3) dX12_say_11 rfl rfl ?_
  refine mr_cSP (pc := 12) (c_X12_slot hw hT (rW (c := 0) (d := 20) hp2 rfl) (rW (c := 0) (d := 2) h752.1 rfl) hp3) (gOk _ _ _ _ _) dX12_say_12 (tX12_slot _ _ _ _ _) wS_X12_slot wM_X12_545 ⟨le_t rfl, le_t rfl⟩ ⟨le_t rfl, le_t rfl⟩ rfl (le_t rfl) fun z758 h757 => ?_
  have h759 : 0 ≤ z758 ∧ z758 ≤ 399 := (vc_X12_say_u_2 h757.2.1 hq0 h752.2.1 h752.2.2.1 ht_f_e0 h1 hp1 hp2 hp3 h752.1 h757.1)
  refine mr_istore (pc := 15) (lv' := [(5, iv z758), (4, iv z753), (0, .ref 106), (1, iv p1), (2, iv p2), (3, iv p3)]) dX12_say_15 (by decide) rfl ?_
  refine mr_bipush (pc := 17) (z := 10) dX12_say_17 (by decide) ?_
  refine mr_iload_n (pc := 19) (z := p1) dX12_say_19 rfl rfl ?_
  refine mr_imul (pc := 20) (x := 10) (y := p1) dX12_say_20 ?_
  refine mr_iload_n (pc := 21) (z := p3) dX12_say_21 rfl rfl ?_
  refine mr_iadd (pc := 22) (x := (10 * p1)) (y := p3) dX12_say_22 ?_
  refine mr_istore (pc := 23) (lv' := [(6, iv ((10 * p1) + p3)), (5, iv z758), (4, iv z753), (0, .ref 106), (1, iv p1), (2, iv p2), (3, iv p3)]) dX12_say_23 (by decide) rfl ?_
  refine sv_aload_n (pc := 25) dX12_say_25 rfl rfl ?_
  refine mr_iconst (pc := 26) (z := 2) dX12_say_26 ?_
  refine mr_cVV (pc := 27) (c_X12_nothing hw hT (rW (c := 0) (d := 2099) (rR (x := 2)) rfl)) (gOk _ _ _ _ _) dX12_say_27 (tX12_nothing _ _ _ _ _) ⟨wV_X12_nothing, wL_X12_nothing⟩ wM_X12_539 (gCX12 _ _ _ _ _) rfl (A_106 hw) rfl ⟨le_t rfl, le_t rfl⟩ ⟨le_t rfl, le_t rfl⟩ rfl (le_t rfl) fun μ760 T761 F762 h763 => ?_
  obtain ⟨z764, q765, h766⟩ := h763
  have h767 := rt7 T761 (A_126 hw) vc_X12_say_u_3 q765
  have h768 : (-1) ≤ z764 ∧ z764 ≤ 9 := h767.2.1 vc_X12_say_u_4
  have q769 : μ760 126 (((40 * 2) : Int).toNat) = (-1) := q765.trans h766.2.1
  have h770 : (-1) ≤ z764 ∧ z764 ≤ (-1) := (vc_X12_say_u_5 h766.2.1 h768)
  refine sv_aload_n (pc := 30) dX12_say_30 rfl rfl ?_
  refine gf_X12_81 (pc := 31) dX12_say_31 wF_X12_445 (A_106 hw) T761 ?_
  refine mr_iload (pc := 34) (z := ((10 * p1) + p3)) dX12_say_34 rfl ?_
  refine la_161 (pc := 36) dX12_say_36 (A_161 hw) T761 (rIx (n := 100) (rAdd (e := 0) (f := 99) (rMulL (n := 10) (e := 0) (f := 90) hp1 rfl) hp3 rfl) rfl) fun z771 q772 h773 => ?_
  have h774 : (-99999999) ≤ z771 ∧ z771 ≤ 19 := (vc_X12_say_u_6 h773)
  obtain ⟨z775, q776⟩ : ∃ z, μ760 126 ((40 * (30 + ((10 * p1) + p3))).toNat) = z := ⟨_, rfl⟩
  have h777 := rt7 T761 (A_126 hw) (vc_X12_say_u_7 hq1 h752.2.1 h752.2.2.1 h757.2.1 hq0 ht_f_e0 ht_f_e1 h1 hp1 hp2 hp3 h752.1 h759) q776
  have h778 : (-1) ≤ z775 ∧ z775 ≤ 9 := h777.2.1 (vc_X12_say_u_8 hq1 h752.2.1 h752.2.2.1 h757.2.1 hq0 ht_f_e0 ht_f_e1 h1 hp1 hp2 hp3 h752.1 h759)
  have h779 : z771 = -99999999 ∨ 0 ≤ z775 := G1.at (G1.keep hIG1 hw ((mF.call mF.refl F762 rfl) : mF [126999] w μ μ760) rfl rfl ((mG.call mG.refl h766.1 (List.forall_mem_cons.mpr ⟨⟨_, List.mem_cons_self, vc_X12_say_u_9⟩, (fun _ h => absurd h List.not_mem_nil)⟩)) : mG [((40 * 2), ((40 * 2) + 1))] μ μ760) (List.forall_mem_cons.mpr ⟨vc_X12_say_u_10, (fun _ h => absurd h List.not_mem_nil)⟩)) (rAdd (e := 0) (f := 99) (rMulL (n := 10) (e := 0) (f := 90) hp1 rfl) hp3 rfl) q772 (vc_X12_say_u_11 hq1 h752.2.1 h752.2.2.1 h757.2.1 hq0 ht_f_e0 ht_f_e1 h1 hp1 hp2 hp3 h752.1 h759) q776
  refine mr_ldc (pc := 37) (z := (-99999999)) dX12_say_37 wG_X12_29 (by decide) ?_
  have J862 : ∀ (μ854 : mM), (mT w μ854) → (mF [106026, 106027, 106028, 106029, 106030, 106031, 126999, 151999, 152999, 153999] w μ760 μ854) → (mG [(80, 120), (21200, 53200)] μ760 μ854) → (JC l D c H0 sa μ854) → (G1 μ854) → (EV μ854) → (PK μ854) → sV (gG l D c H0 sa) mX12_say (sRm 7 0 0) (sZ (gG l D c H0 sa) 0 0 (qV w [106026, 106027, 106028, 106029, 106030, 106031, 106072, 126999, 151999, 152999, 153999, 155999, 156999, 157999, 158999, 159999, 160999] μ (fun μ1 => mG [(80, 120), (21200, 53200)] μ μ1 ∧ JC l D c H0 sa μ1 ∧ G1 μ1 ∧ EV μ1 ∧ True))) 137 [(0, .ref 106), (2, iv p2), (5, iv z758)] [] (mk w μ854) 0 0 := by
    intro μ854 T855 F856 G857 I858 I859 I860 I861
    refine sv_aload_n (pc := 137) dX12_say_137 rfl rfl ?_
    refine mr_iconst (pc := 138) (z := 2) dX12_say_138 ?_
    refine mr_sipush (pc := 139) (z := 530) dX12_say_139 (by decide) ?_
    refine mr_iload (pc := 142) (z := z758) dX12_say_142 rfl ?_
    refine mr_iadd (pc := 144) (x := 530) (y := z758) dX12_say_144 ?_
    refine mr_cVP (pc := 145) (c_X12_same hw T855 (rW (c := 0) (d := 2099) (rR (x := 2)) rfl) (rW (c := 0) (d := 2099) (rAdd (e := 530) (f := 929) (rR (x := 530)) h759 rfl) rfl)) (gOk _ _ _ _ _) dX12_say_145 (tX12_same _ _ _ _ _) ⟨wV_X12_same, wL_X12_same⟩ wM_X12_584 (gCX12 _ _ _ _ _) rfl (A_106 hw) rfl ⟨le_t rfl, le_t rfl⟩ ⟨le_t rfl, le_t rfl⟩ rfl (le_t rfl) fun z867 h866 => ?_
    refine mr_if_eq (pc := 148) (tgt := 152) dX12_say_148 (by decide) (r32 h866.1 rfl) (fun h868 => ?_) (fun h868 => ?_)
    · have h869 : 0 ≤ z867 ∧ z867 ≤ 0 := (vc_X12_say_u_12 h868 h866.1)
      refine sv_aload_n (pc := 152) dX12_say_152 rfl rfl ?_
      refine gf_X12_75 (pc := 153) dX12_say_153 wF_X12_427 (A_106 hw) T855 ?_
      refine mr_iload (pc := 156) (z := z758) dX12_say_156 rfl ?_
      refine la_155 (pc := 158) dX12_say_158 (A_155 hw) T855 (rIx (n := 400) h759 rfl) fun z870 q871 h872 => ?_
      refine mr_if_eq (pc := 159) (tgt := 236) dX12_say_159 (by decide) (r32 h872 rfl) (fun h873 => ?_) (fun h873 => ?_)
      · have h874 : 0 ≤ z870 ∧ z870 ≤ 0 := (vc_X12_say_u_13 h873 h872)
        refine sv_aload_n (pc := 236) dX12_say_236 rfl rfl ?_
        refine mr_iconst (pc := 237) (z := 2) dX12_say_237 ?_
        refine mr_sipush (pc := 238) (z := 530) dX12_say_238 (by decide) ?_
        refine mr_iload (pc := 241) (z := z758) dX12_say_241 rfl ?_
        refine mr_iadd (pc := 243) (x := 530) (y := z758) dX12_say_243 ?_
        obtain ⟨z875, q876⟩ : ∃ z, μ854 126 (((40 * 2) : Int).toNat) = z := ⟨_, rfl⟩
        have h877 := rt7 T855 (A_126 hw) vc_X12_say_u_3 q876
        have h878 : (-1) ≤ z875 ∧ z875 ≤ 9 := h877.2.1 vc_X12_say_u_4
        refine mr_cVV (pc := 244) (c_X12_copy hw T855 (rW (c := 0) (d := 2099) (rR (x := 2)) rfl) (rW (c := 0) (d := 2099) (rAdd (e := 530) (f := 929) (rR (x := 530)) h759 rfl) rfl) q876 (vc_X12_say_u_14 h757.2.1 hq0 h752.2.1 h752.2.2.1 ht_f_e0 h1 hp1 hp2 hp3 h752.1 h759)) (gOk _ _ _ _ _) dX12_say_244 (tX12_copy _ _ _ _ _) ⟨wV_X12_copy, wL_X12_copy⟩ wM_X12_559 (gCX12 _ _ _ _ _) rfl (A_106 hw) rfl ⟨le_t rfl, le_t rfl⟩ ⟨le_t rfl, le_t rfl⟩ rfl (le_t rfl) fun μ879 T880 F881 h882 => ?_
        obtain ⟨z883, q884, h885⟩ := h882
        have h886 := rt7 T880 (A_126 hw) (vc_X12_say_u_15 h757.2.1 hq0 h752.2.1 h752.2.2.1 ht_f_e0 h1 hp1 hp2 hp3 h752.1 h759) q884
        have h887 : (-1) ≤ z883 ∧ z883 ≤ 9 := h886.2.1 (vc_X12_say_u_16 h757.2.1 hq0 h752.2.1 h752.2.2.1 ht_f_e0 h1 hp1 hp2 hp3 h752.1 h759)
        have q888 : μ879 126 ((40 * (530 + z758)).toNat) = z875 := q884.trans h885.2.1
        refine sv_aload_n (pc := 247) dX12_say_247 rfl rfl ?_
        refine gf_X12_75 (pc := 248) dX12_say_248 wF_X12_427 (A_106 hw) T880 ?_
        refine mr_iload (pc := 251) (z := z758) dX12_say_251 rfl ?_
        refine mr_iconst (pc := 253) (z := 1) dX12_say_253 ?_
        refine ss_155 (pc := 254) dX12_say_254 (A_155 hw) T880 (rIx (n := 400) h759 rfl) (rW (c := 0) (d := 1) (rR (x := 1)) rfl) fun μ889 u890 T891 => ?_
        refine sv_aload_n (pc := 255) dX12_say_255 rfl rfl ?_
        refine gf_X12_76 (pc := 256) dX12_say_256 wF_X12_430 (A_106 hw) T891 ?_
        refine mr_iload (pc := 259) (z := z758) dX12_say_259 rfl ?_
        refine sv_aload_n (pc := 261) dX12_say_261 rfl rfl ?_
        refine gf_X12_71 (pc := 262) dX12_say_262 wF_X12_591 (A_106 hw) T891 fun z892 q893 h894 => ?_
        refine ss_156 (pc := 265) dX12_say_265 (A_156 hw) T891 (rIx (n := 400) h759 rfl) h894 fun μ895 u896 T897 => ?_
        refine sv_aload_n (pc := 266) dX12_say_266 rfl rfl ?_
        refine mr_iconst (pc := 267) (z := 2) dX12_say_267 ?_
        refine mr_sipush (pc := 268) (z := 930) dX12_say_268 (by decide) ?_
        refine mr_iload (pc := 271) (z := z758) dX12_say_271 rfl ?_
        refine mr_iadd (pc := 273) (x := 930) (y := z758) dX12_say_273 ?_
        refine mr_cVV (pc := 274) (c_X12_copy hw T897 (rW (c := 0) (d := 2099) (rR (x := 2)) rfl) (rW (c := 0) (d := 2099) (rAdd (e := 930) (f := 1329) (rR (x := 930)) h759 rfl) rfl) (u896.f (Or.inl (mAt.ne (A_156 hw) (A_126 hw) rfl)) (u890.f (Or.inl (mAt.ne (A_155 hw) (A_126 hw) rfl)) (h885.1.f vc_X12_say_u_3 (List.forall_mem_cons.mpr ⟨(vc_X12_say_u_17 h757.2.1 hq0 h752.2.1 h752.2.2.1 ht_f_e0 h1 hp1 hp2 hp3 h752.1 h759), (fun _ h => absurd h List.not_mem_nil)⟩) q876))) (vc_X12_say_u_18 h757.2.1 hq0 h752.2.1 h752.2.2.1 ht_f_e0 h1 hp1 hp2 hp3 h752.1 h759)) (gOk _ _ _ _ _) dX12_say_274 (tX12_copy _ _ _ _ _) ⟨wV_X12_copy, wL_X12_copy⟩ wM_X12_559 (gCX12 _ _ _ _ _) rfl (A_106 hw) rfl ⟨le_t rfl, le_t rfl⟩ ⟨le_t rfl, le_t rfl⟩ rfl (le_t rfl) fun μ898 T899 F900 h901 => ?_
        obtain ⟨z902, q903, h904⟩ := h901
        have h905 := rt7 T899 (A_126 hw) (vc_X12_say_u_19 h757.2.1 hq0 h752.2.1 h752.2.2.1 ht_f_e0 h1 hp1 hp2 hp3 h752.1 h759) q903
        have h906 : (-1) ≤ z902 ∧ z902 ≤ 9 := h905.2.1 (vc_X12_say_u_20 h757.2.1 hq0 h752.2.1 h752.2.2.1 ht_f_e0 h1 hp1 hp2 hp3 h752.1 h759)
        have q907 : μ898 126 ((40 * (930 + z758)).toNat) = z875 := q903.trans h904.2.1
        refine sv_aload_n (pc := 277) dX12_say_277 rfl rfl ?_
        refine gf_X12_77 (pc := 278) dX12_say_278 wF_X12_433 (A_106 hw) T899 ?_
        refine mr_iload (pc := 281) (z := z758) dX12_say_281 rfl ?_
        refine sv_aload_n (pc := 283) dX12_say_283 rfl rfl ?_
        refine gk_X12_71 (pc := 284) dX12_say_284 wF_X12_591 (A_106 hw) (F900.f (A_106 hw) rfl (u896.f (Or.inl (mAt.ne (A_156 hw) (A_106 hw) rfl)) q893)) ?_
        refine sv_aload_n (pc := 287) dX12_say_287 rfl rfl ?_
        refine gf_X12_10 (pc := 288) dX12_say_288 wF_X12_57 (A_106 hw) T899 ?_
        refine mr_iload_n (pc := 291) (z := p2) dX12_say_291 rfl rfl ?_
        refine la_113 (pc := 292) dX12_say_292 (A_113 hw) T899 (rIx (n := 20) hp2 rfl) fun z908 q909 h910 => ?_
        refine mr_iadd (pc := 293) (x := z892) (y := z908) dX12_say_293 ?_
        refine ss_157 (pc := 294) dX12_say_294 (A_157 hw) T899 (rIx (n := 400) h759 rfl) (rW (c := (-1)) (d := 2000001000) (rAdd (e := 0) (f := 2000001000) h894 h910 rfl) rfl) fun μ911 u912 T913 => ?_
        have I914 : EV μ911 := EV.up1 (EV.keep I860 hw ((mF.call (mF.up (mF.up (mF.call mF.refl F881 rfl) (A_155 hw) u890 rfl) (A_156 hw) u896 rfl) F900 rfl) : mF [126999, 155999, 156999] w μ854 μ898) rfl) u912 (u912.f (Or.inl (mAt.ne (A_157 hw) (A_106 hw) rfl)) (F900.f (A_106 hw) rfl (u896.f (Or.inl (mAt.ne (A_156 hw) (A_106 hw) rfl)) (u890.f (Or.inl (mAt.ne (A_155 hw) (A_106 hw) rfl)) (F881.f (A_106 hw) rfl (F856.f (A_106 hw) rfl (F762.f (A_106 hw) rfl q_f_ties))))))) (vc_X12_say_u_21 h757.2.1 hq0 h752.2.1 h752.2.2.1 ht_f_e0 h1 hp1 hp2 hp3 h752.1 h759) (vc_X12_say_u_22 hq0 h757.2.1 h752.2.1 h752.2.2.1 ht_f_e0 h1 hp1 hp2 hp3 h752.1 h759 h894 h910)
        refine sv_aload_n (pc := 295) dX12_say_295 rfl rfl ?_
        refine gf_X12_78 (pc := 296) dX12_say_296 wF_X12_436 (A_106 hw) T913 ?_
        refine mr_iload (pc := 299) (z := z758) dX12_say_299 rfl ?_
        refine sv_aload_n (pc := 301) dX12_say_301 rfl rfl ?_
        refine gf_X12_72 (pc := 302) dX12_say_302 wF_X12_594 (A_106 hw) T913 fun z915 q916 h917 => ?_
        refine ss_158 (pc := 305) dX12_say_305 (A_158 hw) T913 (rIx (n := 400) h759 rfl) h917 fun μ918 u919 T920 => ?_
        refine sv_aload_n (pc := 306) dX12_say_306 rfl rfl ?_
        refine sv_dup (pc := 307) dX12_say_307 rfl ?_
        refine gk_X12_72 (pc := 308) dX12_say_308 wF_X12_594 (A_106 hw) (u919.f (Or.inl (mAt.ne (A_158 hw) (A_106 hw) rfl)) q916) ?_
        refine mr_iconst (pc := 311) (z := 1) dX12_say_311 ?_
        refine mr_iadd (pc := 312) (x := z915) (y := 1) dX12_say_312 ?_
        refine mr_wrap fun z921 h922 => ?_
        refine pf_X12_72 (pc := 313) dX12_say_313 wF_X12_594 (A_106 hw) T920 h922 fun μ923 u924 T925 => ?_
        exact mr_vret dX12_say_316 rfl (le_t rfl) (le_t rfl) T925 (mF.up (mF.up (mF.up (mF.call (mF.up (mF.up (mF.call (mF.call (mF.call mF.refl F762 rfl) F856 rfl) F881 rfl) (A_155 hw) u890 rfl) (A_156 hw) u896 rfl) F900 rfl) (A_157 hw) u912 rfl) (A_158 hw) u919 rfl) (A_106 hw) u924 rfl) ⟨(mG.upO (mG.upO (mG.upO (mG.call (mG.upO (mG.upO (mG.call (mG.call (mG.call mG.refl h766.1 (List.forall_mem_cons.mpr ⟨⟨_, List.mem_cons_self, vc_X12_say_u_23⟩, (fun _ h => absurd h List.not_mem_nil)⟩)) G857 (List.forall_mem_cons.mpr ⟨⟨_, List.mem_cons_self, vc_X12_say_u_24⟩, (List.forall_mem_cons.mpr ⟨⟨_, (List.mem_cons_of_mem _ List.mem_cons_self), vc_X12_say_u_25⟩, (fun _ h => absurd h List.not_mem_nil)⟩)⟩)) h885.1 (List.forall_mem_cons.mpr ⟨⟨_, (List.mem_cons_of_mem _ List.mem_cons_self), (vc_X12_say_u_26 h757.2.1 hq0 h752.2.1 h752.2.2.1 ht_f_e0 h1 hp1 hp2 hp3 h752.1 h759)⟩, (fun _ h => absurd h List.not_mem_nil)⟩)) u890 rfl) u896 rfl) h904.1 (List.forall_mem_cons.mpr ⟨⟨_, (List.mem_cons_of_mem _ List.mem_cons_self), (vc_X12_say_u_27 h757.2.1 hq0 h752.2.1 h752.2.2.1 ht_f_e0 h1 hp1 hp2 hp3 h752.1 h759)⟩, (fun _ h => absurd h List.not_mem_nil)⟩)) u912 rfl) u919 rfl) u924 rfl), (JC.keep I858 hw ((mF.up (mF.up (mF.up (mF.call (mF.up (mF.up (mF.call mF.refl F881 rfl) (A_155 hw) u890 rfl) (A_156 hw) u896 rfl) F900 rfl) (A_157 hw) u912 rfl) (A_158 hw) u919 rfl) (A_106 hw) u924 rfl) : mF [106072, 126999, 155999, 156999, 157999, 158999] w μ854 μ923) rfl rfl), (G1.keep I859 hw ((mF.up (mF.up (mF.up (mF.call (mF.up (mF.up (mF.call mF.refl F881 rfl) (A_155 hw) u890 rfl) (A_156 hw) u896 rfl) F900 rfl) (A_157 hw) u912 rfl) (A_158 hw) u919 rfl) (A_106 hw) u924 rfl) : mF [106072, 126999, 155999, 156999, 157999, 158999] w μ854 μ923) rfl rfl ((mG.upO (mG.upO (mG.upO (mG.call (mG.upO (mG.upO (mG.call mG.refl h885.1 (List.forall_mem_cons.mpr ⟨⟨_, List.mem_cons_self, (vc_X12_say_u_28 h757.2.1 hq0 h752.2.1 h752.2.2.1 ht_f_e0 h1 hp1 hp2 hp3 h752.1 h759)⟩, (fun _ h => absurd h List.not_mem_nil)⟩)) u890 rfl) u896 rfl) h904.1 (List.forall_mem_cons.mpr ⟨⟨_, (List.mem_cons_of_mem _ List.mem_cons_self), (vc_X12_say_u_29 h757.2.1 hq0 h752.2.1 h752.2.2.1 ht_f_e0 h1 hp1 hp2 hp3 h752.1 h759)⟩, (fun _ h => absurd h List.not_mem_nil)⟩)) u912 rfl) u919 rfl) u924 rfl) : mG [((40 * (530 + z758)), ((40 * (530 + z758)) + 40)), ((40 * (930 + z758)), ((40 * (930 + z758)) + 40))] μ854 μ923) (List.forall_mem_cons.mpr ⟨(vc_X12_say_u_31 h757.2.1 hq0 h752.2.1 h752.2.2.1 ht_f_e0 h1 hp1 hp2 hp3 h752.1 h759), (List.forall_mem_cons.mpr ⟨(vc_X12_say_u_30 h757.2.1 hq0 h752.2.1 h752.2.2.1 ht_f_e0 h1 hp1 hp2 hp3 h752.1 h759), (fun _ h => absurd h List.not_mem_nil)⟩)⟩)), (EV.keep I914 hw ((mF.up (mF.up mF.refl (A_158 hw) u919 rfl) (A_106 hw) u924 rfl) : mF [106072, 158999] w μ911 μ923) rfl), trivial⟩
      have h926 : 1 ≤ z870 ∧ z870 ≤ 1 := (vc_X12_say_u_32 h873 h872)
      refine sv_aload_n (pc := 162) dX12_say_162 rfl rfl ?_
      refine gf_X12_71 (pc := 163) dX12_say_163 wF_X12_591 (A_106 hw) T855 fun z927 q928 h929 => ?_
      refine sv_aload_n (pc := 166) dX12_say_166 rfl rfl ?_
      refine gf_X12_76 (pc := 167) dX12_say_167 wF_X12_430 (A_106 hw) T855 ?_
      refine mr_iload (pc := 170) (z := z758) dX12_say_170 rfl ?_
      refine la_156 (pc := 172) dX12_say_172 (A_156 hw) T855 (rIx (n := 400) h759 rfl) fun z930 q931 h932 => ?_
      refine sv_aload_n (pc := 173) dX12_say_173 rfl rfl ?_
      refine gf_X12_11 (pc := 174) dX12_say_174 wF_X12_60 (A_106 hw) T855 ?_
      refine mr_iload_n (pc := 177) (z := p2) dX12_say_177 rfl rfl ?_
      refine la_114 (pc := 178) dX12_say_178 (A_114 hw) T855 (rIx (n := 20) hp2 rfl) fun z933 q934 h935 => ?_
      refine mr_iadd (pc := 179) (x := z930) (y := z933) dX12_say_179 ?_
      refine mr_icmp_ge (pc := 180) (tgt := 236) dX12_say_180 (by decide) (r32 h929 rfl) (r32 (rAdd (e := 0) (f := 2000001000) h932 h935 rfl) rfl) (fun h936 => ?_) (fun h936 => ?_)
      · refine sv_aload_n (pc := 236) dX12_say_236 rfl rfl ?_
        refine mr_iconst (pc := 237) (z := 2) dX12_say_237 ?_
        refine mr_sipush (pc := 238) (z := 530) dX12_say_238 (by decide) ?_
        refine mr_iload (pc := 241) (z := z758) dX12_say_241 rfl ?_
        refine mr_iadd (pc := 243) (x := 530) (y := z758) dX12_say_243 ?_
        obtain ⟨z937, q938⟩ : ∃ z, μ854 126 (((40 * 2) : Int).toNat) = z := ⟨_, rfl⟩
        have h939 := rt7 T855 (A_126 hw) vc_X12_say_u_3 q938
        have h940 : (-1) ≤ z937 ∧ z937 ≤ 9 := h939.2.1 vc_X12_say_u_4
        refine mr_cVV (pc := 244) (c_X12_copy hw T855 (rW (c := 0) (d := 2099) (rR (x := 2)) rfl) (rW (c := 0) (d := 2099) (rAdd (e := 530) (f := 929) (rR (x := 530)) h759 rfl) rfl) q938 (vc_X12_say_u_14 h757.2.1 hq0 h752.2.1 h752.2.2.1 ht_f_e0 h1 hp1 hp2 hp3 h752.1 h759)) (gOk _ _ _ _ _) dX12_say_244 (tX12_copy _ _ _ _ _) ⟨wV_X12_copy, wL_X12_copy⟩ wM_X12_559 (gCX12 _ _ _ _ _) rfl (A_106 hw) rfl ⟨le_t rfl, le_t rfl⟩ ⟨le_t rfl, le_t rfl⟩ rfl (le_t rfl) fun μ941 T942 F943 h944 => ?_
        obtain ⟨z945, q946, h947⟩ := h944
        have h948 := rt7 T942 (A_126 hw) (vc_X12_say_u_15 h757.2.1 hq0 h752.2.1 h752.2.2.1 ht_f_e0 h1 hp1 hp2 hp3 h752.1 h759) q946
        have h949 : (-1) ≤ z945 ∧ z945 ≤ 9 := h948.2.1 (vc_X12_say_u_16 h757.2.1 hq0 h752.2.1 h752.2.2.1 ht_f_e0 h1 hp1 hp2 hp3 h752.1 h759)
        have q950 : μ941 126 ((40 * (530 + z758)).toNat) = z937 := q946.trans h947.2.1
        refine sv_aload_n (pc := 247) dX12_say_247 rfl rfl ?_
        refine gf_X12_75 (pc := 248) dX12_say_248 wF_X12_427 (A_106 hw) T942 ?_
        refine mr_iload (pc := 251) (z := z758) dX12_say_251 rfl ?_
        refine mr_iconst (pc := 253) (z := 1) dX12_say_253 ?_
        refine ss_155 (pc := 254) dX12_say_254 (A_155 hw) T942 (rIx (n := 400) h759 rfl) (rW (c := 0) (d := 1) (rR (x := 1)) rfl) fun μ951 u952 T953 => ?_
        refine sv_aload_n (pc := 255) dX12_say_255 rfl rfl ?_
        refine gf_X12_76 (pc := 256) dX12_say_256 wF_X12_430 (A_106 hw) T953 ?_
        refine mr_iload (pc := 259) (z := z758) dX12_say_259 rfl ?_
        refine sv_aload_n (pc := 261) dX12_say_261 rfl rfl ?_
        refine gk_X12_71 (pc := 262) dX12_say_262 wF_X12_591 (A_106 hw) (u952.f (Or.inl (mAt.ne (A_155 hw) (A_106 hw) rfl)) (F943.f (A_106 hw) rfl q928)) ?_
        refine ss_156 (pc := 265) dX12_say_265 (A_156 hw) T953 (rIx (n := 400) h759 rfl) h929 fun μ954 u955 T956 => ?_
        refine sv_aload_n (pc := 266) dX12_say_266 rfl rfl ?_
        refine mr_iconst (pc := 267) (z := 2) dX12_say_267 ?_
        refine mr_sipush (pc := 268) (z := 930) dX12_say_268 (by decide) ?_
        refine mr_iload (pc := 271) (z := z758) dX12_say_271 rfl ?_
        refine mr_iadd (pc := 273) (x := 930) (y := z758) dX12_say_273 ?_
        refine mr_cVV (pc := 274) (c_X12_copy hw T956 (rW (c := 0) (d := 2099) (rR (x := 2)) rfl) (rW (c := 0) (d := 2099) (rAdd (e := 930) (f := 1329) (rR (x := 930)) h759 rfl) rfl) (u955.f (Or.inl (mAt.ne (A_156 hw) (A_126 hw) rfl)) (u952.f (Or.inl (mAt.ne (A_155 hw) (A_126 hw) rfl)) (h947.1.f vc_X12_say_u_3 (List.forall_mem_cons.mpr ⟨(vc_X12_say_u_17 h757.2.1 hq0 h752.2.1 h752.2.2.1 ht_f_e0 h1 hp1 hp2 hp3 h752.1 h759), (fun _ h => absurd h List.not_mem_nil)⟩) q938))) (vc_X12_say_u_18 h757.2.1 hq0 h752.2.1 h752.2.2.1 ht_f_e0 h1 hp1 hp2 hp3 h752.1 h759)) (gOk _ _ _ _ _) dX12_say_274 (tX12_copy _ _ _ _ _) ⟨wV_X12_copy, wL_X12_copy⟩ wM_X12_559 (gCX12 _ _ _ _ _) rfl (A_106 hw) rfl ⟨le_t rfl, le_t rfl⟩ ⟨le_t rfl, le_t rfl⟩ rfl (le_t rfl) fun μ957 T958 F959 h960 => ?_
        obtain ⟨z961, q962, h963⟩ := h960
        have h964 := rt7 T958 (A_126 hw) (vc_X12_say_u_19 h757.2.1 hq0 h752.2.1 h752.2.2.1 ht_f_e0 h1 hp1 hp2 hp3 h752.1 h759) q962
        have h965 : (-1) ≤ z961 ∧ z961 ≤ 9 := h964.2.1 (vc_X12_say_u_20 h757.2.1 hq0 h752.2.1 h752.2.2.1 ht_f_e0 h1 hp1 hp2 hp3 h752.1 h759)
        have q966 : μ957 126 ((40 * (930 + z758)).toNat) = z937 := q962.trans h963.2.1
        refine sv_aload_n (pc := 277) dX12_say_277 rfl rfl ?_
        refine gf_X12_77 (pc := 278) dX12_say_278 wF_X12_433 (A_106 hw) T958 ?_
        refine mr_iload (pc := 281) (z := z758) dX12_say_281 rfl ?_
        refine sv_aload_n (pc := 283) dX12_say_283 rfl rfl ?_
        refine gk_X12_71 (pc := 284) dX12_say_284 wF_X12_591 (A_106 hw) (F959.f (A_106 hw) rfl (u955.f (Or.inl (mAt.ne (A_156 hw) (A_106 hw) rfl)) (u952.f (Or.inl (mAt.ne (A_155 hw) (A_106 hw) rfl)) (F943.f (A_106 hw) rfl q928)))) ?_
        refine sv_aload_n (pc := 287) dX12_say_287 rfl rfl ?_
        refine gf_X12_10 (pc := 288) dX12_say_288 wF_X12_57 (A_106 hw) T958 ?_
        refine mr_iload_n (pc := 291) (z := p2) dX12_say_291 rfl rfl ?_
        refine la_113 (pc := 292) dX12_say_292 (A_113 hw) T958 (rIx (n := 20) hp2 rfl) fun z967 q968 h969 => ?_
        refine mr_iadd (pc := 293) (x := z927) (y := z967) dX12_say_293 ?_
        refine ss_157 (pc := 294) dX12_say_294 (A_157 hw) T958 (rIx (n := 400) h759 rfl) (rW (c := (-1)) (d := 2000001000) (rAdd (e := 0) (f := 2000001000) h929 h969 rfl) rfl) fun μ970 u971 T972 => ?_
        have I973 : EV μ970 := EV.up1 (EV.keep I860 hw ((mF.call (mF.up (mF.up (mF.call mF.refl F943 rfl) (A_155 hw) u952 rfl) (A_156 hw) u955 rfl) F959 rfl) : mF [126999, 155999, 156999] w μ854 μ957) rfl) u971 (u971.f (Or.inl (mAt.ne (A_157 hw) (A_106 hw) rfl)) (F959.f (A_106 hw) rfl (u955.f (Or.inl (mAt.ne (A_156 hw) (A_106 hw) rfl)) (u952.f (Or.inl (mAt.ne (A_155 hw) (A_106 hw) rfl)) (F943.f (A_106 hw) rfl (F856.f (A_106 hw) rfl (F762.f (A_106 hw) rfl q_f_ties))))))) (vc_X12_say_u_21 h757.2.1 hq0 h752.2.1 h752.2.2.1 ht_f_e0 h1 hp1 hp2 hp3 h752.1 h759) (vc_X12_say_u_33 hq0 h757.2.1 h936 h752.2.1 h752.2.2.1 ht_f_e0 h1 hp1 hp2 hp3 h752.1 h759 h929 h932 h935 h969)
        refine sv_aload_n (pc := 295) dX12_say_295 rfl rfl ?_
        refine gf_X12_78 (pc := 296) dX12_say_296 wF_X12_436 (A_106 hw) T972 ?_
        refine mr_iload (pc := 299) (z := z758) dX12_say_299 rfl ?_
        refine sv_aload_n (pc := 301) dX12_say_301 rfl rfl ?_
        refine gf_X12_72 (pc := 302) dX12_say_302 wF_X12_594 (A_106 hw) T972 fun z974 q975 h976 => ?_
        refine ss_158 (pc := 305) dX12_say_305 (A_158 hw) T972 (rIx (n := 400) h759 rfl) h976 fun μ977 u978 T979 => ?_
        refine sv_aload_n (pc := 306) dX12_say_306 rfl rfl ?_
        refine sv_dup (pc := 307) dX12_say_307 rfl ?_
        refine gk_X12_72 (pc := 308) dX12_say_308 wF_X12_594 (A_106 hw) (u978.f (Or.inl (mAt.ne (A_158 hw) (A_106 hw) rfl)) q975) ?_
        refine mr_iconst (pc := 311) (z := 1) dX12_say_311 ?_
        refine mr_iadd (pc := 312) (x := z974) (y := 1) dX12_say_312 ?_
        refine mr_wrap fun z980 h981 => ?_
        refine pf_X12_72 (pc := 313) dX12_say_313 wF_X12_594 (A_106 hw) T979 h981 fun μ982 u983 T984 => ?_
        exact mr_vret dX12_say_316 rfl (le_t rfl) (le_t rfl) T984 (mF.up (mF.up (mF.up (mF.call (mF.up (mF.up (mF.call (mF.call (mF.call mF.refl F762 rfl) F856 rfl) F943 rfl) (A_155 hw) u952 rfl) (A_156 hw) u955 rfl) F959 rfl) (A_157 hw) u971 rfl) (A_158 hw) u978 rfl) (A_106 hw) u983 rfl) ⟨(mG.upO (mG.upO (mG.upO (mG.call (mG.upO (mG.upO (mG.call (mG.call (mG.call mG.refl h766.1 (List.forall_mem_cons.mpr ⟨⟨_, List.mem_cons_self, vc_X12_say_u_23⟩, (fun _ h => absurd h List.not_mem_nil)⟩)) G857 (List.forall_mem_cons.mpr ⟨⟨_, List.mem_cons_self, vc_X12_say_u_24⟩, (List.forall_mem_cons.mpr ⟨⟨_, (List.mem_cons_of_mem _ List.mem_cons_self), vc_X12_say_u_25⟩, (fun _ h => absurd h List.not_mem_nil)⟩)⟩)) h947.1 (List.forall_mem_cons.mpr ⟨⟨_, (List.mem_cons_of_mem _ List.mem_cons_self), (vc_X12_say_u_26 h757.2.1 hq0 h752.2.1 h752.2.2.1 ht_f_e0 h1 hp1 hp2 hp3 h752.1 h759)⟩, (fun _ h => absurd h List.not_mem_nil)⟩)) u952 rfl) u955 rfl) h963.1 (List.forall_mem_cons.mpr ⟨⟨_, (List.mem_cons_of_mem _ List.mem_cons_self), (vc_X12_say_u_27 h757.2.1 hq0 h752.2.1 h752.2.2.1 ht_f_e0 h1 hp1 hp2 hp3 h752.1 h759)⟩, (fun _ h => absurd h List.not_mem_nil)⟩)) u971 rfl) u978 rfl) u983 rfl), (JC.keep I858 hw ((mF.up (mF.up (mF.up (mF.call (mF.up (mF.up (mF.call mF.refl F943 rfl) (A_155 hw) u952 rfl) (A_156 hw) u955 rfl) F959 rfl) (A_157 hw) u971 rfl) (A_158 hw) u978 rfl) (A_106 hw) u983 rfl) : mF [106072, 126999, 155999, 156999, 157999, 158999] w μ854 μ982) rfl rfl), (G1.keep I859 hw ((mF.up (mF.up (mF.up (mF.call (mF.up (mF.up (mF.call mF.refl F943 rfl) (A_155 hw) u952 rfl) (A_156 hw) u955 rfl) F959 rfl) (A_157 hw) u971 rfl) (A_158 hw) u978 rfl) (A_106 hw) u983 rfl) : mF [106072, 126999, 155999, 156999, 157999, 158999] w μ854 μ982) rfl rfl ((mG.upO (mG.upO (mG.upO (mG.call (mG.upO (mG.upO (mG.call mG.refl h947.1 (List.forall_mem_cons.mpr ⟨⟨_, List.mem_cons_self, (vc_X12_say_u_28 h757.2.1 hq0 h752.2.1 h752.2.2.1 ht_f_e0 h1 hp1 hp2 hp3 h752.1 h759)⟩, (fun _ h => absurd h List.not_mem_nil)⟩)) u952 rfl) u955 rfl) h963.1 (List.forall_mem_cons.mpr ⟨⟨_, (List.mem_cons_of_mem _ List.mem_cons_self), (vc_X12_say_u_29 h757.2.1 hq0 h752.2.1 h752.2.2.1 ht_f_e0 h1 hp1 hp2 hp3 h752.1 h759)⟩, (fun _ h => absurd h List.not_mem_nil)⟩)) u971 rfl) u978 rfl) u983 rfl) : mG [((40 * (530 + z758)), ((40 * (530 + z758)) + 40)), ((40 * (930 + z758)), ((40 * (930 + z758)) + 40))] μ854 μ982) (List.forall_mem_cons.mpr ⟨(vc_X12_say_u_31 h757.2.1 hq0 h752.2.1 h752.2.2.1 ht_f_e0 h1 hp1 hp2 hp3 h752.1 h759), (List.forall_mem_cons.mpr ⟨(vc_X12_say_u_30 h757.2.1 hq0 h752.2.1 h752.2.2.1 ht_f_e0 h1 hp1 hp2 hp3 h752.1 h759), (fun _ h => absurd h List.not_mem_nil)⟩)⟩)), (EV.keep I973 hw ((mF.up (mF.up mF.refl (A_158 hw) u978 rfl) (A_106 hw) u983 rfl) : mF [106072, 158999] w μ970 μ982) rfl), trivial⟩
      refine sv_aload_n (pc := 183) dX12_say_183 rfl rfl ?_
      refine gf_X12_79 (pc := 184) dX12_say_184 wF_X12_439 (A_106 hw) T855 ?_
      refine mr_iload (pc := 187) (z := z758) dX12_say_187 rfl ?_
      refine la_159 (pc := 189) dX12_say_189 (A_159 hw) T855 (rIx (n := 400) h759 rfl) fun z985 q986 h987 => ?_
      refine mr_if_ge (pc := 190) (tgt := 235) dX12_say_190 (by decide) (r32 h987 rfl) (fun h1004 => ?_) (fun h1004 => ?_)
      · have h1005 : 0 ≤ z985 ∧ z985 ≤ 2000001000 := (vc_X12_say_u_34 h1004 h987)
        exact mr_vret dX12_say_235 rfl (le_t rfl) (le_t rfl) T855 (mF.call (mF.call mF.refl F762 rfl) F856 rfl) ⟨(mG.call (mG.call mG.refl h766.1 (List.forall_mem_cons.mpr ⟨⟨_, List.mem_cons_self, vc_X12_say_u_23⟩, (fun _ h => absurd h List.not_mem_nil)⟩)) G857 (List.forall_mem_cons.mpr ⟨⟨_, List.mem_cons_self, vc_X12_say_u_24⟩, (List.forall_mem_cons.mpr ⟨⟨_, (List.mem_cons_of_mem _ List.mem_cons_self), vc_X12_say_u_25⟩, (fun _ h => absurd h List.not_mem_nil)⟩)⟩)), I858, I859, I860, trivial⟩
      have h1006 : (-1) ≤ z985 ∧ z985 ≤ (-1) := (vc_X12_say_u_35 h1004 h987)
      refine sv_aload_n (pc := 193) dX12_say_193 rfl rfl ?_
      refine gf_X12_79 (pc := 194) dX12_say_194 wF_X12_439 (A_106 hw) T855 ?_
      refine mr_iload (pc := 197) (z := z758) dX12_say_197 rfl ?_
      refine sv_aload_n (pc := 199) dX12_say_199 rfl rfl ?_
      refine gf_X12_76 (pc := 200) dX12_say_200 wF_X12_430 (A_106 hw) T855 ?_
      refine mr_iload (pc := 203) (z := z758) dX12_say_203 rfl ?_
      refine lk_156 (pc := 205) dX12_say_205 (A_156 hw) (rIx (n := 400) h759 rfl) q931 ?_
      refine sv_aload_n (pc := 206) dX12_say_206 rfl rfl ?_
      refine gf_X12_11 (pc := 207) dX12_say_207 wF_X12_60 (A_106 hw) T855 ?_
      refine mr_iload_n (pc := 210) (z := p2) dX12_say_210 rfl rfl ?_
      refine lk_114 (pc := 211) dX12_say_211 (A_114 hw) (rIx (n := 20) hp2 rfl) q934 ?_
      refine mr_iadd (pc := 212) (x := z930) (y := z933) dX12_say_212 ?_
      refine ss_159 (pc := 213) dX12_say_213 (A_159 hw) T855 (rIx (n := 400) h759 rfl) (rW (c := (-1)) (d := 2000001000) (rAdd (e := 0) (f := 2000001000) h932 h935 rfl) rfl) fun μ1007 u1008 T1009 => ?_
      have I1010 : EV μ1007 := EV.up2 I860 u1008 (u1008.f (Or.inl (mAt.ne (A_159 hw) (A_106 hw) rfl)) (F856.f (A_106 hw) rfl (F762.f (A_106 hw) rfl q_f_ties))) (vc_X12_say_u_21 h757.2.1 hq0 h752.2.1 h752.2.2.1 ht_f_e0 h1 hp1 hp2 hp3 h752.1 h759) (vc_X12_say_u_36 hq0 h757.2.1 h936 h752.2.1 h752.2.2.1 ht_f_e0 h1 hp1 hp2 hp3 h752.1 h759 h929 h932 h935)
      refine sv_aload_n (pc := 214) dX12_say_214 rfl rfl ?_
      refine gf_X12_80 (pc := 215) dX12_say_215 wF_X12_442 (A_106 hw) T1009 ?_
      refine mr_iload (pc := 218) (z := z758) dX12_say_218 rfl ?_
      refine sv_aload_n (pc := 220) dX12_say_220 rfl rfl ?_
      refine gf_X12_72 (pc := 221) dX12_say_221 wF_X12_594 (A_106 hw) T1009 fun z1011 q1012 h1013 => ?_
      refine ss_160 (pc := 224) dX12_say_224 (A_160 hw) T1009 (rIx (n := 400) h759 rfl) h1013 fun μ1014 u1015 T1016 => ?_
      refine sv_aload_n (pc := 225) dX12_say_225 rfl rfl ?_
      refine sv_dup (pc := 226) dX12_say_226 rfl ?_
      refine gk_X12_72 (pc := 227) dX12_say_227 wF_X12_594 (A_106 hw) (u1015.f (Or.inl (mAt.ne (A_160 hw) (A_106 hw) rfl)) q1012) ?_
      refine mr_iconst (pc := 230) (z := 1) dX12_say_230 ?_
      refine mr_iadd (pc := 231) (x := z1011) (y := 1) dX12_say_231 ?_
      refine mr_wrap fun z1017 h1018 => ?_
      refine pf_X12_72 (pc := 232) dX12_say_232 wF_X12_594 (A_106 hw) T1016 h1018 fun μ1019 u1020 T1021 => ?_
      exact mr_vret dX12_say_235 rfl (le_t rfl) (le_t rfl) T1021 (mF.up (mF.up (mF.up (mF.call (mF.call mF.refl F762 rfl) F856 rfl) (A_159 hw) u1008 rfl) (A_160 hw) u1015 rfl) (A_106 hw) u1020 rfl) ⟨(mG.upO (mG.upO (mG.upO (mG.call (mG.call mG.refl h766.1 (List.forall_mem_cons.mpr ⟨⟨_, List.mem_cons_self, vc_X12_say_u_23⟩, (fun _ h => absurd h List.not_mem_nil)⟩)) G857 (List.forall_mem_cons.mpr ⟨⟨_, List.mem_cons_self, vc_X12_say_u_24⟩, (List.forall_mem_cons.mpr ⟨⟨_, (List.mem_cons_of_mem _ List.mem_cons_self), vc_X12_say_u_25⟩, (fun _ h => absurd h List.not_mem_nil)⟩)⟩)) u1008 rfl) u1015 rfl) u1020 rfl), (JC.keep I858 hw ((mF.up (mF.up (mF.up mF.refl (A_159 hw) u1008 rfl) (A_160 hw) u1015 rfl) (A_106 hw) u1020 rfl) : mF [106072, 159999, 160999] w μ854 μ1019) rfl rfl), (G1.keep I859 hw ((mF.up (mF.up (mF.up mF.refl (A_159 hw) u1008 rfl) (A_160 hw) u1015 rfl) (A_106 hw) u1020 rfl) : mF [106072, 159999, 160999] w μ854 μ1019) rfl rfl ((mG.upO (mG.upO (mG.upO mG.refl u1008 rfl) u1015 rfl) u1020 rfl) : mG [] μ854 μ1019) (fun _ h => absurd h List.not_mem_nil)), (EV.keep I1010 hw ((mF.up (mF.up mF.refl (A_160 hw) u1015 rfl) (A_106 hw) u1020 rfl) : mF [106072, 160999] w μ1007 μ1019) rfl), trivial⟩
    have h1022 : 1 ≤ z867 ∧ z867 ≤ 1 := (vc_X12_say_u_37 h868 h866.1)
    exact mr_vret dX12_say_151 rfl (le_t rfl) (le_t rfl) T855 (mF.call (mF.call mF.refl F762 rfl) F856 rfl) ⟨(mG.call (mG.call mG.refl h766.1 (List.forall_mem_cons.mpr ⟨⟨_, List.mem_cons_self, vc_X12_say_u_23⟩, (fun _ h => absurd h List.not_mem_nil)⟩)) G857 (List.forall_mem_cons.mpr ⟨⟨_, List.mem_cons_self, vc_X12_say_u_24⟩, (List.forall_mem_cons.mpr ⟨⟨_, (List.mem_cons_of_mem _ List.mem_cons_self), vc_X12_say_u_25⟩, (fun _ h => absurd h List.not_mem_nil)⟩)⟩)), I858, I859, I860, trivial⟩
  refine mr_icmp_eq (pc := 39) (tgt := 137) dX12_say_39 (by decide) (r32 h774 rfl) (r32 (rR (x := (-99999999))) rfl) (fun h1023 => ?_) (fun h1023 => ?_)
  · have h1024 : (-99999999) ≤ z771 ∧ z771 ≤ (-99999999) := (vc_X12_say_u_38 h1023 h779 h774 h773 h778)
    refine mr_lvS (lv' := [(0, .ref 106), (2, iv p2), (5, iv z758)]) (List.forall_mem_cons.mpr ⟨rfl, List.forall_mem_cons.mpr ⟨rfl, List.forall_mem_cons.mpr ⟨rfl, fun _ h => absurd h List.not_mem_nil⟩⟩⟩) ?_
    exact J862 μ760 T761 mF.refl mG.refl (JC.keep hIJC hw ((mF.call mF.refl F762 rfl) : mF [126999] w μ μ760) rfl rfl) (G1.keep hIG1 hw ((mF.call mF.refl F762 rfl) : mF [126999] w μ μ760) rfl rfl ((mG.call mG.refl h766.1 (List.forall_mem_cons.mpr ⟨⟨_, List.mem_cons_self, vc_X12_say_u_9⟩, (fun _ h => absurd h List.not_mem_nil)⟩)) : mG [((40 * 2), ((40 * 2) + 1))] μ μ760) (List.forall_mem_cons.mpr ⟨vc_X12_say_u_10, (fun _ h => absurd h List.not_mem_nil)⟩)) (EV.keep hIEV hw ((mF.call mF.refl F762 rfl) : mF [126999] w μ μ760) rfl) (PK.keep hIPK hw ((mF.call mF.refl F762 rfl) : mF [126999] w μ μ760) rfl)
  have h1025 : (-4) ≤ z771 ∧ z771 ≤ 19 := (vc_X12_say_u_39 h1023 h779 h774 h773 h778)
  refine sv_aload_n (pc := 42) dX12_say_42 rfl rfl ?_
  refine gf_X12_81 (pc := 43) dX12_say_43 wF_X12_445 (A_106 hw) T761 ?_
  refine mr_iload (pc := 46) (z := ((10 * p1) + p3)) dX12_say_46 rfl ?_
  refine lk_161 (pc := 48) dX12_say_48 (A_161 hw) (rIx (n := 100) (rAdd (e := 0) (f := 99) (rMulL (n := 10) (e := 0) (f := 90) hp1 rfl) hp3 rfl) rfl) q772 ?_
  refine mr_iload_n (pc := 49) (z := p2) dX12_say_49 rfl rfl ?_
  refine mr_icmp_eq (pc := 50) (tgt := 137) dX12_say_50 (by decide) (r32 h1025 rfl) (r32 hp2 rfl) (fun h1026 => ?_) (fun h1026 => ?_)
  · have h1027 : 0 ≤ z771 ∧ z771 ≤ 19 := (vc_X12_say_u_40 h1026 hq0 h757.2.1 h779 h1023 h1 hp2 hp3 h752.1 h759 h1025 h773 h778)
    refine mr_lvS (lv' := [(0, .ref 106), (2, iv p2), (5, iv z758)]) (List.forall_mem_cons.mpr ⟨rfl, List.forall_mem_cons.mpr ⟨rfl, List.forall_mem_cons.mpr ⟨rfl, fun _ h => absurd h List.not_mem_nil⟩⟩⟩) ?_
    exact J862 μ760 T761 mF.refl mG.refl (JC.keep hIJC hw ((mF.call mF.refl F762 rfl) : mF [126999] w μ μ760) rfl rfl) (G1.keep hIG1 hw ((mF.call mF.refl F762 rfl) : mF [126999] w μ μ760) rfl rfl ((mG.call mG.refl h766.1 (List.forall_mem_cons.mpr ⟨⟨_, List.mem_cons_self, vc_X12_say_u_9⟩, (fun _ h => absurd h List.not_mem_nil)⟩)) : mG [((40 * 2), ((40 * 2) + 1))] μ μ760) (List.forall_mem_cons.mpr ⟨vc_X12_say_u_10, (fun _ h => absurd h List.not_mem_nil)⟩)) (EV.keep hIEV hw ((mF.call mF.refl F762 rfl) : mF [126999] w μ μ760) rfl) (PK.keep hIPK hw ((mF.call mF.refl F762 rfl) : mF [126999] w μ μ760) rfl)
  refine sv_aload_n (pc := 53) dX12_say_53 rfl rfl ?_
  refine mr_bipush (pc := 54) (z := 30) dX12_say_54 (by decide) ?_
  refine mr_iload (pc := 56) (z := ((10 * p1) + p3)) dX12_say_56 rfl ?_
  refine mr_iadd (pc := 58) (x := 30) (y := ((10 * p1) + p3)) dX12_say_58 ?_
  refine mr_iconst (pc := 59) (z := 2) dX12_say_59 ?_
  refine mr_cVV (pc := 60) (c_X12_copy hw T761 (rW (c := 0) (d := 2099) (rAdd (e := 30) (f := 129) (rR (x := 30)) (rAdd (e := 0) (f := 99) (rMulL (n := 10) (e := 0) (f := 90) hp1 rfl) hp3 rfl) rfl) rfl) (rW (c := 0) (d := 2099) (rR (x := 2)) rfl) q776 (vc_X12_say_u_41 hq1 h752.2.1 h752.2.2.1 h757.2.1 hq0 h1026 ht_f_e0 ht_f_e1 h1 hp1 hp2 hp3 h752.1 h759 h1025 h773)) (gOk _ _ _ _ _) dX12_say_60 (tX12_copy _ _ _ _ _) ⟨wV_X12_copy, wL_X12_copy⟩ wM_X12_559 (gCX12 _ _ _ _ _) rfl (A_106 hw) rfl ⟨le_t rfl, le_t rfl⟩ ⟨le_t rfl, le_t rfl⟩ rfl (le_t rfl) fun μ1028 T1029 F1030 h1031 => ?_
  obtain ⟨z1032, q1033, h1034⟩ := h1031
  have h1035 := rt7 T1029 (A_126 hw) vc_X12_say_u_3 q1033
  have h1036 : (-1) ≤ z1032 ∧ z1032 ≤ 9 := h1035.2.1 vc_X12_say_u_4
  have q1037 : μ1028 126 (((40 * 2) : Int).toNat) = z775 := q1033.trans h1034.2.1
  refine sv_aload_n (pc := 63) dX12_say_63 rfl rfl ?_
  refine gf_X12_32 (pc := 64) dX12_say_64 wF_X12_148 (A_106 hw) T1029 ?_
  refine mr_bipush (pc := 67) (z := 81) dX12_say_67 (by decide) ?_
  refine mr_bipush (pc := 69) (z := 100) dX12_say_69 (by decide) ?_
  refine ss_126 (pc := 71) dX12_say_71 (A_126 hw) T1029 (rIx (n := 84000) (rR (x := 81)) rfl) vc_X12_say_u_42 fun μ1038 u1039 T1040 => ?_
  refine sv_aload_n (pc := 72) dX12_say_72 rfl rfl ?_
  refine mr_iconst (pc := 73) (z := 2) dX12_say_73 ?_
  refine mr_iload_n (pc := 74) (z := p1) dX12_say_74 rfl rfl ?_
  refine mr_cVI (pc := 75) (c_X12_front hw T1040 (rW (c := 0) (d := 2099) (rR (x := 2)) rfl) (rW (c := (-2147483648)) (d := 2147483647) hp1 rfl)) (gOk _ _ _ _ _) dX12_say_75 (tX12_front _ _ _ _ _) ⟨wV_X12_front, wL_X12_front⟩ wM_X12_408 (gCX12 _ _ _ _ _) rfl (A_106 hw) rfl ⟨le_t rfl, le_t rfl⟩ ⟨le_t rfl, le_t rfl⟩ rfl (le_t rfl) fun z1045 μ1041 T1042 F1043 h1044 => ?_
  have J1083 : ∀ (z1073 : Int) (μ1075 : mM), (mT w μ1075) → (mF [106026, 106027, 106028, 106029, 106030, 106031, 126999, 151999, 152999, 153999] w μ1041 μ1075) → (mG [(80, 120), (21200, 53200)] μ1041 μ1075) → ((0 ≤ z1073 ∧ z1073 ≤ 1)) → (JC l D c H0 sa μ1075) → (G1 μ1075) → (EV μ1075) → (PK μ1075) → sV (gG l D c H0 sa) mX12_say (sRm 7 0 0) (sZ (gG l D c H0 sa) 0 0 (qV w [106026, 106027, 106028, 106029, 106030, 106031, 106072, 126999, 151999, 152999, 153999, 155999, 156999, 157999, 158999, 159999, 160999] μ (fun μ1 => mG [(80, 120), (21200, 53200)] μ μ1 ∧ JC l D c H0 sa μ1 ∧ G1 μ1 ∧ EV μ1 ∧ True))) 116 [(0, .ref 106), (2, iv p2), (5, iv z758)] [iv z1073] (mk w μ1075) 0 0 := by
    intro z1073 μ1075 T1076 F1077 G1078 h1074 I1079 I1080 I1081 I1082
    refine mr_istore (pc := 116) (lv' := [(7, iv z1073), (0, .ref 106), (2, iv p2), (5, iv z758)]) dX12_say_116 (by decide) rfl ?_
    refine sv_aload_n (pc := 118) dX12_say_118 rfl rfl ?_
    refine gf_X12_32 (pc := 119) dX12_say_119 wF_X12_148 (A_106 hw) T1076 ?_
    refine mr_bipush (pc := 122) (z := 81) dX12_say_122 (by decide) ?_
    refine mr_bipush (pc := 124) (z := 100) dX12_say_124 (by decide) ?_
    refine ss_126 (pc := 126) dX12_say_126 (A_126 hw) T1076 (rIx (n := 84000) (rR (x := 81)) rfl) vc_X12_say_u_42 fun μ1084 u1085 T1086 => ?_
    refine mr_iload (pc := 127) (z := z1073) dX12_say_127 rfl ?_
    refine mr_if_ne (pc := 129) (tgt := 137) dX12_say_129 (by decide) (r32 h1074 rfl) (fun h1087 => ?_) (fun h1087 => ?_)
    · have h1088 : 1 ≤ z1073 ∧ z1073 ≤ 1 := (vc_X12_say_u_43 h1087 h1074)
      refine mr_lvS (lv' := [(0, .ref 106), (2, iv p2), (5, iv z758)]) (List.forall_mem_cons.mpr ⟨rfl, List.forall_mem_cons.mpr ⟨rfl, List.forall_mem_cons.mpr ⟨rfl, fun _ h => absurd h List.not_mem_nil⟩⟩⟩) ?_
      exact J862 μ1084 T1086 (mF.up (mF.call (mF.call (mF.up (mF.call mF.refl F1030 rfl) (A_126 hw) u1039 rfl) F1043 rfl) F1077 rfl) (A_126 hw) u1085 rfl) (mG.up (mG.call (mG.call (mG.up (mG.call mG.refl h1034.1 (List.forall_mem_cons.mpr ⟨⟨_, List.mem_cons_self, vc_X12_say_u_44⟩, (fun _ h => absurd h List.not_mem_nil)⟩)) u1039 List.mem_cons_self vc_X12_say_u_45) h1044.2.1 (List.forall_mem_cons.mpr ⟨⟨_, List.mem_cons_self, vc_X12_say_u_46⟩, (fun _ h => absurd h List.not_mem_nil)⟩)) G1078 (List.forall_mem_cons.mpr ⟨⟨_, List.mem_cons_self, vc_X12_say_u_24⟩, (List.forall_mem_cons.mpr ⟨⟨_, (List.mem_cons_of_mem _ List.mem_cons_self), vc_X12_say_u_25⟩, (fun _ h => absurd h List.not_mem_nil)⟩)⟩)) u1085 List.mem_cons_self vc_X12_say_u_45) (JC.keep I1079 hw ((mF.up mF.refl (A_126 hw) u1085 rfl) : mF [126999] w μ1075 μ1084) rfl rfl) (G1.keep I1080 hw ((mF.up mF.refl (A_126 hw) u1085 rfl) : mF [126999] w μ1075 μ1084) rfl rfl ((mG.up mG.refl u1085 List.mem_cons_self vc_X12_say_u_47) : mG [(81, (81 + 1))] μ1075 μ1084) (List.forall_mem_cons.mpr ⟨vc_X12_say_u_48, (fun _ h => absurd h List.not_mem_nil)⟩)) (EV.keep I1081 hw ((mF.up mF.refl (A_126 hw) u1085 rfl) : mF [126999] w μ1075 μ1084) rfl) (PK.keep I1082 hw ((mF.up mF.refl (A_126 hw) u1085 rfl) : mF [126999] w μ1075 μ1084) rfl)
    have h1089 : 0 ≤ z1073 ∧ z1073 ≤ 0 := (vc_X12_say_u_49 h1087 h1074)
    refine sv_aload_n (pc := 132) dX12_say_132 rfl rfl ?_
    refine mr_iconst (pc := 133) (z := 2) dX12_say_133 ?_
    refine mr_cVV (pc := 134) (c_X12_nothing hw T1086 (rW (c := 0) (d := 2099) (rR (x := 2)) rfl)) (gOk _ _ _ _ _) dX12_say_134 (tX12_nothing _ _ _ _ _) ⟨wV_X12_nothing, wL_X12_nothing⟩ wM_X12_539 (gCX12 _ _ _ _ _) rfl (A_106 hw) rfl ⟨le_t rfl, le_t rfl⟩ ⟨le_t rfl, le_t rfl⟩ rfl (le_t rfl) fun μ1090 T1091 F1092 h1093 => ?_
    obtain ⟨z1094, q1095, h1096⟩ := h1093
    have h1097 := rt7 T1091 (A_126 hw) vc_X12_say_u_3 q1095
    have h1098 : (-1) ≤ z1094 ∧ z1094 ≤ 9 := h1097.2.1 vc_X12_say_u_4
    have q1099 : μ1090 126 (((40 * 2) : Int).toNat) = (-1) := q1095.trans h1096.2.1
    have h1100 : (-1) ≤ z1094 ∧ z1094 ≤ (-1) := (vc_X12_say_u_50 h1096.2.1 h1098)
    refine mr_lvS (lv' := [(0, .ref 106), (2, iv p2), (5, iv z758)]) (List.forall_mem_cons.mpr ⟨rfl, List.forall_mem_cons.mpr ⟨rfl, List.forall_mem_cons.mpr ⟨rfl, fun _ h => absurd h List.not_mem_nil⟩⟩⟩) ?_
    exact J862 μ1090 T1091 (mF.call (mF.up (mF.call (mF.call (mF.up (mF.call mF.refl F1030 rfl) (A_126 hw) u1039 rfl) F1043 rfl) F1077 rfl) (A_126 hw) u1085 rfl) F1092 rfl) (mG.call (mG.up (mG.call (mG.call (mG.up (mG.call mG.refl h1034.1 (List.forall_mem_cons.mpr ⟨⟨_, List.mem_cons_self, vc_X12_say_u_44⟩, (fun _ h => absurd h List.not_mem_nil)⟩)) u1039 List.mem_cons_self vc_X12_say_u_45) h1044.2.1 (List.forall_mem_cons.mpr ⟨⟨_, List.mem_cons_self, vc_X12_say_u_46⟩, (fun _ h => absurd h List.not_mem_nil)⟩)) G1078 (List.forall_mem_cons.mpr ⟨⟨_, List.mem_cons_self, vc_X12_say_u_24⟩, (List.forall_mem_cons.mpr ⟨⟨_, (List.mem_cons_of_mem _ List.mem_cons_self), vc_X12_say_u_25⟩, (fun _ h => absurd h List.not_mem_nil)⟩)⟩)) u1085 List.mem_cons_self vc_X12_say_u_45) h1096.1 (List.forall_mem_cons.mpr ⟨⟨_, List.mem_cons_self, vc_X12_say_u_23⟩, (fun _ h => absurd h List.not_mem_nil)⟩)) (JC.keep I1079 hw ((mF.call (mF.up mF.refl (A_126 hw) u1085 rfl) F1092 rfl) : mF [126999] w μ1075 μ1090) rfl rfl) (G1.keep I1080 hw ((mF.call (mF.up mF.refl (A_126 hw) u1085 rfl) F1092 rfl) : mF [126999] w μ1075 μ1090) rfl rfl ((mG.call (mG.up mG.refl u1085 List.mem_cons_self vc_X12_say_u_47) h1096.1 (List.forall_mem_cons.mpr ⟨⟨_, (List.mem_cons_of_mem _ List.mem_cons_self), vc_X12_say_u_9⟩, (fun _ h => absurd h List.not_mem_nil)⟩)) : mG [(81, (81 + 1)), ((40 * 2), ((40 * 2) + 1))] μ1075 μ1090) (List.forall_mem_cons.mpr ⟨vc_X12_say_u_48, (List.forall_mem_cons.mpr ⟨vc_X12_say_u_10, (fun _ h => absurd h List.not_mem_nil)⟩)⟩)) (EV.keep I1081 hw ((mF.call (mF.up mF.refl (A_126 hw) u1085 rfl) F1092 rfl) : mF [126999] w μ1075 μ1090) rfl) (PK.keep I1082 hw ((mF.call (mF.up mF.refl (A_126 hw) u1085 rfl) F1092 rfl) : mF [126999] w μ1075 μ1090) rfl)
  refine mr_if_eq (pc := 78) (tgt := 115) dX12_say_78 (by decide) (r32 h1044.1 rfl) (fun h1101 => ?_) (fun h1101 => ?_)
  · have h1102 : 0 ≤ z1045 ∧ z1045 ≤ 0 := (vc_X12_say_u_51 h1101 h1044.1)
    refine mr_iconst (pc := 115) (z := 0) dX12_say_115 ?_
    refine mr_lvS (lv' := [(0, .ref 106), (2, iv p2), (5, iv z758)]) (List.forall_mem_cons.mpr ⟨rfl, List.forall_mem_cons.mpr ⟨rfl, List.forall_mem_cons.mpr ⟨rfl, fun _ h => absurd h List.not_mem_nil⟩⟩⟩) ?_
    exact J1083 0 μ1041 T1042 mF.refl mG.refl (rW (c := 0) (d := 1) (rR (x := 0)) rfl) (JC.keep hIJC hw ((mF.call (mF.up (mF.call (mF.call mF.refl F762 rfl) F1030 rfl) (A_126 hw) u1039 rfl) F1043 rfl) : mF [126999] w μ μ1041) rfl rfl) (G1.keep hIG1 hw ((mF.call (mF.up (mF.call (mF.call mF.refl F762 rfl) F1030 rfl) (A_126 hw) u1039 rfl) F1043 rfl) : mF [126999] w μ μ1041) rfl rfl ((mG.call (mG.up (mG.call (mG.call mG.refl h766.1 (List.forall_mem_cons.mpr ⟨⟨_, List.mem_cons_self, vc_X12_say_u_9⟩, (fun _ h => absurd h List.not_mem_nil)⟩)) h1034.1 (List.forall_mem_cons.mpr ⟨⟨_, (List.mem_cons_of_mem _ List.mem_cons_self), vc_X12_say_u_52⟩, (fun _ h => absurd h List.not_mem_nil)⟩)) u1039 (List.mem_cons_of_mem _ List.mem_cons_self) vc_X12_say_u_53) h1044.2.1 (List.forall_mem_cons.mpr ⟨⟨_, (List.mem_cons_of_mem _ List.mem_cons_self), vc_X12_say_u_54⟩, (fun _ h => absurd h List.not_mem_nil)⟩)) : mG [((40 * 2), ((40 * 2) + 1)), ((40 * 2), ((40 * 2) + 40)), (81, (81 + 1)), (((40 * 2) + 1), ((40 * 2) + 40))] μ μ1041) (List.forall_mem_cons.mpr ⟨vc_X12_say_u_10, (List.forall_mem_cons.mpr ⟨vc_X12_say_u_56, (List.forall_mem_cons.mpr ⟨vc_X12_say_u_48, (List.forall_mem_cons.mpr ⟨vc_X12_say_u_55, (fun _ h => absurd h List.not_mem_nil)⟩)⟩)⟩)⟩)) (EV.keep hIEV hw ((mF.call (mF.up (mF.call (mF.call mF.refl F762 rfl) F1030 rfl) (A_126 hw) u1039 rfl) F1043 rfl) : mF [126999] w μ μ1041) rfl) (PK.keep hIPK hw ((mF.call (mF.up (mF.call (mF.call mF.refl F762 rfl) F1030 rfl) (A_126 hw) u1039 rfl) F1043 rfl) : mF [126999] w μ μ1041) rfl)
  have h1103 : 1 ≤ z1045 ∧ z1045 ≤ 1 := (vc_X12_say_u_57 h1101 h1044.1)
  refine sv_aload_n (pc := 81) dX12_say_81 rfl rfl ?_
  refine sv_aload_n (pc := 82) dX12_say_82 rfl rfl ?_
  refine gf_X12_12 (pc := 83) dX12_say_83 wF_X12_63 (A_106 hw) T1042 ?_
  refine mr_iconst (pc := 86) (z := 4) dX12_say_86 ?_
  refine mr_iload_n (pc := 87) (z := p2) dX12_say_87 rfl rfl ?_
  refine mr_imul (pc := 88) (x := 4) (y := p2) dX12_say_88 ?_
  refine mr_iconst (pc := 89) (z := 2) dX12_say_89 ?_
  refine mr_iload (pc := 90) (z := z753) dX12_say_90 rfl ?_
  refine mr_imul (pc := 92) (x := 2) (y := z753) dX12_say_92 ?_
  refine mr_iadd (pc := 93) (x := (4 * p2)) (y := (2 * z753)) dX12_say_93 ?_
  refine mr_iconst (pc := 94) (z := 1) dX12_say_94 ?_
  refine mr_iadd (pc := 95) (x := ((4 * p2) + (2 * z753))) (y := 1) dX12_say_95 ?_
  refine la_115 (pc := 96) dX12_say_96 (A_115 hw) T1042 (rIx (n := 80) (rAdd (e := 1) (f := 79) (rAdd (e := 0) (f := 78) (rMulL (n := 4) (e := 0) (f := 76) hp2 rfl) (rMulL (n := 2) (e := 0) (f := 2) h752.1 rfl) rfl) (rR (x := 1)) rfl) rfl) fun z1104 q1105 h1106 => ?_
  have h1107 : (-99999999) ≤ z1104 ∧ z1104 ≤ 11 := (vc_X12_say_u_58 h1106)
  obtain ⟨z1108, q1109⟩ : ∃ z, μ1041 106 39 = z := ⟨_, rfl⟩
  have h1110 : (0 ≤ z1108 ∧ z1108 ≤ 12) := by rw [← q1109]; exact T1042 106 106 (A_106 hw) 39
  have h1111 : z1104 = -99999999 ∨ (0 ≤ z1104 ∧ z1104 < z1108) := PK.pol (PK.keep hIPK hw ((mF.call (mF.up (mF.call (mF.call mF.refl F762 rfl) F1030 rfl) (A_126 hw) u1039 rfl) F1043 rfl) : mF [126999] w μ μ1041) rfl) (rIx (n := 80) (rAdd (e := 1) (f := 79) (rAdd (e := 0) (f := 78) (rMulL (n := 4) (e := 0) (f := 76) hp2 rfl) (rMulL (n := 2) (e := 0) (f := 2) h752.1 rfl) rfl) (rR (x := 1)) rfl) rfl) q1105 q1109 (F1043.f (A_106 hw) rfl (u1039.f (Or.inl (mAt.ne (A_126 hw) (A_106 hw) rfl)) (F1030.f (A_106 hw) rfl (F762.f (A_106 hw) rfl q_f_ties)))) (vc_X12_say_u_59 hq0 h752.2.1 h752.2.2.1 h757.2.1 h1026 hq1 h779 h1023 ht_f_e0 ht_f_e1 h1 hp1 hp2 hp3 h752.1 h759 h1025 h773 h778)
  refine mr_iconst (pc := 97) (z := 2) dX12_say_97 ?_
  refine mr_iload_n (pc := 98) (z := p1) dX12_say_98 rfl rfl ?_
  refine sv_aload_n (pc := 99) dX12_say_99 rfl rfl ?_
  refine mr_iload_n (pc := 100) (z := p2) dX12_say_100 rfl rfl ?_
  refine mr_iload_n (pc := 101) (z := p1) dX12_say_101 rfl rfl ?_
  refine mr_cVP (pc := 102) (c_X12_partnerOf_pt hw T1042 hp2 (rW (c := (-2147483648)) (d := 2147483647) hp1 rfl) (F1043.f (A_110 hw) rfl (u1039.f (Or.inl (mAt.ne (A_126 hw) (A_110 hw) rfl)) (F1030.f (A_110 hw) rfl (F762.f (A_110 hw) rfl q_f_e0)))) (F1043.f (A_110 hw) rfl (u1039.f (Or.inl (mAt.ne (A_126 hw) (A_110 hw) rfl)) (F1030.f (A_110 hw) rfl (F762.f (A_110 hw) rfl q_f_e1))))) (gOk _ _ _ _ _) dX12_say_102 (tX12_partnerOf _ _ _ _ _) ⟨wV_X12_partnerOf, wL_X12_partnerOf⟩ wM_X12_553 (gCX12 _ _ _ _ _) rfl (A_106 hw) rfl ⟨le_t rfl, le_t rfl⟩ ⟨le_t rfl, le_t rfl⟩ rfl (le_t rfl) fun z1116 h1115 => ?_
  refine mr_cVI (pc := 105) (c_X12_through_u hw T1042 (rW (c := (-2147483648)) (d := 2147483647) h1107 rfl) (rW (c := 0) (d := 2099) (rR (x := 2)) rfl) (rW (c := (-2147483648)) (d := 2147483647) hp1 rfl) (rW (c := (-2147483648)) (d := 2147483647) h1115.1 rfl) hp2 (F1043.f (A_110 hw) rfl (u1039.f (Or.inl (mAt.ne (A_126 hw) (A_110 hw) rfl)) (F1030.f (A_110 hw) rfl (F762.f (A_110 hw) rfl q_f_e0)))) (F1043.f (A_110 hw) rfl (u1039.f (Or.inl (mAt.ne (A_126 hw) (A_110 hw) rfl)) (F1030.f (A_110 hw) rfl (F762.f (A_110 hw) rfl q_f_e1)))) (F1043.f (A_106 hw) rfl (u1039.f (Or.inl (mAt.ne (A_126 hw) (A_106 hw) rfl)) (F1030.f (A_106 hw) rfl (F762.f (A_106 hw) rfl q_f_ties)))) (h1044.2.1.f vc_X12_say_u_3 (List.forall_mem_cons.mpr ⟨vc_X12_say_u_61, (fun _ h => absurd h List.not_mem_nil)⟩) (u1039.f (Or.inr vc_X12_say_u_60) q1037)) q1109 (vc_X12_say_u_62 hq0 h757.2.1 h1026 h752.2.1 h752.2.2.1 h779 h1023 ht_f_e0 h1 hp1 hp2 hp3 h752.1 h759 h1025 h773 h778) (vc_X12_say_u_63 hq1 h752.2.1 h752.2.2.1 h1115.2.1 h757.2.1 ht_f_e0 ht_f_e1 hp1 hp2 hp3 h1115.1 h752.1 h759) (vc_X12_say_u_64 h779 h1034.2.1 h1023 h1026 hp2 h1036 h1025 h773 h778) (vc_X12_say_u_65 h1111 h1107 h1106 h1110) (JC.keep hIJC hw ((mF.call (mF.up (mF.call (mF.call mF.refl F762 rfl) F1030 rfl) (A_126 hw) u1039 rfl) F1043 rfl) : mF [126999] w μ μ1041) rfl rfl) (PK.keep hIPK hw ((mF.call (mF.up (mF.call (mF.call mF.refl F762 rfl) F1030 rfl) (A_126 hw) u1039 rfl) F1043 rfl) : mF [126999] w μ μ1041) rfl)) (gOk _ _ _ _ _) dX12_say_105 (tX12_through _ _ _ _ _) ⟨wV_X12_through, wL_X12_through⟩ wM_X12_414 (gCX12 _ _ _ _ _) rfl (A_106 hw) rfl ⟨le_t rfl, le_t rfl⟩ ⟨le_t rfl, le_t rfl⟩ rfl (le_t rfl) fun z1121 μ1117 T1118 F1119 h1120 => ?_
  obtain ⟨z1122, q1123, h1124⟩ := h1120
  have h1125 := rt7 T1118 (A_126 hw) vc_X12_say_u_3 q1123
  have h1126 : (-1) ≤ z1122 ∧ z1122 ≤ 9 := h1125.2.1 vc_X12_say_u_4
  have q1127 : μ1117 126 (((40 * 2) : Int).toNat) = z775 := q1123.trans h1124.2.2.2.1
  refine mr_if_eq (pc := 108) (tgt := 115) dX12_say_108 (by decide) (r32 h1124.1 rfl) (fun h1128 => ?_) (fun h1128 => ?_)
  · have h1129 : 0 ≤ z1121 ∧ z1121 ≤ 0 := (vc_X12_say_u_66 h1128 h1124.1)
    refine mr_iconst (pc := 115) (z := 0) dX12_say_115 ?_
    refine mr_lvS (lv' := [(0, .ref 106), (2, iv p2), (5, iv z758)]) (List.forall_mem_cons.mpr ⟨rfl, List.forall_mem_cons.mpr ⟨rfl, List.forall_mem_cons.mpr ⟨rfl, fun _ h => absurd h List.not_mem_nil⟩⟩⟩) ?_
    exact J1083 0 μ1117 T1118 (mF.call mF.refl F1119 rfl) (mG.call mG.refl h1124.2.1 (List.forall_mem_cons.mpr ⟨⟨_, List.mem_cons_self, vc_X12_say_u_46⟩, (fun _ h => absurd h List.not_mem_nil)⟩)) (rW (c := 0) (d := 1) (rR (x := 0)) rfl) h1124.2.2.1 (G1.keep hIG1 hw ((mF.call (mF.call (mF.up (mF.call (mF.call mF.refl F762 rfl) F1030 rfl) (A_126 hw) u1039 rfl) F1043 rfl) F1119 rfl) : mF [106026, 106027, 106028, 106029, 106030, 106031, 126999, 151999, 152999, 153999] w μ μ1117) rfl rfl ((mG.call (mG.call (mG.up (mG.call (mG.call mG.refl h766.1 (List.forall_mem_cons.mpr ⟨⟨_, List.mem_cons_self, vc_X12_say_u_9⟩, (fun _ h => absurd h List.not_mem_nil)⟩)) h1034.1 (List.forall_mem_cons.mpr ⟨⟨_, (List.mem_cons_of_mem _ List.mem_cons_self), vc_X12_say_u_52⟩, (fun _ h => absurd h List.not_mem_nil)⟩)) u1039 (List.mem_cons_of_mem _ List.mem_cons_self) vc_X12_say_u_53) h1044.2.1 (List.forall_mem_cons.mpr ⟨⟨_, (List.mem_cons_of_mem _ List.mem_cons_self), vc_X12_say_u_54⟩, (fun _ h => absurd h List.not_mem_nil)⟩)) h1124.2.1 (List.forall_mem_cons.mpr ⟨⟨_, (List.mem_cons_of_mem _ List.mem_cons_self), vc_X12_say_u_54⟩, (fun _ h => absurd h List.not_mem_nil)⟩)) : mG [((40 * 2), ((40 * 2) + 1)), ((40 * 2), ((40 * 2) + 40)), (81, (81 + 1)), (((40 * 2) + 1), ((40 * 2) + 40))] μ μ1117) (List.forall_mem_cons.mpr ⟨vc_X12_say_u_10, (List.forall_mem_cons.mpr ⟨vc_X12_say_u_56, (List.forall_mem_cons.mpr ⟨vc_X12_say_u_48, (List.forall_mem_cons.mpr ⟨vc_X12_say_u_55, (fun _ h => absurd h List.not_mem_nil)⟩)⟩)⟩)⟩)) (EV.keep hIEV hw ((mF.call (mF.call (mF.up (mF.call (mF.call mF.refl F762 rfl) F1030 rfl) (A_126 hw) u1039 rfl) F1043 rfl) F1119 rfl) : mF [106026, 106027, 106028, 106029, 106030, 106031, 126999, 151999, 152999, 153999] w μ μ1117) rfl) (PK.keep hIPK hw ((mF.call (mF.call (mF.up (mF.call (mF.call mF.refl F762 rfl) F1030 rfl) (A_126 hw) u1039 rfl) F1043 rfl) F1119 rfl) : mF [106026, 106027, 106028, 106029, 106030, 106031, 126999, 151999, 152999, 153999] w μ μ1117) rfl)
  have h1130 : 1 ≤ z1121 ∧ z1121 ≤ 1 := (vc_X12_say_u_67 h1128 h1124.1)
  refine mr_iconst (pc := 111) (z := 1) dX12_say_111 ?_
  refine sv_goto (pc := 112) (tgt := 116) dX12_say_112 (by decide) ?_
  refine mr_lvS (lv' := [(0, .ref 106), (2, iv p2), (5, iv z758)]) (List.forall_mem_cons.mpr ⟨rfl, List.forall_mem_cons.mpr ⟨rfl, List.forall_mem_cons.mpr ⟨rfl, fun _ h => absurd h List.not_mem_nil⟩⟩⟩) ?_
  exact J1083 1 μ1117 T1118 (mF.call mF.refl F1119 rfl) (mG.call mG.refl h1124.2.1 (List.forall_mem_cons.mpr ⟨⟨_, List.mem_cons_self, vc_X12_say_u_46⟩, (fun _ h => absurd h List.not_mem_nil)⟩)) (rW (c := 0) (d := 1) (rR (x := 1)) rfl) h1124.2.2.1 (G1.keep hIG1 hw ((mF.call (mF.call (mF.up (mF.call (mF.call mF.refl F762 rfl) F1030 rfl) (A_126 hw) u1039 rfl) F1043 rfl) F1119 rfl) : mF [106026, 106027, 106028, 106029, 106030, 106031, 126999, 151999, 152999, 153999] w μ μ1117) rfl rfl ((mG.call (mG.call (mG.up (mG.call (mG.call mG.refl h766.1 (List.forall_mem_cons.mpr ⟨⟨_, List.mem_cons_self, vc_X12_say_u_9⟩, (fun _ h => absurd h List.not_mem_nil)⟩)) h1034.1 (List.forall_mem_cons.mpr ⟨⟨_, (List.mem_cons_of_mem _ List.mem_cons_self), vc_X12_say_u_52⟩, (fun _ h => absurd h List.not_mem_nil)⟩)) u1039 (List.mem_cons_of_mem _ List.mem_cons_self) vc_X12_say_u_53) h1044.2.1 (List.forall_mem_cons.mpr ⟨⟨_, (List.mem_cons_of_mem _ List.mem_cons_self), vc_X12_say_u_54⟩, (fun _ h => absurd h List.not_mem_nil)⟩)) h1124.2.1 (List.forall_mem_cons.mpr ⟨⟨_, (List.mem_cons_of_mem _ List.mem_cons_self), vc_X12_say_u_54⟩, (fun _ h => absurd h List.not_mem_nil)⟩)) : mG [((40 * 2), ((40 * 2) + 1)), ((40 * 2), ((40 * 2) + 40)), (81, (81 + 1)), (((40 * 2) + 1), ((40 * 2) + 40))] μ μ1117) (List.forall_mem_cons.mpr ⟨vc_X12_say_u_10, (List.forall_mem_cons.mpr ⟨vc_X12_say_u_56, (List.forall_mem_cons.mpr ⟨vc_X12_say_u_48, (List.forall_mem_cons.mpr ⟨vc_X12_say_u_55, (fun _ h => absurd h List.not_mem_nil)⟩)⟩)⟩)⟩)) (EV.keep hIEV hw ((mF.call (mF.call (mF.up (mF.call (mF.call mF.refl F762 rfl) F1030 rfl) (A_126 hw) u1039 rfl) F1043 rfl) F1119 rfl) : mF [106026, 106027, 106028, 106029, 106030, 106031, 126999, 151999, 152999, 153999] w μ μ1117) rfl) (PK.keep hIPK hw ((mF.call (mF.call (mF.up (mF.call (mF.call mF.refl F762 rfl) F1030 rfl) (A_126 hw) u1039 rfl) F1043 rfl) F1119 rfl) : mF [106026, 106027, 106028, 106029, 106030, 106031, 126999, 151999, 152999, 153999] w μ μ1117) rfl)
