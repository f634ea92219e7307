theorem vc_X11_cut_v_2 {f_q p1 : Int} (h0 : p1 < 0) (h1 : 0 ≤ f_q ∧ f_q ≤ 1000) (h2 : (-2147483648) ≤ p1 ∧ p1 ≤ (-1)) : p1 < 0 ∨ f_q < p1 → (-1 : Int) = -1 ∧ f_q = f_q := by omega
theorem vc_X11_cut_v_3 {f_q p1 : Int} (h0 : p1 < 0) (h1 : 0 ≤ f_q ∧ f_q ≤ 1000) (h2 : (-2147483648) ≤ p1 ∧ p1 ≤ (-1)) : 0 ≤ p1 → p1 ≤ f_q → (-1 : Int) = f_q ∧ f_q = p1 := by omega
theorem vc_X11_cut_v_5 {f_q p1 : Int} (h0 : p1 ≤ f_q) (h1 : 0 ≤ p1) (h2 : 0 ≤ f_q ∧ f_q ≤ 1000) (h3 : 0 ≤ p1 ∧ p1 ≤ 2147483647) : 0 ≤ p1 ∧ p1 ≤ 1000 := by omega
theorem vc_X11_cut_v_6 {f_q p1 : Int} (h0 : 0 ≤ p1) (h1 : p1 ≤ f_q) (h2 : 0 ≤ f_q ∧ f_q ≤ 1000) (h3 : 0 ≤ p1 ∧ p1 ≤ 1000) : p1 < 0 ∨ f_q < p1 → f_q = -1 ∧ p1 = f_q := by omega
theorem vc_X11_cut_v_7 {f_q p1 : Int} (h0 : 0 ≤ p1) (h1 : p1 ≤ f_q) (h2 : 0 ≤ f_q ∧ f_q ≤ 1000) (h3 : 0 ≤ p1 ∧ p1 ≤ 1000) : 0 ≤ p1 → p1 ≤ f_q → f_q = f_q ∧ p1 = p1 := by omega
theorem vc_X11_cut_v_8 {f_q p1 : Int} (h0 : f_q < p1) (h1 : 0 ≤ p1) (h2 : 0 ≤ f_q ∧ f_q ≤ 1000) (h3 : 0 ≤ p1 ∧ p1 ≤ 2147483647) : 1 ≤ p1 ∧ p1 ≤ 2147483647 := by omega
theorem vc_X11_cut_v_9 {f_q p1 : Int} (h0 : 0 ≤ p1) (h1 : f_q < p1) (h2 : 0 ≤ f_q ∧ f_q ≤ 1000) (h3 : 1 ≤ p1 ∧ p1 ≤ 2147483647) : p1 < 0 ∨ f_q < p1 → (-1 : Int) = -1 ∧ f_q = f_q := by omega
theorem vc_X11_cut_v_10 {f_q p1 : Int} (h0 : 0 ≤ p1) (h1 : f_q < p1) (h2 : 0 ≤ f_q ∧ f_q ≤ 1000) (h3 : 1 ≤ p1 ∧ p1 ≤ 2147483647) : 0 ≤ p1 → p1 ≤ f_q → (-1 : Int) = f_q ∧ f_q = p1 := by omega
set_option maxRecDepth 4000 in
set_option maxHeartbeats 4000000 in
theorem c_X11_cut_v {l : Launch} {D : va_G} {c : Nat → ClassId} {H0 : Heap} {sa : Nat × Nat × (Nat → Int32)} {w : mW} {μ : mM} (hw : mWF w) (hT : mT w μ) {p1 : Int} (hp1 : (-2147483648) ≤ p1 ∧ p1 ≤ 2147483647) {f_q : Int} (q_f_q : μ 0 10 = f_q) : sC (gG l D c H0 sa) mX11_cut 1 0 0 [.ref 0, iv p1] (mk w μ) (qI w [10] μ (fun z μ1 => ∃ o_q : Int, μ1 0 10 = o_q ∧ ((-2147483648) ≤ z ∧ z ≤ 2147483647) ∧ (p1 < 0 ∨ f_q < p1 → z = -1 ∧ o_q = f_q) ∧ (0 ≤ p1 → p1 ≤ f_q → z = f_q ∧ o_q = p1) ∧ True)) := by
  refine sC.of rfl (by decide) (le_t rfl) ?_
  have ht_f_q : (0 ≤ f_q ∧ f_q ≤ 1000) := by rw [← q_f_q]; exact hT 0 0 (A_0 hw) 10
  refine mr_lvE (lv' := [(0, .ref 0), (1, iv p1)]) rfl ?_
  refine mr_iload_n (pc := 0) (z := p1) dX11_cut_0 rfl rfl ?_
  refine mr_if_lt (pc := 1) (tgt := 12) dX11_cut_1 (by decide) hp1 (fun h22 => ?_) (fun h22 => ?_)
  · have h23 : (-2147483648) ≤ p1 ∧ p1 ≤ (-1) := (vc_X12_ring_60 h22 hp1)
    refine mr_iconst (pc := 12) (z := (-1)) dX11_cut_12 ?_
    exact mr_iret dX11_cut_13 rfl (le_t rfl) (le_t rfl) hT mF.refl ⟨f_q, q_f_q, (rW (c := (-2147483648)) (d := 2147483647) (rR (x := (-1))) rfl), (vc_X11_cut_v_2 h22 ht_f_q h23), (vc_X11_cut_v_3 h22 ht_f_q h23), trivial⟩
  have h24 : 0 ≤ p1 ∧ p1 ≤ 2147483647 := (vc_X12_ring_1 h22 hp1)
  refine mr_iload_n (pc := 4) (z := p1) dX11_cut_4 rfl rfl ?_
  refine sv_aload_n (pc := 5) dX11_cut_5 rfl rfl ?_
  refine gk_X11_10 (pc := 6) dX11_cut_6 wF_X11_76 (A_0 hw) q_f_q ?_
  refine mr_icmp_le (pc := 9) (tgt := 14) dX11_cut_9 (by decide) (r32 h24 rfl) (r32 ht_f_q rfl) (fun h25 => ?_) (fun h25 => ?_)
  · have h26 : 0 ≤ p1 ∧ p1 ≤ 1000 := (vc_X11_cut_v_5 h25 h22 ht_f_q h24)
    refine sv_aload_n (pc := 14) dX11_cut_14 rfl rfl ?_
    refine gk_X11_10 (pc := 15) dX11_cut_15 wF_X11_76 (A_0 hw) q_f_q ?_
    refine mr_istore_n (pc := 18) (lv' := [(2, iv f_q), (0, .ref 0), (1, iv p1)]) dX11_cut_18 rfl (by decide) rfl ?_
    refine sv_aload_n (pc := 19) dX11_cut_19 rfl rfl ?_
    refine mr_iload_n (pc := 20) (z := p1) dX11_cut_20 rfl rfl ?_
    refine pf_X11_10 (pc := 21) dX11_cut_21 wF_X11_76 (A_0 hw) hT h26 fun μ27 u28 T29 => ?_
    refine mr_iload_n (pc := 24) (z := f_q) dX11_cut_24 rfl rfl ?_
    exact mr_iret dX11_cut_25 rfl (le_t rfl) (le_t rfl) T29 (mF.up mF.refl (A_0 hw) u28 rfl) ⟨p1, u28.1, (rW (c := (-2147483648)) (d := 2147483647) ht_f_q rfl), (vc_X11_cut_v_6 h22 h25 ht_f_q h26), (vc_X11_cut_v_7 h22 h25 ht_f_q h26), trivial⟩
  have h30 : 1 ≤ p1 ∧ p1 ≤ 2147483647 := (vc_X11_cut_v_8 h25 h22 ht_f_q h24)
  refine mr_iconst (pc := 12) (z := (-1)) dX11_cut_12 ?_
  exact mr_iret dX11_cut_13 rfl (le_t rfl) (le_t rfl) hT mF.refl ⟨f_q, q_f_q, (rW (c := (-2147483648)) (d := 2147483647) (rR (x := (-1))) rfl), (vc_X11_cut_v_9 h22 h25 ht_f_q h30), (vc_X11_cut_v_10 h22 h25 ht_f_q h30), trivial⟩
set_option maxRecDepth 4000 in
set_option maxHeartbeats 4000000 in
theorem c_X12_cut_v {l : Launch} {D : va_G} {c : Nat → ClassId} {H0 : Heap} {sa : Nat × Nat × (Nat → Int32)} {w : mW} {μ : mM} (hw : mWF w) (hT : mT w μ) {p1 : Int} (hp1 : (-2147483648) ≤ p1 ∧ p1 ≤ 2147483647) {f_q : Int} (q_f_q : μ 106 1 = f_q) : sC (gG l D c H0 sa) mX12_cut 1 0 0 [.ref 106, iv p1] (mk w μ) (qI w [106001] μ (fun z μ1 => ∃ o_q : Int, μ1 106 1 = o_q ∧ ((-2147483648) ≤ z ∧ z ≤ 2147483647) ∧ (p1 < 0 ∨ f_q < p1 → z = -1 ∧ o_q = f_q) ∧ (0 ≤ p1 → p1 ≤ f_q → z = f_q ∧ o_q = p1) ∧ True)) := by
  refine sC.of rfl (by decide) (le_t rfl) ?_
  have ht_f_q : (0 ≤ f_q ∧ f_q ≤ 1000) := by rw [← q_f_q]; exact hT 106 106 (A_106 hw) 1
  refine mr_lvE (lv' := [(0, .ref 106), (1, iv p1)]) rfl ?_
  refine mr_iload_n (pc := 0) (z := p1) dX12_cut_0 rfl rfl ?_
  refine mr_if_lt (pc := 1) (tgt := 12) dX12_cut_1 (by decide) hp1 (fun h22 => ?_) (fun h22 => ?_)
  · have h23 : (-2147483648) ≤ p1 ∧ p1 ≤ (-1) := (vc_X12_ring_60 h22 hp1)
    refine mr_iconst (pc := 12) (z := (-1)) dX12_cut_12 ?_
    exact mr_iret dX12_cut_13 rfl (le_t rfl) (le_t rfl) hT mF.refl ⟨f_q, q_f_q, (rW (c := (-2147483648)) (d := 2147483647) (rR (x := (-1))) rfl), (vc_X11_cut_v_2 h22 ht_f_q h23), (vc_X11_cut_v_3 h22 ht_f_q h23), trivial⟩
  have h24 : 0 ≤ p1 ∧ p1 ≤ 2147483647 := (vc_X12_ring_1 h22 hp1)
  refine mr_iload_n (pc := 4) (z := p1) dX12_cut_4 rfl rfl ?_
  refine sv_aload_n (pc := 5) dX12_cut_5 rfl rfl ?_
  refine gk_X12_1 (pc := 6) dX12_cut_6 wF_X12_1 (A_106 hw) q_f_q ?_
  refine mr_icmp_le (pc := 9) (tgt := 14) dX12_cut_9 (by decide) (r32 h24 rfl) (r32 ht_f_q rfl) (fun h25 => ?_) (fun h25 => ?_)
  · have h26 : 0 ≤ p1 ∧ p1 ≤ 1000 := (vc_X11_cut_v_5 h25 h22 ht_f_q h24)
    refine sv_aload_n (pc := 14) dX12_cut_14 rfl rfl ?_
    refine gk_X12_1 (pc := 15) dX12_cut_15 wF_X12_1 (A_106 hw) q_f_q ?_
    refine mr_istore_n (pc := 18) (lv' := [(2, iv f_q), (0, .ref 106), (1, iv p1)]) dX12_cut_18 rfl (by decide) rfl ?_
    refine sv_aload_n (pc := 19) dX12_cut_19 rfl rfl ?_
    refine mr_iload_n (pc := 20) (z := p1) dX12_cut_20 rfl rfl ?_
    refine pf_X12_1 (pc := 21) dX12_cut_21 wF_X12_1 (A_106 hw) hT h26 fun μ27 u28 T29 => ?_
    refine mr_iload_n (pc := 24) (z := f_q) dX12_cut_24 rfl rfl ?_
    exact mr_iret dX12_cut_25 rfl (le_t rfl) (le_t rfl) T29 (mF.up mF.refl (A_106 hw) u28 rfl) ⟨p1, u28.1, (rW (c := (-2147483648)) (d := 2147483647) ht_f_q rfl), (vc_X11_cut_v_6 h22 h25 ht_f_q h26), (vc_X11_cut_v_7 h22 h25 ht_f_q h26), trivial⟩
  have h30 : 1 ≤ p1 ∧ p1 ≤ 2147483647 := (vc_X11_cut_v_8 h25 h22 ht_f_q h24)
  refine mr_iconst (pc := 12) (z := (-1)) dX12_cut_12 ?_
  exact mr_iret dX12_cut_13 rfl (le_t rfl) (le_t rfl) hT mF.refl ⟨f_q, q_f_q, (rW (c := (-2147483648)) (d := 2147483647) (rR (x := (-1))) rfl), (vc_X11_cut_v_9 h22 h25 ht_f_q h30), (vc_X11_cut_v_10 h22 h25 ht_f_q h30), trivial⟩
set_option maxRecDepth 4000 in
set_option maxHeartbeats 4000000 in
theorem c_X11_message_v {l : Launch} {D : va_G} {c : Nat → ClassId} {H0 : Heap} {sa : Nat × Nat × (Nat → Int32)} {w : mW} {μ : mM} (hw : mWF w) (hT : mT w μ) : sC (gG l D c H0 sa) mX11_message 8 0 0 [.ref 0] (mk w μ) (qI w [10, 76004, 76005, 76006, 76007, 76008, 76013, 76014, 76016, 77999, 78999, 79999, 80999, 84999, 85999, 200002, 200003, 200004, 200005, 200006, 200007, 200008, 201999, 202999] μ (fun z μ1 => ∃ o_wd o_an o_q : Int, μ1 76 13 = o_wd ∧ μ1 76 14 = o_an ∧ μ1 0 10 = o_q ∧ ((-2147483648) ≤ z ∧ z ≤ 2147483647) ∧ (o_wd + o_an ≤ 1000) ∧ (o_q = 0) ∧ True)) := by
  refine sC.of rfl (by decide) (le_t rfl) ?_
  refine mr_lvE (lv' := [(0, .ref 0)]) rfl ?_
  refine sv_aload_n (pc := 0) dX11_message_0 rfl rfl ?_
  refine gf_X11_7 (pc := 1) dX11_message_1 wF_X11_58 (A_0 hw) hT ?_
  refine sv_aload_n (pc := 4) dX11_message_4 rfl rfl ?_
  refine gf_X11_0 (pc := 5) dX11_message_5 wF_X11_9 (A_0 hw) hT ?_
  refine sv_aload_n (pc := 8) dX11_message_8 rfl rfl ?_
  refine gf_X11_10 (pc := 9) dX11_message_9 wF_X11_76 (A_0 hw) hT fun z1 q2 h3 => ?_
  refine mr_cVI (pc := 12) (c_X3_read hw hT (A_1 hw) h3) (gOk _ _ _ _ _) dX11_message_12 (tX3_read _ _ _ _ _) ⟨wV_X3_read, wL_X3_read⟩ wM_X11_339 (gCX3 _ _ _ _ _) rfl (A_76 hw) rfl ⟨le_t rfl, le_t rfl⟩ ⟨le_t rfl, le_t rfl⟩ rfl (le_t rfl) fun z8 μ4 T5 F6 h7 => ?_
  obtain ⟨z9, z11, q10, q12, h13⟩ := h7
  have h14 : (0 ≤ z9 ∧ z9 ≤ 1000) := by rw [← q10]; exact T5 76 76 (A_76 hw) 13
  have h15 : (0 ≤ z11 ∧ z11 ≤ 1000) := by rw [← q12]; exact T5 76 76 (A_76 hw) 14
  refine mr_istore_n (pc := 15) (lv' := [(1, iv z8), (0, .ref 0)]) dX11_message_15 rfl (by decide) rfl ?_
  refine sv_aload_n (pc := 16) dX11_message_16 rfl rfl ?_
  refine mr_iconst (pc := 17) (z := 0) dX11_message_17 ?_
  refine pf_X11_10 (pc := 18) dX11_message_18 wF_X11_76 (A_0 hw) T5 (rW (c := 0) (d := 1000) (rR (x := 0)) rfl) fun μ16 u17 T18 => ?_
  refine mr_iload_n (pc := 21) (z := z8) dX11_message_21 rfl rfl ?_
  exact mr_iret dX11_message_22 rfl (le_t rfl) (le_t rfl) T18 (mF.up (mF.call mF.refl F6 rfl) (A_0 hw) u17 rfl) ⟨z9, z11, 0, (u17.f (Or.inl (mAt.ne (A_0 hw) (A_76 hw) rfl)) q10), (u17.f (Or.inl (mAt.ne (A_0 hw) (A_76 hw) rfl)) q12), u17.1, h13.1, (vc_X3_told_5 h13.2.1 h15 h14), vc_X3_forget_z_1, trivial⟩
theorem vc_X12_message_v_2 {z1863 : Int} (h0 : 4 ≤ z1863) (h1 : 0 ≤ z1863 ∧ z1863 ≤ 4) : 4 ≤ z1863 ∧ z1863 ≤ 4 := by omega
theorem vc_X12_message_v_3 {z2889 : Int} (h0 : (257 - z2889) < ((0 : Nat) : Int)) (h1 : 0 ≤ z2889 ∧ z2889 ≤ 256) : False := by omega
theorem vc_X12_message_v_5  : (-(2147483648 : Int) ≤ ((0 : Int) : Int) ∧ ((0 : Int) : Int) ≤ (2147483647 : Int)) ∧ (((960 : Int) : Int) % (40 : Int) = (0 : Int) → -(1 : Int) ≤ ((0 : Int) : Int) ∧ ((0 : Int) : Int) ≤ (9 : Int)) ∧ (((960 : Int) : Int) % (40 : Int) = (4 : Int) → (0 : Int) ≤ ((0 : Int) : Int) ∧ ((0 : Int) : Int) ≤ (20 : Int)) ∧ (((960 : Int) : Int) % (40 : Int) = (5 : Int) → (0 : Int) ≤ ((0 : Int) : Int) ∧ ((0 : Int) : Int) ≤ (8 : Int)) := by omega
theorem vc_X12_message_v_6  : (0 : Int) ≤ ((960 : Int) : Int) := by omega
theorem vc_X12_message_v_7 {z2932 : Int} (h0 : 0 ≤ z2932 ∧ z2932 ≤ 10) : ¬ (960 : Int) % 40 = 0 ∨ 56000 ≤ (960 : Int) ∨ ((960 : Int) = 960 ∧ (0 : Int) ≤ 0) ∨ (¬ (960 : Int) = 960 ∧ (0 : Int) < z2932) := by omega
theorem vc_X12_message_v_8  : (-(2147483648 : Int) ≤ ((100 : Int) : Int) ∧ ((100 : Int) : Int) ≤ (2147483647 : Int)) ∧ ((((960 : Int) + (1 : Int)) : Int) % (40 : Int) = (0 : Int) → -(1 : Int) ≤ ((100 : Int) : Int) ∧ ((100 : Int) : Int) ≤ (9 : Int)) ∧ ((((960 : Int) + (1 : Int)) : Int) % (40 : Int) = (4 : Int) → (0 : Int) ≤ ((100 : Int) : Int) ∧ ((100 : Int) : Int) ≤ (20 : Int)) ∧ ((((960 : Int) + (1 : Int)) : Int) % (40 : Int) = (5 : Int) → (0 : Int) ≤ ((100 : Int) : Int) ∧ ((100 : Int) : Int) ≤ (8 : Int)) := by omega
theorem vc_X12_message_v_9  : (0 : Int) ≤ (((960 : Int) + (1 : Int)) : Int) := by omega
theorem vc_X12_message_v_10 {z2932 : Int} (h0 : 0 ≤ z2932 ∧ z2932 ≤ 10) : ¬ ((960 + 1) : Int) % 40 = 0 ∨ 56000 ≤ ((960 + 1) : Int) ∨ (((960 + 1) : Int) = 960 ∧ (100 : Int) ≤ 0) ∨ (¬ ((960 + 1) : Int) = 960 ∧ (100 : Int) < z2932) := by omega
theorem vc_X12_message_v_11 {z3386 : Int} (h0 : (7 - z3386) < ((0 : Nat) : Int)) (h1 : 2 ≤ z3386 ∧ z3386 ≤ 6) : False := by omega
theorem vc_X12_message_v_12 {z3386 : Int} (h0 : 6 ≤ z3386) (h1 : 2 ≤ z3386 ∧ z3386 ≤ 6) : 6 ≤ z3386 ∧ z3386 ≤ 6 := by omega
theorem vc_X12_message_v_13  : (0 : Int) ≤ (960 : Int) ∧ (960 : Int) ≤ (960 : Int) ∧ (960 : Int) < (1000 : Int) := by omega
theorem vc_X12_message_v_14  : (0 : Int) ≤ ((960 : Int) + (1 : Int)) ∧ (960 : Int) ≤ ((960 : Int) + (1 : Int)) ∧ ((960 : Int) + (1 : Int)) < (1000 : Int) := by omega
theorem vc_X12_message_v_15  : (960 : Int) ≤ (960 : Int) ∧ (1000 : Int) ≤ (1000 : Int) := by omega
theorem vc_X12_message_v_23 {f_c f_g z4291 : Int} (h0 : (1001 - z4291) < ((0 : Nat) : Int)) (h1 : f_g + f_c ≤ 1000 + z4291) (h2 : z4291 ≤ f_c) (h3 : 0 ≤ z4291 ∧ z4291 ≤ 1000) : False := by omega
theorem vc_X12_message_v_24 {f_c f_g z4291 : Int} (h0 : z4291 < f_c) (h1 : f_g + f_c ≤ 1000 + z4291) (h2 : z4291 ≤ f_c) (h3 : 0 ≤ f_c ∧ f_c ≤ 1000) (h4 : 0 ≤ f_g ∧ f_g ≤ 1000) (h5 : 0 ≤ z4291 ∧ z4291 ≤ 1000) : 0 ≤ z4291 ∧ z4291 ≤ 999 := by omega
theorem vc_X12_message_v_25 {f_c f_g z4291 : Int} (h0 : z4291 < f_c) (h1 : f_g + f_c ≤ 1000 + z4291) (h2 : z4291 ≤ f_c) (h3 : 0 ≤ f_c ∧ f_c ≤ 1000) (h4 : 0 ≤ f_g ∧ f_g ≤ 1000) (h5 : 0 ≤ z4291 ∧ z4291 ≤ 999) : 1 ≤ f_c ∧ f_c ≤ 1000 := by omega
theorem vc_X12_message_v_26 {f_c f_g z4291 : Int} (h0 : f_g + f_c ≤ 1000 + z4291) (h1 : z4291 ≤ f_c) (h2 : z4291 < f_c) (h3 : 1 ≤ f_c ∧ f_c ≤ 1000) (h4 : 0 ≤ f_g ∧ f_g ≤ 1000) (h5 : 0 ≤ z4291 ∧ z4291 ≤ 999) : 0 ≤ f_g ∧ f_g < 1000 := by omega
theorem vc_X12_message_v_27 {f_c f_g z4291 : Int} (h0 : f_g + f_c ≤ 1000 + z4291) (h1 : z4291 ≤ f_c) (h2 : z4291 < f_c) (h3 : 1 ≤ f_c ∧ f_c ≤ 1000) (h4 : 0 ≤ f_g ∧ f_g ≤ 1000) (h5 : 0 ≤ z4291 ∧ z4291 ≤ 999) : 0 ≤ (f_g + 1) ∧ (f_g + 1) ≤ 1000 := by omega
theorem vc_X12_message_v_28 {f_c f_g z4291 : Int} (h0 : f_g + f_c ≤ 1000 + z4291) (h1 : z4291 ≤ f_c) (h2 : z4291 < f_c) (h3 : 1 ≤ f_c ∧ f_c ≤ 1000) (h4 : 0 ≤ f_g ∧ f_g ≤ 1000) (h5 : 0 ≤ z4291 ∧ z4291 ≤ 999) : (f_g + 1) + f_c ≤ 1000 + (z4291 + 1) := by omega
theorem vc_X12_message_v_29 {f_c f_g z4291 : Int} (h0 : f_g + f_c ≤ 1000 + z4291) (h1 : z4291 ≤ f_c) (h2 : z4291 < f_c) (h3 : 1 ≤ f_c ∧ f_c ≤ 1000) (h4 : 0 ≤ f_g ∧ f_g ≤ 1000) (h5 : 0 ≤ z4291 ∧ z4291 ≤ 999) : (z4291 + 1) ≤ f_c := by omega
theorem vc_X12_message_v_30 {N f_c f_g z4291 : Int} (h0 : (1001 - z4291) < N + 1) (h1 : f_g + f_c ≤ 1000 + z4291) (h2 : z4291 ≤ f_c) (h3 : z4291 < f_c) (h4 : 1 ≤ f_c ∧ f_c ≤ 1000) (h5 : 0 ≤ f_g ∧ f_g ≤ 1000) (h6 : 0 ≤ z4291 ∧ z4291 ≤ 999) : (1001 - (z4291 + 1)) < N := by omega
theorem vc_X12_message_v_31 {z3517 z3520 : Int} (h0 : z3517 + z3520 ≤ 1000) (h1 : 0 ≤ z3517 ∧ z3517 ≤ 1000) (h2 : 0 ≤ z3520 ∧ z3520 ≤ 1000) : z3517 + z3520 ≤ 1000 + (0 : Int) := by omega
theorem vc_X12_message_v_32 {z3517 z3520 : Int} (h0 : z3517 + z3520 ≤ 1000) (h1 : 0 ≤ z3517 ∧ z3517 ≤ 1000) (h2 : 0 ≤ z3520 ∧ z3520 ≤ 1000) : (0 : Int) ≤ z3520 := by omega
theorem vc_X12_message_v_35  : ((0 : Int) : Int) + ((0 : Int) : Int) ≤ (1000 : Int) := by omega
theorem vc_X12_message_v_37 {z3411 z3421 : Int} (h0 : (2 + z3421) ≤ z3411) (h1 : 2 ≤ z3411) (h2 : 2 ≤ z3411 ∧ z3411 ≤ 1000) (h3 : 0 ≤ z3421 ∧ z3421 ≤ 65535) : 0 ≤ z3421 ∧ z3421 ≤ 998 := by omega
theorem vc_X12_message_v_38 {z3411 z3421 : Int} (h0 : (2 + z3421) ≤ z3411) (h1 : 2 ≤ z3411) (h2 : 2 ≤ z3411 ∧ z3411 ≤ 1000) (h3 : 0 ≤ z3421 ∧ z3421 ≤ 998) : (2 : Int) ≤ (2 + z3421) := by omega
theorem vc_X12_message_v_39 {z3411 z3421 : Int} (h0 : 2 ≤ z3411) (h1 : (2 + z3421) ≤ z3411) (h2 : 2 ≤ z3411 ∧ z3411 ≤ 1000) (h3 : 0 ≤ z3421 ∧ z3421 ≤ 998) : (2 + z3421) ≤ z3411 := by omega
theorem vc_X12_message_v_40 {z3411 z3421 : Int} (h0 : (2 + z3421) ≤ z3411) (h1 : 2 ≤ z3411) (h2 : 2 ≤ z3411 ∧ z3411 ≤ 1000) (h3 : 0 ≤ z3421 ∧ z3421 ≤ 998) : (0 : Int) + (0 : Int) + (2 + z3421) - (2 : Int) ≤ 1000 := by omega
theorem vc_X12_message_v_41 {z3411 z3421 z4366 z4368 : Int} (h0 : z4366 + z4368 ≤ (0 : Int) + (0 : Int) + (2 + z3421) - (2 : Int)) (h1 : (2 + z3421) ≤ z3411) (h2 : z3411 < ((2 + z3421) + 2)) (h3 : 2 ≤ z3411 ∧ z3411 ≤ 1000) (h4 : 0 ≤ z3421 ∧ z3421 ≤ 998) (h5 : 0 ≤ z4366 ∧ z4366 ≤ 1000) (h6 : 0 ≤ z4368 ∧ z4368 ≤ 1000) : z4366 + z4368 ≤ 1000 := by omega
theorem vc_X12_message_v_42 {z3411 z3421 z4366 z4368 : Int} (h0 : ((2 + z3421) + 2) ≤ z3411) (h1 : 2 ≤ z3411) (h2 : (2 + z3421) ≤ z3411) (h3 : z4366 + z4368 ≤ (0 : Int) + (0 : Int) + (2 + z3421) - (2 : Int)) (h4 : 2 ≤ z3411 ∧ z3411 ≤ 1000) (h5 : 0 ≤ z3421 ∧ z3421 ≤ 998) (h6 : 0 ≤ z4366 ∧ z4366 ≤ 1000) (h7 : 0 ≤ z4368 ∧ z4368 ≤ 1000) : 0 ≤ z3421 ∧ z3421 ≤ 996 := by omega
theorem vc_X12_message_v_43 {z3411 z3421 z4366 z4368 : Int} (h0 : ((2 + z3421) + 2) ≤ z3411) (h1 : 2 ≤ z3411) (h2 : (2 + z3421) ≤ z3411) (h3 : z4366 + z4368 ≤ (0 : Int) + (0 : Int) + (2 + z3421) - (2 : Int)) (h4 : 2 ≤ z3411 ∧ z3411 ≤ 1000) (h5 : 0 ≤ z3421 ∧ z3421 ≤ 996) (h6 : 0 ≤ z4366 ∧ z4366 ≤ 1000) (h7 : 0 ≤ z4368 ∧ z4368 ≤ 1000) : 4 ≤ z3411 ∧ z3411 ≤ 1000 := by omega
theorem vc_X12_message_v_44 {z3411 z3421 z4366 z4368 z4380 : Int} (h0 : (((2 + z3421) + 2) + z4380) ≤ z3411) (h1 : 2 ≤ z3411) (h2 : (2 + z3421) ≤ z3411) (h3 : z4366 + z4368 ≤ (0 : Int) + (0 : Int) + (2 + z3421) - (2 : Int)) (h4 : ((2 + z3421) + 2) ≤ z3411) (h5 : 4 ≤ z3411 ∧ z3411 ≤ 1000) (h6 : 0 ≤ z3421 ∧ z3421 ≤ 996) (h7 : 0 ≤ z4366 ∧ z4366 ≤ 1000) (h8 : 0 ≤ z4368 ∧ z4368 ≤ 1000) (h9 : 0 ≤ z4380 ∧ z4380 ≤ 65535) : 0 ≤ z4380 ∧ z4380 ≤ 996 := by omega
theorem vc_X12_message_v_45 {z3411 z3421 z4366 z4368 z4380 : Int} (h0 : (2 + z3421) ≤ z3411) (h1 : z4366 + z4368 ≤ (0 : Int) + (0 : Int) + (2 + z3421) - (2 : Int)) (h2 : ((2 + z3421) + 2) ≤ z3411) (h3 : (((2 + z3421) + 2) + z4380) ≤ z3411) (h4 : 2 ≤ z3411) (h5 : 4 ≤ z3411 ∧ z3411 ≤ 1000) (h6 : 0 ≤ z3421 ∧ z3421 ≤ 996) (h7 : 0 ≤ z4366 ∧ z4366 ≤ 1000) (h8 : 0 ≤ z4368 ∧ z4368 ≤ 1000) (h9 : 0 ≤ z4380 ∧ z4380 ≤ 996) : 0 ≤ (((2 + z3421) + 2) + z4380) ∧ (((2 + z3421) + 2) + z4380) ≤ 1000 := by omega
theorem vc_X12_message_v_46 {z3411 z3421 z4366 z4368 z4380 : Int} (h0 : 2 ≤ z3411) (h1 : (2 + z3421) ≤ z3411) (h2 : z4366 + z4368 ≤ (0 : Int) + (0 : Int) + (2 + z3421) - (2 : Int)) (h3 : ((2 + z3421) + 2) ≤ z3411) (h4 : (((2 + z3421) + 2) + z4380) ≤ z3411) (h5 : 4 ≤ z3411 ∧ z3411 ≤ 1000) (h6 : 0 ≤ z3421 ∧ z3421 ≤ 996) (h7 : 0 ≤ z4366 ∧ z4366 ≤ 1000) (h8 : 0 ≤ z4368 ∧ z4368 ≤ 1000) (h9 : 0 ≤ z4380 ∧ z4380 ≤ 996) : (((2 + z3421) + 2) + z4380) ≤ z3411 := by omega
theorem vc_X12_message_v_47 {z3411 z3421 z4366 z4368 z4380 : Int} (h0 : (2 + z3421) ≤ z3411) (h1 : z4366 + z4368 ≤ (0 : Int) + (0 : Int) + (2 + z3421) - (2 : Int)) (h2 : ((2 + z3421) + 2) ≤ z3411) (h3 : (((2 + z3421) + 2) + z4380) ≤ z3411) (h4 : 2 ≤ z3411) (h5 : 4 ≤ z3411 ∧ z3411 ≤ 1000) (h6 : 0 ≤ z3421 ∧ z3421 ≤ 996) (h7 : 0 ≤ z4366 ∧ z4366 ≤ 1000) (h8 : 0 ≤ z4368 ∧ z4368 ≤ 1000) (h9 : 0 ≤ z4380 ∧ z4380 ≤ 996) : 3 * (0 : Int) ≤ ((2 + z3421) + 2) := by omega
theorem vc_X12_message_v_48 {z3411 z3421 z4366 z4368 z4380 : Int} (h0 : 2 ≤ z3411) (h1 : (2 + z3421) ≤ z3411) (h2 : ((2 + z3421) + 2) ≤ z3411) (h3 : (((2 + z3421) + 2) + z4380) ≤ z3411) (h4 : z4366 + z4368 ≤ (0 : Int) + (0 : Int) + (2 + z3421) - (2 : Int)) (h5 : 4 ≤ z3411 ∧ z3411 ≤ 1000) (h6 : 0 ≤ z3421 ∧ z3421 ≤ 996) (h7 : 0 ≤ z4366 ∧ z4366 ≤ 1000) (h8 : 0 ≤ z4368 ∧ z4368 ≤ 1000) (h9 : 0 ≤ z4380 ∧ z4380 ≤ 996) : z3411 ≤ z3411 := by omega
theorem vc_X12_message_v_49 {z3411 z3421 z4366 z4368 z4380 : Int} (h0 : 2 ≤ z3411) (h1 : (2 + z3421) ≤ z3411) (h2 : z4366 + z4368 ≤ (0 : Int) + (0 : Int) + (2 + z3421) - (2 : Int)) (h3 : ((2 + z3421) + 2) ≤ z3411) (h4 : (((2 + z3421) + 2) + z4380) ≤ z3411) (h5 : 4 ≤ z3411 ∧ z3411 ≤ 1000) (h6 : 0 ≤ z3421 ∧ z3421 ≤ 996) (h7 : 0 ≤ z4366 ∧ z4366 ≤ 1000) (h8 : 0 ≤ z4368 ∧ z4368 ≤ 1000) (h9 : 0 ≤ z4380 ∧ z4380 ≤ 996) : z4366 + z4368 + z3411 - (((2 + z3421) + 2) + z4380) ≤ 1000 := by omega
theorem vc_X12_message_v_50  : (960 : Int) ≤ (961 : Int) ∧ (1000 : Int) ≤ (1000 : Int) := by omega
theorem vc_X12_message_v_52  : (40 : Int) * ((((1000 : Int) : Int) - (1 : Int)) / (40 : Int)) < ((961 : Int) : Int) := by omega
theorem vc_X12_message_v_53  : ((1000 : Int) : Int) ≤ (5200 : Int) ∨ (21200 : Int) ≤ ((961 : Int) : Int) := by omega
theorem vc_X12_message_v_54  : ((1 : Int) ≤ ((961 : Int) : Int) ∧ ((1000 : Int) : Int) ≤ (1200 : Int)) ∨ (5200 : Int) ≤ ((961 : Int) : Int) := by omega
theorem vc_X12_message_v_55 {z3411 z3421 z4366 z4368 z4380 z4401 z4403 : Int} (h0 : z4401 + z4403 ≤ z4366 + z4368 + z3411 - (((2 + z3421) + 2) + z4380)) (h1 : 2 ≤ z3411) (h2 : (2 + z3421) ≤ z3411) (h3 : z4366 + z4368 ≤ (0 : Int) + (0 : Int) + (2 + z3421) - (2 : Int)) (h4 : ((2 + z3421) + 2) ≤ z3411) (h5 : (((2 + z3421) + 2) + z4380) ≤ z3411) (h6 : z3411 ≤ (((2 + z3421) + 2) + z4380)) (h7 : 4 ≤ z3411 ∧ z3411 ≤ 1000) (h8 : 0 ≤ z3421 ∧ z3421 ≤ 996) (h9 : 0 ≤ z4366 ∧ z4366 ≤ 1000) (h10 : 0 ≤ z4368 ∧ z4368 ≤ 1000) (h11 : 0 ≤ z4380 ∧ z4380 ≤ 996) (h12 : 0 ≤ z4401 ∧ z4401 ≤ 1000) (h13 : 0 ≤ z4403 ∧ z4403 ≤ 1000) : z4401 + z4403 ≤ 1000 := by omega
theorem vc_X12_message_v_56 {z3411 z3421 z4366 z4368 z4380 z4401 z4403 : Int} (h0 : (((2 + z3421) + 2) + z4380) < z3411) (h1 : 2 ≤ z3411) (h2 : (2 + z3421) ≤ z3411) (h3 : z4366 + z4368 ≤ (0 : Int) + (0 : Int) + (2 + z3421) - (2 : Int)) (h4 : ((2 + z3421) + 2) ≤ z3411) (h5 : (((2 + z3421) + 2) + z4380) ≤ z3411) (h6 : z4401 + z4403 ≤ z4366 + z4368 + z3411 - (((2 + z3421) + 2) + z4380)) (h7 : 4 ≤ z3411 ∧ z3411 ≤ 1000) (h8 : 0 ≤ z3421 ∧ z3421 ≤ 996) (h9 : 0 ≤ z4366 ∧ z4366 ≤ 1000) (h10 : 0 ≤ z4368 ∧ z4368 ≤ 1000) (h11 : 0 ≤ z4380 ∧ z4380 ≤ 996) (h12 : 0 ≤ z4401 ∧ z4401 ≤ 1000) (h13 : 0 ≤ z4403 ∧ z4403 ≤ 1000) : 5 ≤ z3411 ∧ z3411 ≤ 1000 := by omega
theorem vc_X12_message_v_57 {z3411 z3421 z4366 z4368 z4380 z4401 z4403 : Int} (h0 : (((2 + z3421) + 2) + z4380) < z3411) (h1 : 2 ≤ z3411) (h2 : (2 + z3421) ≤ z3411) (h3 : z4366 + z4368 ≤ (0 : Int) + (0 : Int) + (2 + z3421) - (2 : Int)) (h4 : ((2 + z3421) + 2) ≤ z3411) (h5 : (((2 + z3421) + 2) + z4380) ≤ z3411) (h6 : z4401 + z4403 ≤ z4366 + z4368 + z3411 - (((2 + z3421) + 2) + z4380)) (h7 : 5 ≤ z3411 ∧ z3411 ≤ 1000) (h8 : 0 ≤ z3421 ∧ z3421 ≤ 996) (h9 : 0 ≤ z4366 ∧ z4366 ≤ 1000) (h10 : 0 ≤ z4368 ∧ z4368 ≤ 1000) (h11 : 0 ≤ z4380 ∧ z4380 ≤ 996) (h12 : 0 ≤ z4401 ∧ z4401 ≤ 1000) (h13 : 0 ≤ z4403 ∧ z4403 ≤ 1000) : 0 ≤ z3421 ∧ z3421 ≤ 995 := by omega
theorem vc_X12_message_v_58 {z3411 z3421 z4366 z4368 z4380 z4401 z4403 : Int} (h0 : (((2 + z3421) + 2) + z4380) < z3411) (h1 : 2 ≤ z3411) (h2 : (2 + z3421) ≤ z3411) (h3 : z4366 + z4368 ≤ (0 : Int) + (0 : Int) + (2 + z3421) - (2 : Int)) (h4 : ((2 + z3421) + 2) ≤ z3411) (h5 : (((2 + z3421) + 2) + z4380) ≤ z3411) (h6 : z4401 + z4403 ≤ z4366 + z4368 + z3411 - (((2 + z3421) + 2) + z4380)) (h7 : 5 ≤ z3411 ∧ z3411 ≤ 1000) (h8 : 0 ≤ z3421 ∧ z3421 ≤ 995) (h9 : 0 ≤ z4366 ∧ z4366 ≤ 1000) (h10 : 0 ≤ z4368 ∧ z4368 ≤ 1000) (h11 : 0 ≤ z4380 ∧ z4380 ≤ 996) (h12 : 0 ≤ z4401 ∧ z4401 ≤ 1000) (h13 : 0 ≤ z4403 ∧ z4403 ≤ 1000) : 0 ≤ z4380 ∧ z4380 ≤ 995 := by omega
theorem vc_X12_message_v_60 {z3411 z3421 z4366 z4368 z4380 z4401 z4403 : Int} (h0 : z4401 + z4403 ≤ z4366 + z4368 + z3411 - (((2 + z3421) + 2) + z4380)) (h1 : 2 ≤ z3411) (h2 : (2 + z3421) ≤ z3411) (h3 : z4366 + z4368 ≤ (0 : Int) + (0 : Int) + (2 + z3421) - (2 : Int)) (h4 : ((2 + z3421) + 2) ≤ z3411) (h5 : (((2 + z3421) + 2) + z4380) ≤ z3411) (h6 : (((2 + z3421) + 2) + z4380) < z3411) (h7 : 5 ≤ z3411 ∧ z3411 ≤ 1000) (h8 : 0 ≤ z3421 ∧ z3421 ≤ 995) (h9 : 0 ≤ z4366 ∧ z4366 ≤ 1000) (h10 : 0 ≤ z4368 ∧ z4368 ≤ 1000) (h11 : 0 ≤ z4380 ∧ z4380 ≤ 995) (h12 : 0 ≤ z4401 ∧ z4401 ≤ 1000) (h13 : 0 ≤ z4403 ∧ z4403 ≤ 1000) : z4401 + z4403 ≤ 1000 := by omega
theorem vc_X12_message_v_64 {z3411 z3421 z4366 z4368 z4380 : Int} (h0 : z4366 + z4368 ≤ (0 : Int) + (0 : Int) + (2 + z3421) - (2 : Int)) (h1 : (2 + z3421) ≤ z3411) (h2 : ((2 + z3421) + 2) ≤ z3411) (h3 : z3411 < (((2 + z3421) + 2) + z4380)) (h4 : 4 ≤ z3411 ∧ z3411 ≤ 1000) (h5 : 0 ≤ z3421 ∧ z3421 ≤ 996) (h6 : 0 ≤ z4366 ∧ z4366 ≤ 1000) (h7 : 0 ≤ z4368 ∧ z4368 ≤ 1000) (h8 : 0 ≤ z4380 ∧ z4380 ≤ 65535) : z4366 + z4368 ≤ 1000 := by omega
theorem vc_X12_message_v_65 {z3411 z3421 z4366 z4368 : Int} (h0 : 2 ≤ z3411) (h1 : (2 + z3421) ≤ z3411) (h2 : z4366 + z4368 ≤ (0 : Int) + (0 : Int) + (2 + z3421) - (2 : Int)) (h3 : ((2 + z3421) + 2) ≤ z3411) (h4 : 4 ≤ z3411 ∧ z3411 ≤ 1000) (h5 : 0 ≤ z3421 ∧ z3421 ≤ 996) (h6 : 0 ≤ z4366 ∧ z4366 ≤ 1000) (h7 : 0 ≤ z4368 ∧ z4368 ≤ 1000) : (2 + z3421) + (2 : Int) ≤ z3411 := by omega
theorem vc_X12_message_v_66 {z3411 z3421 : Int} (h0 : z3411 < (2 + z3421)) (h1 : 2 ≤ z3411) (h2 : 2 ≤ z3411 ∧ z3411 ≤ 1000) (h3 : 0 ≤ z3421 ∧ z3421 ≤ 65535) : 1 ≤ z3421 ∧ z3421 ≤ 65535 := by omega
theorem vc_X12_message_v_67 {z3411 : Int} (h0 : 2 ≤ z3411) (h1 : 2 ≤ z3411 ∧ z3411 ≤ 1000) : (0 : Int) + (2 : Int) ≤ z3411 := by omega
theorem vc_X12_message_v_68 {z3386 : Int} (h0 : z3386 < 6) (h1 : 2 ≤ z3386 ∧ z3386 ≤ 6) : 2 ≤ z3386 ∧ z3386 ≤ 5 := by omega
theorem vc_X12_message_v_69 {z3386 : Int} (h0 : z3386 < 6) (h1 : 2 ≤ z3386 ∧ z3386 ≤ 5) : (-2147483648 ≤ (0 : Int) ∧ (0 : Int) ≤ 2147483647) ∧ ((960 + z3386) % 40 = 0 → -1 ≤ (0 : Int) ∧ (0 : Int) ≤ 9) ∧ ((960 + z3386) % 40 = 4 → 0 ≤ (0 : Int) ∧ (0 : Int) ≤ 20) ∧ ((960 + z3386) % 40 = 5 → 0 ≤ (0 : Int) ∧ (0 : Int) ≤ 8) := by omega
theorem vc_X12_message_v_70 {z3386 : Int} (h0 : z3386 < 6) (h1 : 2 ≤ z3386 ∧ z3386 ≤ 5) : 0 ≤ (960 + z3386) := by omega
theorem vc_X12_message_v_71 {z2932 z3386 : Int} (h0 : z3386 < 6) (h1 : 0 ≤ z2932 ∧ z2932 ≤ 10) (h2 : 2 ≤ z3386 ∧ z3386 ≤ 5) : ¬ (960 + z3386) % 40 = 0 ∨ 56000 ≤ (960 + z3386) ∨ ((960 + z3386) = 960 ∧ (0 : Int) ≤ 0) ∨ (¬ (960 + z3386) = 960 ∧ (0 : Int) < z2932) := by omega
theorem vc_X12_message_v_72 {N z3386 : Int} (h0 : (7 - z3386) < N + 1) (h1 : z3386 < 6) (h2 : 2 ≤ z3386 ∧ z3386 ≤ 5) : (7 - (z3386 + 1)) < N := by omega
theorem vc_X12_message_v_73 {z3386 : Int} (h0 : z3386 < 6) (h1 : 2 ≤ z3386 ∧ z3386 ≤ 5) : 0 ≤ (960 + z3386) ∧ 960 ≤ (960 + z3386) ∧ (960 + z3386) < 1000 := by omega
theorem vc_X12_message_v_74 {z3386 : Int} (h0 : z3386 < 6) (h1 : 2 ≤ z3386 ∧ z3386 ≤ 5) : 0 ≤ (960 + z3386) ∧ (960 + z3386) ≤ (960 + z3386) ∧ (960 + z3386) < ((960 + z3386) + 1) := by omega
theorem vc_X12_message_v_75 {z3386 : Int} (h0 : z3386 < 6) (h1 : 2 ≤ z3386 ∧ z3386 ≤ 5) : ((960 + z3386) + 1) ≤ 5200 ∨ 21200 ≤ (960 + z3386) := by omega
theorem vc_X12_message_v_76 {z3386 : Int} (h0 : z3386 < 6) (h1 : 2 ≤ z3386 ∧ z3386 ≤ 5) : (1 ≤ (960 + z3386) ∧ ((960 + z3386) + 1) ≤ 1200) ∨ 5200 ≤ (960 + z3386) := by omega
theorem vc_X12_message_v_77  : (7 - 2) < ((6 : Nat) : Int) := by omega
theorem vc_X12_message_v_78  : (0 : Int) ≤ (960 : Int) ∧ (960 : Int) ≤ (960 : Int) ∧ (960 : Int) < ((960 : Int) + (1 : Int)) := by omega
theorem vc_X12_message_v_79  : (0 : Int) ≤ ((960 : Int) + (1 : Int)) ∧ ((960 : Int) + (1 : Int)) ≤ ((960 : Int) + (1 : Int)) ∧ ((960 : Int) + (1 : Int)) < (((960 : Int) + (1 : Int)) + (1 : Int)) := by omega
theorem vc_X12_message_v_80  : ((((960 : Int) + (1 : Int)) + (1 : Int)) : Int) ≤ (5200 : Int) ∨ (21200 : Int) ≤ (((960 : Int) + (1 : Int)) : Int) := by omega
theorem vc_X12_message_v_81  : (((960 : Int) + (1 : Int)) : Int) ≤ (5200 : Int) ∨ (21200 : Int) ≤ ((960 : Int) : Int) := by omega
theorem vc_X12_message_v_82  : ((1 : Int) ≤ (((960 : Int) + (1 : Int)) : Int) ∧ ((((960 : Int) + (1 : Int)) + (1 : Int)) : Int) ≤ (1200 : Int)) ∨ (5200 : Int) ≤ (((960 : Int) + (1 : Int)) : Int) := by omega
theorem vc_X12_message_v_83  : ((1 : Int) ≤ ((960 : Int) : Int) ∧ (((960 : Int) + (1 : Int)) : Int) ≤ (1200 : Int)) ∨ (5200 : Int) ≤ ((960 : Int) : Int) := by omega
theorem vc_X12_message_v_85 {N z2889 : Int} (h0 : (257 - z2889) < N + 1) (h1 : z2889 < 256) (h2 : 0 ≤ z2889 ∧ z2889 ≤ 255) : (257 - (z2889 + 1)) < N := by omega
theorem vc_X12_message_v_86  : (257 - 0) < ((258 : Nat) : Int) := by omega
theorem vc_X12_message_v_87 {z1863 : Int} (h0 : z1863 < 4) (h1 : 0 ≤ z1863 ∧ z1863 ≤ 4) : 0 ≤ z1863 ∧ z1863 ≤ 3 := by omega
theorem vc_X12_message_v_88 {N z1863 : Int} (h0 : (5 - z1863) < N + 1) (h1 : z1863 < 4) (h2 : 0 ≤ z1863 ∧ z1863 ≤ 3) : (5 - (z1863 + 1)) < N := by omega
set_option maxRecDepth 4000 in
set_option maxHeartbeats 4000000 in
theorem c_X12_message_v {l : Launch} {D : va_G} {c : Nat → ClassId} {H0 : Heap} {sa : Nat × Nat × (Nat → Int32)} {w : mW} {μ : mM} (hw : mWF w) (hT : mT w μ) (hIJC : JC l D c H0 sa μ) (hIRP : RP μ) (hIEP : EP μ) (hIHP : HP μ) (hIUP : UP l D c H0 sa μ) (hIG1 : G1 μ) : sC (gG l D c H0 sa) mX12_message 5 0 0 [.ref 106] (mk w μ) (qI w [106001, 106088, 106091, 106093, 106096, 106097, 106098, 106099, 106101, 106102, 126999, 166999, 167999, 168999, 169999, 170999, 171999, 172999, 173999] μ (fun z μ1 => ∃ o_q : Int, μ1 106 1 = o_q ∧ ((-2147483648) ≤ z ∧ z ≤ 2147483647) ∧ mG [(960, 1000)] μ μ1 ∧ JC l D c H0 sa μ1 ∧ RP μ1 ∧ EP μ1 ∧ HP μ1 ∧ UP l D c H0 sa μ1 ∧ G1 μ1 ∧ (o_q = 0) ∧ True)) := by
  refine sC.of rfl (by decide) (le_t rfl) ?_
  refine mr_lvE (lv' := [(0, .ref 106)]) rfl ?_
  refine mr_iconst (pc := 0) (z := 0) dX12_message_0 ?_
  refine mr_istore_n (pc := 1) (lv' := [(1, iv 0), (0, .ref 106)]) dX12_message_1 rfl (by decide) rfl ?_
  have L1865 : ∀ (nL1865 : Nat) (z1863 : Int) (μ1864 : mM), mT w μ1864 → mF [172999] w μ μ1864 → (0 ≤ z1863 ∧ z1863 ≤ 4) → JC l D c H0 sa μ1864 → RP μ1864 → EP μ1864 → HP μ1864 → UP l D c H0 sa μ1864 → G1 μ1864 → (5 - z1863) < (nL1865 : Int) → sV (gG l D c H0 sa) mX12_message (sRm 5 0 0) (sZ (gG l D c H0 sa) 0 0 (qI w [106001, 106088, 106091, 106093, 106096, 106097, 106098, 106099, 106101, 106102, 126999, 166999, 167999, 168999, 169999, 170999, 171999, 172999, 173999] μ (fun z μ1 => ∃ o_q : Int, μ1 106 1 = o_q ∧ ((-2147483648) ≤ z ∧ z ≤ 2147483647) ∧ mG [(960, 1000)] μ μ1 ∧ JC l D c H0 sa μ1 ∧ RP μ1 ∧ EP μ1 ∧ HP μ1 ∧ UP l D c H0 sa μ1 ∧ G1 μ1 ∧ (o_q = 0) ∧ True))) 2 [(0, .ref 106), (1, iv z1863)] [] (mk w μ1864) 0 0 := by
    intro nL1865
    induction nL1865 with
    | zero => intro z1863 μ1864 T1867 F1868 h1866 I1870 I1871 I1872 I1873 I1874 I1875 h1876; exact ((vc_X3_putPrefix_2 h1876 h1866)).elim
    | succ nL1865 ih1877 =>
      intro z1863 μ1864 T1867 F1868 h1866 I1870 I1871 I1872 I1873 I1874 I1875 h1876
      refine mr_iload_n (pc := 2) (z := z1863) dX12_message_2 rfl rfl ?_
      refine mr_iconst (pc := 3) (z := 4) dX12_message_3 ?_
      refine mr_icmp_ge (pc := 4) (tgt := 21) dX12_message_4 (by decide) (r32 h1866 rfl) (r32 (rR (x := 4)) rfl) (fun h1883 => ?_) (fun h1883 => ?_)
      · have h1884 : 4 ≤ z1863 ∧ z1863 ≤ 4 := (vc_X12_message_v_2 h1883 h1866)
        refine mr_iconst (pc := 21) (z := 0) dX12_message_21 ?_
        refine mr_istore_n (pc := 22) (lv' := [(1, iv 0), (0, .ref 106)]) dX12_message_22 rfl (by decide) rfl ?_
        have L2891 : ∀ (nL2891 : Nat) (z2889 : Int) (μ2890 : mM), mT w μ2890 → mF [171999] w μ1864 μ2890 → (0 ≤ z2889 ∧ z2889 ≤ 256) → JC l D c H0 sa μ2890 → RP μ2890 → EP μ2890 → HP μ2890 → UP l D c H0 sa μ2890 → G1 μ2890 → (257 - z2889) < (nL2891 : Int) → sV (gG l D c H0 sa) mX12_message (sRm 5 0 0) (sZ (gG l D c H0 sa) 0 0 (qI w [106001, 106088, 106091, 106093, 106096, 106097, 106098, 106099, 106101, 106102, 126999, 166999, 167999, 168999, 169999, 170999, 171999, 172999, 173999] μ (fun z μ1 => ∃ o_q : Int, μ1 106 1 = o_q ∧ ((-2147483648) ≤ z ∧ z ≤ 2147483647) ∧ mG [(960, 1000)] μ μ1 ∧ JC l D c H0 sa μ1 ∧ RP μ1 ∧ EP μ1 ∧ HP μ1 ∧ UP l D c H0 sa μ1 ∧ G1 μ1 ∧ (o_q = 0) ∧ True))) 23 [(0, .ref 106), (1, iv z2889)] [] (mk w μ2890) 0 0 := by
          intro nL2891
          induction nL2891 with
          | zero => intro z2889 μ2890 T2893 F2894 h2892 I2896 I2897 I2898 I2899 I2900 I2901 h2902; exact ((vc_X12_message_v_3 h2902 h2892)).elim
          | succ nL2891 ih2903 =>
            intro z2889 μ2890 T2893 F2894 h2892 I2896 I2897 I2898 I2899 I2900 I2901 h2902
            refine mr_iload_n (pc := 23) (z := z2889) dX12_message_23 rfl rfl ?_
            refine mr_sipush (pc := 24) (z := 256) dX12_message_24 (by decide) ?_
            refine mr_icmp_ge (pc := 27) (tgt := 43) dX12_message_27 (by decide) (r32 h2892 rfl) (r32 (rR (x := 256)) rfl) (fun h2909 => ?_) (fun h2909 => ?_)
            · have h2910 : 256 ≤ z2889 ∧ z2889 ≤ 256 := (vc_X3_putNumber_4 h2909 h2892)
              refine sv_aload_n (pc := 43) dX12_message_43 rfl rfl ?_
              refine mr_iconst (pc := 44) (z := 0) dX12_message_44 ?_
              refine pf_X12_88 (pc := 45) dX12_message_45 wF_X12_625 (A_106 hw) T2893 (rW (c := 0) (d := 1000) (rR (x := 0)) rfl) fun μ2911 u2912 T2913 => ?_
              refine sv_aload_n (pc := 48) dX12_message_48 rfl rfl ?_
              refine mr_iconst (pc := 49) (z := 0) dX12_message_49 ?_
              refine pf_X12_91 (pc := 50) dX12_message_50 wF_X12_628 (A_106 hw) T2913 (rW (c := 0) (d := 1000) (rR (x := 0)) rfl) fun μ2914 u2915 T2916 => ?_
              refine sv_aload_n (pc := 53) dX12_message_53 rfl rfl ?_
              refine mr_iconst (pc := 54) (z := 0) dX12_message_54 ?_
              refine pf_X12_93 (pc := 55) dX12_message_55 wF_X12_652 (A_106 hw) T2916 (rW (c := 0) (d := 400) (rR (x := 0)) rfl) fun μ2917 u2918 T2919 => ?_
              refine sv_aload_n (pc := 58) dX12_message_58 rfl rfl ?_
              refine mr_iconst (pc := 59) (z := 0) dX12_message_59 ?_
              refine pf_X12_101 (pc := 60) dX12_message_60 wF_X12_637 (A_106 hw) T2919 (rW (c := 0) (d := 8) (rR (x := 0)) rfl) fun μ2920 u2921 T2922 => ?_
              refine sv_aload_n (pc := 63) dX12_message_63 rfl rfl ?_
              refine mr_iconst (pc := 64) (z := 0) dX12_message_64 ?_
              refine pf_X12_98 (pc := 65) dX12_message_65 wF_X12_631 (A_106 hw) T2922 (rW (c := 0) (d := 1) (rR (x := 0)) rfl) fun μ2923 u2924 T2925 => ?_
              refine sv_aload_n (pc := 68) dX12_message_68 rfl rfl ?_
              refine mr_iconst (pc := 69) (z := 0) dX12_message_69 ?_
              refine pf_X12_99 (pc := 70) dX12_message_70 wF_X12_634 (A_106 hw) T2925 (rW (c := 0) (d := 1) (rR (x := 0)) rfl) fun μ2926 u2927 T2928 => ?_
              refine mr_sipush (pc := 73) (z := 960) dX12_message_73 (by decide) ?_
              refine mr_istore_n (pc := 76) (lv' := [(1, iv 960), (0, .ref 106)]) dX12_message_76 rfl (by decide) rfl ?_
              refine sv_aload_n (pc := 77) dX12_message_77 rfl rfl ?_
              refine gf_X12_32 (pc := 78) dX12_message_78 wF_X12_148 (A_106 hw) T2928 ?_
              refine mr_iload_n (pc := 81) (z := 960) dX12_message_81 rfl rfl ?_
              refine mr_iconst (pc := 82) (z := 0) dX12_message_82 ?_
              refine ss_126 (pc := 83) dX12_message_83 (A_126 hw) T2928 (rIx (n := 84000) (rR (x := 960)) rfl) vc_X12_message_v_5 fun μ2929 u2930 T2931 => ?_
              obtain ⟨z2932, q2933⟩ : ∃ z, μ2929 106 2 = z := ⟨_, rfl⟩
              have h2934 : (0 ≤ z2932 ∧ z2932 ≤ 10) := by rw [← q2933]; exact T2931 106 106 (A_106 hw) 2
              have I2935 : RP μ2929 := RP.up (RP.keep I2897 hw ((mF.up (mF.up (mF.up (mF.up (mF.up (mF.up mF.refl (A_106 hw) u2912 rfl) (A_106 hw) u2915 rfl) (A_106 hw) u2918 rfl) (A_106 hw) u2921 rfl) (A_106 hw) u2924 rfl) (A_106 hw) u2927 rfl) : mF [106088, 106091, 106093, 106098, 106099, 106101] w μ2890 μ2926) rfl ((mG.upO (mG.upO (mG.upO (mG.upO (mG.upO (mG.upO mG.refl u2912 rfl) u2915 rfl) u2918 rfl) u2921 rfl) u2924 rfl) u2927 rfl) : mG [] μ2890 μ2926) (fun _ h => absurd h List.not_mem_nil)) u2930 q2933 vc_X12_message_v_6 (vc_X12_message_v_7 h2934)
              refine sv_aload_n (pc := 84) dX12_message_84 rfl rfl ?_
              refine gf_X12_32 (pc := 85) dX12_message_85 wF_X12_148 (A_106 hw) T2931 ?_
              refine mr_iload_n (pc := 88) (z := 960) dX12_message_88 rfl rfl ?_
              refine mr_iconst (pc := 89) (z := 1) dX12_message_89 ?_
              refine mr_iadd (pc := 90) (x := 960) (y := 1) dX12_message_90 ?_
              refine mr_bipush (pc := 91) (z := 100) dX12_message_91 (by decide) ?_
              refine ss_126 (pc := 93) dX12_message_93 (A_126 hw) T2931 (rIx (n := 84000) (rAdd (e := 961) (f := 961) (rR (x := 960)) (rR (x := 1)) rfl) rfl) vc_X12_message_v_8 fun μ2936 u2937 T2938 => ?_
              have I2939 : RP μ2936 := RP.up I2935 u2937 (u2937.f (Or.inl (mAt.ne (A_126 hw) (A_106 hw) rfl)) q2933) vc_X12_message_v_9 (vc_X12_message_v_10 h2934)
              refine mr_iconst (pc := 94) (z := 2) dX12_message_94 ?_
              refine mr_istore_n (pc := 95) (lv' := [(2, iv 2), (1, iv 960), (0, .ref 106)]) dX12_message_95 rfl (by decide) rfl ?_
              have L3388 : ∀ (nL3388 : Nat) (z3386 : Int) (μ3387 : mM), mT w μ3387 → mF [126999] w μ2936 μ3387 → mG [(960, 1000)] μ2936 μ3387 → (2 ≤ z3386 ∧ z3386 ≤ 6) → JC l D c H0 sa μ3387 → RP μ3387 → EP μ3387 → HP μ3387 → UP l D c H0 sa μ3387 → G1 μ3387 → (7 - z3386) < (nL3388 : Int) → sV (gG l D c H0 sa) mX12_message (sRm 5 0 0) (sZ (gG l D c H0 sa) 0 0 (qI w [106001, 106088, 106091, 106093, 106096, 106097, 106098, 106099, 106101, 106102, 126999, 166999, 167999, 168999, 169999, 170999, 171999, 172999, 173999] μ (fun z μ1 => ∃ o_q : Int, μ1 106 1 = o_q ∧ ((-2147483648) ≤ z ∧ z ≤ 2147483647) ∧ mG [(960, 1000)] μ μ1 ∧ JC l D c H0 sa μ1 ∧ RP μ1 ∧ EP μ1 ∧ HP μ1 ∧ UP l D c H0 sa μ1 ∧ G1 μ1 ∧ (o_q = 0) ∧ True))) 96 [(0, .ref 106), (1, iv 960), (2, iv z3386)] [] (mk w μ3387) 0 0 := by
                intro nL3388
                induction nL3388 with
                | zero => intro z3386 μ3387 T3390 F3391 G3392 h3389 I3393 I3394 I3395 I3396 I3397 I3398 h3399; exact ((vc_X12_message_v_11 h3399 h3389)).elim
                | succ nL3388 ih3400 =>
                  intro z3386 μ3387 T3390 F3391 G3392 h3389 I3393 I3394 I3395 I3396 I3397 I3398 h3399
                  refine mr_iload_n (pc := 96) (z := z3386) dX12_message_96 rfl rfl ?_
                  refine mr_bipush (pc := 97) (z := 6) dX12_message_97 (by decide) ?_
                  refine mr_icmp_ge (pc := 99) (tgt := 117) dX12_message_99 (by decide) (r32 h3389 rfl) (r32 (rR (x := 6)) rfl) (fun h3406 => ?_) (fun h3406 => ?_)
                  · have h3407 : 6 ≤ z3386 ∧ z3386 ≤ 6 := (vc_X12_message_v_12 h3406 h3389)
                    refine sv_aload_n (pc := 117) dX12_message_117 rfl rfl ?_
                    refine mr_iconst (pc := 118) (z := 1) dX12_message_118 ?_
                    refine pf_X12_96 (pc := 119) dX12_message_119 wF_X12_655 (A_106 hw) T3390 (rW (c := 0) (d := 1) (rR (x := 1)) rfl) fun μ3408 u3409 T3410 => ?_
                    refine sv_aload_n (pc := 122) dX12_message_122 rfl rfl ?_
                    refine gf_X12_1 (pc := 123) dX12_message_123 wF_X12_1 (A_106 hw) T3410 fun z3411 q3412 h3413 => ?_
                    refine mr_iconst (pc := 126) (z := 2) dX12_message_126 ?_
                    have J3423 : ∀ (z3421 : Int), ((0 ≤ z3421 ∧ z3421 ≤ 65535)) → sV (gG l D c H0 sa) mX12_message (sRm 5 0 0) (sZ (gG l D c H0 sa) 0 0 (qI w [106001, 106088, 106091, 106093, 106096, 106097, 106098, 106099, 106101, 106102, 126999, 166999, 167999, 168999, 169999, 170999, 171999, 172999, 173999] μ (fun z μ1 => ∃ o_q : Int, μ1 106 1 = o_q ∧ ((-2147483648) ≤ z ∧ z ≤ 2147483647) ∧ mG [(960, 1000)] μ μ1 ∧ JC l D c H0 sa μ1 ∧ RP μ1 ∧ EP μ1 ∧ HP μ1 ∧ UP l D c H0 sa μ1 ∧ G1 μ1 ∧ (o_q = 0) ∧ True))) 140 [(0, .ref 106)] [iv z3421] (mk w μ3408) 0 0 := by
                      intro z3421 h3422
                      refine mr_istore_n (pc := 140) (lv' := [(2, iv z3421), (0, .ref 106)]) dX12_message_140 rfl (by decide) rfl ?_
                      refine sv_aload_n (pc := 141) dX12_message_141 rfl rfl ?_
                      refine gk_X12_1 (pc := 142) dX12_message_142 wF_X12_1 (A_106 hw) q3412 ?_
                      refine mr_iconst (pc := 145) (z := 2) dX12_message_145 ?_
                      have J3516 : ∀ (μ3505 : mM), (mT w μ3505) → (mF [106088, 106091, 106093, 106098, 106099, 106101, 126999, 166999, 167999, 168999, 169999, 170999, 171999, 172999, 173999] w μ3408 μ3505) → (mG [(960, 1000)] μ3408 μ3505) → (JC l D c H0 sa μ3505) → (RP μ3505) → (EP μ3505) → (HP μ3505) → (UP l D c H0 sa μ3505) → (G1 μ3505) → ((μ3505 106 (88) + μ3505 106 (91) ≤ 1000)) → sV (gG l D c H0 sa) mX12_message (sRm 5 0 0) (sZ (gG l D c H0 sa) 0 0 (qI w [106001, 106088, 106091, 106093, 106096, 106097, 106098, 106099, 106101, 106102, 126999, 166999, 167999, 168999, 169999, 170999, 171999, 172999, 173999] μ (fun z μ1 => ∃ o_q : Int, μ1 106 1 = o_q ∧ ((-2147483648) ≤ z ∧ z ≤ 2147483647) ∧ mG [(960, 1000)] μ μ1 ∧ JC l D c H0 sa μ1 ∧ RP μ1 ∧ EP μ1 ∧ HP μ1 ∧ UP l D c H0 sa μ1 ∧ G1 μ1 ∧ (o_q = 0) ∧ True))) 303 [(0, .ref 106)] [] (mk w μ3505) 0 0 := by
                        intro μ3505 T3506 F3507 G3508 I3509 I3510 I3511 I3512 I3513 I3514 h3515
                        obtain ⟨z3517, q3518⟩ : ∃ z, μ3505 106 88 = z := ⟨_, rfl⟩
                        have h3519 : (0 ≤ z3517 ∧ z3517 ≤ 1000) := by rw [← q3518]; exact T3506 106 106 (A_106 hw) 88
                        obtain ⟨z3520, q3521⟩ : ∃ z, μ3505 106 91 = z := ⟨_, rfl⟩
                        have h3522 : (0 ≤ z3520 ∧ z3520 ≤ 1000) := by rw [← q3521]; exact T3506 106 106 (A_106 hw) 91
                        have h3523 : z3517 + z3520 ≤ 1000 := by have h := h3515; rw [q3518, q3521] at h; exact h
                        refine sv_aload_n (pc := 303) dX12_message_303 rfl rfl ?_
                        refine mr_iconst (pc := 304) (z := 0) dX12_message_304 ?_
                        refine pf_X12_1 (pc := 305) dX12_message_305 wF_X12_1 (A_106 hw) T3506 (rW (c := 0) (d := 1000) (rR (x := 0)) rfl) fun μ3524 u3525 T3526 => ?_
                        refine sv_aload_n (pc := 308) dX12_message_308 rfl rfl ?_
                        refine sv_aload_n (pc := 309) dX12_message_309 rfl rfl ?_
                        refine gf_X12_95 (pc := 310) dX12_message_310 wF_X12_478 (A_106 hw) T3526 ?_
                        refine mr_iconst (pc := 313) (z := 1) dX12_message_313 ?_
                        refine la_172 (pc := 314) dX12_message_314 (A_172 hw) T3526 (rIx (n := 4) (rR (x := 1)) rfl) fun z3527 q3528 h3529 => ?_
                        refine mr_ldc (pc := 315) (z := (-99999999)) dX12_message_315 wG_X12_29 (by decide) ?_
                        have J3533 : ∀ (z3531 : Int), ((0 ≤ z3531 ∧ z3531 ≤ 1)) → sV (gG l D c H0 sa) mX12_message (sRm 5 0 0) (sZ (gG l D c H0 sa) 0 0 (qI w [106001, 106088, 106091, 106093, 106096, 106097, 106098, 106099, 106101, 106102, 126999, 166999, 167999, 168999, 169999, 170999, 171999, 172999, 173999] μ (fun z μ1 => ∃ o_q : Int, μ1 106 1 = o_q ∧ ((-2147483648) ≤ z ∧ z ≤ 2147483647) ∧ mG [(960, 1000)] μ μ1 ∧ JC l D c H0 sa μ1 ∧ RP μ1 ∧ EP μ1 ∧ HP μ1 ∧ UP l D c H0 sa μ1 ∧ G1 μ1 ∧ (o_q = 0) ∧ True))) 325 [(0, .ref 106)] [iv z3531, .ref 106] (mk w μ3524) 0 0 := by
                          intro z3531 h3532
                          refine pf_X12_97 (pc := 325) dX12_message_325 wF_X12_665 (A_106 hw) T3526 h3532 fun μ3534 u3535 T3536 => ?_
                          refine sv_aload_n (pc := 328) dX12_message_328 rfl rfl ?_
                          refine gk_X12_97 (pc := 329) dX12_message_329 wF_X12_665 (A_106 hw) u3535.1 ?_
                          have J3605 : ∀ (μ3595 : mM), (mT w μ3595) → (mF [106088, 106091, 166999, 167999] w μ3534 μ3595) → (JC l D c H0 sa μ3595) → (RP μ3595) → (EP μ3595) → (HP μ3595) → (UP l D c H0 sa μ3595) → (G1 μ3595) → sV (gG l D c H0 sa) mX12_message (sRm 5 0 0) (sZ (gG l D c H0 sa) 0 0 (qI w [106001, 106088, 106091, 106093, 106096, 106097, 106098, 106099, 106101, 106102, 126999, 166999, 167999, 168999, 169999, 170999, 171999, 172999, 173999] μ (fun z μ1 => ∃ o_q : Int, μ1 106 1 = o_q ∧ ((-2147483648) ≤ z ∧ z ≤ 2147483647) ∧ mG [(960, 1000)] μ μ1 ∧ JC l D c H0 sa μ1 ∧ RP μ1 ∧ EP μ1 ∧ HP μ1 ∧ UP l D c H0 sa μ1 ∧ G1 μ1 ∧ (o_q = 0) ∧ True))) 407 [(0, .ref 106)] [] (mk w μ3595) 0 0 := by
                            intro μ3595 T3596 F3597 I3599 I3600 I3601 I3602 I3603 I3604
                            refine sv_aload_n (pc := 407) dX12_message_407 rfl rfl ?_
                            refine sv_aload_n (pc := 408) dX12_message_408 rfl rfl ?_
                            refine gf_X12_95 (pc := 409) dX12_message_409 wF_X12_478 (A_106 hw) T3596 ?_
                            refine mr_iconst (pc := 412) (z := 1) dX12_message_412 ?_
                            refine lk_172 (pc := 413) dX12_message_413 (A_172 hw) (rIx (n := 4) (rR (x := 1)) rfl) (F3597.f (A_172 hw) rfl (u3535.f (Or.inl (mAt.ne (A_106 hw) (A_172 hw) rfl)) q3528)) ?_
                            refine mr_ldc (pc := 414) (z := (-99999999)) dX12_message_414 wG_X12_29 (by decide) ?_
                            have J3617 : ∀ (z3615 : Int), ((0 ≤ z3615 ∧ z3615 ≤ 3)) → sV (gG l D c H0 sa) mX12_message (sRm 5 0 0) (sZ (gG l D c H0 sa) 0 0 (qI w [106001, 106088, 106091, 106093, 106096, 106097, 106098, 106099, 106101, 106102, 126999, 166999, 167999, 168999, 169999, 170999, 171999, 172999, 173999] μ (fun z μ1 => ∃ o_q : Int, μ1 106 1 = o_q ∧ ((-2147483648) ≤ z ∧ z ≤ 2147483647) ∧ mG [(960, 1000)] μ μ1 ∧ JC l D c H0 sa μ1 ∧ RP μ1 ∧ EP μ1 ∧ HP μ1 ∧ UP l D c H0 sa μ1 ∧ G1 μ1 ∧ (o_q = 0) ∧ True))) 454 [(0, .ref 106)] [iv z3615, .ref 106] (mk w μ3595) 0 0 := by
                              intro z3615 h3616
                              refine pf_X12_102 (pc := 454) dX12_message_454 wF_X12_668 (A_106 hw) T3596 h3616 fun μ3618 u3619 T3620 => ?_
                              refine sv_aload_n (pc := 457) dX12_message_457 rfl rfl ?_
                              refine gk_X12_102 (pc := 458) dX12_message_458 wF_X12_668 (A_106 hw) u3619.1 ?_
                              exact mr_iret dX12_message_461 rfl (le_t rfl) (le_t rfl) T3620 (mF.up (mF.call (mF.up (mF.up (mF.call (mF.up (mF.call (mF.up (mF.up (mF.up (mF.up (mF.up (mF.up (mF.up (mF.up (mF.call (mF.call mF.refl F1868 rfl) F2894 rfl) (A_106 hw) u2912 rfl) (A_106 hw) u2915 rfl) (A_106 hw) u2918 rfl) (A_106 hw) u2921 rfl) (A_106 hw) u2924 rfl) (A_106 hw) u2927 rfl) (A_126 hw) u2930 rfl) (A_126 hw) u2937 rfl) F3391 rfl) (A_106 hw) u3409 rfl) F3507 rfl) (A_106 hw) u3525 rfl) (A_106 hw) u3535 rfl) F3597 rfl) (A_106 hw) u3619 rfl) ⟨0, (u3619.f (Or.inr (by decide)) (F3597.f (A_106 hw) rfl (u3535.f (Or.inr (by decide)) u3525.1))), (rW (c := (-2147483648)) (d := 2147483647) h3616 rfl), (mG.upO (mG.fr (mG.upO (mG.upO (mG.call (mG.upO (mG.call (mG.up (mG.up (mG.upO (mG.upO (mG.upO (mG.upO (mG.upO (mG.upO (mG.fr (mG.fr mG.refl F1868 (A_126 hw) rfl) F2894 (A_126 hw) rfl) u2912 rfl) u2915 rfl) u2918 rfl) u2921 rfl) u2924 rfl) u2927 rfl) u2930 List.mem_cons_self vc_X12_message_v_13) u2937 List.mem_cons_self vc_X12_message_v_14) G3392 (List.forall_mem_cons.mpr ⟨⟨_, List.mem_cons_self, vc_X12_message_v_15⟩, (fun _ h => absurd h List.not_mem_nil)⟩)) u3409 rfl) G3508 (List.forall_mem_cons.mpr ⟨⟨_, List.mem_cons_self, vc_X12_message_v_15⟩, (fun _ h => absurd h List.not_mem_nil)⟩)) u3525 rfl) u3535 rfl) F3597 (A_126 hw) rfl) u3619 rfl), (JC.keepJ I3599 hw ((mF.up mF.refl (A_106 hw) u3619 rfl) : mF [106102] w μ3595 μ3618) rfl), (RP.keep I3600 hw ((mF.up mF.refl (A_106 hw) u3619 rfl) : mF [106102] w μ3595 μ3618) rfl ((mG.upO mG.refl u3619 rfl) : mG [] μ3595 μ3618) (fun _ h => absurd h List.not_mem_nil)), (EP.keep I3601 hw ((mF.up mF.refl (A_106 hw) u3619 rfl) : mF [106102] w μ3595 μ3618) rfl), (HP.keep I3602 hw ((mF.up mF.refl (A_106 hw) u3619 rfl) : mF [106102] w μ3595 μ3618) rfl ((mG.upO mG.refl u3619 rfl) : mG [] μ3595 μ3618) (fun _ h => absurd h List.not_mem_nil)), (UPg.fr I3603 hw T3620 rfl ((mF.up mF.refl (A_106 hw) u3619 rfl) : mF [106102] w μ3595 μ3618) rfl rfl rfl ((mG.upO mG.refl u3619 rfl) : mG [] μ3595 μ3618) (fun _ h => absurd h List.not_mem_nil)), (G1.keep I3604 hw ((mF.up mF.refl (A_106 hw) u3619 rfl) : mF [106102] w μ3595 μ3618) rfl rfl ((mG.upO mG.refl u3619 rfl) : mG [] μ3595 μ3618) (fun _ h => absurd h List.not_mem_nil)), vc_X3_forget_z_1, trivial⟩
                            refine mr_icmp_eq (pc := 416) (tgt := 423) dX12_message_416 (by decide) h3529 (r32 (rR (x := (-99999999))) rfl) (fun h3621 => ?_) (fun h3621 => ?_)
                            · have h3622 : (-99999999) ≤ z3527 ∧ z3527 ≤ (-99999999) := (vc_X12_judgedAnew_21 h3621 h3529)
                              refine sv_aload_n (pc := 423) dX12_message_423 rfl rfl ?_
                              refine gf_X12_95 (pc := 424) dX12_message_424 wF_X12_478 (A_106 hw) T3596 ?_
                              refine mr_iconst (pc := 427) (z := 2) dX12_message_427 ?_
                              refine la_172 (pc := 428) dX12_message_428 (A_172 hw) T3596 (rIx (n := 4) (rR (x := 2)) rfl) fun z3623 q3624 h3625 => ?_
                              refine mr_ldc (pc := 429) (z := (-99999999)) dX12_message_429 wG_X12_29 (by decide) ?_
                              refine mr_icmp_eq (pc := 431) (tgt := 438) dX12_message_431 (by decide) h3625 (r32 (rR (x := (-99999999))) rfl) (fun h3626 => ?_) (fun h3626 => ?_)
                              · have h3627 : (-99999999) ≤ z3623 ∧ z3623 ≤ (-99999999) := (vc_X12_judgedAnew_21 h3626 h3625)
                                refine sv_aload_n (pc := 438) dX12_message_438 rfl rfl ?_
                                refine gf_X12_95 (pc := 439) dX12_message_439 wF_X12_478 (A_106 hw) T3596 ?_
                                refine mr_iconst (pc := 442) (z := 3) dX12_message_442 ?_
                                refine la_172 (pc := 443) dX12_message_443 (A_172 hw) T3596 (rIx (n := 4) (rR (x := 3)) rfl) fun z3628 q3629 h3630 => ?_
                                refine mr_ldc (pc := 444) (z := (-99999999)) dX12_message_444 wG_X12_29 (by decide) ?_
                                refine mr_icmp_eq (pc := 446) (tgt := 453) dX12_message_446 (by decide) h3630 (r32 (rR (x := (-99999999))) rfl) (fun h3631 => ?_) (fun h3631 => ?_)
                                · have h3632 : (-99999999) ≤ z3628 ∧ z3628 ≤ (-99999999) := (vc_X12_judgedAnew_21 h3631 h3630)
                                  refine mr_iconst (pc := 453) (z := 0) dX12_message_453 ?_
                                  exact J3617 0 (rW (c := 0) (d := 3) (rR (x := 0)) rfl)
                                refine mr_iconst (pc := 449) (z := 3) dX12_message_449 ?_
                                refine sv_goto (pc := 450) (tgt := 454) dX12_message_450 (by decide) ?_
                                exact J3617 3 (rW (c := 0) (d := 3) (rR (x := 3)) rfl)
                              refine mr_iconst (pc := 434) (z := 2) dX12_message_434 ?_
                              refine sv_goto (pc := 435) (tgt := 454) dX12_message_435 (by decide) ?_
                              exact J3617 2 (rW (c := 0) (d := 3) (rR (x := 2)) rfl)
                            refine mr_iconst (pc := 419) (z := 1) dX12_message_419 ?_
                            refine sv_goto (pc := 420) (tgt := 454) dX12_message_420 (by decide) ?_
                            exact J3617 1 (rW (c := 0) (d := 3) (rR (x := 1)) rfl)
                          refine mr_if_ne (pc := 332) (tgt := 407) dX12_message_332 (by decide) (r32 h3532 rfl) (fun h3633 => ?_) (fun h3633 => ?_)
                          · have h3634 : 1 ≤ z3531 ∧ z3531 ≤ 1 := (vc_X12_ring_24 h3633 h3532)
                            exact J3605 μ3534 T3536 mF.refl (JC.keepJ I3509 hw ((mF.up (mF.up mF.refl (A_106 hw) u3525 rfl) (A_106 hw) u3535 rfl) : mF [106001, 106097] w μ3505 μ3534) rfl) (RP.keep I3510 hw ((mF.up (mF.up mF.refl (A_106 hw) u3525 rfl) (A_106 hw) u3535 rfl) : mF [106001, 106097] w μ3505 μ3534) rfl ((mG.upO (mG.upO mG.refl u3525 rfl) u3535 rfl) : mG [] μ3505 μ3534) (fun _ h => absurd h List.not_mem_nil)) (EP.keep I3511 hw ((mF.up (mF.up mF.refl (A_106 hw) u3525 rfl) (A_106 hw) u3535 rfl) : mF [106001, 106097] w μ3505 μ3534) rfl) (HP.keep I3512 hw ((mF.up (mF.up mF.refl (A_106 hw) u3525 rfl) (A_106 hw) u3535 rfl) : mF [106001, 106097] w μ3505 μ3534) rfl ((mG.upO (mG.upO mG.refl u3525 rfl) u3535 rfl) : mG [] μ3505 μ3534) (fun _ h => absurd h List.not_mem_nil)) (UPg.fr I3513 hw T3536 rfl ((mF.up (mF.up mF.refl (A_106 hw) u3525 rfl) (A_106 hw) u3535 rfl) : mF [106001, 106097] w μ3505 μ3534) rfl rfl rfl ((mG.upO (mG.upO mG.refl u3525 rfl) u3535 rfl) : mG [] μ3505 μ3534) (fun _ h => absurd h List.not_mem_nil)) (G1.keep I3514 hw ((mF.up (mF.up mF.refl (A_106 hw) u3525 rfl) (A_106 hw) u3535 rfl) : mF [106001, 106097] w μ3505 μ3534) rfl rfl ((mG.upO (mG.upO mG.refl u3525 rfl) u3535 rfl) : mG [] μ3505 μ3534) (fun _ h => absurd h List.not_mem_nil))
                          have h3635 : 0 ≤ z3531 ∧ z3531 ≤ 0 := (vc_X12_ring_22 h3633 h3532)
                          refine sv_aload_n (pc := 335) dX12_message_335 rfl rfl ?_
                          refine gf_X12_95 (pc := 336) dX12_message_336 wF_X12_478 (A_106 hw) T3536 ?_
                          refine mr_iconst (pc := 339) (z := 2) dX12_message_339 ?_
                          refine la_172 (pc := 340) dX12_message_340 (A_172 hw) T3536 (rIx (n := 4) (rR (x := 2)) rfl) fun z3636 q3637 h3638 => ?_
                          refine mr_ldc (pc := 341) (z := (-99999999)) dX12_message_341 wG_X12_29 (by decide) ?_
                          refine mr_icmp_eq (pc := 343) (tgt := 407) dX12_message_343 (by decide) h3638 (r32 (rR (x := (-99999999))) rfl) (fun h3639 => ?_) (fun h3639 => ?_)
                          · have h3640 : (-99999999) ≤ z3636 ∧ z3636 ≤ (-99999999) := (vc_X12_judgedAnew_21 h3639 h3638)
                            exact J3605 μ3534 T3536 mF.refl (JC.keepJ I3509 hw ((mF.up (mF.up mF.refl (A_106 hw) u3525 rfl) (A_106 hw) u3535 rfl) : mF [106001, 106097] w μ3505 μ3534) rfl) (RP.keep I3510 hw ((mF.up (mF.up mF.refl (A_106 hw) u3525 rfl) (A_106 hw) u3535 rfl) : mF [106001, 106097] w μ3505 μ3534) rfl ((mG.upO (mG.upO mG.refl u3525 rfl) u3535 rfl) : mG [] μ3505 μ3534) (fun _ h => absurd h List.not_mem_nil)) (EP.keep I3511 hw ((mF.up (mF.up mF.refl (A_106 hw) u3525 rfl) (A_106 hw) u3535 rfl) : mF [106001, 106097] w μ3505 μ3534) rfl) (HP.keep I3512 hw ((mF.up (mF.up mF.refl (A_106 hw) u3525 rfl) (A_106 hw) u3535 rfl) : mF [106001, 106097] w μ3505 μ3534) rfl ((mG.upO (mG.upO mG.refl u3525 rfl) u3535 rfl) : mG [] μ3505 μ3534) (fun _ h => absurd h List.not_mem_nil)) (UPg.fr I3513 hw T3536 rfl ((mF.up (mF.up mF.refl (A_106 hw) u3525 rfl) (A_106 hw) u3535 rfl) : mF [106001, 106097] w μ3505 μ3534) rfl rfl rfl ((mG.upO (mG.upO mG.refl u3525 rfl) u3535 rfl) : mG [] μ3505 μ3534) (fun _ h => absurd h List.not_mem_nil)) (G1.keep I3514 hw ((mF.up (mF.up mF.refl (A_106 hw) u3525 rfl) (A_106 hw) u3535 rfl) : mF [106001, 106097] w μ3505 μ3534) rfl rfl ((mG.upO (mG.upO mG.refl u3525 rfl) u3535 rfl) : mG [] μ3505 μ3534) (fun _ h => absurd h List.not_mem_nil))
                          refine mr_iconst (pc := 346) (z := 0) dX12_message_346 ?_
                          refine mr_istore_n (pc := 347) (lv' := [(3, iv 0), (0, .ref 106)]) dX12_message_347 rfl (by decide) rfl ?_
                          have L4293 : ∀ (nL4293 : Nat) (z4291 : Int) (μ4292 : mM) (f_g : Int) (f_c : Int), mT w μ4292 → mF [106088, 166999, 167999] w μ3534 μ4292 → μ4292 106 (88) = f_g → μ4292 106 (91) = f_c → (0 ≤ z4291 ∧ z4291 ≤ 1000) → (f_g + f_c ≤ 1000 + z4291) → (z4291 ≤ f_c) → JC l D c H0 sa μ4292 → RP μ4292 → EP μ4292 → HP μ4292 → UP l D c H0 sa μ4292 → G1 μ4292 → (1001 - z4291) < (nL4293 : Int) → sV (gG l D c H0 sa) mX12_message (sRm 5 0 0) (sZ (gG l D c H0 sa) 0 0 (qI w [106001, 106088, 106091, 106093, 106096, 106097, 106098, 106099, 106101, 106102, 126999, 166999, 167999, 168999, 169999, 170999, 171999, 172999, 173999] μ (fun z μ1 => ∃ o_q : Int, μ1 106 1 = o_q ∧ ((-2147483648) ≤ z ∧ z ≤ 2147483647) ∧ mG [(960, 1000)] μ μ1 ∧ JC l D c H0 sa μ1 ∧ RP μ1 ∧ EP μ1 ∧ HP μ1 ∧ UP l D c H0 sa μ1 ∧ G1 μ1 ∧ (o_q = 0) ∧ True))) 348 [(0, .ref 106), (3, iv z4291)] [] (mk w μ4292) 0 0 := by
                            intro nL4293
                            induction nL4293 with
                            | zero => intro z4291 μ4292 f_g f_c T4295 F4296 q4307 q4308 h4294 h4298 h4299 I4300 I4301 I4302 I4303 I4304 I4305 h4306; exact ((vc_X12_message_v_23 h4306 h4298 h4299 h4294)).elim
                            | succ nL4293 ih4309 =>
                              intro z4291 μ4292 f_g f_c T4295 F4296 q4307 q4308 h4294 h4298 h4299 I4300 I4301 I4302 I4303 I4304 I4305 h4306
                              have h4310 : (0 ≤ f_g ∧ f_g ≤ 1000) := by rw [← q4307]; exact T4295 106 106 (A_106 hw) (88)
                              have h4311 : (0 ≤ f_c ∧ f_c ≤ 1000) := by rw [← q4308]; exact T4295 106 106 (A_106 hw) (91)
                              refine mr_iload_n (pc := 348) (z := z4291) dX12_message_348 rfl rfl ?_
                              refine sv_aload_n (pc := 349) dX12_message_349 rfl rfl ?_
                              refine gk_X12_91 (pc := 350) dX12_message_350 wF_X12_628 (A_106 hw) q4308 ?_
                              refine mr_icmp_ge (pc := 353) (tgt := 402) dX12_message_353 (by decide) (r32 h4294 rfl) (r32 h4311 rfl) (fun h4329 => ?_) (fun h4329 => ?_)
                              · refine sv_aload_n (pc := 402) dX12_message_402 rfl rfl ?_
                                refine mr_iconst (pc := 403) (z := 0) dX12_message_403 ?_
                                refine pf_X12_91 (pc := 404) dX12_message_404 wF_X12_628 (A_106 hw) T4295 (rW (c := 0) (d := 1000) (rR (x := 0)) rfl) fun μ4330 u4331 T4332 => ?_
                                refine mr_lvS (lv' := [(0, .ref 106)]) (List.forall_mem_cons.mpr ⟨rfl, fun _ h => absurd h List.not_mem_nil⟩) ?_
                                exact J3605 μ4330 T4332 (mF.up (mF.call mF.refl F4296 rfl) (A_106 hw) u4331 rfl) (JC.keepJ I4300 hw ((mF.up mF.refl (A_106 hw) u4331 rfl) : mF [106091] w μ4292 μ4330) rfl) (RP.keep I4301 hw ((mF.up mF.refl (A_106 hw) u4331 rfl) : mF [106091] w μ4292 μ4330) rfl ((mG.upO mG.refl u4331 rfl) : mG [] μ4292 μ4330) (fun _ h => absurd h List.not_mem_nil)) (EP.keep I4302 hw ((mF.up mF.refl (A_106 hw) u4331 rfl) : mF [106091] w μ4292 μ4330) rfl) (HP.keep I4303 hw ((mF.up mF.refl (A_106 hw) u4331 rfl) : mF [106091] w μ4292 μ4330) rfl ((mG.upO mG.refl u4331 rfl) : mG [] μ4292 μ4330) (fun _ h => absurd h List.not_mem_nil)) (UPg.fr I4304 hw T4332 rfl ((mF.up mF.refl (A_106 hw) u4331 rfl) : mF [106091] w μ4292 μ4330) rfl rfl rfl ((mG.upO mG.refl u4331 rfl) : mG [] μ4292 μ4330) (fun _ h => absurd h List.not_mem_nil)) (G1.keep I4305 hw ((mF.up mF.refl (A_106 hw) u4331 rfl) : mF [106091] w μ4292 μ4330) rfl rfl ((mG.upO mG.refl u4331 rfl) : mG [] μ4292 μ4330) (fun _ h => absurd h List.not_mem_nil))
                              have h4333 : 0 ≤ z4291 ∧ z4291 ≤ 999 := (vc_X12_message_v_24 h4329 h4298 h4299 h4311 h4310 h4294)
                              have h4334 : 1 ≤ f_c ∧ f_c ≤ 1000 := (vc_X12_message_v_25 h4329 h4298 h4299 h4311 h4310 h4333)
                              refine sv_aload_n (pc := 356) dX12_message_356 rfl rfl ?_
                              refine gf_X12_86 (pc := 357) dX12_message_357 wF_X12_460 (A_106 hw) T4295 ?_
                              refine sv_aload_n (pc := 360) dX12_message_360 rfl rfl ?_
                              refine gk_X12_88 (pc := 361) dX12_message_361 wF_X12_625 (A_106 hw) q4307 ?_
                              refine sv_aload_n (pc := 364) dX12_message_364 rfl rfl ?_
                              refine gf_X12_89 (pc := 365) dX12_message_365 wF_X12_466 (A_106 hw) T4295 ?_
                              refine mr_iload_n (pc := 368) (z := z4291) dX12_message_368 rfl rfl ?_
                              refine la_168 (pc := 369) dX12_message_369 (A_168 hw) T4295 (rIx (n := 1000) h4333 rfl) fun z4335 q4336 h4337 => ?_
                              refine ss_166 (pc := 370) dX12_message_370 (A_166 hw) T4295 (vc_X12_message_v_26 h4298 h4299 h4329 h4334 h4310 h4333) h4337 fun μ4338 u4339 T4340 => ?_
                              refine sv_aload_n (pc := 371) dX12_message_371 rfl rfl ?_
                              refine gf_X12_87 (pc := 372) dX12_message_372 wF_X12_463 (A_106 hw) T4340 ?_
                              refine sv_aload_n (pc := 375) dX12_message_375 rfl rfl ?_
                              refine gk_X12_88 (pc := 376) dX12_message_376 wF_X12_625 (A_106 hw) (u4339.f (Or.inl (mAt.ne (A_166 hw) (A_106 hw) rfl)) q4307) ?_
                              refine sv_aload_n (pc := 379) dX12_message_379 rfl rfl ?_
                              refine gf_X12_90 (pc := 380) dX12_message_380 wF_X12_469 (A_106 hw) T4340 ?_
                              refine mr_iload_n (pc := 383) (z := z4291) dX12_message_383 rfl rfl ?_
                              refine la_169 (pc := 384) dX12_message_384 (A_169 hw) T4340 (rIx (n := 1000) h4333 rfl) fun z4341 q4342 h4343 => ?_
                              refine ss_167 (pc := 385) dX12_message_385 (A_167 hw) T4340 (vc_X12_message_v_26 h4298 h4299 h4329 h4334 h4310 h4333) h4343 fun μ4344 u4345 T4346 => ?_
                              refine sv_aload_n (pc := 386) dX12_message_386 rfl rfl ?_
                              refine sv_dup (pc := 387) dX12_message_387 rfl ?_
                              refine gk_X12_88 (pc := 388) dX12_message_388 wF_X12_625 (A_106 hw) (u4345.f (Or.inl (mAt.ne (A_167 hw) (A_106 hw) rfl)) (u4339.f (Or.inl (mAt.ne (A_166 hw) (A_106 hw) rfl)) q4307)) ?_
                              refine mr_iconst (pc := 391) (z := 1) dX12_message_391 ?_
                              refine mr_iadd (pc := 392) (x := f_g) (y := 1) dX12_message_392 ?_
                              refine pf_X12_88 (pc := 393) dX12_message_393 wF_X12_625 (A_106 hw) T4346 (vc_X12_message_v_27 h4298 h4299 h4329 h4334 h4310 h4333) fun μ4347 u4348 T4349 => ?_
                              refine mr_iinc (pc := 396) (lv' := [(3, iv (z4291 + 1)), (0, .ref 106)]) dX12_message_396 rfl (by decide) rfl ?_
                              refine sv_goto (pc := 399) (tgt := 348) dX12_message_399 (by decide) ?_
                              refine mr_lvS (lv' := [(0, .ref 106), (3, iv (z4291 + 1))]) (List.forall_mem_cons.mpr ⟨rfl, List.forall_mem_cons.mpr ⟨rfl, fun _ h => absurd h List.not_mem_nil⟩⟩) ?_
                              exact ih4309 (z4291 + 1) μ4347 (f_g + 1) f_c T4349 (mF.up (mF.up (mF.up (mF.call mF.refl F4296 rfl) (A_166 hw) u4339 rfl) (A_167 hw) u4345 rfl) (A_106 hw) u4348 rfl) u4348.1 (u4348.f (Or.inr (by decide)) (u4345.f (Or.inl (mAt.ne (A_167 hw) (A_106 hw) rfl)) (u4339.f (Or.inl (mAt.ne (A_166 hw) (A_106 hw) rfl)) q4308))) (rW (c := 0) (d := 1000) (rAdd (e := 1) (f := 1000) h4333 (rR (x := 1)) rfl) rfl) (vc_X12_message_v_28 h4298 h4299 h4329 h4334 h4310 h4333) (vc_X12_message_v_29 h4298 h4299 h4329 h4334 h4310 h4333) (JC.keepJ I4300 hw ((mF.up (mF.up (mF.up mF.refl (A_166 hw) u4339 rfl) (A_167 hw) u4345 rfl) (A_106 hw) u4348 rfl) : mF [106088, 166999, 167999] w μ4292 μ4347) rfl) (RP.keep I4301 hw ((mF.up (mF.up (mF.up mF.refl (A_166 hw) u4339 rfl) (A_167 hw) u4345 rfl) (A_106 hw) u4348 rfl) : mF [106088, 166999, 167999] w μ4292 μ4347) rfl ((mG.upO (mG.upO (mG.upO mG.refl u4339 rfl) u4345 rfl) u4348 rfl) : mG [] μ4292 μ4347) (fun _ h => absurd h List.not_mem_nil)) (EP.keep I4302 hw ((mF.up (mF.up (mF.up mF.refl (A_166 hw) u4339 rfl) (A_167 hw) u4345 rfl) (A_106 hw) u4348 rfl) : mF [106088, 166999, 167999] w μ4292 μ4347) rfl) (HP.keep I4303 hw ((mF.up (mF.up (mF.up mF.refl (A_166 hw) u4339 rfl) (A_167 hw) u4345 rfl) (A_106 hw) u4348 rfl) : mF [106088, 166999, 167999] w μ4292 μ4347) rfl ((mG.upO (mG.upO (mG.upO mG.refl u4339 rfl) u4345 rfl) u4348 rfl) : mG [] μ4292 μ4347) (fun _ h => absurd h List.not_mem_nil)) (UPg.fr I4304 hw T4349 rfl ((mF.up (mF.up (mF.up mF.refl (A_166 hw) u4339 rfl) (A_167 hw) u4345 rfl) (A_106 hw) u4348 rfl) : mF [106088, 166999, 167999] w μ4292 μ4347) rfl rfl rfl ((mG.upO (mG.upO (mG.upO mG.refl u4339 rfl) u4345 rfl) u4348 rfl) : mG [] μ4292 μ4347) (fun _ h => absurd h List.not_mem_nil)) (G1.keep I4305 hw ((mF.up (mF.up (mF.up mF.refl (A_166 hw) u4339 rfl) (A_167 hw) u4345 rfl) (A_106 hw) u4348 rfl) : mF [106088, 166999, 167999] w μ4292 μ4347) rfl rfl ((mG.upO (mG.upO (mG.upO mG.refl u4339 rfl) u4345 rfl) u4348 rfl) : mG [] μ4292 μ4347) (fun _ h => absurd h List.not_mem_nil)) (vc_X12_message_v_30 (nS h4306) h4298 h4299 h4329 h4334 h4310 h4333)
                          refine mr_lvS (lv' := [(0, .ref 106), (3, iv 0)]) (List.forall_mem_cons.mpr ⟨rfl, List.forall_mem_cons.mpr ⟨rfl, fun _ h => absurd h List.not_mem_nil⟩⟩) ?_
                          exact L4293 1002 0 μ3534 z3517 z3520 T3536 mF.refl (u3535.f (Or.inr (by decide)) (u3525.f (Or.inr (by decide)) q3518)) (u3535.f (Or.inr (by decide)) (u3525.f (Or.inr (by decide)) q3521)) (rW (c := 0) (d := 1000) (rR (x := 0)) rfl) (vc_X12_message_v_31 h3523 h3519 h3522) (vc_X12_message_v_32 h3523 h3519 h3522) (JC.keepJ I3509 hw ((mF.up (mF.up mF.refl (A_106 hw) u3525 rfl) (A_106 hw) u3535 rfl) : mF [106001, 106097] w μ3505 μ3534) rfl) (RP.keep I3510 hw ((mF.up (mF.up mF.refl (A_106 hw) u3525 rfl) (A_106 hw) u3535 rfl) : mF [106001, 106097] w μ3505 μ3534) rfl ((mG.upO (mG.upO mG.refl u3525 rfl) u3535 rfl) : mG [] μ3505 μ3534) (fun _ h => absurd h List.not_mem_nil)) (EP.keep I3511 hw ((mF.up (mF.up mF.refl (A_106 hw) u3525 rfl) (A_106 hw) u3535 rfl) : mF [106001, 106097] w μ3505 μ3534) rfl) (HP.keep I3512 hw ((mF.up (mF.up mF.refl (A_106 hw) u3525 rfl) (A_106 hw) u3535 rfl) : mF [106001, 106097] w μ3505 μ3534) rfl ((mG.upO (mG.upO mG.refl u3525 rfl) u3535 rfl) : mG [] μ3505 μ3534) (fun _ h => absurd h List.not_mem_nil)) (UPg.fr I3513 hw T3536 rfl ((mF.up (mF.up mF.refl (A_106 hw) u3525 rfl) (A_106 hw) u3535 rfl) : mF [106001, 106097] w μ3505 μ3534) rfl rfl rfl ((mG.upO (mG.upO mG.refl u3525 rfl) u3535 rfl) : mG [] μ3505 μ3534) (fun _ h => absurd h List.not_mem_nil)) (G1.keep I3514 hw ((mF.up (mF.up mF.refl (A_106 hw) u3525 rfl) (A_106 hw) u3535 rfl) : mF [106001, 106097] w μ3505 μ3534) rfl rfl ((mG.upO (mG.upO mG.refl u3525 rfl) u3535 rfl) : mG [] μ3505 μ3534) (fun _ h => absurd h List.not_mem_nil)) vc_X1_doActs_12_36
                        refine mr_icmp_eq (pc := 317) (tgt := 324) dX12_message_317 (by decide) h3529 (r32 (rR (x := (-99999999))) rfl) (fun h4350 => ?_) (fun h4350 => ?_)
                        · have h4351 : (-99999999) ≤ z3527 ∧ z3527 ≤ (-99999999) := (vc_X12_judgedAnew_21 h4350 h3529)
                          refine mr_iconst (pc := 324) (z := 0) dX12_message_324 ?_
                          exact J3533 0 (rW (c := 0) (d := 1) (rR (x := 0)) rfl)
                        refine mr_iconst (pc := 320) (z := 1) dX12_message_320 ?_
                        refine sv_goto (pc := 321) (tgt := 325) dX12_message_321 (by decide) ?_
                        exact J3533 1 (rW (c := 0) (d := 1) (rR (x := 1)) rfl)
                      refine mr_icmp_lt (pc := 146) (tgt := 159) dX12_message_146 (by decide) (r32 h3413 rfl) (r32 (rR (x := 2)) rfl) (fun h4352 => ?_) (fun h4352 => ?_)
                      · have h4353 : 0 ≤ z3411 ∧ z3411 ≤ 1 := (vc_X3_readParts_20 h4352 h3413)
                        refine sv_aload_n (pc := 159) dX12_message_159 rfl rfl ?_
                        refine mr_iconst (pc := 160) (z := 1) dX12_message_160 ?_
                        refine mr_iconst (pc := 161) (z := 0) dX12_message_161 ?_
                        refine mr_cVV (pc := 162) (c_X12_fails hw T3410 (rW (c := 0) (d := 3) (rR (x := 1)) rfl) (rW (c := (-2147483648)) (d := 2147483647) (rR (x := 0)) rfl)) (gOk _ _ _ _ _) dX12_message_162 (tX12_fails _ _ _ _ _) ⟨wV_X12_fails, wL_X12_fails⟩ wM_X12_620 (gCX12 _ _ _ _ _) rfl (A_106 hw) rfl ⟨le_t rfl, le_t rfl⟩ ⟨le_t rfl, le_t rfl⟩ rfl (le_t rfl) fun μ4354 T4355 F4356 h4357 => ?_
                        refine sv_goto (pc := 165) (tgt := 303) dX12_message_165 (by decide) ?_
                        refine mr_lvS (lv' := [(0, .ref 106)]) (List.forall_mem_cons.mpr ⟨rfl, fun _ h => absurd h List.not_mem_nil⟩) ?_
                        exact J3516 μ4354 T4355 (mF.call mF.refl F4356 rfl) (mG.fr mG.refl F4356 (A_126 hw) rfl) (JC.keepJ I3393 hw ((mF.call (mF.up mF.refl (A_106 hw) u3409 rfl) F4356 rfl) : mF [106096, 172999] w μ3387 μ4354) rfl) (RP.keep I3394 hw ((mF.call (mF.up mF.refl (A_106 hw) u3409 rfl) F4356 rfl) : mF [106096, 172999] w μ3387 μ4354) rfl ((mG.fr (mG.upO mG.refl u3409 rfl) F4356 (A_126 hw) rfl) : mG [] μ3387 μ4354) (fun _ h => absurd h List.not_mem_nil)) (EP.keep I3395 hw ((mF.call (mF.up mF.refl (A_106 hw) u3409 rfl) F4356 rfl) : mF [106096, 172999] w μ3387 μ4354) rfl) (HP.keep I3396 hw ((mF.call (mF.up mF.refl (A_106 hw) u3409 rfl) F4356 rfl) : mF [106096, 172999] w μ3387 μ4354) rfl ((mG.fr (mG.upO mG.refl u3409 rfl) F4356 (A_126 hw) rfl) : mG [] μ3387 μ4354) (fun _ h => absurd h List.not_mem_nil)) (UPg.fr I3397 hw T4355 rfl ((mF.call (mF.up mF.refl (A_106 hw) u3409 rfl) F4356 rfl) : mF [106096, 172999] w μ3387 μ4354) rfl rfl rfl ((mG.fr (mG.upO mG.refl u3409 rfl) F4356 (A_126 hw) rfl) : mG [] μ3387 μ4354) (fun _ h => absurd h List.not_mem_nil)) (G1.keep I3398 hw ((mF.call (mF.up mF.refl (A_106 hw) u3409 rfl) F4356 rfl) : mF [106096, 172999] w μ3387 μ4354) rfl rfl ((mG.fr (mG.upO mG.refl u3409 rfl) F4356 (A_126 hw) rfl) : mG [] μ3387 μ4354) (fun _ h => absurd h List.not_mem_nil)) (by rw [(F4356.f (A_106 hw) rfl (u3409.f (Or.inr (by decide)) (F3391.f (A_106 hw) rfl (u2937.f (Or.inl (mAt.ne (A_126 hw) (A_106 hw) rfl)) (u2930.f (Or.inl (mAt.ne (A_126 hw) (A_106 hw) rfl)) (u2927.f (Or.inr (by decide)) (u2924.f (Or.inr (by decide)) (u2921.f (Or.inr (by decide)) (u2918.f (Or.inr (by decide)) (u2915.f (Or.inr (by decide)) u2912.1)))))))))), (F4356.f (A_106 hw) rfl (u3409.f (Or.inr (by decide)) (F3391.f (A_106 hw) rfl (u2937.f (Or.inl (mAt.ne (A_126 hw) (A_106 hw) rfl)) (u2930.f (Or.inl (mAt.ne (A_126 hw) (A_106 hw) rfl)) (u2927.f (Or.inr (by decide)) (u2924.f (Or.inr (by decide)) (u2921.f (Or.inr (by decide)) (u2918.f (Or.inr (by decide)) u2915.1)))))))))]; exact vc_X12_message_v_35)
                      have h4358 : 2 ≤ z3411 ∧ z3411 ≤ 1000 := (vc_X3_readParts_21 h4352 h3413)
                      refine mr_iconst (pc := 149) (z := 2) dX12_message_149 ?_
                      refine mr_iload_n (pc := 150) (z := z3421) dX12_message_150 rfl rfl ?_
                      refine mr_iadd (pc := 151) (x := 2) (y := z3421) dX12_message_151 ?_
                      refine sv_aload_n (pc := 152) dX12_message_152 rfl rfl ?_
                      refine gk_X12_1 (pc := 153) dX12_message_153 wF_X12_1 (A_106 hw) q3412 ?_
                      refine mr_icmp_le (pc := 156) (tgt := 168) dX12_message_156 (by decide) (r32 (rAdd (e := 2) (f := 65537) (rR (x := 2)) h3422 rfl) rfl) (r32 h4358 rfl) (fun h4359 => ?_) (fun h4359 => ?_)
                      · have h4360 : 0 ≤ z3421 ∧ z3421 ≤ 998 := (vc_X12_message_v_37 h4359 h4352 h4358 h3422)
                        refine sv_aload_n (pc := 168) dX12_message_168 rfl rfl ?_
                        refine mr_iconst (pc := 169) (z := 2) dX12_message_169 ?_
                        refine mr_iconst (pc := 170) (z := 2) dX12_message_170 ?_
                        refine mr_iload_n (pc := 171) (z := z3421) dX12_message_171 rfl rfl ?_
                        refine mr_iadd (pc := 172) (x := 2) (y := z3421) dX12_message_172 ?_
                        refine mr_iconst (pc := 173) (z := 1) dX12_message_173 ?_
                        refine mr_cVI (pc := 174) (c_X12_partOf hw T3410 (rW (c := 0) (d := 1000) (rR (x := 2)) rfl) (rW (c := 0) (d := 1000) (rAdd (e := 2) (f := 1000) (rR (x := 2)) h4360 rfl) rfl) (rW (c := 0) (d := 1) (rR (x := 1)) rfl) q3412 (u3409.f (Or.inr (by decide)) (F3391.f (A_106 hw) rfl (u2937.f (Or.inl (mAt.ne (A_126 hw) (A_106 hw) rfl)) (u2930.f (Or.inl (mAt.ne (A_126 hw) (A_106 hw) rfl)) (u2927.f (Or.inr (by decide)) (u2924.f (Or.inr (by decide)) (u2921.f (Or.inr (by decide)) (u2918.f (Or.inr (by decide)) (u2915.f (Or.inr (by decide)) u2912.1))))))))) (u3409.f (Or.inr (by decide)) (F3391.f (A_106 hw) rfl (u2937.f (Or.inl (mAt.ne (A_126 hw) (A_106 hw) rfl)) (u2930.f (Or.inl (mAt.ne (A_126 hw) (A_106 hw) rfl)) (u2927.f (Or.inr (by decide)) (u2924.f (Or.inr (by decide)) (u2921.f (Or.inr (by decide)) (u2918.f (Or.inr (by decide)) u2915.1)))))))) (vc_X12_message_v_38 h4359 h4352 h4358 h4360) (vc_X12_message_v_39 h4352 h4359 h4358 h4360) (vc_X12_message_v_40 h4359 h4352 h4358 h4360)) (gOk _ _ _ _ _) dX12_message_174 (tX12_partOf _ _ _ _ _) ⟨wV_X12_partOf, wL_X12_partOf⟩ wM_X12_658 (gCX12 _ _ _ _ _) rfl (A_106 hw) rfl ⟨le_t rfl, le_t rfl⟩ ⟨le_t rfl, le_t rfl⟩ rfl (le_t rfl) fun z4365 μ4361 T4362 F4363 h4364 => ?_
                        obtain ⟨z4366, z4368, q4367, q4369, h4370⟩ := h4364
                        have h4371 : (0 ≤ z4366 ∧ z4366 ≤ 1000) := by rw [← q4367]; exact T4362 106 106 (A_106 hw) 88
                        have h4372 : (0 ≤ z4368 ∧ z4368 ≤ 1000) := by rw [← q4369]; exact T4362 106 106 (A_106 hw) 91
                        refine sv_pop (pc := 177) dX12_message_177 rfl ?_
                        refine mr_iconst (pc := 178) (z := 2) dX12_message_178 ?_
                        refine mr_iload_n (pc := 179) (z := z3421) dX12_message_179 rfl rfl ?_
                        refine mr_iadd (pc := 180) (x := 2) (y := z3421) dX12_message_180 ?_
                        refine mr_istore_n (pc := 181) (lv' := [(3, iv (2 + z3421)), (2, iv z3421), (0, .ref 106)]) dX12_message_181 rfl (by decide) rfl ?_
                        refine mr_iload_n (pc := 182) (z := (2 + z3421)) dX12_message_182 rfl rfl ?_
                        refine mr_iconst (pc := 183) (z := 2) dX12_message_183 ?_
                        refine mr_iadd (pc := 184) (x := (2 + z3421)) (y := 2) dX12_message_184 ?_
                        refine sv_aload_n (pc := 185) dX12_message_185 rfl rfl ?_
                        refine gk_X12_1 (pc := 186) dX12_message_186 wF_X12_1 (A_106 hw) (F4363.f (A_106 hw) rfl q3412) ?_
                        have J4382 : ∀ (z4380 : Int), ((0 ≤ z4380 ∧ z4380 ≤ 65535)) → sV (gG l D c H0 sa) mX12_message (sRm 5 0 0) (sZ (gG l D c H0 sa) 0 0 (qI w [106001, 106088, 106091, 106093, 106096, 106097, 106098, 106099, 106101, 106102, 126999, 166999, 167999, 168999, 169999, 170999, 171999, 172999, 173999] μ (fun z μ1 => ∃ o_q : Int, μ1 106 1 = o_q ∧ ((-2147483648) ≤ z ∧ z ≤ 2147483647) ∧ mG [(960, 1000)] μ μ1 ∧ JC l D c H0 sa μ1 ∧ RP μ1 ∧ EP μ1 ∧ HP μ1 ∧ UP l D c H0 sa μ1 ∧ G1 μ1 ∧ (o_q = 0) ∧ True))) 202 [(0, .ref 106), (3, iv (2 + z3421))] [iv z4380] (mk w μ4361) 0 0 := by
                          intro z4380 h4381
                          refine mr_istore (pc := 202) (lv' := [(4, iv z4380), (0, .ref 106), (3, iv (2 + z3421))]) dX12_message_202 (by decide) rfl ?_
                          refine mr_iload_n (pc := 204) (z := (2 + z3421)) dX12_message_204 rfl rfl ?_
                          refine mr_iconst (pc := 205) (z := 2) dX12_message_205 ?_
                          refine mr_iadd (pc := 206) (x := (2 + z3421)) (y := 2) dX12_message_206 ?_
                          refine sv_aload_n (pc := 207) dX12_message_207 rfl rfl ?_
                          refine gk_X12_1 (pc := 208) dX12_message_208 wF_X12_1 (A_106 hw) (F4363.f (A_106 hw) rfl q3412) ?_
                          refine mr_icmp_gt (pc := 211) (tgt := 227) dX12_message_211 (by decide) (r32 (rAdd (e := 4) (f := 1002) (rAdd (e := 2) (f := 1000) (rR (x := 2)) h4360 rfl) (rR (x := 2)) rfl) rfl) (r32 h4358 rfl) (fun h4383 => ?_) (fun h4383 => ?_)
                          · refine sv_aload_n (pc := 227) dX12_message_227 rfl rfl ?_
                            refine mr_iconst (pc := 228) (z := 1) dX12_message_228 ?_
                            refine mr_iload_n (pc := 229) (z := (2 + z3421)) dX12_message_229 rfl rfl ?_
                            refine mr_cVV (pc := 230) (c_X12_fails hw T4362 (rW (c := 0) (d := 3) (rR (x := 1)) rfl) (rW (c := (-2147483648)) (d := 2147483647) (rAdd (e := 2) (f := 1000) (rR (x := 2)) h4360 rfl) rfl)) (gOk _ _ _ _ _) dX12_message_230 (tX12_fails _ _ _ _ _) ⟨wV_X12_fails, wL_X12_fails⟩ wM_X12_620 (gCX12 _ _ _ _ _) rfl (A_106 hw) rfl ⟨le_t rfl, le_t rfl⟩ ⟨le_t rfl, le_t rfl⟩ rfl (le_t rfl) fun μ4384 T4385 F4386 h4387 => ?_
                            refine sv_goto (pc := 233) (tgt := 303) dX12_message_233 (by decide) ?_
                            refine mr_lvS (lv' := [(0, .ref 106)]) (List.forall_mem_cons.mpr ⟨rfl, fun _ h => absurd h List.not_mem_nil⟩) ?_
                            exact J3516 μ4384 T4385 (mF.call (mF.call mF.refl F4363 rfl) F4386 rfl) (mG.fr (mG.fr mG.refl F4363 (A_126 hw) rfl) F4386 (A_126 hw) rfl) (JC.keepJ I3393 hw ((mF.call (mF.call (mF.up mF.refl (A_106 hw) u3409 rfl) F4363 rfl) F4386 rfl) : mF [106088, 106091, 106096, 166999, 167999, 168999, 169999, 172999] w μ3387 μ4384) rfl) (RP.keep I3394 hw ((mF.call (mF.call (mF.up mF.refl (A_106 hw) u3409 rfl) F4363 rfl) F4386 rfl) : mF [106088, 106091, 106096, 166999, 167999, 168999, 169999, 172999] w μ3387 μ4384) rfl ((mG.fr (mG.fr (mG.upO mG.refl u3409 rfl) F4363 (A_126 hw) rfl) F4386 (A_126 hw) rfl) : mG [] μ3387 μ4384) (fun _ h => absurd h List.not_mem_nil)) (EP.keep I3395 hw ((mF.call (mF.call (mF.up mF.refl (A_106 hw) u3409 rfl) F4363 rfl) F4386 rfl) : mF [106088, 106091, 106096, 166999, 167999, 168999, 169999, 172999] w μ3387 μ4384) rfl) (HP.keep I3396 hw ((mF.call (mF.call (mF.up mF.refl (A_106 hw) u3409 rfl) F4363 rfl) F4386 rfl) : mF [106088, 106091, 106096, 166999, 167999, 168999, 169999, 172999] w μ3387 μ4384) rfl ((mG.fr (mG.fr (mG.upO mG.refl u3409 rfl) F4363 (A_126 hw) rfl) F4386 (A_126 hw) rfl) : mG [] μ3387 μ4384) (fun _ h => absurd h List.not_mem_nil)) (UPg.fr I3397 hw T4385 rfl ((mF.call (mF.call (mF.up mF.refl (A_106 hw) u3409 rfl) F4363 rfl) F4386 rfl) : mF [106088, 106091, 106096, 166999, 167999, 168999, 169999, 172999] w μ3387 μ4384) rfl rfl rfl ((mG.fr (mG.fr (mG.upO mG.refl u3409 rfl) F4363 (A_126 hw) rfl) F4386 (A_126 hw) rfl) : mG [] μ3387 μ4384) (fun _ h => absurd h List.not_mem_nil)) (G1.keep I3398 hw ((mF.call (mF.call (mF.up mF.refl (A_106 hw) u3409 rfl) F4363 rfl) F4386 rfl) : mF [106088, 106091, 106096, 166999, 167999, 168999, 169999, 172999] w μ3387 μ4384) rfl rfl ((mG.fr (mG.fr (mG.upO mG.refl u3409 rfl) F4363 (A_126 hw) rfl) F4386 (A_126 hw) rfl) : mG [] μ3387 μ4384) (fun _ h => absurd h List.not_mem_nil)) (by rw [(F4386.f (A_106 hw) rfl q4367), (F4386.f (A_106 hw) rfl q4369)]; exact (vc_X12_message_v_41 h4370.2.1 h4359 h4383 h4358 h4360 h4371 h4372))
                          have h4388 : 0 ≤ z3421 ∧ z3421 ≤ 996 := (vc_X12_message_v_42 h4383 h4352 h4359 h4370.2.1 h4358 h4360 h4371 h4372)
                          have h4389 : 4 ≤ z3411 ∧ z3411 ≤ 1000 := (vc_X12_message_v_43 h4383 h4352 h4359 h4370.2.1 h4358 h4388 h4371 h4372)
                          refine mr_iload_n (pc := 214) (z := (2 + z3421)) dX12_message_214 rfl rfl ?_
                          refine mr_iconst (pc := 215) (z := 2) dX12_message_215 ?_
                          refine mr_iadd (pc := 216) (x := (2 + z3421)) (y := 2) dX12_message_216 ?_
                          refine mr_iload (pc := 217) (z := z4380) dX12_message_217 rfl ?_
                          refine mr_iadd (pc := 219) (x := ((2 + z3421) + 2)) (y := z4380) dX12_message_219 ?_
                          refine sv_aload_n (pc := 220) dX12_message_220 rfl rfl ?_
                          refine gk_X12_1 (pc := 221) dX12_message_221 wF_X12_1 (A_106 hw) (F4363.f (A_106 hw) rfl q3412) ?_
                          refine mr_icmp_le (pc := 224) (tgt := 236) dX12_message_224 (by decide) (r32 (rAdd (e := 4) (f := 66535) (rAdd (e := 4) (f := 1000) (rAdd (e := 2) (f := 998) (rR (x := 2)) h4388 rfl) (rR (x := 2)) rfl) h4381 rfl) rfl) (r32 h4389 rfl) (fun h4390 => ?_) (fun h4390 => ?_)
                          · have h4391 : 0 ≤ z4380 ∧ z4380 ≤ 996 := (vc_X12_message_v_44 h4390 h4352 h4359 h4370.2.1 h4383 h4389 h4388 h4371 h4372 h4381)
                            refine sv_aload_n (pc := 236) dX12_message_236 rfl rfl ?_
                            refine mr_iload_n (pc := 237) (z := (2 + z3421)) dX12_message_237 rfl rfl ?_
                            refine mr_iconst (pc := 238) (z := 2) dX12_message_238 ?_
                            refine mr_iadd (pc := 239) (x := (2 + z3421)) (y := 2) dX12_message_239 ?_
                            refine mr_iload_n (pc := 240) (z := (2 + z3421)) dX12_message_240 rfl rfl ?_
                            refine mr_iconst (pc := 241) (z := 2) dX12_message_241 ?_
                            refine mr_iadd (pc := 242) (x := (2 + z3421)) (y := 2) dX12_message_242 ?_
                            refine mr_iload (pc := 243) (z := z4380) dX12_message_243 rfl ?_
                            refine mr_iadd (pc := 245) (x := ((2 + z3421) + 2)) (y := z4380) dX12_message_245 ?_
                            refine mr_cVV (pc := 246) (c_X12_attributes_u hw T4362 (rW (c := 0) (d := 1002) (rAdd (e := 4) (f := 1000) (rAdd (e := 2) (f := 998) (rR (x := 2)) h4388 rfl) (rR (x := 2)) rfl) rfl) (vc_X12_message_v_45 h4359 h4370.2.1 h4383 h4390 h4352 h4389 h4388 h4371 h4372 h4391) (F4363.f (A_106 hw) rfl q3412) (F4363.f (A_106 hw) rfl (u3409.f (Or.inr (by decide)) (F3391.f (A_106 hw) rfl (u2937.f (Or.inl (mAt.ne (A_126 hw) (A_106 hw) rfl)) (u2930.f (Or.inl (mAt.ne (A_126 hw) (A_106 hw) rfl)) (u2927.f (Or.inr (by decide)) (u2924.f (Or.inr (by decide)) (u2921.f (Or.inr (by decide)) u2918.1)))))))) (vc_X12_message_v_46 h4352 h4359 h4370.2.1 h4383 h4390 h4389 h4388 h4371 h4372 h4391) (vc_X12_message_v_47 h4359 h4370.2.1 h4383 h4390 h4352 h4389 h4388 h4371 h4372 h4391)) (gOk _ _ _ _ _) dX12_message_246 (tX12_attributes _ _ _ _ _) ⟨wV_X12_attributes, wL_X12_attributes⟩ wM_X12_662 (gCX12 _ _ _ _ _) rfl (A_106 hw) rfl ⟨le_t rfl, le_t rfl⟩ ⟨le_t rfl, le_t rfl⟩ rfl (le_t rfl) fun μ4392 T4393 F4394 h4395 => ?_
                            refine sv_aload_n (pc := 249) dX12_message_249 rfl rfl ?_
                            refine mr_iload_n (pc := 250) (z := (2 + z3421)) dX12_message_250 rfl rfl ?_
                            refine mr_iconst (pc := 251) (z := 2) dX12_message_251 ?_
                            refine mr_iadd (pc := 252) (x := (2 + z3421)) (y := 2) dX12_message_252 ?_
                            refine mr_iload (pc := 253) (z := z4380) dX12_message_253 rfl ?_
                            refine mr_iadd (pc := 255) (x := ((2 + z3421) + 2)) (y := z4380) dX12_message_255 ?_
                            refine sv_aload_n (pc := 256) dX12_message_256 rfl rfl ?_
                            refine gk_X12_1 (pc := 257) dX12_message_257 wF_X12_1 (A_106 hw) (F4394.f (A_106 hw) rfl (F4363.f (A_106 hw) rfl q3412)) ?_
                            refine mr_iconst (pc := 260) (z := 0) dX12_message_260 ?_
                            refine mr_cVI (pc := 261) (c_X12_partOf hw T4393 (vc_X12_message_v_45 h4359 h4370.2.1 h4383 h4390 h4352 h4389 h4388 h4371 h4372 h4391) (rW (c := 0) (d := 1000) h4389 rfl) (rW (c := 0) (d := 1) (rR (x := 0)) rfl) (F4394.f (A_106 hw) rfl (F4363.f (A_106 hw) rfl q3412)) (F4394.f (A_106 hw) rfl q4367) (F4394.f (A_106 hw) rfl q4369) (vc_X12_message_v_46 h4352 h4359 h4370.2.1 h4383 h4390 h4389 h4388 h4371 h4372 h4391) (vc_X12_message_v_48 h4352 h4359 h4383 h4390 h4370.2.1 h4389 h4388 h4371 h4372 h4391) (vc_X12_message_v_49 h4352 h4359 h4370.2.1 h4383 h4390 h4389 h4388 h4371 h4372 h4391)) (gOk _ _ _ _ _) dX12_message_261 (tX12_partOf _ _ _ _ _) ⟨wV_X12_partOf, wL_X12_partOf⟩ wM_X12_658 (gCX12 _ _ _ _ _) rfl (A_106 hw) rfl ⟨le_t rfl, le_t rfl⟩ ⟨le_t rfl, le_t rfl⟩ rfl (le_t rfl) fun z4400 μ4396 T4397 F4398 h4399 => ?_
                            obtain ⟨z4401, z4403, q4402, q4404, h4405⟩ := h4399
                            have h4406 : (0 ≤ z4401 ∧ z4401 ≤ 1000) := by rw [← q4402]; exact T4397 106 106 (A_106 hw) 88
                            have h4407 : (0 ≤ z4403 ∧ z4403 ≤ 1000) := by rw [← q4404]; exact T4397 106 106 (A_106 hw) 91
                            refine sv_pop (pc := 264) dX12_message_264 rfl ?_
                            refine sv_aload_n (pc := 265) dX12_message_265 rfl rfl ?_
                            refine gk_X12_1 (pc := 266) dX12_message_266 wF_X12_1 (A_106 hw) (F4398.f (A_106 hw) rfl (F4394.f (A_106 hw) rfl (F4363.f (A_106 hw) rfl q3412))) ?_
                            refine mr_iload_n (pc := 269) (z := (2 + z3421)) dX12_message_269 rfl rfl ?_
                            refine mr_iconst (pc := 270) (z := 2) dX12_message_270 ?_
                            refine mr_iadd (pc := 271) (x := (2 + z3421)) (y := 2) dX12_message_271 ?_
                            refine mr_iload (pc := 272) (z := z4380) dX12_message_272 rfl ?_
                            refine mr_iadd (pc := 274) (x := ((2 + z3421) + 2)) (y := z4380) dX12_message_274 ?_
                            refine mr_icmp_le (pc := 275) (tgt := 303) dX12_message_275 (by decide) (r32 h4389 rfl) (r32 (rAdd (e := 4) (f := 1996) (rAdd (e := 4) (f := 1000) (rAdd (e := 2) (f := 998) (rR (x := 2)) h4388 rfl) (rR (x := 2)) rfl) h4391 rfl) rfl) (fun h4408 => ?_) (fun h4408 => ?_)
                            · refine mr_lvS (lv' := [(0, .ref 106)]) (List.forall_mem_cons.mpr ⟨rfl, fun _ h => absurd h List.not_mem_nil⟩) ?_
                              exact J3516 μ4396 T4397 (mF.call (mF.call (mF.call mF.refl F4363 rfl) F4394 rfl) F4398 rfl) (mG.fr (mG.call (mG.fr mG.refl F4363 (A_126 hw) rfl) h4395.1 (List.forall_mem_cons.mpr ⟨⟨_, List.mem_cons_self, vc_X12_message_v_50⟩, (fun _ h => absurd h List.not_mem_nil)⟩)) F4398 (A_126 hw) rfl) (JC.keepJ I3393 hw ((mF.call (mF.call (mF.call (mF.up mF.refl (A_106 hw) u3409 rfl) F4363 rfl) F4394 rfl) F4398 rfl) : mF [106088, 106091, 106093, 106096, 106098, 106099, 106101, 126999, 166999, 167999, 168999, 169999, 170999, 171999, 172999, 173999] w μ3387 μ4396) rfl) (RP.keep I3394 hw ((mF.call (mF.call (mF.call (mF.up mF.refl (A_106 hw) u3409 rfl) F4363 rfl) F4394 rfl) F4398 rfl) : mF [106088, 106091, 106093, 106096, 106098, 106099, 106101, 126999, 166999, 167999, 168999, 169999, 170999, 171999, 172999, 173999] w μ3387 μ4396) rfl ((mG.fr (mG.call (mG.fr (mG.upO mG.refl u3409 rfl) F4363 (A_126 hw) rfl) h4395.1 (List.forall_mem_cons.mpr ⟨⟨_, List.mem_cons_self, vc_X12_marksRight_f_4⟩, (fun _ h => absurd h List.not_mem_nil)⟩)) F4398 (A_126 hw) rfl) : mG [(961, 1000)] μ3387 μ4396) (List.forall_mem_cons.mpr ⟨vc_X12_message_v_52, (fun _ h => absurd h List.not_mem_nil)⟩)) (EP.keep I3395 hw ((mF.call (mF.call (mF.call (mF.up mF.refl (A_106 hw) u3409 rfl) F4363 rfl) F4394 rfl) F4398 rfl) : mF [106088, 106091, 106093, 106096, 106098, 106099, 106101, 126999, 166999, 167999, 168999, 169999, 170999, 171999, 172999, 173999] w μ3387 μ4396) rfl) (HP.keep I3396 hw ((mF.call (mF.call (mF.call (mF.up mF.refl (A_106 hw) u3409 rfl) F4363 rfl) F4394 rfl) F4398 rfl) : mF [106088, 106091, 106093, 106096, 106098, 106099, 106101, 126999, 166999, 167999, 168999, 169999, 170999, 171999, 172999, 173999] w μ3387 μ4396) rfl ((mG.fr (mG.call (mG.fr (mG.upO mG.refl u3409 rfl) F4363 (A_126 hw) rfl) h4395.1 (List.forall_mem_cons.mpr ⟨⟨_, List.mem_cons_self, vc_X12_marksRight_f_4⟩, (fun _ h => absurd h List.not_mem_nil)⟩)) F4398 (A_126 hw) rfl) : mG [(961, 1000)] μ3387 μ4396) (List.forall_mem_cons.mpr ⟨vc_X12_message_v_53, (fun _ h => absurd h List.not_mem_nil)⟩)) (UPg.fr I3397 hw T4397 rfl ((mF.call (mF.call (mF.call (mF.up mF.refl (A_106 hw) u3409 rfl) F4363 rfl) F4394 rfl) F4398 rfl) : mF [106088, 106091, 106093, 106096, 106098, 106099, 106101, 126999, 166999, 167999, 168999, 169999, 170999, 171999, 172999, 173999] w μ3387 μ4396) rfl rfl rfl ((mG.fr (mG.call (mG.fr (mG.upO mG.refl u3409 rfl) F4363 (A_126 hw) rfl) h4395.1 (List.forall_mem_cons.mpr ⟨⟨_, List.mem_cons_self, vc_X12_marksRight_f_4⟩, (fun _ h => absurd h List.not_mem_nil)⟩)) F4398 (A_126 hw) rfl) : mG [(961, 1000)] μ3387 μ4396) (List.forall_mem_cons.mpr ⟨vc_X12_message_v_53, (fun _ h => absurd h List.not_mem_nil)⟩)) (G1.keep I3398 hw ((mF.call (mF.call (mF.call (mF.up mF.refl (A_106 hw) u3409 rfl) F4363 rfl) F4394 rfl) F4398 rfl) : mF [106088, 106091, 106093, 106096, 106098, 106099, 106101, 126999, 166999, 167999, 168999, 169999, 170999, 171999, 172999, 173999] w μ3387 μ4396) rfl rfl ((mG.fr (mG.call (mG.fr (mG.upO mG.refl u3409 rfl) F4363 (A_126 hw) rfl) h4395.1 (List.forall_mem_cons.mpr ⟨⟨_, List.mem_cons_self, vc_X12_marksRight_f_4⟩, (fun _ h => absurd h List.not_mem_nil)⟩)) F4398 (A_126 hw) rfl) : mG [(961, 1000)] μ3387 μ4396) (List.forall_mem_cons.mpr ⟨vc_X12_message_v_54, (fun _ h => absurd h List.not_mem_nil)⟩)) (by rw [q4402, q4404]; exact (vc_X12_message_v_55 h4405.2.1 h4352 h4359 h4370.2.1 h4383 h4390 h4408 h4389 h4388 h4371 h4372 h4391 h4406 h4407))
                            have h4409 : 5 ≤ z3411 ∧ z3411 ≤ 1000 := (vc_X12_message_v_56 h4408 h4352 h4359 h4370.2.1 h4383 h4390 h4405.2.1 h4389 h4388 h4371 h4372 h4391 h4406 h4407)
                            have h4410 : 0 ≤ z3421 ∧ z3421 ≤ 995 := (vc_X12_message_v_57 h4408 h4352 h4359 h4370.2.1 h4383 h4390 h4405.2.1 h4409 h4388 h4371 h4372 h4391 h4406 h4407)
                            have h4411 : 0 ≤ z4380 ∧ z4380 ≤ 995 := (vc_X12_message_v_58 h4408 h4352 h4359 h4370.2.1 h4383 h4390 h4405.2.1 h4409 h4410 h4371 h4372 h4391 h4406 h4407)
                            refine sv_aload_n (pc := 278) dX12_message_278 rfl rfl ?_
                            refine gf_X12_98 (pc := 279) dX12_message_279 wF_X12_631 (A_106 hw) T4397 fun z4412 q4413 h4414 => ?_
                            refine mr_if_eq (pc := 282) (tgt := 292) dX12_message_282 (by decide) (r32 h4414 rfl) (fun h4415 => ?_) (fun h4415 => ?_)
                            · have h4416 : 0 ≤ z4412 ∧ z4412 ≤ 0 := (vc_X12_ring_22 h4415 h4414)
                              refine sv_aload_n (pc := 292) dX12_message_292 rfl rfl ?_
                              refine mr_iconst (pc := 293) (z := 2) dX12_message_293 ?_
                              refine mr_iload_n (pc := 294) (z := (2 + z3421)) dX12_message_294 rfl rfl ?_
                              refine mr_iconst (pc := 295) (z := 2) dX12_message_295 ?_
                              refine mr_iadd (pc := 296) (x := (2 + z3421)) (y := 2) dX12_message_296 ?_
                              refine mr_iload (pc := 297) (z := z4380) dX12_message_297 rfl ?_
                              refine mr_iadd (pc := 299) (x := ((2 + z3421) + 2)) (y := z4380) dX12_message_299 ?_
                              refine mr_cVV (pc := 300) (c_X12_fails hw T4397 (rW (c := 0) (d := 3) (rR (x := 2)) rfl) (rW (c := (-2147483648)) (d := 2147483647) (rAdd (e := 4) (f := 1994) (rAdd (e := 4) (f := 999) (rAdd (e := 2) (f := 997) (rR (x := 2)) h4410 rfl) (rR (x := 2)) rfl) h4411 rfl) rfl)) (gOk _ _ _ _ _) dX12_message_300 (tX12_fails _ _ _ _ _) ⟨wV_X12_fails, wL_X12_fails⟩ wM_X12_620 (gCX12 _ _ _ _ _) rfl (A_106 hw) rfl ⟨le_t rfl, le_t rfl⟩ ⟨le_t rfl, le_t rfl⟩ rfl (le_t rfl) fun μ4417 T4418 F4419 h4420 => ?_
                              refine mr_lvS (lv' := [(0, .ref 106)]) (List.forall_mem_cons.mpr ⟨rfl, fun _ h => absurd h List.not_mem_nil⟩) ?_
                              exact J3516 μ4417 T4418 (mF.call (mF.call (mF.call (mF.call mF.refl F4363 rfl) F4394 rfl) F4398 rfl) F4419 rfl) (mG.fr (mG.fr (mG.call (mG.fr mG.refl F4363 (A_126 hw) rfl) h4395.1 (List.forall_mem_cons.mpr ⟨⟨_, List.mem_cons_self, vc_X12_message_v_50⟩, (fun _ h => absurd h List.not_mem_nil)⟩)) F4398 (A_126 hw) rfl) F4419 (A_126 hw) rfl) (JC.keepJ I3393 hw ((mF.call (mF.call (mF.call (mF.call (mF.up mF.refl (A_106 hw) u3409 rfl) F4363 rfl) F4394 rfl) F4398 rfl) F4419 rfl) : mF [106088, 106091, 106093, 106096, 106098, 106099, 106101, 126999, 166999, 167999, 168999, 169999, 170999, 171999, 172999, 173999] w μ3387 μ4417) rfl) (RP.keep I3394 hw ((mF.call (mF.call (mF.call (mF.call (mF.up mF.refl (A_106 hw) u3409 rfl) F4363 rfl) F4394 rfl) F4398 rfl) F4419 rfl) : mF [106088, 106091, 106093, 106096, 106098, 106099, 106101, 126999, 166999, 167999, 168999, 169999, 170999, 171999, 172999, 173999] w μ3387 μ4417) rfl ((mG.fr (mG.fr (mG.call (mG.fr (mG.upO mG.refl u3409 rfl) F4363 (A_126 hw) rfl) h4395.1 (List.forall_mem_cons.mpr ⟨⟨_, List.mem_cons_self, vc_X12_marksRight_f_4⟩, (fun _ h => absurd h List.not_mem_nil)⟩)) F4398 (A_126 hw) rfl) F4419 (A_126 hw) rfl) : mG [(961, 1000)] μ3387 μ4417) (List.forall_mem_cons.mpr ⟨vc_X12_message_v_52, (fun _ h => absurd h List.not_mem_nil)⟩)) (EP.keep I3395 hw ((mF.call (mF.call (mF.call (mF.call (mF.up mF.refl (A_106 hw) u3409 rfl) F4363 rfl) F4394 rfl) F4398 rfl) F4419 rfl) : mF [106088, 106091, 106093, 106096, 106098, 106099, 106101, 126999, 166999, 167999, 168999, 169999, 170999, 171999, 172999, 173999] w μ3387 μ4417) rfl) (HP.keep I3396 hw ((mF.call (mF.call (mF.call (mF.call (mF.up mF.refl (A_106 hw) u3409 rfl) F4363 rfl) F4394 rfl) F4398 rfl) F4419 rfl) : mF [106088, 106091, 106093, 106096, 106098, 106099, 106101, 126999, 166999, 167999, 168999, 169999, 170999, 171999, 172999, 173999] w μ3387 μ4417) rfl ((mG.fr (mG.fr (mG.call (mG.fr (mG.upO mG.refl u3409 rfl) F4363 (A_126 hw) rfl) h4395.1 (List.forall_mem_cons.mpr ⟨⟨_, List.mem_cons_self, vc_X12_marksRight_f_4⟩, (fun _ h => absurd h List.not_mem_nil)⟩)) F4398 (A_126 hw) rfl) F4419 (A_126 hw) rfl) : mG [(961, 1000)] μ3387 μ4417) (List.forall_mem_cons.mpr ⟨vc_X12_message_v_53, (fun _ h => absurd h List.not_mem_nil)⟩)) (UPg.fr I3397 hw T4418 rfl ((mF.call (mF.call (mF.call (mF.call (mF.up mF.refl (A_106 hw) u3409 rfl) F4363 rfl) F4394 rfl) F4398 rfl) F4419 rfl) : mF [106088, 106091, 106093, 106096, 106098, 106099, 106101, 126999, 166999, 167999, 168999, 169999, 170999, 171999, 172999, 173999] w μ3387 μ4417) rfl rfl rfl ((mG.fr (mG.fr (mG.call (mG.fr (mG.upO mG.refl u3409 rfl) F4363 (A_126 hw) rfl) h4395.1 (List.forall_mem_cons.mpr ⟨⟨_, List.mem_cons_self, vc_X12_marksRight_f_4⟩, (fun _ h => absurd h List.not_mem_nil)⟩)) F4398 (A_126 hw) rfl) F4419 (A_126 hw) rfl) : mG [(961, 1000)] μ3387 μ4417) (List.forall_mem_cons.mpr ⟨vc_X12_message_v_53, (fun _ h => absurd h List.not_mem_nil)⟩)) (G1.keep I3398 hw ((mF.call (mF.call (mF.call (mF.call (mF.up mF.refl (A_106 hw) u3409 rfl) F4363 rfl) F4394 rfl) F4398 rfl) F4419 rfl) : mF [106088, 106091, 106093, 106096, 106098, 106099, 106101, 126999, 166999, 167999, 168999, 169999, 170999, 171999, 172999, 173999] w μ3387 μ4417) rfl rfl ((mG.fr (mG.fr (mG.call (mG.fr (mG.upO mG.refl u3409 rfl) F4363 (A_126 hw) rfl) h4395.1 (List.forall_mem_cons.mpr ⟨⟨_, List.mem_cons_self, vc_X12_marksRight_f_4⟩, (fun _ h => absurd h List.not_mem_nil)⟩)) F4398 (A_126 hw) rfl) F4419 (A_126 hw) rfl) : mG [(961, 1000)] μ3387 μ4417) (List.forall_mem_cons.mpr ⟨vc_X12_message_v_54, (fun _ h => absurd h List.not_mem_nil)⟩)) (by rw [(F4419.f (A_106 hw) rfl q4402), (F4419.f (A_106 hw) rfl q4404)]; exact (vc_X12_message_v_60 h4405.2.1 h4352 h4359 h4370.2.1 h4383 h4390 h4408 h4409 h4410 h4371 h4372 h4411 h4406 h4407))
                            have h4421 : 1 ≤ z4412 ∧ z4412 ≤ 1 := (vc_X12_ring_24 h4415 h4414)
                            refine sv_aload_n (pc := 285) dX12_message_285 rfl rfl ?_
                            refine gf_X12_99 (pc := 286) dX12_message_286 wF_X12_634 (A_106 hw) T4397 fun z4422 q4423 h4424 => ?_
                            refine mr_if_ne (pc := 289) (tgt := 303) dX12_message_289 (by decide) (r32 h4424 rfl) (fun h4425 => ?_) (fun h4425 => ?_)
                            · have h4426 : 1 ≤ z4422 ∧ z4422 ≤ 1 := (vc_X12_ring_24 h4425 h4424)
                              refine mr_lvS (lv' := [(0, .ref 106)]) (List.forall_mem_cons.mpr ⟨rfl, fun _ h => absurd h List.not_mem_nil⟩) ?_
                              exact J3516 μ4396 T4397 (mF.call (mF.call (mF.call mF.refl F4363 rfl) F4394 rfl) F4398 rfl) (mG.fr (mG.call (mG.fr mG.refl F4363 (A_126 hw) rfl) h4395.1 (List.forall_mem_cons.mpr ⟨⟨_, List.mem_cons_self, vc_X12_message_v_50⟩, (fun _ h => absurd h List.not_mem_nil)⟩)) F4398 (A_126 hw) rfl) (JC.keepJ I3393 hw ((mF.call (mF.call (mF.call (mF.up mF.refl (A_106 hw) u3409 rfl) F4363 rfl) F4394 rfl) F4398 rfl) : mF [106088, 106091, 106093, 106096, 106098, 106099, 106101, 126999, 166999, 167999, 168999, 169999, 170999, 171999, 172999, 173999] w μ3387 μ4396) rfl) (RP.keep I3394 hw ((mF.call (mF.call (mF.call (mF.up mF.refl (A_106 hw) u3409 rfl) F4363 rfl) F4394 rfl) F4398 rfl) : mF [106088, 106091, 106093, 106096, 106098, 106099, 106101, 126999, 166999, 167999, 168999, 169999, 170999, 171999, 172999, 173999] w μ3387 μ4396) rfl ((mG.fr (mG.call (mG.fr (mG.upO mG.refl u3409 rfl) F4363 (A_126 hw) rfl) h4395.1 (List.forall_mem_cons.mpr ⟨⟨_, List.mem_cons_self, vc_X12_marksRight_f_4⟩, (fun _ h => absurd h List.not_mem_nil)⟩)) F4398 (A_126 hw) rfl) : mG [(961, 1000)] μ3387 μ4396) (List.forall_mem_cons.mpr ⟨vc_X12_message_v_52, (fun _ h => absurd h List.not_mem_nil)⟩)) (EP.keep I3395 hw ((mF.call (mF.call (mF.call (mF.up mF.refl (A_106 hw) u3409 rfl) F4363 rfl) F4394 rfl) F4398 rfl) : mF [106088, 106091, 106093, 106096, 106098, 106099, 106101, 126999, 166999, 167999, 168999, 169999, 170999, 171999, 172999, 173999] w μ3387 μ4396) rfl) (HP.keep I3396 hw ((mF.call (mF.call (mF.call (mF.up mF.refl (A_106 hw) u3409 rfl) F4363 rfl) F4394 rfl) F4398 rfl) : mF [106088, 106091, 106093, 106096, 106098, 106099, 106101, 126999, 166999, 167999, 168999, 169999, 170999, 171999, 172999, 173999] w μ3387 μ4396) rfl ((mG.fr (mG.call (mG.fr (mG.upO mG.refl u3409 rfl) F4363 (A_126 hw) rfl) h4395.1 (List.forall_mem_cons.mpr ⟨⟨_, List.mem_cons_self, vc_X12_marksRight_f_4⟩, (fun _ h => absurd h List.not_mem_nil)⟩)) F4398 (A_126 hw) rfl) : mG [(961, 1000)] μ3387 μ4396) (List.forall_mem_cons.mpr ⟨vc_X12_message_v_53, (fun _ h => absurd h List.not_mem_nil)⟩)) (UPg.fr I3397 hw T4397 rfl ((mF.call (mF.call (mF.call (mF.up mF.refl (A_106 hw) u3409 rfl) F4363 rfl) F4394 rfl) F4398 rfl) : mF [106088, 106091, 106093, 106096, 106098, 106099, 106101, 126999, 166999, 167999, 168999, 169999, 170999, 171999, 172999, 173999] w μ3387 μ4396) rfl rfl rfl ((mG.fr (mG.call (mG.fr (mG.upO mG.refl u3409 rfl) F4363 (A_126 hw) rfl) h4395.1 (List.forall_mem_cons.mpr ⟨⟨_, List.mem_cons_self, vc_X12_marksRight_f_4⟩, (fun _ h => absurd h List.not_mem_nil)⟩)) F4398 (A_126 hw) rfl) : mG [(961, 1000)] μ3387 μ4396) (List.forall_mem_cons.mpr ⟨vc_X12_message_v_53, (fun _ h => absurd h List.not_mem_nil)⟩)) (G1.keep I3398 hw ((mF.call (mF.call (mF.call (mF.up mF.refl (A_106 hw) u3409 rfl) F4363 rfl) F4394 rfl) F4398 rfl) : mF [106088, 106091, 106093, 106096, 106098, 106099, 106101, 126999, 166999, 167999, 168999, 169999, 170999, 171999, 172999, 173999] w μ3387 μ4396) rfl rfl ((mG.fr (mG.call (mG.fr (mG.upO mG.refl u3409 rfl) F4363 (A_126 hw) rfl) h4395.1 (List.forall_mem_cons.mpr ⟨⟨_, List.mem_cons_self, vc_X12_marksRight_f_4⟩, (fun _ h => absurd h List.not_mem_nil)⟩)) F4398 (A_126 hw) rfl) : mG [(961, 1000)] μ3387 μ4396) (List.forall_mem_cons.mpr ⟨vc_X12_message_v_54, (fun _ h => absurd h List.not_mem_nil)⟩)) (by rw [q4402, q4404]; exact (vc_X12_message_v_60 h4405.2.1 h4352 h4359 h4370.2.1 h4383 h4390 h4408 h4409 h4410 h4371 h4372 h4411 h4406 h4407))
                            have h4427 : 0 ≤ z4422 ∧ z4422 ≤ 0 := (vc_X12_ring_22 h4425 h4424)
                            refine sv_aload_n (pc := 292) dX12_message_292 rfl rfl ?_
                            refine mr_iconst (pc := 293) (z := 2) dX12_message_293 ?_
                            refine mr_iload_n (pc := 294) (z := (2 + z3421)) dX12_message_294 rfl rfl ?_
                            refine mr_iconst (pc := 295) (z := 2) dX12_message_295 ?_
                            refine mr_iadd (pc := 296) (x := (2 + z3421)) (y := 2) dX12_message_296 ?_
                            refine mr_iload (pc := 297) (z := z4380) dX12_message_297 rfl ?_
                            refine mr_iadd (pc := 299) (x := ((2 + z3421) + 2)) (y := z4380) dX12_message_299 ?_
                            refine mr_cVV (pc := 300) (c_X12_fails hw T4397 (rW (c := 0) (d := 3) (rR (x := 2)) rfl) (rW (c := (-2147483648)) (d := 2147483647) (rAdd (e := 4) (f := 1994) (rAdd (e := 4) (f := 999) (rAdd (e := 2) (f := 997) (rR (x := 2)) h4410 rfl) (rR (x := 2)) rfl) h4411 rfl) rfl)) (gOk _ _ _ _ _) dX12_message_300 (tX12_fails _ _ _ _ _) ⟨wV_X12_fails, wL_X12_fails⟩ wM_X12_620 (gCX12 _ _ _ _ _) rfl (A_106 hw) rfl ⟨le_t rfl, le_t rfl⟩ ⟨le_t rfl, le_t rfl⟩ rfl (le_t rfl) fun μ4428 T4429 F4430 h4431 => ?_
                            refine mr_lvS (lv' := [(0, .ref 106)]) (List.forall_mem_cons.mpr ⟨rfl, fun _ h => absurd h List.not_mem_nil⟩) ?_
                            exact J3516 μ4428 T4429 (mF.call (mF.call (mF.call (mF.call mF.refl F4363 rfl) F4394 rfl) F4398 rfl) F4430 rfl) (mG.fr (mG.fr (mG.call (mG.fr mG.refl F4363 (A_126 hw) rfl) h4395.1 (List.forall_mem_cons.mpr ⟨⟨_, List.mem_cons_self, vc_X12_message_v_50⟩, (fun _ h => absurd h List.not_mem_nil)⟩)) F4398 (A_126 hw) rfl) F4430 (A_126 hw) rfl) (JC.keepJ I3393 hw ((mF.call (mF.call (mF.call (mF.call (mF.up mF.refl (A_106 hw) u3409 rfl) F4363 rfl) F4394 rfl) F4398 rfl) F4430 rfl) : mF [106088, 106091, 106093, 106096, 106098, 106099, 106101, 126999, 166999, 167999, 168999, 169999, 170999, 171999, 172999, 173999] w μ3387 μ4428) rfl) (RP.keep I3394 hw ((mF.call (mF.call (mF.call (mF.call (mF.up mF.refl (A_106 hw) u3409 rfl) F4363 rfl) F4394 rfl) F4398 rfl) F4430 rfl) : mF [106088, 106091, 106093, 106096, 106098, 106099, 106101, 126999, 166999, 167999, 168999, 169999, 170999, 171999, 172999, 173999] w μ3387 μ4428) rfl ((mG.fr (mG.fr (mG.call (mG.fr (mG.upO mG.refl u3409 rfl) F4363 (A_126 hw) rfl) h4395.1 (List.forall_mem_cons.mpr ⟨⟨_, List.mem_cons_self, vc_X12_marksRight_f_4⟩, (fun _ h => absurd h List.not_mem_nil)⟩)) F4398 (A_126 hw) rfl) F4430 (A_126 hw) rfl) : mG [(961, 1000)] μ3387 μ4428) (List.forall_mem_cons.mpr ⟨vc_X12_message_v_52, (fun _ h => absurd h List.not_mem_nil)⟩)) (EP.keep I3395 hw ((mF.call (mF.call (mF.call (mF.call (mF.up mF.refl (A_106 hw) u3409 rfl) F4363 rfl) F4394 rfl) F4398 rfl) F4430 rfl) : mF [106088, 106091, 106093, 106096, 106098, 106099, 106101, 126999, 166999, 167999, 168999, 169999, 170999, 171999, 172999, 173999] w μ3387 μ4428) rfl) (HP.keep I3396 hw ((mF.call (mF.call (mF.call (mF.call (mF.up mF.refl (A_106 hw) u3409 rfl) F4363 rfl) F4394 rfl) F4398 rfl) F4430 rfl) : mF [106088, 106091, 106093, 106096, 106098, 106099, 106101, 126999, 166999, 167999, 168999, 169999, 170999, 171999, 172999, 173999] w μ3387 μ4428) rfl ((mG.fr (mG.fr (mG.call (mG.fr (mG.upO mG.refl u3409 rfl) F4363 (A_126 hw) rfl) h4395.1 (List.forall_mem_cons.mpr ⟨⟨_, List.mem_cons_self, vc_X12_marksRight_f_4⟩, (fun _ h => absurd h List.not_mem_nil)⟩)) F4398 (A_126 hw) rfl) F4430 (A_126 hw) rfl) : mG [(961, 1000)] μ3387 μ4428) (List.forall_mem_cons.mpr ⟨vc_X12_message_v_53, (fun _ h => absurd h List.not_mem_nil)⟩)) (UPg.fr I3397 hw T4429 rfl ((mF.call (mF.call (mF.call (mF.call (mF.up mF.refl (A_106 hw) u3409 rfl) F4363 rfl) F4394 rfl) F4398 rfl) F4430 rfl) : mF [106088, 106091, 106093, 106096, 106098, 106099, 106101, 126999, 166999, 167999, 168999, 169999, 170999, 171999, 172999, 173999] w μ3387 μ4428) rfl rfl rfl ((mG.fr (mG.fr (mG.call (mG.fr (mG.upO mG.refl u3409 rfl) F4363 (A_126 hw) rfl) h4395.1 (List.forall_mem_cons.mpr ⟨⟨_, List.mem_cons_self, vc_X12_marksRight_f_4⟩, (fun _ h => absurd h List.not_mem_nil)⟩)) F4398 (A_126 hw) rfl) F4430 (A_126 hw) rfl) : mG [(961, 1000)] μ3387 μ4428) (List.forall_mem_cons.mpr ⟨vc_X12_message_v_53, (fun _ h => absurd h List.not_mem_nil)⟩)) (G1.keep I3398 hw ((mF.call (mF.call (mF.call (mF.call (mF.up mF.refl (A_106 hw) u3409 rfl) F4363 rfl) F4394 rfl) F4398 rfl) F4430 rfl) : mF [106088, 106091, 106093, 106096, 106098, 106099, 106101, 126999, 166999, 167999, 168999, 169999, 170999, 171999, 172999, 173999] w μ3387 μ4428) rfl rfl ((mG.fr (mG.fr (mG.call (mG.fr (mG.upO mG.refl u3409 rfl) F4363 (A_126 hw) rfl) h4395.1 (List.forall_mem_cons.mpr ⟨⟨_, List.mem_cons_self, vc_X12_marksRight_f_4⟩, (fun _ h => absurd h List.not_mem_nil)⟩)) F4398 (A_126 hw) rfl) F4430 (A_126 hw) rfl) : mG [(961, 1000)] μ3387 μ4428) (List.forall_mem_cons.mpr ⟨vc_X12_message_v_54, (fun _ h => absurd h List.not_mem_nil)⟩)) (by rw [(F4430.f (A_106 hw) rfl q4402), (F4430.f (A_106 hw) rfl q4404)]; exact (vc_X12_message_v_60 h4405.2.1 h4352 h4359 h4370.2.1 h4383 h4390 h4408 h4409 h4410 h4371 h4372 h4411 h4406 h4407))
                          refine sv_aload_n (pc := 227) dX12_message_227 rfl rfl ?_
                          refine mr_iconst (pc := 228) (z := 1) dX12_message_228 ?_
                          refine mr_iload_n (pc := 229) (z := (2 + z3421)) dX12_message_229 rfl rfl ?_
                          refine mr_cVV (pc := 230) (c_X12_fails hw T4362 (rW (c := 0) (d := 3) (rR (x := 1)) rfl) (rW (c := (-2147483648)) (d := 2147483647) (rAdd (e := 2) (f := 998) (rR (x := 2)) h4388 rfl) rfl)) (gOk _ _ _ _ _) dX12_message_230 (tX12_fails _ _ _ _ _) ⟨wV_X12_fails, wL_X12_fails⟩ wM_X12_620 (gCX12 _ _ _ _ _) rfl (A_106 hw) rfl ⟨le_t rfl, le_t rfl⟩ ⟨le_t rfl, le_t rfl⟩ rfl (le_t rfl) fun μ4432 T4433 F4434 h4435 => ?_
                          refine sv_goto (pc := 233) (tgt := 303) dX12_message_233 (by decide) ?_
                          refine mr_lvS (lv' := [(0, .ref 106)]) (List.forall_mem_cons.mpr ⟨rfl, fun _ h => absurd h List.not_mem_nil⟩) ?_
                          exact J3516 μ4432 T4433 (mF.call (mF.call mF.refl F4363 rfl) F4434 rfl) (mG.fr (mG.fr mG.refl F4363 (A_126 hw) rfl) F4434 (A_126 hw) rfl) (JC.keepJ I3393 hw ((mF.call (mF.call (mF.up mF.refl (A_106 hw) u3409 rfl) F4363 rfl) F4434 rfl) : mF [106088, 106091, 106096, 166999, 167999, 168999, 169999, 172999] w μ3387 μ4432) rfl) (RP.keep I3394 hw ((mF.call (mF.call (mF.up mF.refl (A_106 hw) u3409 rfl) F4363 rfl) F4434 rfl) : mF [106088, 106091, 106096, 166999, 167999, 168999, 169999, 172999] w μ3387 μ4432) rfl ((mG.fr (mG.fr (mG.upO mG.refl u3409 rfl) F4363 (A_126 hw) rfl) F4434 (A_126 hw) rfl) : mG [] μ3387 μ4432) (fun _ h => absurd h List.not_mem_nil)) (EP.keep I3395 hw ((mF.call (mF.call (mF.up mF.refl (A_106 hw) u3409 rfl) F4363 rfl) F4434 rfl) : mF [106088, 106091, 106096, 166999, 167999, 168999, 169999, 172999] w μ3387 μ4432) rfl) (HP.keep I3396 hw ((mF.call (mF.call (mF.up mF.refl (A_106 hw) u3409 rfl) F4363 rfl) F4434 rfl) : mF [106088, 106091, 106096, 166999, 167999, 168999, 169999, 172999] w μ3387 μ4432) rfl ((mG.fr (mG.fr (mG.upO mG.refl u3409 rfl) F4363 (A_126 hw) rfl) F4434 (A_126 hw) rfl) : mG [] μ3387 μ4432) (fun _ h => absurd h List.not_mem_nil)) (UPg.fr I3397 hw T4433 rfl ((mF.call (mF.call (mF.up mF.refl (A_106 hw) u3409 rfl) F4363 rfl) F4434 rfl) : mF [106088, 106091, 106096, 166999, 167999, 168999, 169999, 172999] w μ3387 μ4432) rfl rfl rfl ((mG.fr (mG.fr (mG.upO mG.refl u3409 rfl) F4363 (A_126 hw) rfl) F4434 (A_126 hw) rfl) : mG [] μ3387 μ4432) (fun _ h => absurd h List.not_mem_nil)) (G1.keep I3398 hw ((mF.call (mF.call (mF.up mF.refl (A_106 hw) u3409 rfl) F4363 rfl) F4434 rfl) : mF [106088, 106091, 106096, 166999, 167999, 168999, 169999, 172999] w μ3387 μ4432) rfl rfl ((mG.fr (mG.fr (mG.upO mG.refl u3409 rfl) F4363 (A_126 hw) rfl) F4434 (A_126 hw) rfl) : mG [] μ3387 μ4432) (fun _ h => absurd h List.not_mem_nil)) (by rw [(F4434.f (A_106 hw) rfl q4367), (F4434.f (A_106 hw) rfl q4369)]; exact (vc_X12_message_v_64 h4370.2.1 h4359 h4383 h4390 h4389 h4388 h4371 h4372 h4381))
                        refine mr_icmp_gt (pc := 189) (tgt := 201) dX12_message_189 (by decide) (r32 (rAdd (e := 4) (f := 1002) (rAdd (e := 2) (f := 1000) (rR (x := 2)) h4360 rfl) (rR (x := 2)) rfl) rfl) (r32 h4358 rfl) (fun h4436 => ?_) (fun h4436 => ?_)
                        · refine mr_iconst (pc := 201) (z := 0) dX12_message_201 ?_
                          refine mr_lvS (lv' := [(0, .ref 106), (3, iv (2 + z3421))]) (List.forall_mem_cons.mpr ⟨rfl, List.forall_mem_cons.mpr ⟨rfl, fun _ h => absurd h List.not_mem_nil⟩⟩) ?_
                          exact J4382 0 (rW (c := 0) (d := 65535) (rR (x := 0)) rfl)
                        have h4437 : 0 ≤ z3421 ∧ z3421 ≤ 996 := (vc_X12_message_v_42 h4436 h4352 h4359 h4370.2.1 h4358 h4360 h4371 h4372)
                        have h4438 : 4 ≤ z3411 ∧ z3411 ≤ 1000 := (vc_X12_message_v_43 h4436 h4352 h4359 h4370.2.1 h4358 h4437 h4371 h4372)
                        refine sv_aload_n (pc := 192) dX12_message_192 rfl rfl ?_
                        refine mr_iload_n (pc := 193) (z := (2 + z3421)) dX12_message_193 rfl rfl ?_
                        refine mr_iconst (pc := 194) (z := 2) dX12_message_194 ?_
                        refine mr_cVP (pc := 195) (c_X12_number_f2 hw T4362 (rW (c := 0) (d := 1000) (rAdd (e := 2) (f := 998) (rR (x := 2)) h4437 rfl) rfl) (rW (c := 0) (d := 2) (rR (x := 2)) rfl) (F4363.f (A_106 hw) rfl q3412) (vc_X12_message_v_65 h4352 h4359 h4370.2.1 h4436 h4438 h4437 h4371 h4372)) (gOk _ _ _ _ _) dX12_message_195 (tX12_number _ _ _ _ _) ⟨wV_X12_number, wL_X12_number⟩ wM_X12_623 (gCX12 _ _ _ _ _) rfl (A_106 hw) rfl ⟨le_t rfl, le_t rfl⟩ ⟨le_t rfl, le_t rfl⟩ rfl (le_t rfl) fun z4443 h4442 => ?_
                        refine sv_goto (pc := 198) (tgt := 202) dX12_message_198 (by decide) ?_
                        refine mr_lvS (lv' := [(0, .ref 106), (3, iv (2 + z3421))]) (List.forall_mem_cons.mpr ⟨rfl, List.forall_mem_cons.mpr ⟨rfl, fun _ h => absurd h List.not_mem_nil⟩⟩) ?_
                        exact J4382 z4443 h4442.1
                      have h4444 : 1 ≤ z3421 ∧ z3421 ≤ 65535 := (vc_X12_message_v_66 h4359 h4352 h4358 h3422)
                      refine sv_aload_n (pc := 159) dX12_message_159 rfl rfl ?_
                      refine mr_iconst (pc := 160) (z := 1) dX12_message_160 ?_
                      refine mr_iconst (pc := 161) (z := 0) dX12_message_161 ?_
                      refine mr_cVV (pc := 162) (c_X12_fails hw T3410 (rW (c := 0) (d := 3) (rR (x := 1)) rfl) (rW (c := (-2147483648)) (d := 2147483647) (rR (x := 0)) rfl)) (gOk _ _ _ _ _) dX12_message_162 (tX12_fails _ _ _ _ _) ⟨wV_X12_fails, wL_X12_fails⟩ wM_X12_620 (gCX12 _ _ _ _ _) rfl (A_106 hw) rfl ⟨le_t rfl, le_t rfl⟩ ⟨le_t rfl, le_t rfl⟩ rfl (le_t rfl) fun μ4445 T4446 F4447 h4448 => ?_
                      refine sv_goto (pc := 165) (tgt := 303) dX12_message_165 (by decide) ?_
                      refine mr_lvS (lv' := [(0, .ref 106)]) (List.forall_mem_cons.mpr ⟨rfl, fun _ h => absurd h List.not_mem_nil⟩) ?_
                      exact J3516 μ4445 T4446 (mF.call mF.refl F4447 rfl) (mG.fr mG.refl F4447 (A_126 hw) rfl) (JC.keepJ I3393 hw ((mF.call (mF.up mF.refl (A_106 hw) u3409 rfl) F4447 rfl) : mF [106096, 172999] w μ3387 μ4445) rfl) (RP.keep I3394 hw ((mF.call (mF.up mF.refl (A_106 hw) u3409 rfl) F4447 rfl) : mF [106096, 172999] w μ3387 μ4445) rfl ((mG.fr (mG.upO mG.refl u3409 rfl) F4447 (A_126 hw) rfl) : mG [] μ3387 μ4445) (fun _ h => absurd h List.not_mem_nil)) (EP.keep I3395 hw ((mF.call (mF.up mF.refl (A_106 hw) u3409 rfl) F4447 rfl) : mF [106096, 172999] w μ3387 μ4445) rfl) (HP.keep I3396 hw ((mF.call (mF.up mF.refl (A_106 hw) u3409 rfl) F4447 rfl) : mF [106096, 172999] w μ3387 μ4445) rfl ((mG.fr (mG.upO mG.refl u3409 rfl) F4447 (A_126 hw) rfl) : mG [] μ3387 μ4445) (fun _ h => absurd h List.not_mem_nil)) (UPg.fr I3397 hw T4446 rfl ((mF.call (mF.up mF.refl (A_106 hw) u3409 rfl) F4447 rfl) : mF [106096, 172999] w μ3387 μ4445) rfl rfl rfl ((mG.fr (mG.upO mG.refl u3409 rfl) F4447 (A_126 hw) rfl) : mG [] μ3387 μ4445) (fun _ h => absurd h List.not_mem_nil)) (G1.keep I3398 hw ((mF.call (mF.up mF.refl (A_106 hw) u3409 rfl) F4447 rfl) : mF [106096, 172999] w μ3387 μ4445) rfl rfl ((mG.fr (mG.upO mG.refl u3409 rfl) F4447 (A_126 hw) rfl) : mG [] μ3387 μ4445) (fun _ h => absurd h List.not_mem_nil)) (by rw [(F4447.f (A_106 hw) rfl (u3409.f (Or.inr (by decide)) (F3391.f (A_106 hw) rfl (u2937.f (Or.inl (mAt.ne (A_126 hw) (A_106 hw) rfl)) (u2930.f (Or.inl (mAt.ne (A_126 hw) (A_106 hw) rfl)) (u2927.f (Or.inr (by decide)) (u2924.f (Or.inr (by decide)) (u2921.f (Or.inr (by decide)) (u2918.f (Or.inr (by decide)) (u2915.f (Or.inr (by decide)) u2912.1)))))))))), (F4447.f (A_106 hw) rfl (u3409.f (Or.inr (by decide)) (F3391.f (A_106 hw) rfl (u2937.f (Or.inl (mAt.ne (A_126 hw) (A_106 hw) rfl)) (u2930.f (Or.inl (mAt.ne (A_126 hw) (A_106 hw) rfl)) (u2927.f (Or.inr (by decide)) (u2924.f (Or.inr (by decide)) (u2921.f (Or.inr (by decide)) (u2918.f (Or.inr (by decide)) u2915.1)))))))))]; exact vc_X12_message_v_35)
                    refine mr_icmp_lt (pc := 127) (tgt := 139) dX12_message_127 (by decide) (r32 h3413 rfl) (r32 (rR (x := 2)) rfl) (fun h4449 => ?_) (fun h4449 => ?_)
                    · have h4450 : 0 ≤ z3411 ∧ z3411 ≤ 1 := (vc_X3_readParts_20 h4449 h3413)
                      refine mr_iconst (pc := 139) (z := 0) dX12_message_139 ?_
                      refine mr_lvS (lv' := [(0, .ref 106)]) (List.forall_mem_cons.mpr ⟨rfl, fun _ h => absurd h List.not_mem_nil⟩) ?_
                      exact J3423 0 (rW (c := 0) (d := 65535) (rR (x := 0)) rfl)
                    have h4451 : 2 ≤ z3411 ∧ z3411 ≤ 1000 := (vc_X3_readParts_21 h4449 h3413)
                    refine sv_aload_n (pc := 130) dX12_message_130 rfl rfl ?_
                    refine mr_iconst (pc := 131) (z := 0) dX12_message_131 ?_
                    refine mr_iconst (pc := 132) (z := 2) dX12_message_132 ?_
                    refine mr_cVP (pc := 133) (c_X12_number_f2 hw T3410 (rW (c := 0) (d := 1000) (rR (x := 0)) rfl) (rW (c := 0) (d := 2) (rR (x := 2)) rfl) q3412 (vc_X12_message_v_67 h4449 h4451)) (gOk _ _ _ _ _) dX12_message_133 (tX12_number _ _ _ _ _) ⟨wV_X12_number, wL_X12_number⟩ wM_X12_623 (gCX12 _ _ _ _ _) rfl (A_106 hw) rfl ⟨le_t rfl, le_t rfl⟩ ⟨le_t rfl, le_t rfl⟩ rfl (le_t rfl) fun z4456 h4455 => ?_
                    refine sv_goto (pc := 136) (tgt := 140) dX12_message_136 (by decide) ?_
                    refine mr_lvS (lv' := [(0, .ref 106)]) (List.forall_mem_cons.mpr ⟨rfl, fun _ h => absurd h List.not_mem_nil⟩) ?_
                    exact J3423 z4456 h4455.1
                  have h4457 : 2 ≤ z3386 ∧ z3386 ≤ 5 := (vc_X12_message_v_68 h3406 h3389)
                  refine sv_aload_n (pc := 102) dX12_message_102 rfl rfl ?_
                  refine gf_X12_32 (pc := 103) dX12_message_103 wF_X12_148 (A_106 hw) T3390 ?_
                  refine mr_iload_n (pc := 106) (z := 960) dX12_message_106 rfl rfl ?_
                  refine mr_iload_n (pc := 107) (z := z3386) dX12_message_107 rfl rfl ?_
                  refine mr_iadd (pc := 108) (x := 960) (y := z3386) dX12_message_108 ?_
                  refine mr_iconst (pc := 109) (z := 0) dX12_message_109 ?_
                  refine ss_126 (pc := 110) dX12_message_110 (A_126 hw) T3390 (rIx (n := 84000) (rAdd (e := 962) (f := 965) (rR (x := 960)) h4457 rfl) rfl) (vc_X12_message_v_69 h3406 h4457) fun μ4458 u4459 T4460 => ?_
                  have I4461 : RP μ4458 := RP.up I3394 u4459 (u4459.f (Or.inl (mAt.ne (A_126 hw) (A_106 hw) rfl)) (F3391.f (A_106 hw) rfl (u2937.f (Or.inl (mAt.ne (A_126 hw) (A_106 hw) rfl)) q2933))) (vc_X12_message_v_70 h3406 h4457) (vc_X12_message_v_71 h3406 h2934 h4457)
                  refine mr_iinc (pc := 111) (lv' := [(2, iv (z3386 + 1)), (0, .ref 106), (1, iv 960)]) dX12_message_111 rfl (by decide) rfl ?_
                  refine sv_goto (pc := 114) (tgt := 96) dX12_message_114 (by decide) ?_
                  refine mr_lvS (lv' := [(0, .ref 106), (1, iv 960), (2, iv (z3386 + 1))]) (List.forall_mem_cons.mpr ⟨rfl, List.forall_mem_cons.mpr ⟨rfl, List.forall_mem_cons.mpr ⟨rfl, fun _ h => absurd h List.not_mem_nil⟩⟩⟩) ?_
                  exact ih3400 (z3386 + 1) μ4458 T4460 (mF.up (mF.call mF.refl F3391 rfl) (A_126 hw) u4459 rfl) (mG.up (mG.call mG.refl G3392 (List.forall_mem_cons.mpr ⟨⟨_, List.mem_cons_self, vc_X12_message_v_15⟩, (fun _ h => absurd h List.not_mem_nil)⟩)) u4459 List.mem_cons_self (vc_X12_message_v_73 h3406 h4457)) (rW (c := 2) (d := 6) (rAdd (e := 3) (f := 6) h4457 (rR (x := 1)) rfl) rfl) (JC.keepJ I3393 hw ((mF.up mF.refl (A_126 hw) u4459 rfl) : mF [126999] w μ3387 μ4458) rfl) I4461 (EP.keep I3395 hw ((mF.up mF.refl (A_126 hw) u4459 rfl) : mF [126999] w μ3387 μ4458) rfl) (HP.keep I3396 hw ((mF.up mF.refl (A_126 hw) u4459 rfl) : mF [126999] w μ3387 μ4458) rfl ((mG.up mG.refl u4459 List.mem_cons_self (vc_X12_message_v_74 h3406 h4457)) : mG [((960 + z3386), ((960 + z3386) + 1))] μ3387 μ4458) (List.forall_mem_cons.mpr ⟨(vc_X12_message_v_75 h3406 h4457), (fun _ h => absurd h List.not_mem_nil)⟩)) (UPg.fr I3397 hw T4460 rfl ((mF.up mF.refl (A_126 hw) u4459 rfl) : mF [126999] w μ3387 μ4458) rfl rfl rfl ((mG.up mG.refl u4459 List.mem_cons_self (vc_X12_message_v_74 h3406 h4457)) : mG [((960 + z3386), ((960 + z3386) + 1))] μ3387 μ4458) (List.forall_mem_cons.mpr ⟨(vc_X12_message_v_75 h3406 h4457), (fun _ h => absurd h List.not_mem_nil)⟩)) (G1.keep I3398 hw ((mF.up mF.refl (A_126 hw) u4459 rfl) : mF [126999] w μ3387 μ4458) rfl rfl ((mG.up mG.refl u4459 List.mem_cons_self (vc_X12_message_v_74 h3406 h4457)) : mG [((960 + z3386), ((960 + z3386) + 1))] μ3387 μ4458) (List.forall_mem_cons.mpr ⟨(vc_X12_message_v_76 h3406 h4457), (fun _ h => absurd h List.not_mem_nil)⟩)) (vc_X12_message_v_72 (nS h3399) h3406 h4457)
              refine mr_lvS (lv' := [(0, .ref 106), (1, iv 960), (2, iv 2)]) (List.forall_mem_cons.mpr ⟨rfl, List.forall_mem_cons.mpr ⟨rfl, List.forall_mem_cons.mpr ⟨rfl, fun _ h => absurd h List.not_mem_nil⟩⟩⟩) ?_
              exact L3388 6 2 μ2936 T2938 mF.refl mG.refl (rW (c := 2) (d := 6) (rR (x := 2)) rfl) (JC.keepJ I2896 hw ((mF.up (mF.up (mF.up (mF.up (mF.up (mF.up (mF.up (mF.up mF.refl (A_106 hw) u2912 rfl) (A_106 hw) u2915 rfl) (A_106 hw) u2918 rfl) (A_106 hw) u2921 rfl) (A_106 hw) u2924 rfl) (A_106 hw) u2927 rfl) (A_126 hw) u2930 rfl) (A_126 hw) u2937 rfl) : mF [106088, 106091, 106093, 106098, 106099, 106101, 126999] w μ2890 μ2936) rfl) I2939 (EP.keep I2898 hw ((mF.up (mF.up (mF.up (mF.up (mF.up (mF.up (mF.up (mF.up mF.refl (A_106 hw) u2912 rfl) (A_106 hw) u2915 rfl) (A_106 hw) u2918 rfl) (A_106 hw) u2921 rfl) (A_106 hw) u2924 rfl) (A_106 hw) u2927 rfl) (A_126 hw) u2930 rfl) (A_126 hw) u2937 rfl) : mF [106088, 106091, 106093, 106098, 106099, 106101, 126999] w μ2890 μ2936) rfl) (HP.keep I2899 hw ((mF.up (mF.up (mF.up (mF.up (mF.up (mF.up (mF.up (mF.up mF.refl (A_106 hw) u2912 rfl) (A_106 hw) u2915 rfl) (A_106 hw) u2918 rfl) (A_106 hw) u2921 rfl) (A_106 hw) u2924 rfl) (A_106 hw) u2927 rfl) (A_126 hw) u2930 rfl) (A_126 hw) u2937 rfl) : mF [106088, 106091, 106093, 106098, 106099, 106101, 126999] w μ2890 μ2936) rfl ((mG.up (mG.up (mG.upO (mG.upO (mG.upO (mG.upO (mG.upO (mG.upO mG.refl u2912 rfl) u2915 rfl) u2918 rfl) u2921 rfl) u2924 rfl) u2927 rfl) u2930 List.mem_cons_self vc_X12_message_v_78) u2937 (List.mem_cons_of_mem _ List.mem_cons_self) vc_X12_message_v_79) : mG [(960, (960 + 1)), ((960 + 1), ((960 + 1) + 1))] μ2890 μ2936) (List.forall_mem_cons.mpr ⟨vc_X12_message_v_81, (List.forall_mem_cons.mpr ⟨vc_X12_message_v_80, (fun _ h => absurd h List.not_mem_nil)⟩)⟩)) (UPg.fr I2900 hw T2938 rfl ((mF.up (mF.up (mF.up (mF.up (mF.up (mF.up (mF.up (mF.up mF.refl (A_106 hw) u2912 rfl) (A_106 hw) u2915 rfl) (A_106 hw) u2918 rfl) (A_106 hw) u2921 rfl) (A_106 hw) u2924 rfl) (A_106 hw) u2927 rfl) (A_126 hw) u2930 rfl) (A_126 hw) u2937 rfl) : mF [106088, 106091, 106093, 106098, 106099, 106101, 126999] w μ2890 μ2936) rfl rfl rfl ((mG.up (mG.up (mG.upO (mG.upO (mG.upO (mG.upO (mG.upO (mG.upO mG.refl u2912 rfl) u2915 rfl) u2918 rfl) u2921 rfl) u2924 rfl) u2927 rfl) u2930 List.mem_cons_self vc_X12_message_v_78) u2937 (List.mem_cons_of_mem _ List.mem_cons_self) vc_X12_message_v_79) : mG [(960, (960 + 1)), ((960 + 1), ((960 + 1) + 1))] μ2890 μ2936) (List.forall_mem_cons.mpr ⟨vc_X12_message_v_81, (List.forall_mem_cons.mpr ⟨vc_X12_message_v_80, (fun _ h => absurd h List.not_mem_nil)⟩)⟩)) (G1.keep I2901 hw ((mF.up (mF.up (mF.up (mF.up (mF.up (mF.up (mF.up (mF.up mF.refl (A_106 hw) u2912 rfl) (A_106 hw) u2915 rfl) (A_106 hw) u2918 rfl) (A_106 hw) u2921 rfl) (A_106 hw) u2924 rfl) (A_106 hw) u2927 rfl) (A_126 hw) u2930 rfl) (A_126 hw) u2937 rfl) : mF [106088, 106091, 106093, 106098, 106099, 106101, 126999] w μ2890 μ2936) rfl rfl ((mG.up (mG.up (mG.upO (mG.upO (mG.upO (mG.upO (mG.upO (mG.upO mG.refl u2912 rfl) u2915 rfl) u2918 rfl) u2921 rfl) u2924 rfl) u2927 rfl) u2930 List.mem_cons_self vc_X12_message_v_78) u2937 (List.mem_cons_of_mem _ List.mem_cons_self) vc_X12_message_v_79) : mG [(960, (960 + 1)), ((960 + 1), ((960 + 1) + 1))] μ2890 μ2936) (List.forall_mem_cons.mpr ⟨vc_X12_message_v_83, (List.forall_mem_cons.mpr ⟨vc_X12_message_v_82, (fun _ h => absurd h List.not_mem_nil)⟩)⟩)) vc_X12_message_v_77
            have h4462 : 0 ≤ z2889 ∧ z2889 ≤ 255 := (vc_X3_putNumber_5 h2909 h2892)
            refine sv_aload_n (pc := 30) dX12_message_30 rfl rfl ?_
            refine gf_X12_94 (pc := 31) dX12_message_31 wF_X12_475 (A_106 hw) T2893 ?_
            refine mr_iload_n (pc := 34) (z := z2889) dX12_message_34 rfl rfl ?_
            refine mr_iconst (pc := 35) (z := 0) dX12_message_35 ?_
            refine ss_171 (pc := 36) dX12_message_36 (A_171 hw) T2893 (rIx (n := 256) h4462 rfl) (rW (c := 0) (d := 1) (rR (x := 0)) rfl) fun μ4463 u4464 T4465 => ?_
            refine mr_iinc (pc := 37) (lv' := [(1, iv (z2889 + 1)), (0, .ref 106)]) dX12_message_37 rfl (by decide) rfl ?_
            refine sv_goto (pc := 40) (tgt := 23) dX12_message_40 (by decide) ?_
            refine mr_lvS (lv' := [(0, .ref 106), (1, iv (z2889 + 1))]) (List.forall_mem_cons.mpr ⟨rfl, List.forall_mem_cons.mpr ⟨rfl, fun _ h => absurd h List.not_mem_nil⟩⟩) ?_
            exact ih2903 (z2889 + 1) μ4463 T4465 (mF.up (mF.call mF.refl F2894 rfl) (A_171 hw) u4464 rfl) (rW (c := 0) (d := 256) (rAdd (e := 1) (f := 256) h4462 (rR (x := 1)) rfl) rfl) (JC.keepJ I2896 hw ((mF.up mF.refl (A_171 hw) u4464 rfl) : mF [171999] w μ2890 μ4463) rfl) (RP.keep I2897 hw ((mF.up mF.refl (A_171 hw) u4464 rfl) : mF [171999] w μ2890 μ4463) rfl ((mG.upO mG.refl u4464 rfl) : mG [] μ2890 μ4463) (fun _ h => absurd h List.not_mem_nil)) (EP.keep I2898 hw ((mF.up mF.refl (A_171 hw) u4464 rfl) : mF [171999] w μ2890 μ4463) rfl) (HP.keep I2899 hw ((mF.up mF.refl (A_171 hw) u4464 rfl) : mF [171999] w μ2890 μ4463) rfl ((mG.upO mG.refl u4464 rfl) : mG [] μ2890 μ4463) (fun _ h => absurd h List.not_mem_nil)) (UPg.fr I2900 hw T4465 rfl ((mF.up mF.refl (A_171 hw) u4464 rfl) : mF [171999] w μ2890 μ4463) rfl rfl rfl ((mG.upO mG.refl u4464 rfl) : mG [] μ2890 μ4463) (fun _ h => absurd h List.not_mem_nil)) (G1.keep I2901 hw ((mF.up mF.refl (A_171 hw) u4464 rfl) : mF [171999] w μ2890 μ4463) rfl rfl ((mG.upO mG.refl u4464 rfl) : mG [] μ2890 μ4463) (fun _ h => absurd h List.not_mem_nil)) (vc_X12_message_v_85 (nS h2902) h2909 h4462)
        refine mr_lvS (lv' := [(0, .ref 106), (1, iv 0)]) (List.forall_mem_cons.mpr ⟨rfl, List.forall_mem_cons.mpr ⟨rfl, fun _ h => absurd h List.not_mem_nil⟩⟩) ?_
        exact L2891 258 0 μ1864 T1867 mF.refl (rW (c := 0) (d := 256) (rR (x := 0)) rfl) I1870 I1871 I1872 I1873 I1874 I1875 vc_X12_message_v_86
      have h4466 : 0 ≤ z1863 ∧ z1863 ≤ 3 := (vc_X12_message_v_87 h1883 h1866)
      refine sv_aload_n (pc := 7) dX12_message_7 rfl rfl ?_
      refine gf_X12_95 (pc := 8) dX12_message_8 wF_X12_478 (A_106 hw) T1867 ?_
      refine mr_iload_n (pc := 11) (z := z1863) dX12_message_11 rfl rfl ?_
      refine mr_ldc (pc := 12) (z := (-99999999)) dX12_message_12 wG_X12_29 (by decide) ?_
      refine ss_172 (pc := 14) dX12_message_14 (A_172 hw) T1867 (rIx (n := 4) h4466 rfl) (rW (c := (-2147483648)) (d := 2147483647) (rR (x := (-99999999))) rfl) fun μ4467 u4468 T4469 => ?_
      refine mr_iinc (pc := 15) (lv' := [(1, iv (z1863 + 1)), (0, .ref 106)]) dX12_message_15 rfl (by decide) rfl ?_
      refine sv_goto (pc := 18) (tgt := 2) dX12_message_18 (by decide) ?_
      refine mr_lvS (lv' := [(0, .ref 106), (1, iv (z1863 + 1))]) (List.forall_mem_cons.mpr ⟨rfl, List.forall_mem_cons.mpr ⟨rfl, fun _ h => absurd h List.not_mem_nil⟩⟩) ?_
      exact ih1877 (z1863 + 1) μ4467 T4469 (mF.up (mF.call mF.refl F1868 rfl) (A_172 hw) u4468 rfl) (rW (c := 0) (d := 4) (rAdd (e := 1) (f := 4) h4466 (rR (x := 1)) rfl) rfl) (JC.keepJ I1870 hw ((mF.up mF.refl (A_172 hw) u4468 rfl) : mF [172999] w μ1864 μ4467) rfl) (RP.keep I1871 hw ((mF.up mF.refl (A_172 hw) u4468 rfl) : mF [172999] w μ1864 μ4467) rfl ((mG.upO mG.refl u4468 rfl) : mG [] μ1864 μ4467) (fun _ h => absurd h List.not_mem_nil)) (EP.keep I1872 hw ((mF.up mF.refl (A_172 hw) u4468 rfl) : mF [172999] w μ1864 μ4467) rfl) (HP.keep I1873 hw ((mF.up mF.refl (A_172 hw) u4468 rfl) : mF [172999] w μ1864 μ4467) rfl ((mG.upO mG.refl u4468 rfl) : mG [] μ1864 μ4467) (fun _ h => absurd h List.not_mem_nil)) (UPg.fr I1874 hw T4469 rfl ((mF.up mF.refl (A_172 hw) u4468 rfl) : mF [172999] w μ1864 μ4467) rfl rfl rfl ((mG.upO mG.refl u4468 rfl) : mG [] μ1864 μ4467) (fun _ h => absurd h List.not_mem_nil)) (G1.keep I1875 hw ((mF.up mF.refl (A_172 hw) u4468 rfl) : mF [172999] w μ1864 μ4467) rfl rfl ((mG.upO mG.refl u4468 rfl) : mG [] μ1864 μ4467) (fun _ h => absurd h List.not_mem_nil)) (vc_X12_message_v_88 (nS h1876) h1883 h4466)
  refine mr_lvS (lv' := [(0, .ref 106), (1, iv 0)]) (List.forall_mem_cons.mpr ⟨rfl, List.forall_mem_cons.mpr ⟨rfl, fun _ h => absurd h List.not_mem_nil⟩⟩) ?_
  exact L1865 6 0 μ hT mF.refl (rW (c := 0) (d := 4) (rR (x := 0)) rfl) hIJC hIRP hIEP hIHP hIUP hIG1 vc_X12_prefixOut_14
theorem vc_X10_maskOf_v_1 {p1 : Int} (h0 : ¬ p1 = 0) (h1 : 0 ≤ p1 ∧ p1 ≤ 32) : 1 ≤ p1 ∧ p1 ≤ 32 := by omega
theorem vc_X10_maskOf_v_2 {p1 : Int} (h0 : ¬ p1 = 0) (h1 : 1 ≤ p1 ∧ p1 ≤ 32) : ¬ p1 = 0 := by omega
theorem vc_X10_maskOf_v_3 {p1 : Int} (h0 : p1 = 0) (h1 : 0 ≤ p1 ∧ p1 ≤ 32) : 0 ≤ p1 ∧ p1 ≤ 0 := by omega
set_option maxRecDepth 4000 in
set_option maxHeartbeats 4000000 in
theorem c_X10_maskOf_v {l : Launch} {D : va_G} {c : Nat → ClassId} {H0 : Heap} {sa : Nat × Nat × (Nat → Int32)} {w : mW} {μ : mM} (hw : mWF w) (hT : mT w μ) {p1 : Int} (hp1 : 0 ≤ p1 ∧ p1 ≤ 32) : sC (gG l D c H0 sa) mX10_maskOf 1 0 0 [iv p1] (mk w μ) (qP w μ (fun z => ((-2147483648) ≤ z ∧ z ≤ 2147483647) ∧ (z = mskF p1) ∧ True)) := by
  refine sC.of rfl (by decide) (le_t rfl) ?_
  refine mr_lvE (lv' := [(0, iv p1)]) rfl ?_
  refine mr_iload_n (pc := 0) (z := p1) dX10_maskOf_0 rfl rfl ?_
  refine mr_if_ne (pc := 1) (tgt := 8) dX10_maskOf_1 (by decide) (r32 hp1 rfl) (fun h1 => ?_) (fun h1 => ?_)
  · have h2 : 1 ≤ p1 ∧ p1 ≤ 32 := (vc_X10_maskOf_v_1 h1 hp1)
    refine mr_iconst (pc := 8) (z := (-1)) dX10_maskOf_8 ?_
    refine mr_bipush (pc := 9) (z := 32) dX10_maskOf_9 (by decide) ?_
    refine mr_iload_n (pc := 11) (z := p1) dX10_maskOf_11 rfl rfl ?_
    refine mr_isub (pc := 12) (x := 32) (y := p1) dX10_maskOf_12 ?_
    refine mr_ishl (pc := 13) (x := (-1)) (y := (32 - p1)) dX10_maskOf_13 ?_
    refine mr_gen (P := fun z => (-2147483648) ≤ z ∧ z ≤ 2147483647) (r32i _) fun z3 q4 h5 => ?_
    exact mr_iretP dX10_maskOf_14 rfl (le_t rfl) (le_t rfl) ⟨h5, (mskF.pos (vc_X10_maskOf_v_2 h1 h2) q4), trivial⟩
  have h6 : 0 ≤ p1 ∧ p1 ≤ 0 := (vc_X10_maskOf_v_3 h1 hp1)
  refine mr_iconst (pc := 4) (z := 0) dX10_maskOf_4 ?_
  refine sv_goto (pc := 5) (tgt := 14) dX10_maskOf_5 (by decide) ?_
  exact mr_iretP dX10_maskOf_14 rfl (le_t rfl) (le_t rfl) ⟨(rW (c := (-2147483648)) (d := 2147483647) (rR (x := 0)) rfl), (mskF.zero (vc_X12_goes_7 h1 h6)), trivial⟩
set_option maxRecDepth 4000 in
set_option maxHeartbeats 4000000 in
theorem c_X12_mask_v {l : Launch} {D : va_G} {c : Nat → ClassId} {H0 : Heap} {sa : Nat × Nat × (Nat → Int32)} {w : mW} {μ : mM} (hw : mWF w) (hT : mT w μ) {p1 : Int} (hp1 : 0 ≤ p1 ∧ p1 ≤ 32) : sC (gG l D c H0 sa) mX12_mask 1 0 0 [iv p1] (mk w μ) (qP w μ (fun z => ((-2147483648) ≤ z ∧ z ≤ 2147483647) ∧ (z = mskF p1) ∧ True)) := by
  refine sC.of rfl (by decide) (le_t rfl) ?_
  refine mr_lvE (lv' := [(0, iv p1)]) rfl ?_
  refine mr_iload_n (pc := 0) (z := p1) dX12_mask_0 rfl rfl ?_
  refine mr_if_ne (pc := 1) (tgt := 8) dX12_mask_1 (by decide) (r32 hp1 rfl) (fun h1 => ?_) (fun h1 => ?_)
  · have h2 : 1 ≤ p1 ∧ p1 ≤ 32 := (vc_X10_maskOf_v_1 h1 hp1)
    refine mr_iconst (pc := 8) (z := (-1)) dX12_mask_8 ?_
    refine mr_bipush (pc := 9) (z := 32) dX12_mask_9 (by decide) ?_
    refine mr_iload_n (pc := 11) (z := p1) dX12_mask_11 rfl rfl ?_
    refine mr_isub (pc := 12) (x := 32) (y := p1) dX12_mask_12 ?_
    refine mr_ishl (pc := 13) (x := (-1)) (y := (32 - p1)) dX12_mask_13 ?_
    refine mr_gen (P := fun z => (-2147483648) ≤ z ∧ z ≤ 2147483647) (r32i _) fun z3 q4 h5 => ?_
    exact mr_iretP dX12_mask_14 rfl (le_t rfl) (le_t rfl) ⟨h5, (mskF.pos (vc_X10_maskOf_v_2 h1 h2) q4), trivial⟩
  have h6 : 0 ≤ p1 ∧ p1 ≤ 0 := (vc_X10_maskOf_v_3 h1 hp1)
  refine mr_iconst (pc := 4) (z := 0) dX12_mask_4 ?_
  refine sv_goto (pc := 5) (tgt := 14) dX12_mask_5 (by decide) ?_
  exact mr_iretP dX12_mask_14 rfl (le_t rfl) (le_t rfl) ⟨(rW (c := (-2147483648)) (d := 2147483647) (rR (x := 0)) rfl), (mskF.zero (vc_X12_goes_7 h1 h6)), trivial⟩
theorem vc_X10_tieBetween_v_2 {f_n n1 z461 : Int} (h0 : f_n = n1) (h1 : f_n ≤ z461) (h2 : 0 ≤ f_n ∧ f_n ≤ 20) (h3 : 0 ≤ z461 ∧ z461 ≤ 20) : (-1 : Int) < n1 := by omega
theorem vc_X10_tieBetween_v_3 {f_n n1 z461 : Int} (h0 : f_n = n1) (h1 : f_n ≤ z461) (h2 : 0 ≤ f_n ∧ f_n ≤ 20) (h3 : 0 ≤ z461 ∧ z461 ≤ 20) : f_n ≤ z461 := by omega
theorem vc_X10_tieBetween_v_4 {f_n n1 z461 : Int} (h0 : z461 < f_n) (h1 : f_n = n1) (h2 : 0 ≤ f_n ∧ f_n ≤ 20) (h3 : 0 ≤ z461 ∧ z461 ≤ 20) : 0 ≤ z461 ∧ z461 ≤ 19 := by omega
theorem vc_X10_tieBetween_v_5 {f_n n1 z461 : Int} (h0 : z461 < f_n) (h1 : f_n = n1) (h2 : 0 ≤ f_n ∧ f_n ≤ 20) (h3 : 0 ≤ z461 ∧ z461 ≤ 19) : 1 ≤ f_n ∧ f_n ≤ 20 := by omega
theorem vc_X10_tieBetween_v_6 {f_n n1 z461 : Int} (h0 : f_n = n1) (h1 : z461 < f_n) (h2 : 1 ≤ f_n ∧ f_n ≤ 20) (h3 : 0 ≤ z461 ∧ z461 ≤ 19) : z461 < n1 := by omega
theorem vc_X10_tieBetween_v_7 {N f_n n1 z461 : Int} (h0 : (21 - z461) < N + 1) (h1 : z461 < f_n) (h2 : f_n = n1) (h3 : 1 ≤ f_n ∧ f_n ≤ 20) (h4 : 0 ≤ z461 ∧ z461 ≤ 19) : (21 - (z461 + 1)) < N := by omega
theorem vc_X10_tieBetween_v_8 {f_n n1 z461 : Int} (h0 : z461 < f_n) (h1 : f_n = n1) (h2 : 1 ≤ f_n ∧ f_n ≤ 20) (h3 : 0 ≤ z461 ∧ z461 ≤ 19) : 0 ≤ z461 := by omega
theorem vc_X10_tieBetween_v_9 {n0 p1 p2 z476 : Int} (h0 : z476 < n0) (h1 : ¬ z476 = p1) (h2 : ¬ z476 = p2) (h3 : (-2147483648) ≤ p1 ∧ p1 ≤ 2147483647) (h4 : (-2147483648) ≤ p2 ∧ p2 ≤ 2147483647) (h5 : 0 ≤ z476 ∧ z476 ≤ 9) : ¬ z476 = p1 ∧ ¬ z476 = p2 := by omega
theorem vc_X10_tieBetween_v_11 {n0 p1 p2 z476 z483 : Int} (h0 : z476 < n0) (h1 : ¬ z476 = p1) (h2 : z476 = p2) (h3 : z483 < n0) (h4 : ¬ z483 = p1) (h5 : (-2147483648) ≤ p1 ∧ p1 ≤ 2147483647) (h6 : 0 ≤ p2 ∧ p2 ≤ 9) (h7 : 0 ≤ z476 ∧ z476 ≤ 9) (h8 : 0 ≤ z483 ∧ z483 ≤ 9) : ¬ ((z476 = p1 ∧ z483 = p2) ∨ (z476 = p2 ∧ z483 = p1)) := by omega
theorem vc_X10_tieBetween_v_13 {f_n n1 z461 : Int} (h0 : f_n = n1) (h1 : z461 < f_n) (h2 : 1 ≤ f_n ∧ f_n ≤ 20) (h3 : 0 ≤ z461 ∧ z461 ≤ 19) : 0 ≤ z461 ∧ z461 < f_n := by omega
theorem vc_X10_tieBetween_v_14 {n0 p1 p2 z476 z483 : Int} (h0 : z476 < n0) (h1 : ¬ z476 = p1) (h2 : z476 = p2) (h3 : z483 < n0) (h4 : z483 = p1) (h5 : 0 ≤ p1 ∧ p1 ≤ 9) (h6 : 0 ≤ p2 ∧ p2 ≤ 9) (h7 : 0 ≤ z476 ∧ z476 ≤ 9) (h8 : 0 ≤ z483 ∧ z483 ≤ 9) : (z476 = p1 ∧ z483 = p2) ∨ (z476 = p2 ∧ z483 = p1) := by omega
theorem vc_X10_tieBetween_v_17 {n0 p1 p2 z476 z490 : Int} (h0 : z476 < n0) (h1 : z476 = p1) (h2 : z490 < n0) (h3 : z490 = p2) (h4 : 0 ≤ p1 ∧ p1 ≤ 9) (h5 : 0 ≤ p2 ∧ p2 ≤ 9) (h6 : 0 ≤ z476 ∧ z476 ≤ 9) (h7 : 0 ≤ z490 ∧ z490 ≤ 9) : (z476 = p1 ∧ z490 = p2) ∨ (z476 = p2 ∧ z490 = p1) := by omega
theorem vc_X10_tieBetween_v_18 {n0 p1 p2 z476 z490 : Int} (h0 : z476 < n0) (h1 : z476 = p1) (h2 : z490 < n0) (h3 : ¬ z490 = p2) (h4 : ¬ z476 = p2) (h5 : 0 ≤ p1 ∧ p1 ≤ 9) (h6 : (-2147483648) ≤ p2 ∧ p2 ≤ 2147483647) (h7 : 0 ≤ z476 ∧ z476 ≤ 9) (h8 : 0 ≤ z490 ∧ z490 ≤ 9) : ¬ ((z476 = p1 ∧ z490 = p2) ∨ (z476 = p2 ∧ z490 = p1)) := by omega
theorem vc_X10_tieBetween_v_20 {n0 p1 p2 z476 z490 : Int} (h0 : z476 < n0) (h1 : z476 = p1) (h2 : z490 < n0) (h3 : ¬ z490 = p2) (h4 : z476 = p2) (h5 : ¬ z490 = p1) (h6 : 0 ≤ p1 ∧ p1 ≤ 9) (h7 : 0 ≤ p2 ∧ p2 ≤ 9) (h8 : 0 ≤ z476 ∧ z476 ≤ 9) (h9 : 0 ≤ z490 ∧ z490 ≤ 9) : ¬ ((z476 = p1 ∧ z490 = p2) ∨ (z476 = p2 ∧ z490 = p1)) := by omega
theorem vc_X10_tieBetween_v_21 {n0 p1 p2 z476 z490 : Int} (h0 : z476 < n0) (h1 : z476 = p1) (h2 : z490 < n0) (h3 : ¬ z490 = p2) (h4 : z476 = p2) (h5 : z490 = p1) (h6 : 0 ≤ p1 ∧ p1 ≤ 9) (h7 : 0 ≤ p2 ∧ p2 ≤ 9) (h8 : 0 ≤ z476 ∧ z476 ≤ 9) (h9 : 0 ≤ z490 ∧ z490 ≤ 9) : (z476 = p1 ∧ z490 = p2) ∨ (z476 = p2 ∧ z490 = p1) := by omega
theorem vc_X10_tieBetween_v_23  : ((0 : Int) : Int) ≤ (0 : Int) := by omega
set_option maxRecDepth 4000 in
set_option maxHeartbeats 4000000 in
theorem c_X10_tieBetween_v {l : Launch} {D : va_G} {c : Nat → ClassId} {H0 : Heap} {sa : Nat × Nat × (Nat → Int32)} {w : mW} {μ : mM} (hw : mWF w) (hT : mT w μ) {p1 : Int} (hp1 : (-2147483648) ≤ p1 ∧ p1 ≤ 2147483647) {p2 : Int} (hp2 : (-2147483648) ≤ p2 ∧ p2 ≤ 2147483647) {f_n : Int} (q_f_n : μ 6 16 = f_n) : sC (gG l D c H0 sa) mX10_tieBetween 1 0 0 [.ref 6, iv p1, iv p2] (mk w μ) (qP w μ (fun z => ((-1) ≤ z ∧ z ≤ 19) ∧ (z < w.2.2.2 1) ∧ (fndQ (tc μ 0) (tc μ 1) f_n p1 p2 (-1) z) ∧ True)) := by
  refine sC.of rfl (by decide) (le_t rfl) ?_
  have ht_f_n : (f_n = w.2.2.2 1 ∧ 0 ≤ f_n ∧ f_n ≤ 20) := by rw [← q_f_n]; exact hT 6 6 (A_6 hw) 16
  refine mr_lvE (lv' := [(0, .ref 6), (1, iv p1), (2, iv p2)]) rfl ?_
  refine mr_iconst (pc := 0) (z := 0) dX10_tieBetween_0 ?_
  refine mr_istore_n (pc := 1) (lv' := [(3, iv 0), (0, .ref 6), (1, iv p1), (2, iv p2)]) dX10_tieBetween_1 rfl (by decide) rfl ?_
  have L462 : ∀ (nL462 : Nat) (z461 : Int), True → (0 ≤ z461 ∧ z461 ≤ 20) → noneQ (tc μ 0) (tc μ 1) z461 p1 p2 → (21 - z461) < (nL462 : Int) → sV (gG l D c H0 sa) mX10_tieBetween (sRm 1 0 0) (sZ (gG l D c H0 sa) 0 0 (qP w μ (fun z => ((-1) ≤ z ∧ z ≤ 19) ∧ (z < w.2.2.2 1) ∧ (fndQ (tc μ 0) (tc μ 1) f_n p1 p2 (-1) z) ∧ True))) 2 [(0, .ref 6), (1, iv p1), (2, iv p2), (3, iv z461)] [] (mk w μ) 0 0 := by
    intro nL462
    induction nL462 with
    | zero => intro z461 _ h463 R467 h468; exact ((vc_X12_tieOf_1 h468 h463)).elim
    | succ nL462 ih469 =>
      intro z461 _ h463 R467 h468
      refine mr_iload_n (pc := 2) (z := z461) dX10_tieBetween_2 rfl rfl ?_
      refine sv_aload_n (pc := 3) dX10_tieBetween_3 rfl rfl ?_
      refine gk_X10_16 (pc := 4) dX10_tieBetween_4 wF_X10_72 (A_6 hw) q_f_n ?_
      refine mr_icmp_ge (pc := 7) (tgt := 62) dX10_tieBetween_7 (by decide) (r32 h463 rfl) (r32 ht_f_n.2 rfl) (fun h470 => ?_) (fun h470 => ?_)
      · refine mr_iconst (pc := 62) (z := (-1)) dX10_tieBetween_62 ?_
        exact mr_iretP dX10_tieBetween_63 rfl (le_t rfl) (le_t rfl) ⟨(rW (c := (-1)) (d := 19) (rR (x := (-1))) rfl), (vc_X10_tieBetween_v_2 ht_f_n.1 h470 ht_f_n.2 h463), (fndQ.miss R467 (vc_X10_tieBetween_v_3 ht_f_n.1 h470 ht_f_n.2 h463)), trivial⟩
      have h471 : 0 ≤ z461 ∧ z461 ≤ 19 := (vc_X10_tieBetween_v_4 h470 ht_f_n.1 ht_f_n.2 h463)
      have h472 : 1 ≤ f_n ∧ f_n ≤ 20 := (vc_X10_tieBetween_v_5 h470 ht_f_n.1 ht_f_n.2 h471)
      refine sv_aload_n (pc := 10) dX10_tieBetween_10 rfl rfl ?_
      refine gf_X10_4 (pc := 11) dX10_tieBetween_11 wF_X10_29 (A_6 hw) hT ?_
      refine mr_iload_n (pc := 14) (z := z461) dX10_tieBetween_14 rfl rfl ?_
      refine la_11 (pc := 15) dX10_tieBetween_15 (A_11 hw) hT (rIx (n := 20) h471 rfl) (vc_X10_tieBetween_v_6 ht_f_n.1 h470 h472 h471) fun b473 q474 A475 => ?_
      refine mr_astore (pc := 16) (lv' := [(4, .ref b473), (0, .ref 6), (1, iv p1), (2, iv p2), (3, iv z461)]) dX10_tieBetween_16 (by decide) rfl ?_
      refine sv_aload (pc := 18) dX10_tieBetween_18 rfl ?_
      refine gf_X9_0 (pc := 20) dX10_tieBetween_20 wF_X10_78 A475 hT fun z476 q477 h478 => ?_
      have h479 : 0 ≤ z476 ∧ z476 ≤ 9 := ⟨h478.1, h478.2.1⟩
      refine mr_iload_n (pc := 23) (z := p1) dX10_tieBetween_23 rfl rfl ?_
      refine mr_icmp_ne (pc := 24) (tgt := 36) dX10_tieBetween_24 (by decide) (r32 h479 rfl) hp1 (fun h480 => ?_) (fun h480 => ?_)
      · refine sv_aload (pc := 36) dX10_tieBetween_36 rfl ?_
        refine gk_X9_0 (pc := 38) dX10_tieBetween_38 wF_X10_78 A475 q477 ?_
        refine mr_iload_n (pc := 41) (z := p2) dX10_tieBetween_41 rfl rfl ?_
        refine mr_icmp_ne (pc := 42) (tgt := 56) dX10_tieBetween_42 (by decide) (r32 h479 rfl) hp2 (fun h481 => ?_) (fun h481 => ?_)
        · refine mr_iinc (pc := 56) (lv' := [(3, iv (z461 + 1)), (4, .ref b473), (0, .ref 6), (1, iv p1), (2, iv p2)]) dX10_tieBetween_56 rfl (by decide) rfl ?_
          refine sv_goto (pc := 59) (tgt := 2) dX10_tieBetween_59 (by decide) ?_
          refine mr_lvS (lv' := [(0, .ref 6), (1, iv p1), (2, iv p2), (3, iv (z461 + 1))]) (List.forall_mem_cons.mpr ⟨rfl, List.forall_mem_cons.mpr ⟨rfl, List.forall_mem_cons.mpr ⟨rfl, List.forall_mem_cons.mpr ⟨rfl, fun _ h => absurd h List.not_mem_nil⟩⟩⟩⟩) ?_
          exact ih469 (z461 + 1) trivial (rW (c := 0) (d := 20) (rAdd (e := 1) (f := 20) h471 (rR (x := 1)) rfl) rfl) (noneQ.succ1 R467 (vc_X10_tieBetween_v_8 h470 ht_f_n.1 h472 h471) (tcOf q474 q477) (vc_X10_tieBetween_v_9 h478.2.2 h480 h481 hp1 hp2 h479)) (vc_X10_tieBetween_v_7 (nS h468) h470 ht_f_n.1 h472 h471)
        have h482 : 0 ≤ p2 ∧ p2 ≤ 9 := (vc_X10_tieBetween_7 h481 h478.2.2 h480 hp1 hp2 h479)
        refine sv_aload (pc := 45) dX10_tieBetween_45 rfl ?_
        refine gf_X9_1 (pc := 47) dX10_tieBetween_47 wF_X10_81 A475 hT fun z483 q484 h485 => ?_
        have h486 : 0 ≤ z483 ∧ z483 ≤ 9 := ⟨h485.1, h485.2.1⟩
        refine mr_iload_n (pc := 50) (z := p1) dX10_tieBetween_50 rfl rfl ?_
        refine mr_icmp_ne (pc := 51) (tgt := 56) dX10_tieBetween_51 (by decide) (r32 h486 rfl) hp1 (fun h487 => ?_) (fun h487 => ?_)
        · refine mr_iinc (pc := 56) (lv' := [(3, iv (z461 + 1)), (4, .ref b473), (0, .ref 6), (1, iv p1), (2, iv p2)]) dX10_tieBetween_56 rfl (by decide) rfl ?_
          refine sv_goto (pc := 59) (tgt := 2) dX10_tieBetween_59 (by decide) ?_
          refine mr_lvS (lv' := [(0, .ref 6), (1, iv p1), (2, iv p2), (3, iv (z461 + 1))]) (List.forall_mem_cons.mpr ⟨rfl, List.forall_mem_cons.mpr ⟨rfl, List.forall_mem_cons.mpr ⟨rfl, List.forall_mem_cons.mpr ⟨rfl, fun _ h => absurd h List.not_mem_nil⟩⟩⟩⟩) ?_
          exact ih469 (z461 + 1) trivial (rW (c := 0) (d := 20) (rAdd (e := 1) (f := 20) h471 (rR (x := 1)) rfl) rfl) (noneQ.succ R467 (vc_X10_tieBetween_v_8 h470 ht_f_n.1 h472 h471) (tcOf q474 q477) (tcOf q474 q484) (vc_X10_tieBetween_v_11 h478.2.2 h480 h481 h485.2.2 h487 hp1 h482 h479 h486)) (vc_X10_tieBetween_v_7 (nS h468) h470 ht_f_n.1 h472 h471)
        have h488 : 0 ≤ p1 ∧ p1 ≤ 9 := (vc_X10_tieBetween_8 h487 h480 h485.2.2 hp1 h479 h486)
        refine mr_iload_n (pc := 54) (z := z461) dX10_tieBetween_54 rfl rfl ?_
        exact mr_iretP dX10_tieBetween_55 rfl (le_t rfl) (le_t rfl) ⟨(rW (c := (-1)) (d := 19) h471 rfl), (vc_X10_tieBetween_v_6 ht_f_n.1 h470 h472 h471), (fndQ.hit (vc_X10_tieBetween_v_13 ht_f_n.1 h470 h472 h471) (tcOf q474 q477) (tcOf q474 q484) (vc_X10_tieBetween_v_14 h478.2.2 h480 h481 h485.2.2 h487 h488 h482 h479 h486) R467), trivial⟩
      have h489 : 0 ≤ p1 ∧ p1 ≤ 9 := (vc_X10_tieBetween_9 h480 h478.2.2 hp1 h479)
      refine sv_aload (pc := 27) dX10_tieBetween_27 rfl ?_
      refine gf_X9_1 (pc := 29) dX10_tieBetween_29 wF_X10_81 A475 hT fun z490 q491 h492 => ?_
      have h493 : 0 ≤ z490 ∧ z490 ≤ 9 := ⟨h492.1, h492.2.1⟩
      refine mr_iload_n (pc := 32) (z := p2) dX10_tieBetween_32 rfl rfl ?_
      refine mr_icmp_eq (pc := 33) (tgt := 54) dX10_tieBetween_33 (by decide) (r32 h493 rfl) hp2 (fun h494 => ?_) (fun h494 => ?_)
      · have h495 : 0 ≤ p2 ∧ p2 ≤ 9 := (vc_X10_tieBetween_9 h494 h492.2.2 hp2 h493)
        refine mr_iload_n (pc := 54) (z := z461) dX10_tieBetween_54 rfl rfl ?_
        exact mr_iretP dX10_tieBetween_55 rfl (le_t rfl) (le_t rfl) ⟨(rW (c := (-1)) (d := 19) h471 rfl), (vc_X10_tieBetween_v_6 ht_f_n.1 h470 h472 h471), (fndQ.hit (vc_X10_tieBetween_v_13 ht_f_n.1 h470 h472 h471) (tcOf q474 q477) (tcOf q474 q491) (vc_X10_tieBetween_v_17 h478.2.2 h480 h492.2.2 h494 h489 h495 h479 h493) R467), trivial⟩
      refine sv_aload (pc := 36) dX10_tieBetween_36 rfl ?_
      refine gk_X9_0 (pc := 38) dX10_tieBetween_38 wF_X10_78 A475 q477 ?_
      refine mr_iload_n (pc := 41) (z := p2) dX10_tieBetween_41 rfl rfl ?_
      refine mr_icmp_ne (pc := 42) (tgt := 56) dX10_tieBetween_42 (by decide) (r32 h479 rfl) hp2 (fun h496 => ?_) (fun h496 => ?_)
      · refine mr_iinc (pc := 56) (lv' := [(3, iv (z461 + 1)), (4, .ref b473), (0, .ref 6), (1, iv p1), (2, iv p2)]) dX10_tieBetween_56 rfl (by decide) rfl ?_
        refine sv_goto (pc := 59) (tgt := 2) dX10_tieBetween_59 (by decide) ?_
        refine mr_lvS (lv' := [(0, .ref 6), (1, iv p1), (2, iv p2), (3, iv (z461 + 1))]) (List.forall_mem_cons.mpr ⟨rfl, List.forall_mem_cons.mpr ⟨rfl, List.forall_mem_cons.mpr ⟨rfl, List.forall_mem_cons.mpr ⟨rfl, fun _ h => absurd h List.not_mem_nil⟩⟩⟩⟩) ?_
        exact ih469 (z461 + 1) trivial (rW (c := 0) (d := 20) (rAdd (e := 1) (f := 20) h471 (rR (x := 1)) rfl) rfl) (noneQ.succ R467 (vc_X10_tieBetween_v_8 h470 ht_f_n.1 h472 h471) (tcOf q474 q477) (tcOf q474 q491) (vc_X10_tieBetween_v_18 h478.2.2 h480 h492.2.2 h494 h496 h489 hp2 h479 h493)) (vc_X10_tieBetween_v_7 (nS h468) h470 ht_f_n.1 h472 h471)
      have h497 : 0 ≤ p2 ∧ p2 ≤ 9 := (vc_X10_tieBetween_11 h496 h478.2.2 h480 h494 h489 hp2 h479 h493)
      refine sv_aload (pc := 45) dX10_tieBetween_45 rfl ?_
      refine gk_X9_1 (pc := 47) dX10_tieBetween_47 wF_X10_81 A475 q491 ?_
      refine mr_iload_n (pc := 50) (z := p1) dX10_tieBetween_50 rfl rfl ?_
      refine mr_icmp_ne (pc := 51) (tgt := 56) dX10_tieBetween_51 (by decide) (r32 h493 rfl) (r32 h489 rfl) (fun h498 => ?_) (fun h498 => ?_)
      · refine mr_iinc (pc := 56) (lv' := [(3, iv (z461 + 1)), (4, .ref b473), (0, .ref 6), (1, iv p1), (2, iv p2)]) dX10_tieBetween_56 rfl (by decide) rfl ?_
        refine sv_goto (pc := 59) (tgt := 2) dX10_tieBetween_59 (by decide) ?_
        refine mr_lvS (lv' := [(0, .ref 6), (1, iv p1), (2, iv p2), (3, iv (z461 + 1))]) (List.forall_mem_cons.mpr ⟨rfl, List.forall_mem_cons.mpr ⟨rfl, List.forall_mem_cons.mpr ⟨rfl, List.forall_mem_cons.mpr ⟨rfl, fun _ h => absurd h List.not_mem_nil⟩⟩⟩⟩) ?_
        exact ih469 (z461 + 1) trivial (rW (c := 0) (d := 20) (rAdd (e := 1) (f := 20) h471 (rR (x := 1)) rfl) rfl) (noneQ.succ R467 (vc_X10_tieBetween_v_8 h470 ht_f_n.1 h472 h471) (tcOf q474 q477) (tcOf q474 q491) (vc_X10_tieBetween_v_20 h478.2.2 h480 h492.2.2 h494 h496 h498 h489 h497 h479 h493)) (vc_X10_tieBetween_v_7 (nS h468) h470 ht_f_n.1 h472 h471)
      refine mr_iload_n (pc := 54) (z := z461) dX10_tieBetween_54 rfl rfl ?_
      exact mr_iretP dX10_tieBetween_55 rfl (le_t rfl) (le_t rfl) ⟨(rW (c := (-1)) (d := 19) h471 rfl), (vc_X10_tieBetween_v_6 ht_f_n.1 h470 h472 h471), (fndQ.hit (vc_X10_tieBetween_v_13 ht_f_n.1 h470 h472 h471) (tcOf q474 q477) (tcOf q474 q491) (vc_X10_tieBetween_v_21 h478.2.2 h480 h492.2.2 h494 h496 h498 h489 h497 h479 h493) R467), trivial⟩
  refine mr_lvS (lv' := [(0, .ref 6), (1, iv p1), (2, iv p2), (3, iv 0)]) (List.forall_mem_cons.mpr ⟨rfl, List.forall_mem_cons.mpr ⟨rfl, List.forall_mem_cons.mpr ⟨rfl, List.forall_mem_cons.mpr ⟨rfl, fun _ h => absurd h List.not_mem_nil⟩⟩⟩⟩) ?_
  exact L462 22 0 trivial (rW (c := 0) (d := 20) (rR (x := 0)) rfl) (noneQ.zero vc_X10_tieBetween_v_23) vc_X12_tieOf_12
theorem vc_X12_tieOf_v_3 {f_n z409 : Int} (h0 : f_n ≤ z409) (h1 : 0 ≤ f_n ∧ f_n ≤ 20) (h2 : 0 ≤ z409 ∧ z409 ≤ 20) : f_n ≤ z409 := by omega
theorem vc_X12_tieOf_v_7 {f_n z409 : Int} (h0 : z409 < f_n) (h1 : 1 ≤ f_n ∧ f_n ≤ 20) (h2 : 0 ≤ z409 ∧ z409 ≤ 19) : 0 ≤ z409 := by omega
theorem vc_X12_tieOf_v_8 {f_n z409 : Int} (h0 : z409 < f_n) (h1 : 1 ≤ f_n ∧ f_n ≤ 20) (h2 : 0 ≤ z409 ∧ z409 ≤ 19) : (2 * z409) = 2 * z409 + ((0 : Nat) : Int) := by omega
theorem vc_X12_tieOf_v_9 {p1 p2 z421 : Int} (h0 : ¬ z421 = p1) (h1 : ¬ z421 = p2) (h2 : (-2147483648) ≤ p1 ∧ p1 ≤ 2147483647) (h3 : (-2147483648) ≤ p2 ∧ p2 ≤ 2147483647) (h4 : 0 ≤ z421 ∧ z421 ≤ 9) : ¬ z421 = p1 ∧ ¬ z421 = p2 := by omega
theorem vc_X12_tieOf_v_11 {f_n z409 : Int} (h0 : z409 < f_n) (h1 : 1 ≤ f_n ∧ f_n ≤ 20) (h2 : 0 ≤ z409 ∧ z409 ≤ 19) : ((2 * z409) + 1) = 2 * z409 + ((1 : Nat) : Int) := by omega
theorem vc_X12_tieOf_v_12 {p1 p2 z421 z427 : Int} (h0 : ¬ z421 = p1) (h1 : z421 = p2) (h2 : ¬ z427 = p1) (h3 : (-2147483648) ≤ p1 ∧ p1 ≤ 2147483647) (h4 : 0 ≤ p2 ∧ p2 ≤ 9) (h5 : 0 ≤ z421 ∧ z421 ≤ 9) (h6 : 0 ≤ z427 ∧ z427 ≤ 9) : ¬ ((z421 = p1 ∧ z427 = p2) ∨ (z421 = p2 ∧ z427 = p1)) := by omega
theorem vc_X12_tieOf_v_15 {f_n z409 : Int} (h0 : z409 < f_n) (h1 : 1 ≤ f_n ∧ f_n ≤ 20) (h2 : 0 ≤ z409 ∧ z409 ≤ 19) : 0 ≤ z409 ∧ z409 < f_n := by omega
theorem vc_X12_tieOf_v_16 {p1 p2 z421 z427 : Int} (h0 : ¬ z421 = p1) (h1 : z421 = p2) (h2 : z427 = p1) (h3 : 0 ≤ p1 ∧ p1 ≤ 9) (h4 : 0 ≤ p2 ∧ p2 ≤ 9) (h5 : 0 ≤ z421 ∧ z421 ≤ 9) (h6 : 0 ≤ z427 ∧ z427 ≤ 9) : (z421 = p1 ∧ z427 = p2) ∨ (z421 = p2 ∧ z427 = p1) := by omega
theorem vc_X12_tieOf_v_19 {p1 p2 z421 z433 : Int} (h0 : z421 = p1) (h1 : z433 = p2) (h2 : 0 ≤ p1 ∧ p1 ≤ 9) (h3 : 0 ≤ p2 ∧ p2 ≤ 9) (h4 : 0 ≤ z421 ∧ z421 ≤ 9) (h5 : 0 ≤ z433 ∧ z433 ≤ 9) : (z421 = p1 ∧ z433 = p2) ∨ (z421 = p2 ∧ z433 = p1) := by omega
theorem vc_X12_tieOf_v_20 {p1 p2 z421 z433 : Int} (h0 : z421 = p1) (h1 : ¬ z433 = p2) (h2 : ¬ z421 = p2) (h3 : 0 ≤ p1 ∧ p1 ≤ 9) (h4 : (-2147483648) ≤ p2 ∧ p2 ≤ 2147483647) (h5 : 0 ≤ z421 ∧ z421 ≤ 9) (h6 : 0 ≤ z433 ∧ z433 ≤ 9) : ¬ ((z421 = p1 ∧ z433 = p2) ∨ (z421 = p2 ∧ z433 = p1)) := by omega
theorem vc_X12_tieOf_v_22 {p1 p2 z421 z433 : Int} (h0 : z421 = p1) (h1 : ¬ z433 = p2) (h2 : z421 = p2) (h3 : ¬ z433 = p1) (h4 : 0 ≤ p1 ∧ p1 ≤ 9) (h5 : 0 ≤ p2 ∧ p2 ≤ 9) (h6 : 0 ≤ z421 ∧ z421 ≤ 9) (h7 : 0 ≤ z433 ∧ z433 ≤ 9) : ¬ ((z421 = p1 ∧ z433 = p2) ∨ (z421 = p2 ∧ z433 = p1)) := by omega
theorem vc_X12_tieOf_v_23 {p1 p2 z421 z433 : Int} (h0 : z421 = p1) (h1 : ¬ z433 = p2) (h2 : z421 = p2) (h3 : z433 = p1) (h4 : 0 ≤ p1 ∧ p1 ≤ 9) (h5 : 0 ≤ p2 ∧ p2 ≤ 9) (h6 : 0 ≤ z421 ∧ z421 ≤ 9) (h7 : 0 ≤ z433 ∧ z433 ≤ 9) : (z421 = p1 ∧ z433 = p2) ∨ (z421 = p2 ∧ z433 = p1) := by omega
set_option maxRecDepth 4000 in
set_option maxHeartbeats 4000000 in
theorem c_X12_tieOf_v {l : Launch} {D : va_G} {c : Nat → ClassId} {H0 : Heap} {sa : Nat × Nat × (Nat → Int32)} {w : mW} {μ : mM} (hw : mWF w) (hT : mT w μ) {p1 : Int} (hp1 : (-2147483648) ≤ p1 ∧ p1 ≤ 2147483647) {p2 : Int} (hp2 : (-2147483648) ≤ p2 ∧ p2 ≤ 2147483647) {f_n : Int} (q_f_n : μ 106 6 = f_n) : sC (gG l D c H0 sa) mX12_tieOf 1 0 0 [.ref 106, iv p1, iv p2] (mk w μ) (qP w μ (fun z => ((-99999999) ≤ z ∧ z ≤ 19) ∧ (z = -99999999 ∨ (0 ≤ z ∧ z ≤ 19)) ∧ (fndQ (tr μ 0) (tr μ 1) f_n p1 p2 (-99999999) z) ∧ True)) := by
  refine sC.of rfl (by decide) (le_t rfl) ?_
  have ht_f_n : (0 ≤ f_n ∧ f_n ≤ 20) := by rw [← q_f_n]; exact hT 106 106 (A_106 hw) 6
  refine mr_lvE (lv' := [(0, .ref 106), (1, iv p1), (2, iv p2)]) rfl ?_
  refine mr_iconst (pc := 0) (z := 0) dX12_tieOf_0 ?_
  refine mr_istore_n (pc := 1) (lv' := [(3, iv 0), (0, .ref 106), (1, iv p1), (2, iv p2)]) dX12_tieOf_1 rfl (by decide) rfl ?_
  have L410 : ∀ (nL410 : Nat) (z409 : Int), True → (0 ≤ z409 ∧ z409 ≤ 20) → noneQ (tr μ 0) (tr μ 1) z409 p1 p2 → (21 - z409) < (nL410 : Int) → sV (gG l D c H0 sa) mX12_tieOf (sRm 1 0 0) (sZ (gG l D c H0 sa) 0 0 (qP w μ (fun z => ((-99999999) ≤ z ∧ z ≤ 19) ∧ (z = -99999999 ∨ (0 ≤ z ∧ z ≤ 19)) ∧ (fndQ (tr μ 0) (tr μ 1) f_n p1 p2 (-99999999) z) ∧ True))) 2 [(0, .ref 106), (1, iv p1), (2, iv p2), (3, iv z409)] [] (mk w μ) 0 0 := by
    intro nL410
    induction nL410 with
    | zero => intro z409 _ h411 R415 h416; exact ((vc_X12_tieOf_1 h416 h411)).elim
    | succ nL410 ih417 =>
      intro z409 _ h411 R415 h416
      refine mr_iload_n (pc := 2) (z := z409) dX12_tieOf_2 rfl rfl ?_
      refine sv_aload_n (pc := 3) dX12_tieOf_3 rfl rfl ?_
      refine gk_X12_6 (pc := 4) dX12_tieOf_4 wF_X12_37 (A_106 hw) q_f_n ?_
      refine mr_icmp_ge (pc := 7) (tgt := 70) dX12_tieOf_7 (by decide) (r32 h411 rfl) (r32 ht_f_n rfl) (fun h418 => ?_) (fun h418 => ?_)
      · refine mr_ldc (pc := 70) (z := (-99999999)) dX12_tieOf_70 wG_X12_29 (by decide) ?_
        exact mr_iretP dX12_tieOf_72 rfl (le_t rfl) (le_t rfl) ⟨(rW (c := (-99999999)) (d := 19) (rR (x := (-99999999))) rfl), vc_X12_tieOf_2, (fndQ.miss R415 (vc_X12_tieOf_v_3 h418 ht_f_n h411)), trivial⟩
      have h419 : 0 ≤ z409 ∧ z409 ≤ 19 := (vc_X3_putAttributes_10 h418 ht_f_n h411)
      have h420 : 1 ≤ f_n ∧ f_n ≤ 20 := (vc_X3_putAttributes_11 h418 ht_f_n h419)
      refine sv_aload_n (pc := 10) dX12_tieOf_10 rfl rfl ?_
      refine gf_X12_7 (pc := 11) dX12_tieOf_11 wF_X12_40 (A_106 hw) hT ?_
      refine mr_iconst (pc := 14) (z := 2) dX12_tieOf_14 ?_
      refine mr_iload_n (pc := 15) (z := z409) dX12_tieOf_15 rfl rfl ?_
      refine mr_imul (pc := 16) (x := 2) (y := z409) dX12_tieOf_16 ?_
      refine la_110 (pc := 17) dX12_tieOf_17 (A_110 hw) hT (rIx (n := 40) (rMulL (n := 2) (e := 0) (f := 38) h419 rfl) rfl) fun z421 q422 h423 => ?_
      refine mr_iload_n (pc := 18) (z := p1) dX12_tieOf_18 rfl rfl ?_
      refine mr_icmp_ne (pc := 19) (tgt := 36) dX12_tieOf_19 (by decide) (r32 h423 rfl) hp1 (fun h424 => ?_) (fun h424 => ?_)
      · refine sv_aload_n (pc := 36) dX12_tieOf_36 rfl rfl ?_
        refine gf_X12_7 (pc := 37) dX12_tieOf_37 wF_X12_40 (A_106 hw) hT ?_
        refine mr_iconst (pc := 40) (z := 2) dX12_tieOf_40 ?_
        refine mr_iload_n (pc := 41) (z := z409) dX12_tieOf_41 rfl rfl ?_
        refine mr_imul (pc := 42) (x := 2) (y := z409) dX12_tieOf_42 ?_
        refine lk_110 (pc := 43) dX12_tieOf_43 (A_110 hw) (rIx (n := 40) (rMulL (n := 2) (e := 0) (f := 38) h419 rfl) rfl) q422 ?_
        refine mr_iload_n (pc := 44) (z := p2) dX12_tieOf_44 rfl rfl ?_
        refine mr_icmp_ne (pc := 45) (tgt := 64) dX12_tieOf_45 (by decide) (r32 h423 rfl) hp2 (fun h425 => ?_) (fun h425 => ?_)
        · refine mr_iinc (pc := 64) (lv' := [(3, iv (z409 + 1)), (0, .ref 106), (1, iv p1), (2, iv p2)]) dX12_tieOf_64 rfl (by decide) rfl ?_
          refine sv_goto (pc := 67) (tgt := 2) dX12_tieOf_67 (by decide) ?_
          refine mr_lvS (lv' := [(0, .ref 106), (1, iv p1), (2, iv p2), (3, iv (z409 + 1))]) (List.forall_mem_cons.mpr ⟨rfl, List.forall_mem_cons.mpr ⟨rfl, List.forall_mem_cons.mpr ⟨rfl, List.forall_mem_cons.mpr ⟨rfl, fun _ h => absurd h List.not_mem_nil⟩⟩⟩⟩) ?_
          exact ih417 (z409 + 1) trivial (rW (c := 0) (d := 20) (rAdd (e := 1) (f := 20) h419 (rR (x := 1)) rfl) rfl) (noneQ.succ1 R415 (vc_X12_tieOf_v_7 h418 h420 h419) (trOf 0 q422 (vc_X12_tieOf_v_8 h418 h420 h419) (vc_X12_tieOf_v_7 h418 h420 h419)) (vc_X12_tieOf_v_9 h424 h425 hp1 hp2 h423)) (vc_X3_putAttributes_12 (nS h416) h418 h420 h419)
        have h426 : 0 ≤ p2 ∧ p2 ≤ 9 := (vc_X12_tieOf_6 h425 h424 hp1 hp2 h423)
        refine sv_aload_n (pc := 48) dX12_tieOf_48 rfl rfl ?_
        refine gf_X12_7 (pc := 49) dX12_tieOf_49 wF_X12_40 (A_106 hw) hT ?_
        refine mr_iconst (pc := 52) (z := 2) dX12_tieOf_52 ?_
        refine mr_iload_n (pc := 53) (z := z409) dX12_tieOf_53 rfl rfl ?_
        refine mr_imul (pc := 54) (x := 2) (y := z409) dX12_tieOf_54 ?_
        refine mr_iconst (pc := 55) (z := 1) dX12_tieOf_55 ?_
        refine mr_iadd (pc := 56) (x := (2 * z409)) (y := 1) dX12_tieOf_56 ?_
        refine la_110 (pc := 57) dX12_tieOf_57 (A_110 hw) hT (rIx (n := 40) (rAdd (e := 1) (f := 39) (rMulL (n := 2) (e := 0) (f := 38) h419 rfl) (rR (x := 1)) rfl) rfl) fun z427 q428 h429 => ?_
        refine mr_iload_n (pc := 58) (z := p1) dX12_tieOf_58 rfl rfl ?_
        refine mr_icmp_ne (pc := 59) (tgt := 64) dX12_tieOf_59 (by decide) (r32 h429 rfl) hp1 (fun h430 => ?_) (fun h430 => ?_)
        · refine mr_iinc (pc := 64) (lv' := [(3, iv (z409 + 1)), (0, .ref 106), (1, iv p1), (2, iv p2)]) dX12_tieOf_64 rfl (by decide) rfl ?_
          refine sv_goto (pc := 67) (tgt := 2) dX12_tieOf_67 (by decide) ?_
          refine mr_lvS (lv' := [(0, .ref 106), (1, iv p1), (2, iv p2), (3, iv (z409 + 1))]) (List.forall_mem_cons.mpr ⟨rfl, List.forall_mem_cons.mpr ⟨rfl, List.forall_mem_cons.mpr ⟨rfl, List.forall_mem_cons.mpr ⟨rfl, fun _ h => absurd h List.not_mem_nil⟩⟩⟩⟩) ?_
          exact ih417 (z409 + 1) trivial (rW (c := 0) (d := 20) (rAdd (e := 1) (f := 20) h419 (rR (x := 1)) rfl) rfl) (noneQ.succ R415 (vc_X12_tieOf_v_7 h418 h420 h419) (trOf 0 q422 (vc_X12_tieOf_v_8 h418 h420 h419) (vc_X12_tieOf_v_7 h418 h420 h419)) (trOf 1 q428 (vc_X12_tieOf_v_11 h418 h420 h419) (vc_X12_tieOf_v_7 h418 h420 h419)) (vc_X12_tieOf_v_12 h424 h425 h430 hp1 h426 h423 h429)) (vc_X3_putAttributes_12 (nS h416) h418 h420 h419)
        have h431 : 0 ≤ p1 ∧ p1 ≤ 9 := (vc_X12_tieOf_7 h430 h424 hp1 h423 h429)
        refine mr_iload_n (pc := 62) (z := z409) dX12_tieOf_62 rfl rfl ?_
        exact mr_iretP dX12_tieOf_63 rfl (le_t rfl) (le_t rfl) ⟨(rW (c := (-99999999)) (d := 19) h419 rfl), (vc_X12_tieOf_end_8 h418 h420 h419), (fndQ.hit (vc_X12_tieOf_v_15 h418 h420 h419) (trOf 0 q422 (vc_X12_tieOf_v_8 h418 h420 h419) (vc_X12_tieOf_v_7 h418 h420 h419)) (trOf 1 q428 (vc_X12_tieOf_v_11 h418 h420 h419) (vc_X12_tieOf_v_7 h418 h420 h419)) (vc_X12_tieOf_v_16 h424 h425 h430 h431 h426 h423 h429) R415), trivial⟩
      have h432 : 0 ≤ p1 ∧ p1 ≤ 9 := (vc_X12_tieOf_9 h424 hp1 h423)
      refine sv_aload_n (pc := 22) dX12_tieOf_22 rfl rfl ?_
      refine gf_X12_7 (pc := 23) dX12_tieOf_23 wF_X12_40 (A_106 hw) hT ?_
      refine mr_iconst (pc := 26) (z := 2) dX12_tieOf_26 ?_
      refine mr_iload_n (pc := 27) (z := z409) dX12_tieOf_27 rfl rfl ?_
      refine mr_imul (pc := 28) (x := 2) (y := z409) dX12_tieOf_28 ?_
      refine mr_iconst (pc := 29) (z := 1) dX12_tieOf_29 ?_
      refine mr_iadd (pc := 30) (x := (2 * z409)) (y := 1) dX12_tieOf_30 ?_
      refine la_110 (pc := 31) dX12_tieOf_31 (A_110 hw) hT (rIx (n := 40) (rAdd (e := 1) (f := 39) (rMulL (n := 2) (e := 0) (f := 38) h419 rfl) (rR (x := 1)) rfl) rfl) fun z433 q434 h435 => ?_
      refine mr_iload_n (pc := 32) (z := p2) dX12_tieOf_32 rfl rfl ?_
      refine mr_icmp_eq (pc := 33) (tgt := 62) dX12_tieOf_33 (by decide) (r32 h435 rfl) hp2 (fun h436 => ?_) (fun h436 => ?_)
      · have h437 : 0 ≤ p2 ∧ p2 ≤ 9 := (vc_X12_tieOf_9 h436 hp2 h435)
        refine mr_iload_n (pc := 62) (z := z409) dX12_tieOf_62 rfl rfl ?_
        exact mr_iretP dX12_tieOf_63 rfl (le_t rfl) (le_t rfl) ⟨(rW (c := (-99999999)) (d := 19) h419 rfl), (vc_X12_tieOf_end_8 h418 h420 h419), (fndQ.hit (vc_X12_tieOf_v_15 h418 h420 h419) (trOf 0 q422 (vc_X12_tieOf_v_8 h418 h420 h419) (vc_X12_tieOf_v_7 h418 h420 h419)) (trOf 1 q434 (vc_X12_tieOf_v_11 h418 h420 h419) (vc_X12_tieOf_v_7 h418 h420 h419)) (vc_X12_tieOf_v_19 h424 h436 h432 h437 h423 h435) R415), trivial⟩
      refine sv_aload_n (pc := 36) dX12_tieOf_36 rfl rfl ?_
      refine gf_X12_7 (pc := 37) dX12_tieOf_37 wF_X12_40 (A_106 hw) hT ?_
      refine mr_iconst (pc := 40) (z := 2) dX12_tieOf_40 ?_
      refine mr_iload_n (pc := 41) (z := z409) dX12_tieOf_41 rfl rfl ?_
      refine mr_imul (pc := 42) (x := 2) (y := z409) dX12_tieOf_42 ?_
      refine lk_110 (pc := 43) dX12_tieOf_43 (A_110 hw) (rIx (n := 40) (rMulL (n := 2) (e := 0) (f := 38) h419 rfl) rfl) q422 ?_
      refine mr_iload_n (pc := 44) (z := p2) dX12_tieOf_44 rfl rfl ?_
      refine mr_icmp_ne (pc := 45) (tgt := 64) dX12_tieOf_45 (by decide) (r32 h423 rfl) hp2 (fun h438 => ?_) (fun h438 => ?_)
      · refine mr_iinc (pc := 64) (lv' := [(3, iv (z409 + 1)), (0, .ref 106), (1, iv p1), (2, iv p2)]) dX12_tieOf_64 rfl (by decide) rfl ?_
        refine sv_goto (pc := 67) (tgt := 2) dX12_tieOf_67 (by decide) ?_
        refine mr_lvS (lv' := [(0, .ref 106), (1, iv p1), (2, iv p2), (3, iv (z409 + 1))]) (List.forall_mem_cons.mpr ⟨rfl, List.forall_mem_cons.mpr ⟨rfl, List.forall_mem_cons.mpr ⟨rfl, List.forall_mem_cons.mpr ⟨rfl, fun _ h => absurd h List.not_mem_nil⟩⟩⟩⟩) ?_
        exact ih417 (z409 + 1) trivial (rW (c := 0) (d := 20) (rAdd (e := 1) (f := 20) h419 (rR (x := 1)) rfl) rfl) (noneQ.succ R415 (vc_X12_tieOf_v_7 h418 h420 h419) (trOf 0 q422 (vc_X12_tieOf_v_8 h418 h420 h419) (vc_X12_tieOf_v_7 h418 h420 h419)) (trOf 1 q434 (vc_X12_tieOf_v_11 h418 h420 h419) (vc_X12_tieOf_v_7 h418 h420 h419)) (vc_X12_tieOf_v_20 h424 h436 h438 h432 hp2 h423 h435)) (vc_X3_putAttributes_12 (nS h416) h418 h420 h419)
      have h439 : 0 ≤ p2 ∧ p2 ≤ 9 := (vc_X12_tieOf_11 h438 h424 h436 h432 hp2 h423 h435)
      refine sv_aload_n (pc := 48) dX12_tieOf_48 rfl rfl ?_
      refine gf_X12_7 (pc := 49) dX12_tieOf_49 wF_X12_40 (A_106 hw) hT ?_
      refine mr_iconst (pc := 52) (z := 2) dX12_tieOf_52 ?_
      refine mr_iload_n (pc := 53) (z := z409) dX12_tieOf_53 rfl rfl ?_
      refine mr_imul (pc := 54) (x := 2) (y := z409) dX12_tieOf_54 ?_
      refine mr_iconst (pc := 55) (z := 1) dX12_tieOf_55 ?_
      refine mr_iadd (pc := 56) (x := (2 * z409)) (y := 1) dX12_tieOf_56 ?_
      refine lk_110 (pc := 57) dX12_tieOf_57 (A_110 hw) (rIx (n := 40) (rAdd (e := 1) (f := 39) (rMulL (n := 2) (e := 0) (f := 38) h419 rfl) (rR (x := 1)) rfl) rfl) q434 ?_
      refine mr_iload_n (pc := 58) (z := p1) dX12_tieOf_58 rfl rfl ?_
      refine mr_icmp_ne (pc := 59) (tgt := 64) dX12_tieOf_59 (by decide) (r32 h435 rfl) (r32 h432 rfl) (fun h440 => ?_) (fun h440 => ?_)
      · refine mr_iinc (pc := 64) (lv' := [(3, iv (z409 + 1)), (0, .ref 106), (1, iv p1), (2, iv p2)]) dX12_tieOf_64 rfl (by decide) rfl ?_
        refine sv_goto (pc := 67) (tgt := 2) dX12_tieOf_67 (by decide) ?_
        refine mr_lvS (lv' := [(0, .ref 106), (1, iv p1), (2, iv p2), (3, iv (z409 + 1))]) (List.forall_mem_cons.mpr ⟨rfl, List.forall_mem_cons.mpr ⟨rfl, List.forall_mem_cons.mpr ⟨rfl, List.forall_mem_cons.mpr ⟨rfl, fun _ h => absurd h List.not_mem_nil⟩⟩⟩⟩) ?_
        exact ih417 (z409 + 1) trivial (rW (c := 0) (d := 20) (rAdd (e := 1) (f := 20) h419 (rR (x := 1)) rfl) rfl) (noneQ.succ R415 (vc_X12_tieOf_v_7 h418 h420 h419) (trOf 0 q422 (vc_X12_tieOf_v_8 h418 h420 h419) (vc_X12_tieOf_v_7 h418 h420 h419)) (trOf 1 q434 (vc_X12_tieOf_v_11 h418 h420 h419) (vc_X12_tieOf_v_7 h418 h420 h419)) (vc_X12_tieOf_v_22 h424 h436 h438 h440 h432 h439 h423 h435)) (vc_X3_putAttributes_12 (nS h416) h418 h420 h419)
      refine mr_iload_n (pc := 62) (z := z409) dX12_tieOf_62 rfl rfl ?_
      exact mr_iretP dX12_tieOf_63 rfl (le_t rfl) (le_t rfl) ⟨(rW (c := (-99999999)) (d := 19) h419 rfl), (vc_X12_tieOf_end_8 h418 h420 h419), (fndQ.hit (vc_X12_tieOf_v_15 h418 h420 h419) (trOf 0 q422 (vc_X12_tieOf_v_8 h418 h420 h419) (vc_X12_tieOf_v_7 h418 h420 h419)) (trOf 1 q434 (vc_X12_tieOf_v_11 h418 h420 h419) (vc_X12_tieOf_v_7 h418 h420 h419)) (vc_X12_tieOf_v_23 h424 h436 h438 h440 h432 h439 h423 h435) R415), trivial⟩
  refine mr_lvS (lv' := [(0, .ref 106), (1, iv p1), (2, iv p2), (3, iv 0)]) (List.forall_mem_cons.mpr ⟨rfl, List.forall_mem_cons.mpr ⟨rfl, List.forall_mem_cons.mpr ⟨rfl, List.forall_mem_cons.mpr ⟨rfl, fun _ h => absurd h List.not_mem_nil⟩⟩⟩⟩) ?_
  exact L410 22 0 trivial (rW (c := 0) (d := 20) (rR (x := 0)) rfl) (noneQ.zero vc_X10_tieBetween_v_23) vc_X12_tieOf_12
theorem vc_X12_tie_v_1 {f_dm p1 z250 : Int} (h0 : z250 = 0) (h1 : (z250 = 1 → 0 ≤ p1 ∧ p1 < f_dm)) (h2 : (z250 = 0 → p1 < 0 ∨ f_dm ≤ p1)) (h3 : 0 ≤ f_dm ∧ f_dm ≤ 10) (h4 : (-2147483648) ≤ p1 ∧ p1 ≤ 2147483647) (h5 : 0 ≤ z250 ∧ z250 ≤ 1) : 0 ≤ z250 ∧ z250 ≤ 0 := by omega
theorem vc_X12_tie_v_2 {f_dm p1 z250 : Int} (h0 : (z250 = 1 → 0 ≤ p1 ∧ p1 < f_dm)) (h1 : (z250 = 0 → p1 < 0 ∨ f_dm ≤ p1)) (h2 : z250 = 0) (h3 : 0 ≤ f_dm ∧ f_dm ≤ 10) (h4 : (-2147483648) ≤ p1 ∧ p1 ≤ 2147483647) (h5 : 0 ≤ z250 ∧ z250 ≤ 0) : z250 = 0 := by omega
theorem vc_X12_tie_v_3 {f_dm p1 p2 p3 z250 : Int} (h0 : (z250 = 1 → 0 ≤ p1 ∧ p1 < f_dm)) (h1 : (z250 = 0 → p1 < 0 ∨ f_dm ≤ p1)) (h2 : p1 < 0 ∨ f_dm ≤ p1) (h3 : z250 = 0) (h4 : 0 ≤ f_dm ∧ f_dm ≤ 10) (h5 : (-2147483648) ≤ p1 ∧ p1 ≤ 2147483647) (h6 : (-2147483648) ≤ p2 ∧ p2 ≤ 2147483647) (h7 : (-2147483648) ≤ p3 ∧ p3 ≤ 2147483647) (h8 : 0 ≤ z250 ∧ z250 ≤ 0) : p1 < 0 ∨ f_dm ≤ p1 ∨ p2 < 0 ∨ f_dm ≤ p2 ∨ p1 = p2 ∨ p3 < 0 ∨ 2 < p3 := by omega
theorem vc_X12_tie_v_5 {f_dm p1 z250 : Int} (h0 : ¬ z250 = 0) (h1 : (z250 = 1 → 0 ≤ p1 ∧ p1 < f_dm)) (h2 : (z250 = 0 → p1 < 0 ∨ f_dm ≤ p1)) (h3 : 0 ≤ f_dm ∧ f_dm ≤ 10) (h4 : (-2147483648) ≤ p1 ∧ p1 ≤ 2147483647) (h5 : 0 ≤ z250 ∧ z250 ≤ 1) : 1 ≤ z250 ∧ z250 ≤ 1 := by omega
theorem vc_X12_tie_v_6 {f_dm p1 z250 : Int} (h0 : (z250 = 1 → 0 ≤ p1 ∧ p1 < f_dm)) (h1 : (z250 = 0 → p1 < 0 ∨ f_dm ≤ p1)) (h2 : ¬ z250 = 0) (h3 : 0 ≤ f_dm ∧ f_dm ≤ 10) (h4 : (-2147483648) ≤ p1 ∧ p1 ≤ 2147483647) (h5 : 1 ≤ z250 ∧ z250 ≤ 1) : z250 = 1 := by omega
theorem vc_X12_tie_v_7 {f_dm p1 z250 : Int} (h0 : 0 ≤ p1 ∧ p1 < f_dm) (h1 : (z250 = 1 → 0 ≤ p1 ∧ p1 < f_dm)) (h2 : (z250 = 0 → p1 < 0 ∨ f_dm ≤ p1)) (h3 : 0 ≤ f_dm ∧ f_dm ≤ 10) (h4 : (-2147483648) ≤ p1 ∧ p1 ≤ 2147483647) (h5 : 1 ≤ z250 ∧ z250 ≤ 1) : 0 ≤ p1 ∧ p1 ≤ 9 := by omega
theorem vc_X12_tie_v_9 {f_dm p1 p2 z250 z261 : Int} (h0 : (z261 = 1 → 0 ≤ p2 ∧ p2 < f_dm)) (h1 : (z261 = 0 → p2 < 0 ∨ f_dm ≤ p2)) (h2 : z261 = 0) (h3 : (z250 = 1 → 0 ≤ p1 ∧ p1 < f_dm)) (h4 : (z250 = 0 → p1 < 0 ∨ f_dm ≤ p1)) (h5 : 0 ≤ p1 ∧ p1 < f_dm) (h6 : 0 ≤ f_dm ∧ f_dm ≤ 10) (h7 : 0 ≤ p1 ∧ p1 ≤ 9) (h8 : (-2147483648) ≤ p2 ∧ p2 ≤ 2147483647) (h9 : 1 ≤ z250 ∧ z250 ≤ 1) (h10 : 0 ≤ z261 ∧ z261 ≤ 0) : z261 = 0 := by omega
theorem vc_X12_tie_v_10 {f_dm p1 p2 p3 z250 z261 : Int} (h0 : (z250 = 1 → 0 ≤ p1 ∧ p1 < f_dm)) (h1 : (z250 = 0 → p1 < 0 ∨ f_dm ≤ p1)) (h2 : 0 ≤ p1 ∧ p1 < f_dm) (h3 : (z261 = 1 → 0 ≤ p2 ∧ p2 < f_dm)) (h4 : (z261 = 0 → p2 < 0 ∨ f_dm ≤ p2)) (h5 : p2 < 0 ∨ f_dm ≤ p2) (h6 : ¬ z250 = 0) (h7 : z261 = 0) (h8 : 0 ≤ f_dm ∧ f_dm ≤ 10) (h9 : 0 ≤ p1 ∧ p1 ≤ 9) (h10 : (-2147483648) ≤ p2 ∧ p2 ≤ 2147483647) (h11 : (-2147483648) ≤ p3 ∧ p3 ≤ 2147483647) (h12 : 1 ≤ z250 ∧ z250 ≤ 1) (h13 : 0 ≤ z261 ∧ z261 ≤ 0) : p1 < 0 ∨ f_dm ≤ p1 ∨ p2 < 0 ∨ f_dm ≤ p2 ∨ p1 = p2 ∨ p3 < 0 ∨ 2 < p3 := by omega
theorem vc_X12_tie_v_12 {f_dm p1 p2 z250 z261 : Int} (h0 : (z261 = 1 → 0 ≤ p2 ∧ p2 < f_dm)) (h1 : (z261 = 0 → p2 < 0 ∨ f_dm ≤ p2)) (h2 : ¬ z261 = 0) (h3 : (z250 = 1 → 0 ≤ p1 ∧ p1 < f_dm)) (h4 : (z250 = 0 → p1 < 0 ∨ f_dm ≤ p1)) (h5 : 0 ≤ p1 ∧ p1 < f_dm) (h6 : 0 ≤ f_dm ∧ f_dm ≤ 10) (h7 : 0 ≤ p1 ∧ p1 ≤ 9) (h8 : (-2147483648) ≤ p2 ∧ p2 ≤ 2147483647) (h9 : 1 ≤ z250 ∧ z250 ≤ 1) (h10 : 1 ≤ z261 ∧ z261 ≤ 1) : z261 = 1 := by omega
theorem vc_X12_tie_v_13 {f_dm p1 p2 z250 z261 : Int} (h0 : 0 ≤ p2 ∧ p2 < f_dm) (h1 : (z250 = 1 → 0 ≤ p1 ∧ p1 < f_dm)) (h2 : (z250 = 0 → p1 < 0 ∨ f_dm ≤ p1)) (h3 : 0 ≤ p1 ∧ p1 < f_dm) (h4 : (z261 = 1 → 0 ≤ p2 ∧ p2 < f_dm)) (h5 : (z261 = 0 → p2 < 0 ∨ f_dm ≤ p2)) (h6 : 0 ≤ f_dm ∧ f_dm ≤ 10) (h7 : 0 ≤ p1 ∧ p1 ≤ 9) (h8 : (-2147483648) ≤ p2 ∧ p2 ≤ 2147483647) (h9 : 1 ≤ z250 ∧ z250 ≤ 1) (h10 : 1 ≤ z261 ∧ z261 ≤ 1) : 0 ≤ p2 ∧ p2 ≤ 9 := by omega
theorem vc_X12_tie_v_14 {f_dm p1 p2 p3 z250 z261 : Int} (h0 : (z250 = 1 → 0 ≤ p1 ∧ p1 < f_dm)) (h1 : (z250 = 0 → p1 < 0 ∨ f_dm ≤ p1)) (h2 : 0 ≤ p1 ∧ p1 < f_dm) (h3 : (z261 = 1 → 0 ≤ p2 ∧ p2 < f_dm)) (h4 : (z261 = 0 → p2 < 0 ∨ f_dm ≤ p2)) (h5 : 0 ≤ p2 ∧ p2 < f_dm) (h6 : p1 = p2) (h7 : ¬ z250 = 0) (h8 : ¬ z261 = 0) (h9 : 0 ≤ f_dm ∧ f_dm ≤ 10) (h10 : 0 ≤ p1 ∧ p1 ≤ 9) (h11 : 0 ≤ p2 ∧ p2 ≤ 9) (h12 : (-2147483648) ≤ p3 ∧ p3 ≤ 2147483647) (h13 : 1 ≤ z250 ∧ z250 ≤ 1) (h14 : 1 ≤ z261 ∧ z261 ≤ 1) : p1 < 0 ∨ f_dm ≤ p1 ∨ p2 < 0 ∨ f_dm ≤ p2 ∨ p1 = p2 ∨ p3 < 0 ∨ 2 < p3 := by omega
theorem vc_X12_tie_v_22 {f_t : Int} (h0 : ¬ f_t = 20) (h1 : 0 ≤ f_t ∧ f_t ≤ 19) : f_t ≤ (f_t + 1) := by omega
theorem vc_X12_tie_v_23 {f_t : Int} (h0 : ¬ f_t = 20) (h1 : 0 ≤ f_t ∧ f_t ≤ 19) : (f_t + 1) = f_t + 1 := by omega
theorem vc_X12_tie_v_24 {f_t : Int} (h0 : ¬ f_t = 20) (h1 : 0 ≤ f_t ∧ f_t ≤ 19) : 0 ≤ f_t := by omega
theorem vc_X12_tie_v_25 {z345 : Int} (h0 : 4 ≤ z345) (h1 : 4 ≤ z345 ∧ z345 ≤ 4) : z345 = 4 := by omega
theorem vc_X12_tie_v_26 {f_t : Int} (h0 : ¬ f_t = 20) (h1 : 0 ≤ f_t ∧ f_t ≤ 19) : (2 * f_t).toNat ≠ ((2 * f_t) + 1).toNat := by omega
theorem vc_X12_tie_v_27 {f_dm p1 p2 z250 z261 : Int} (h0 : (z250 = 1 → 0 ≤ p1 ∧ p1 < f_dm)) (h1 : (z250 = 0 → p1 < 0 ∨ f_dm ≤ p1)) (h2 : 0 ≤ p1 ∧ p1 < f_dm) (h3 : (z261 = 1 → 0 ≤ p2 ∧ p2 < f_dm)) (h4 : (z261 = 0 → p2 < 0 ∨ f_dm ≤ p2)) (h5 : 0 ≤ p2 ∧ p2 < f_dm) (h6 : ¬ p1 = p2) (h7 : ¬ z250 = 0) (h8 : ¬ z261 = 0) (h9 : 0 ≤ f_dm ∧ f_dm ≤ 10) (h10 : 0 ≤ p1 ∧ p1 ≤ 9) (h11 : 0 ≤ p2 ∧ p2 ≤ 9) (h12 : 1 ≤ z250 ∧ z250 ≤ 1) (h13 : 1 ≤ z261 ∧ z261 ≤ 1) : p1 < f_dm ∧ p2 < f_dm := by omega
theorem vc_X12_tie_v_28 {f_dm p1 p2 p3 z250 z261 z273 : Int} (h0 : (z250 = 1 → 0 ≤ p1 ∧ p1 < f_dm)) (h1 : (z250 = 0 → p1 < 0 ∨ f_dm ≤ p1)) (h2 : 0 ≤ p1 ∧ p1 < f_dm) (h3 : (z261 = 1 → 0 ≤ p2 ∧ p2 < f_dm)) (h4 : (z261 = 0 → p2 < 0 ∨ f_dm ≤ p2)) (h5 : 0 ≤ p2 ∧ p2 < f_dm) (h6 : ¬ p1 = p2) (h7 : (z273 = 1 → (0 : Int) ≤ p3 ∧ p3 ≤ (2 : Int))) (h8 : (z273 = 0 → p3 < (0 : Int) ∨ (2 : Int) < p3)) (h9 : (0 : Int) ≤ p3 ∧ p3 ≤ (2 : Int)) (h10 : ¬ z250 = 0) (h11 : ¬ z261 = 0) (h12 : ¬ z273 = 0) (h13 : 0 ≤ f_dm ∧ f_dm ≤ 10) (h14 : 0 ≤ p1 ∧ p1 ≤ 9) (h15 : 0 ≤ p2 ∧ p2 ≤ 9) (h16 : 0 ≤ p3 ∧ p3 ≤ 2) (h17 : 1 ≤ z250 ∧ z250 ≤ 1) (h18 : 1 ≤ z261 ∧ z261 ≤ 1) (h19 : 1 ≤ z273 ∧ z273 ≤ 1) : ¬ (p1 < 0 ∨ f_dm ≤ p1 ∨ p2 < 0 ∨ f_dm ≤ p2 ∨ p1 = p2 ∨ p3 < 0 ∨ 2 < p3) := by omega
theorem vc_X12_tie_v_29 {z282 : Int} (h0 : z282 = -99999999 ∨ (0 ≤ z282 ∧ z282 ≤ 19)) (h1 : z282 = (-99999999)) (h2 : (-99999999) ≤ z282 ∧ z282 ≤ (-99999999)) : z282 < 0 := by omega
theorem vc_X12_tie_v_30 {f_t : Int} (h0 : ¬ f_t = 20) (h1 : 0 ≤ f_t ∧ f_t ≤ 19) : f_t < 20 := by omega
theorem vc_X12_tie_v_31 {f_t : Int} (h0 : ¬ f_t = 20) (h1 : 0 ≤ f_t ∧ f_t ≤ 19) : ((f_t + 1) - 1) = f_t := by omega
theorem vc_X12_tie_v_32 {f_t : Int} (h0 : ¬ f_t = 20) (h1 : 0 ≤ f_t ∧ f_t ≤ 19) : 0 ≤ ((f_t + 1) - 1) := by omega
theorem vc_X12_tie_v_33 {f_dm f_t p1 p2 p3 z250 z261 z273 : Int} (h0 : (z250 = 1 → 0 ≤ p1 ∧ p1 < f_dm)) (h1 : (z250 = 0 → p1 < 0 ∨ f_dm ≤ p1)) (h2 : 0 ≤ p1 ∧ p1 < f_dm) (h3 : (z261 = 1 → 0 ≤ p2 ∧ p2 < f_dm)) (h4 : (z261 = 0 → p2 < 0 ∨ f_dm ≤ p2)) (h5 : 0 ≤ p2 ∧ p2 < f_dm) (h6 : ¬ p1 = p2) (h7 : (z273 = 1 → (0 : Int) ≤ p3 ∧ p3 ≤ (2 : Int))) (h8 : (z273 = 0 → p3 < (0 : Int) ∨ (2 : Int) < p3)) (h9 : (0 : Int) ≤ p3 ∧ p3 ≤ (2 : Int)) (h10 : ¬ f_t = 20) (h11 : ¬ z250 = 0) (h12 : ¬ z261 = 0) (h13 : ¬ z273 = 0) (h14 : 0 ≤ f_dm ∧ f_dm ≤ 10) (h15 : 0 ≤ f_t ∧ f_t ≤ 19) (h16 : 0 ≤ p1 ∧ p1 ≤ 9) (h17 : 0 ≤ p2 ∧ p2 ≤ 9) (h18 : 0 ≤ p3 ∧ p3 ≤ 2) (h19 : 1 ≤ z250 ∧ z250 ≤ 1) (h20 : 1 ≤ z261 ∧ z261 ≤ 1) (h21 : 1 ≤ z273 ∧ z273 ≤ 1) : (f_t + 1) = f_t + 1 := by omega
theorem vc_X12_tie_v_34 {f_dm f_t p1 p2 p3 z250 z261 z273 : Int} (h0 : (z250 = 1 → 0 ≤ p1 ∧ p1 < f_dm)) (h1 : (z250 = 0 → p1 < 0 ∨ f_dm ≤ p1)) (h2 : 0 ≤ p1 ∧ p1 < f_dm) (h3 : (z261 = 1 → 0 ≤ p2 ∧ p2 < f_dm)) (h4 : (z261 = 0 → p2 < 0 ∨ f_dm ≤ p2)) (h5 : 0 ≤ p2 ∧ p2 < f_dm) (h6 : ¬ p1 = p2) (h7 : (z273 = 1 → (0 : Int) ≤ p3 ∧ p3 ≤ (2 : Int))) (h8 : (z273 = 0 → p3 < (0 : Int) ∨ (2 : Int) < p3)) (h9 : (0 : Int) ≤ p3 ∧ p3 ≤ (2 : Int)) (h10 : ¬ f_t = 20) (h11 : ¬ z250 = 0) (h12 : ¬ z261 = 0) (h13 : ¬ z273 = 0) (h14 : 0 ≤ f_dm ∧ f_dm ≤ 10) (h15 : 0 ≤ f_t ∧ f_t ≤ 19) (h16 : 0 ≤ p1 ∧ p1 ≤ 9) (h17 : 0 ≤ p2 ∧ p2 ≤ 9) (h18 : 0 ≤ p3 ∧ p3 ≤ 2) (h19 : 1 ≤ z250 ∧ z250 ≤ 1) (h20 : 1 ≤ z261 ∧ z261 ≤ 1) (h21 : 1 ≤ z273 ∧ z273 ≤ 1) : 0 ≤ f_t ∧ (2 * f_t) = 2 * f_t ∧ ((2 * f_t) + 1) = 2 * f_t + 1 ∧ p1 = p1 ∧ p2 = p2 ∧ p3 = p3 := by omega
theorem vc_X12_tie_v_36  : ((-99999999) : Int) = -(99999999 : Int) ∨ ((0 : Int) ≤ ((-99999999) : Int) ∧ ((-99999999) : Int) ≤ (11 : Int)) := by omega
theorem vc_X12_tie_v_37 {z380 : Int} (h0 : 0 ≤ z380 ∧ z380 ≤ 12) : ((-99999999) : Int) = -99999999 ∨ (0 ≤ ((-99999999) : Int) ∧ ((-99999999) : Int) < z380) := by omega
theorem vc_X12_tie_v_39 {f_t z345 : Int} (h0 : ¬ f_t = 20) (h1 : z345 < 4) (h2 : 0 ≤ f_t ∧ f_t ≤ 19) (h3 : 0 ≤ z345 ∧ z345 ≤ 3) : ((4 * f_t) + z345) = 4 * f_t + z345 := by omega
theorem vc_X12_tie_v_40 {f_t z345 : Int} (h0 : ¬ f_t = 20) (h1 : z345 < 4) (h2 : 0 ≤ f_t ∧ f_t ≤ 19) (h3 : 0 ≤ z345 ∧ z345 ≤ 3) : 0 ≤ f_t ∧ 0 ≤ z345 := by omega
theorem vc_X12_tie_v_41  : (((-99999999) : Int) : Int) = -(99999999 : Int) := by omega
theorem vc_X12_tie_v_42 {z345 : Int} (h0 : z345 < 4) (h1 : 0 ≤ z345 ∧ z345 ≤ 3) : (z345 + 1) = z345 + 1 := by omega
theorem vc_X12_tie_v_43 {f_t z345 : Int} (h0 : ¬ f_t = 20) (h1 : z345 < 4) (h2 : 0 ≤ f_t ∧ f_t ≤ 19) (h3 : 0 ≤ z345 ∧ z345 ≤ 3) : 4 * f_t ≤ ((4 * f_t) + z345) ∧ 0 ≤ ((4 * f_t) + z345) := by omega
theorem vc_X12_tie_v_46 {f_t : Int} (h0 : ¬ f_t = 20) (h1 : 0 ≤ f_t ∧ f_t ≤ 19) : 2 * f_t ≤ (2 * f_t) ∧ 0 ≤ (2 * f_t) := by omega
theorem vc_X12_tie_v_47 {f_t : Int} (h0 : ¬ f_t = 20) (h1 : 0 ≤ f_t ∧ f_t ≤ 19) : 2 * f_t ≤ ((2 * f_t) + 1) ∧ 0 ≤ ((2 * f_t) + 1) := by omega
theorem vc_X12_tie_v_48 {f_t : Int} (h0 : ¬ f_t = 20) (h1 : 0 ≤ f_t ∧ f_t ≤ 19) : 1 * f_t ≤ f_t ∧ 0 ≤ f_t := by omega
theorem vc_X12_tie_v_50 {f_t : Int} (h0 : f_t = 20) (h1 : 20 ≤ f_t ∧ f_t ≤ 20) : 20 ≤ f_t := by omega
theorem vc_X12_tie_v_51  : (((-3) : Int) : Int) < (0 : Int) := by omega
theorem vc_X12_tie_v_54  : (((-2) : Int) : Int) < (0 : Int) := by omega
theorem vc_X12_tie_v_57 {f_dm p1 p2 p3 z250 z261 z273 : Int} (h0 : (z250 = 1 → 0 ≤ p1 ∧ p1 < f_dm)) (h1 : (z250 = 0 → p1 < 0 ∨ f_dm ≤ p1)) (h2 : 0 ≤ p1 ∧ p1 < f_dm) (h3 : (z261 = 1 → 0 ≤ p2 ∧ p2 < f_dm)) (h4 : (z261 = 0 → p2 < 0 ∨ f_dm ≤ p2)) (h5 : 0 ≤ p2 ∧ p2 < f_dm) (h6 : ¬ p1 = p2) (h7 : (z273 = 1 → (0 : Int) ≤ p3 ∧ p3 ≤ (2 : Int))) (h8 : (z273 = 0 → p3 < (0 : Int) ∨ (2 : Int) < p3)) (h9 : p3 < (0 : Int) ∨ (2 : Int) < p3) (h10 : ¬ z250 = 0) (h11 : ¬ z261 = 0) (h12 : z273 = 0) (h13 : 0 ≤ f_dm ∧ f_dm ≤ 10) (h14 : 0 ≤ p1 ∧ p1 ≤ 9) (h15 : 0 ≤ p2 ∧ p2 ≤ 9) (h16 : (-2147483648) ≤ p3 ∧ p3 ≤ 2147483647) (h17 : 1 ≤ z250 ∧ z250 ≤ 1) (h18 : 1 ≤ z261 ∧ z261 ≤ 1) (h19 : 0 ≤ z273 ∧ z273 ≤ 0) : p1 < 0 ∨ f_dm ≤ p1 ∨ p2 < 0 ∨ f_dm ≤ p2 ∨ p1 = p2 ∨ p3 < 0 ∨ 2 < p3 := by omega
set_option maxRecDepth 4000 in
set_option maxHeartbeats 4000000 in
theorem c_X12_tie_v {l : Launch} {D : va_G} {c : Nat → ClassId} {H0 : Heap} {sa : Nat × Nat × (Nat → Int32)} {w : mW} {μ : mM} (hw : mWF w) (hT : mT w μ) {p1 : Int} (hp1 : (-2147483648) ≤ p1 ∧ p1 ≤ 2147483647) {p2 : Int} (hp2 : (-2147483648) ≤ p2 ∧ p2 ≤ 2147483647) {p3 : Int} (hp3 : (-2147483648) ≤ p3 ∧ p3 ≤ 2147483647) {f_t : Int} (q_f_t : μ 106 6 = f_t) {f_dm : Int} (q_f_dm : μ 106 5 = f_dm) (hIJC : JC l D c H0 sa μ) (hIRP : RP μ) (hIEP : EP μ) (hIHP : HP μ) (hIUP : UP l D c H0 sa μ) (hITE : TE μ) (hIPK : PK μ) (hIEV : EV μ) : sC (gG l D c H0 sa) mX12_tie 3 0 0 [.ref 106, iv p1, iv p2, iv p3] (mk w μ) (qI w [106006, 110999, 111999, 112999, 113999, 114999, 115999] μ (fun z μ1 => ((-2147483648) ≤ z ∧ z ≤ 2147483647) ∧ JC l D c H0 sa μ1 ∧ RP μ1 ∧ EP μ1 ∧ HP μ1 ∧ UP l D c H0 sa μ1 ∧ TE μ1 ∧ PK μ1 ∧ EV μ1 ∧ (tieA (noneQ (tr μ 0) (tr μ 1) f_t p1 p2) f_dm f_t p1 p2 p3 z) ∧ (tgR μ μ1 p1 p2 p3 z) ∧ True)) := by
  refine sC.of rfl (by decide) (le_t rfl) ?_
  have ht_f_t : (0 ≤ f_t ∧ f_t ≤ 20) := by rw [← q_f_t]; exact hT 106 106 (A_106 hw) 6
  have ht_f_dm : (0 ≤ f_dm ∧ f_dm ≤ 10) := by rw [← q_f_dm]; exact hT 106 106 (A_106 hw) 5
  refine mr_lvE (lv' := [(0, .ref 106), (1, iv p1), (2, iv p2), (3, iv p3)]) rfl ?_
  refine sv_aload_n (pc := 0) dX12_tie_0 rfl rfl ?_
  refine mr_iload_n (pc := 1) (z := p1) dX12_tie_1 rfl rfl ?_
  refine mr_cVP (pc := 2) (c_X12_isDomain hw hT hp1 q_f_dm) (gOk _ _ _ _ _) dX12_tie_2 (tX12_isDomain _ _ _ _ _) ⟨wV_X12_isDomain, wL_X12_isDomain⟩ wM_X12_49 (gCX12 _ _ _ _ _) rfl (A_106 hw) rfl ⟨le_t rfl, le_t rfl⟩ ⟨le_t rfl, le_t rfl⟩ rfl (le_t rfl) fun z250 h249 => ?_
  refine mr_if_eq (pc := 5) (tgt := 30) dX12_tie_5 (by decide) (r32 h249.1 rfl) (fun h251 => ?_) (fun h251 => ?_)
  · have h252 : 0 ≤ z250 ∧ z250 ≤ 0 := (vc_X12_tie_v_1 h251 h249.2.1 h249.2.2.1 ht_f_dm hp1 h249.1)
    have h253 : p1 < 0 ∨ f_dm ≤ p1 := (h249.2.2.1 (vc_X12_tie_v_2 h249.2.1 h249.2.2.1 h251 ht_f_dm hp1 h252))
    refine mr_iconst (pc := 30) (z := (-1)) dX12_tie_30 ?_
    exact mr_iret dX12_tie_31 rfl (le_t rfl) (le_t rfl) hT mF.refl ⟨(rW (c := (-2147483648)) (d := 2147483647) (rR (x := (-1))) rfl), hIJC, hIRP, hIEP, hIHP, hIUP, hITE, hIPK, hIEV, (Or.inl ⟨(by unfold tieB; exact (vc_X12_tie_v_3 h249.2.1 h249.2.2.1 h253 h251 ht_f_dm hp1 hp2 hp3 h252)), rfl⟩), (Or.inr ⟨vc_X12_raise_u_49, rfl⟩), trivial⟩
  have h254 : 1 ≤ z250 ∧ z250 ≤ 1 := (vc_X12_tie_v_5 h251 h249.2.1 h249.2.2.1 ht_f_dm hp1 h249.1)
  have h255 : 0 ≤ p1 ∧ p1 < f_dm := (h249.2.1 (vc_X12_tie_v_6 h249.2.1 h249.2.2.1 h251 ht_f_dm hp1 h254))
  have h256 : 0 ≤ p1 ∧ p1 ≤ 9 := (vc_X12_tie_v_7 h255 h249.2.1 h249.2.2.1 ht_f_dm hp1 h254)
  refine sv_aload_n (pc := 8) dX12_tie_8 rfl rfl ?_
  refine mr_iload_n (pc := 9) (z := p2) dX12_tie_9 rfl rfl ?_
  refine mr_cVP (pc := 10) (c_X12_isDomain hw hT hp2 q_f_dm) (gOk _ _ _ _ _) dX12_tie_10 (tX12_isDomain _ _ _ _ _) ⟨wV_X12_isDomain, wL_X12_isDomain⟩ wM_X12_49 (gCX12 _ _ _ _ _) rfl (A_106 hw) rfl ⟨le_t rfl, le_t rfl⟩ ⟨le_t rfl, le_t rfl⟩ rfl (le_t rfl) fun z261 h260 => ?_
  refine mr_if_eq (pc := 13) (tgt := 30) dX12_tie_13 (by decide) (r32 h260.1 rfl) (fun h262 => ?_) (fun h262 => ?_)
  · have h263 : 0 ≤ z261 ∧ z261 ≤ 0 := (vc_X12_tie_v_1 h262 h260.2.1 h260.2.2.1 ht_f_dm hp2 h260.1)
    have h264 : p2 < 0 ∨ f_dm ≤ p2 := (h260.2.2.1 (vc_X12_tie_v_9 h260.2.1 h260.2.2.1 h262 h249.2.1 h249.2.2.1 h255 ht_f_dm h256 hp2 h254 h263))
    refine mr_iconst (pc := 30) (z := (-1)) dX12_tie_30 ?_
    exact mr_iret dX12_tie_31 rfl (le_t rfl) (le_t rfl) hT mF.refl ⟨(rW (c := (-2147483648)) (d := 2147483647) (rR (x := (-1))) rfl), hIJC, hIRP, hIEP, hIHP, hIUP, hITE, hIPK, hIEV, (Or.inl ⟨(by unfold tieB; exact (vc_X12_tie_v_10 h249.2.1 h249.2.2.1 h255 h260.2.1 h260.2.2.1 h264 h251 h262 ht_f_dm h256 hp2 hp3 h254 h263)), rfl⟩), (Or.inr ⟨vc_X12_raise_u_49, rfl⟩), trivial⟩
  have h265 : 1 ≤ z261 ∧ z261 ≤ 1 := (vc_X12_tie_v_5 h262 h260.2.1 h260.2.2.1 ht_f_dm hp2 h260.1)
  have h266 : 0 ≤ p2 ∧ p2 < f_dm := (h260.2.1 (vc_X12_tie_v_12 h260.2.1 h260.2.2.1 h262 h249.2.1 h249.2.2.1 h255 ht_f_dm h256 hp2 h254 h265))
  have h267 : 0 ≤ p2 ∧ p2 ≤ 9 := (vc_X12_tie_v_13 h266 h249.2.1 h249.2.2.1 h255 h260.2.1 h260.2.2.1 ht_f_dm h256 hp2 h254 h265)
  refine mr_iload_n (pc := 16) (z := p1) dX12_tie_16 rfl rfl ?_
  refine mr_iload_n (pc := 17) (z := p2) dX12_tie_17 rfl rfl ?_
  refine mr_icmp_eq (pc := 18) (tgt := 30) dX12_tie_18 (by decide) (r32 h256 rfl) (r32 h267 rfl) (fun h268 => ?_) (fun h268 => ?_)
  · refine mr_iconst (pc := 30) (z := (-1)) dX12_tie_30 ?_
    exact mr_iret dX12_tie_31 rfl (le_t rfl) (le_t rfl) hT mF.refl ⟨(rW (c := (-2147483648)) (d := 2147483647) (rR (x := (-1))) rfl), hIJC, hIRP, hIEP, hIHP, hIUP, hITE, hIPK, hIEV, (Or.inl ⟨(by unfold tieB; exact (vc_X12_tie_v_14 h249.2.1 h249.2.2.1 h255 h260.2.1 h260.2.2.1 h266 h268 h251 h262 ht_f_dm h256 h267 hp3 h254 h265)), rfl⟩), (Or.inr ⟨vc_X12_raise_u_49, rfl⟩), trivial⟩
  refine mr_iload_n (pc := 21) (z := p3) dX12_tie_21 rfl rfl ?_
  refine mr_iconst (pc := 22) (z := 0) dX12_tie_22 ?_
  refine mr_iconst (pc := 23) (z := 2) dX12_tie_23 ?_
  refine mr_cSP (pc := 24) (c_X12_in hw hT hp3 (rW (c := (-2147483648)) (d := 2147483647) (rR (x := 0)) rfl) (rW (c := (-2147483648)) (d := 2147483647) (rR (x := 2)) rfl)) (gOk _ _ _ _ _) dX12_tie_24 (tX12_in _ _ _ _ _) wS_X12_in wM_X12_18 ⟨le_t rfl, le_t rfl⟩ ⟨le_t rfl, le_t rfl⟩ rfl (le_t rfl) fun z273 h272 => ?_
  refine mr_if_ne (pc := 27) (tgt := 32) dX12_tie_27 (by decide) (r32 h272.1 rfl) (fun h274 => ?_) (fun h274 => ?_)
  · have h275 : 1 ≤ z273 ∧ z273 ≤ 1 := (vc_X12_units_1 h274 h272.2.1 h272.2.2.1 hp3 h272.1)
    have h276 : (0 : Int) ≤ p3 ∧ p3 ≤ (2 : Int) := (h272.2.1 (vc_X12_units_2 h272.2.1 h272.2.2.1 h274 hp3 h275))
    have h277 : 0 ≤ p3 ∧ p3 ≤ 2 := (vc_X12_units_3 h276 h272.2.1 h272.2.2.1 hp3 h275)
    refine sv_aload_n (pc := 32) dX12_tie_32 rfl rfl ?_
    refine mr_iload_n (pc := 33) (z := p1) dX12_tie_33 rfl rfl ?_
    refine mr_iload_n (pc := 34) (z := p2) dX12_tie_34 rfl rfl ?_
    refine mr_cVP (pc := 35) (c_X12_tieOf_v hw hT (rW (c := (-2147483648)) (d := 2147483647) h256 rfl) (rW (c := (-2147483648)) (d := 2147483647) h267 rfl) q_f_t) (gOk _ _ _ _ _) dX12_tie_35 (tX12_tieOf _ _ _ _ _) ⟨wV_X12_tieOf, wL_X12_tieOf⟩ wM_X12_43 (gCX12 _ _ _ _ _) rfl (A_106 hw) rfl ⟨le_t rfl, le_t rfl⟩ ⟨le_t rfl, le_t rfl⟩ rfl (le_t rfl) fun z282 h281 => ?_
    refine mr_ldc (pc := 38) (z := (-99999999)) dX12_tie_38 wG_X12_29 (by decide) ?_
    refine mr_icmp_eq (pc := 40) (tgt := 46) dX12_tie_40 (by decide) (r32 h281.1 rfl) (r32 (rR (x := (-99999999))) rfl) (fun h283 => ?_) (fun h283 => ?_)
    · have h284 : (-99999999) ≤ z282 ∧ z282 ≤ (-99999999) := (vc_X12_provides_1 h283 h281.2.1 h281.1)
      refine sv_aload_n (pc := 46) dX12_tie_46 rfl rfl ?_
      refine gk_X12_6 (pc := 47) dX12_tie_47 wF_X12_37 (A_106 hw) q_f_t ?_
      refine mr_bipush (pc := 50) (z := 20) dX12_tie_50 (by decide) ?_
      refine mr_icmp_ne (pc := 52) (tgt := 58) dX12_tie_52 (by decide) (r32 ht_f_t rfl) (r32 (rR (x := 20)) rfl) (fun h285 => ?_) (fun h285 => ?_)
      · have h286 : 0 ≤ f_t ∧ f_t ≤ 19 := (vc_X12_walk_5 h285 ht_f_t)
        refine sv_aload_n (pc := 58) dX12_tie_58 rfl rfl ?_
        refine gf_X12_7 (pc := 59) dX12_tie_59 wF_X12_40 (A_106 hw) hT ?_
        refine mr_iconst (pc := 62) (z := 2) dX12_tie_62 ?_
        refine sv_aload_n (pc := 63) dX12_tie_63 rfl rfl ?_
        refine gk_X12_6 (pc := 64) dX12_tie_64 wF_X12_37 (A_106 hw) q_f_t ?_
        refine mr_imul (pc := 67) (x := 2) (y := f_t) dX12_tie_67 ?_
        refine mr_iload_n (pc := 68) (z := p1) dX12_tie_68 rfl rfl ?_
        refine ss_110 (pc := 69) dX12_tie_69 (A_110 hw) hT (rIx (n := 40) (rMulL (n := 2) (e := 0) (f := 38) h286 rfl) rfl) h256 fun μ287 u288 T289 => ?_
        refine sv_aload_n (pc := 70) dX12_tie_70 rfl rfl ?_
        refine gf_X12_7 (pc := 71) dX12_tie_71 wF_X12_40 (A_106 hw) T289 ?_
        refine mr_iconst (pc := 74) (z := 2) dX12_tie_74 ?_
        refine sv_aload_n (pc := 75) dX12_tie_75 rfl rfl ?_
        refine gk_X12_6 (pc := 76) dX12_tie_76 wF_X12_37 (A_106 hw) (u288.f (Or.inl (mAt.ne (A_110 hw) (A_106 hw) rfl)) q_f_t) ?_
        refine mr_imul (pc := 79) (x := 2) (y := f_t) dX12_tie_79 ?_
        refine mr_iconst (pc := 80) (z := 1) dX12_tie_80 ?_
        refine mr_iadd (pc := 81) (x := (2 * f_t)) (y := 1) dX12_tie_81 ?_
        refine mr_iload_n (pc := 82) (z := p2) dX12_tie_82 rfl rfl ?_
        refine ss_110 (pc := 83) dX12_tie_83 (A_110 hw) T289 (rIx (n := 40) (rAdd (e := 1) (f := 39) (rMulL (n := 2) (e := 0) (f := 38) h286 rfl) (rR (x := 1)) rfl) rfl) h267 fun μ290 u291 T292 => ?_
        refine sv_aload_n (pc := 84) dX12_tie_84 rfl rfl ?_
        refine gf_X12_8 (pc := 85) dX12_tie_85 wF_X12_46 (A_106 hw) T292 ?_
        refine sv_aload_n (pc := 88) dX12_tie_88 rfl rfl ?_
        refine gk_X12_6 (pc := 89) dX12_tie_89 wF_X12_37 (A_106 hw) (u291.f (Or.inl (mAt.ne (A_110 hw) (A_106 hw) rfl)) (u288.f (Or.inl (mAt.ne (A_110 hw) (A_106 hw) rfl)) q_f_t)) ?_
        refine mr_iload_n (pc := 92) (z := p3) dX12_tie_92 rfl rfl ?_
        refine ss_111 (pc := 93) dX12_tie_93 (A_111 hw) T292 (rIx (n := 20) h286 rfl) h277 fun μ293 u294 T295 => ?_
        refine sv_aload_n (pc := 94) dX12_tie_94 rfl rfl ?_
        refine gf_X12_9 (pc := 95) dX12_tie_95 wF_X12_53 (A_106 hw) T295 ?_
        refine sv_aload_n (pc := 98) dX12_tie_98 rfl rfl ?_
        refine gk_X12_6 (pc := 99) dX12_tie_99 wF_X12_37 (A_106 hw) (u294.f (Or.inl (mAt.ne (A_111 hw) (A_106 hw) rfl)) (u291.f (Or.inl (mAt.ne (A_110 hw) (A_106 hw) rfl)) (u288.f (Or.inl (mAt.ne (A_110 hw) (A_106 hw) rfl)) q_f_t))) ?_
        refine mr_iconst (pc := 102) (z := 1) dX12_tie_102 ?_
        refine ss_112 (pc := 103) dX12_tie_103 (A_112 hw) T295 (rIx (n := 20) h286 rfl) (rW (c := 0) (d := 1) (rR (x := 1)) rfl) fun μ296 u297 T298 => ?_
        refine sv_aload_n (pc := 104) dX12_tie_104 rfl rfl ?_
        refine gf_X12_10 (pc := 105) dX12_tie_105 wF_X12_57 (A_106 hw) T298 ?_
        refine sv_aload_n (pc := 108) dX12_tie_108 rfl rfl ?_
        refine gk_X12_6 (pc := 109) dX12_tie_109 wF_X12_37 (A_106 hw) (u297.f (Or.inl (mAt.ne (A_112 hw) (A_106 hw) rfl)) (u294.f (Or.inl (mAt.ne (A_111 hw) (A_106 hw) rfl)) (u291.f (Or.inl (mAt.ne (A_110 hw) (A_106 hw) rfl)) (u288.f (Or.inl (mAt.ne (A_110 hw) (A_106 hw) rfl)) q_f_t)))) ?_
        refine mr_iconst (pc := 112) (z := 1) dX12_tie_112 ?_
        refine ss_113 (pc := 113) dX12_tie_113 (A_113 hw) T298 (rIx (n := 20) h286 rfl) (rW (c := 0) (d := 1000) (rR (x := 1)) rfl) fun μ299 u300 T301 => ?_
        refine sv_aload_n (pc := 114) dX12_tie_114 rfl rfl ?_
        refine gf_X12_11 (pc := 115) dX12_tie_115 wF_X12_60 (A_106 hw) T301 ?_
        refine sv_aload_n (pc := 118) dX12_tie_118 rfl rfl ?_
        refine gk_X12_6 (pc := 119) dX12_tie_119 wF_X12_37 (A_106 hw) (u300.f (Or.inl (mAt.ne (A_113 hw) (A_106 hw) rfl)) (u297.f (Or.inl (mAt.ne (A_112 hw) (A_106 hw) rfl)) (u294.f (Or.inl (mAt.ne (A_111 hw) (A_106 hw) rfl)) (u291.f (Or.inl (mAt.ne (A_110 hw) (A_106 hw) rfl)) (u288.f (Or.inl (mAt.ne (A_110 hw) (A_106 hw) rfl)) q_f_t))))) ?_
        refine mr_iconst (pc := 122) (z := 0) dX12_tie_122 ?_
        refine ss_114 (pc := 123) dX12_tie_123 (A_114 hw) T301 (rIx (n := 20) h286 rfl) (rW (c := 0) (d := 1000) (rR (x := 0)) rfl) fun μ302 u303 T304 => ?_
        refine mr_iconst (pc := 124) (z := 0) dX12_tie_124 ?_
        refine mr_istore (pc := 125) (lv' := [(4, iv 0), (0, .ref 106), (1, iv p1), (2, iv p2), (3, iv p3)]) dX12_tie_125 (by decide) rfl ?_
        have L347 : ∀ (nL347 : Nat) (z345 : Int) (μ346 : mM), mT w μ346 → mF [115999] w μ302 μ346 → (0 ≤ z345 ∧ z345 ≤ 4) → JC l D c H0 sa μ346 → RP μ346 → PK μ346 → EV μ346 → pnT μ346 f_t z345 → TI μ μ346 f_t → (5 - z345) < (nL347 : Int) → sV (gG l D c H0 sa) mX12_tie (sRm 3 0 0) (sZ (gG l D c H0 sa) 0 0 (qI w [106006, 110999, 111999, 112999, 113999, 114999, 115999] μ (fun z μ1 => ((-2147483648) ≤ z ∧ z ≤ 2147483647) ∧ JC l D c H0 sa μ1 ∧ RP μ1 ∧ EP μ1 ∧ HP μ1 ∧ UP l D c H0 sa μ1 ∧ TE μ1 ∧ PK μ1 ∧ EV μ1 ∧ (tieA (noneQ (tr μ 0) (tr μ 1) f_t p1 p2) f_dm f_t p1 p2 p3 z) ∧ (tgR μ μ1 p1 p2 p3 z) ∧ True))) 127 [(0, .ref 106), (4, iv z345)] [] (mk w μ346) 0 0 := by
          intro nL347
          induction nL347 with
          | zero => intro z345 μ346 T349 F350 h348 I352 I353 I354 I355 R356 R357 h358; exact ((vc_X3_putPrefix_2 h358 h348)).elim
          | succ nL347 ih359 =>
            intro z345 μ346 T349 F350 h348 I352 I353 I354 I355 R356 R357 h358
            refine mr_iload (pc := 127) (z := z345) dX12_tie_127 rfl ?_
            refine mr_iconst (pc := 129) (z := 4) dX12_tie_129 ?_
            refine mr_icmp_ge (pc := 130) (tgt := 155) dX12_tie_130 (by decide) (r32 h348 rfl) (r32 (rR (x := 4)) rfl) (fun h365 => ?_) (fun h365 => ?_)
            · have h366 : 4 ≤ z345 ∧ z345 ≤ 4 := (vc_X12_message_v_2 h365 h348)
              refine sv_aload_n (pc := 155) dX12_tie_155 rfl rfl ?_
              refine sv_dup (pc := 156) dX12_tie_156 rfl ?_
              refine gk_X12_6 (pc := 157) dX12_tie_157 wF_X12_37 (A_106 hw) (F350.f (A_106 hw) rfl (u303.f (Or.inl (mAt.ne (A_114 hw) (A_106 hw) rfl)) (u300.f (Or.inl (mAt.ne (A_113 hw) (A_106 hw) rfl)) (u297.f (Or.inl (mAt.ne (A_112 hw) (A_106 hw) rfl)) (u294.f (Or.inl (mAt.ne (A_111 hw) (A_106 hw) rfl)) (u291.f (Or.inl (mAt.ne (A_110 hw) (A_106 hw) rfl)) (u288.f (Or.inl (mAt.ne (A_110 hw) (A_106 hw) rfl)) q_f_t))))))) ?_
              refine mr_iconst (pc := 160) (z := 1) dX12_tie_160 ?_
              refine mr_iadd (pc := 161) (x := f_t) (y := 1) dX12_tie_161 ?_
              refine pf_X12_6 (pc := 162) dX12_tie_162 wF_X12_37 (A_106 hw) T349 (rW (c := 0) (d := 20) (rAdd (e := 1) (f := 20) h286 (rR (x := 1)) rfl) rfl) fun μ367 u368 T369 => ?_
              have I370 : EV μ367 := EV.grow I355 (F350.f (A_106 hw) rfl (u303.f (Or.inl (mAt.ne (A_114 hw) (A_106 hw) rfl)) (u300.f (Or.inl (mAt.ne (A_113 hw) (A_106 hw) rfl)) (u297.f (Or.inl (mAt.ne (A_112 hw) (A_106 hw) rfl)) (u294.f (Or.inl (mAt.ne (A_111 hw) (A_106 hw) rfl)) (u291.f (Or.inl (mAt.ne (A_110 hw) (A_106 hw) rfl)) (u288.f (Or.inl (mAt.ne (A_110 hw) (A_106 hw) rfl)) q_f_t))))))) u368 (vc_X12_tie_v_22 h285 h286)
              have I371 : PK μ367 := PK.grow I354 (F350.f (A_106 hw) rfl (u303.f (Or.inl (mAt.ne (A_114 hw) (A_106 hw) rfl)) (u300.f (Or.inl (mAt.ne (A_113 hw) (A_106 hw) rfl)) (u297.f (Or.inl (mAt.ne (A_112 hw) (A_106 hw) rfl)) (u294.f (Or.inl (mAt.ne (A_111 hw) (A_106 hw) rfl)) (u291.f (Or.inl (mAt.ne (A_110 hw) (A_106 hw) rfl)) (u288.f (Or.inl (mAt.ne (A_110 hw) (A_106 hw) rfl)) q_f_t))))))) u368 (vc_X12_tie_v_23 h285 h286) (vc_X12_tie_v_24 h285 h286) R356 (vc_X12_tie_v_25 h365 h366)
              have I372 : HP μ367 := TI.hp hIHP R357 q_f_t u368 (vc_X12_tie_v_23 h285 h286)
              have I373 : EP μ367 := TI.ep hIEP hIEV R357 q_f_t u368
              have I374 : TE μ367 := TI.te hITE R357 q_f_t (vc_X12_tie_v_24 h285 h286) u368 (vc_X12_tie_v_23 h285 h286) (u368.f (Or.inl (mAt.ne (A_106 hw) (A_110 hw) rfl)) (F350.f (A_110 hw) rfl (u303.f (Or.inl (mAt.ne (A_114 hw) (A_110 hw) rfl)) (u300.f (Or.inl (mAt.ne (A_113 hw) (A_110 hw) rfl)) (u297.f (Or.inl (mAt.ne (A_112 hw) (A_110 hw) rfl)) (u294.f (Or.inl (mAt.ne (A_111 hw) (A_110 hw) rfl)) (u291.f (Or.inr (vc_X12_tie_v_26 h285 h286)) u288.1))))))) (u368.f (Or.inl (mAt.ne (A_106 hw) (A_110 hw) rfl)) (F350.f (A_110 hw) rfl (u303.f (Or.inl (mAt.ne (A_114 hw) (A_110 hw) rfl)) (u300.f (Or.inl (mAt.ne (A_113 hw) (A_110 hw) rfl)) (u297.f (Or.inl (mAt.ne (A_112 hw) (A_110 hw) rfl)) (u294.f (Or.inl (mAt.ne (A_111 hw) (A_110 hw) rfl)) u291.1)))))) (u368.f (Or.inr (by decide)) (F350.f (A_106 hw) rfl (u303.f (Or.inl (mAt.ne (A_114 hw) (A_106 hw) rfl)) (u300.f (Or.inl (mAt.ne (A_113 hw) (A_106 hw) rfl)) (u297.f (Or.inl (mAt.ne (A_112 hw) (A_106 hw) rfl)) (u294.f (Or.inl (mAt.ne (A_111 hw) (A_106 hw) rfl)) (u291.f (Or.inl (mAt.ne (A_110 hw) (A_106 hw) rfl)) (u288.f (Or.inl (mAt.ne (A_110 hw) (A_106 hw) rfl)) q_f_dm)))))))) (vc_X12_tie_v_27 h249.2.1 h249.2.2.1 h255 h260.2.1 h260.2.2.1 h266 h268 h251 h262 ht_f_dm h256 h267 h254 h265)
              have I375 : UP l D c H0 sa μ367 := TI.upx hIUP hIHP R357 hw T369 I371 q_f_t (vc_X12_tie_v_24 h285 h286) u368 (vc_X12_tie_v_23 h285 h286)
              refine sv_aload_n (pc := 165) dX12_tie_165 rfl rfl ?_
              refine gk_X12_6 (pc := 166) dX12_tie_166 wF_X12_37 (A_106 hw) u368.1 ?_
              refine mr_iconst (pc := 169) (z := 1) dX12_tie_169 ?_
              refine mr_isub (pc := 170) (x := (f_t + 1)) (y := 1) dX12_tie_170 ?_
              exact mr_iret dX12_tie_171 rfl (le_t rfl) (le_t rfl) T369 (mF.up (mF.call (mF.up (mF.up (mF.up (mF.up (mF.up (mF.up mF.refl (A_110 hw) u288 rfl) (A_110 hw) u291 rfl) (A_111 hw) u294 rfl) (A_112 hw) u297 rfl) (A_113 hw) u300 rfl) (A_114 hw) u303 rfl) F350 rfl) (A_106 hw) u368 rfl) ⟨(rW (c := (-2147483648)) (d := 2147483647) (rSub (e := 0) (f := 19) (rAdd (e := 1) (f := 20) h286 (rR (x := 1)) rfl) (rR (x := 1)) rfl) rfl), (JC.keepJ I352 hw ((mF.up mF.refl (A_106 hw) u368 rfl) : mF [106006] w μ346 μ367) rfl), (RP.keep I353 hw ((mF.up mF.refl (A_106 hw) u368 rfl) : mF [106006] w μ346 μ367) rfl ((mG.upO mG.refl u368 rfl) : mG [] μ346 μ367) (fun _ h => absurd h List.not_mem_nil)), I373, I372, I375, I374, I371, I370, (Or.inr ⟨(by unfold tieB; exact (vc_X12_tie_v_28 h249.2.1 h249.2.2.1 h255 h260.2.1 h260.2.2.1 h266 h268 h272.2.1 h272.2.2.1 h276 h251 h262 h274 ht_f_dm h256 h267 h277 h254 h265 h275)), Or.inr ⟨((h281.2.2.1).not (by decide) (vc_X12_tie_v_29 h281.2.1 h283 h284)), Or.inr ⟨(vc_X12_tie_v_30 h285 h286), (vc_X12_tie_v_31 h285 h286)⟩⟩⟩), (tgR.add q_f_t (vc_X12_tie_v_32 h285 h286) u368.1 (vc_X12_tie_v_33 h249.2.1 h249.2.2.1 h255 h260.2.1 h260.2.2.1 h266 h268 h272.2.1 h272.2.2.1 h276 h285 h251 h262 h274 ht_f_dm h286 h256 h267 h277 h254 h265 h275) (u368.f (Or.inl (mAt.ne (A_106 hw) (A_110 hw) rfl)) (F350.f (A_110 hw) rfl (u303.f (Or.inl (mAt.ne (A_114 hw) (A_110 hw) rfl)) (u300.f (Or.inl (mAt.ne (A_113 hw) (A_110 hw) rfl)) (u297.f (Or.inl (mAt.ne (A_112 hw) (A_110 hw) rfl)) (u294.f (Or.inl (mAt.ne (A_111 hw) (A_110 hw) rfl)) (u291.f (Or.inr (vc_X12_tie_v_26 h285 h286)) u288.1))))))) (u368.f (Or.inl (mAt.ne (A_106 hw) (A_110 hw) rfl)) (F350.f (A_110 hw) rfl (u303.f (Or.inl (mAt.ne (A_114 hw) (A_110 hw) rfl)) (u300.f (Or.inl (mAt.ne (A_113 hw) (A_110 hw) rfl)) (u297.f (Or.inl (mAt.ne (A_112 hw) (A_110 hw) rfl)) (u294.f (Or.inl (mAt.ne (A_111 hw) (A_110 hw) rfl)) u291.1)))))) (u368.f (Or.inl (mAt.ne (A_106 hw) (A_111 hw) rfl)) (F350.f (A_111 hw) rfl (u303.f (Or.inl (mAt.ne (A_114 hw) (A_111 hw) rfl)) (u300.f (Or.inl (mAt.ne (A_113 hw) (A_111 hw) rfl)) (u297.f (Or.inl (mAt.ne (A_112 hw) (A_111 hw) rfl)) u294.1))))) (vc_X12_tie_v_34 h249.2.1 h249.2.2.1 h255 h260.2.1 h260.2.2.1 h266 h268 h272.2.1 h272.2.2.1 h276 h285 h251 h262 h274 ht_f_dm h286 h256 h267 h277 h254 h265 h275) (TI.trS R357 u368)), trivial⟩
            have h376 : 0 ≤ z345 ∧ z345 ≤ 3 := (vc_X12_message_v_87 h365 h348)
            refine sv_aload_n (pc := 133) dX12_tie_133 rfl rfl ?_
            refine gf_X12_12 (pc := 134) dX12_tie_134 wF_X12_63 (A_106 hw) T349 ?_
            refine mr_iconst (pc := 137) (z := 4) dX12_tie_137 ?_
            refine sv_aload_n (pc := 138) dX12_tie_138 rfl rfl ?_
            refine gk_X12_6 (pc := 139) dX12_tie_139 wF_X12_37 (A_106 hw) (F350.f (A_106 hw) rfl (u303.f (Or.inl (mAt.ne (A_114 hw) (A_106 hw) rfl)) (u300.f (Or.inl (mAt.ne (A_113 hw) (A_106 hw) rfl)) (u297.f (Or.inl (mAt.ne (A_112 hw) (A_106 hw) rfl)) (u294.f (Or.inl (mAt.ne (A_111 hw) (A_106 hw) rfl)) (u291.f (Or.inl (mAt.ne (A_110 hw) (A_106 hw) rfl)) (u288.f (Or.inl (mAt.ne (A_110 hw) (A_106 hw) rfl)) q_f_t))))))) ?_
            refine mr_imul (pc := 142) (x := 4) (y := f_t) dX12_tie_142 ?_
            refine mr_iload (pc := 143) (z := z345) dX12_tie_143 rfl ?_
            refine mr_iadd (pc := 145) (x := (4 * f_t)) (y := z345) dX12_tie_145 ?_
            refine mr_ldc (pc := 146) (z := (-99999999)) dX12_tie_146 wG_X12_29 (by decide) ?_
            refine ss_115 (pc := 148) dX12_tie_148 (A_115 hw) T349 (rIx (n := 80) (rAdd (e := 0) (f := 79) (rMulL (n := 4) (e := 0) (f := 76) h286 rfl) h376 rfl) rfl) vc_X12_tie_v_36 fun μ377 u378 T379 => ?_
            obtain ⟨z380, q381⟩ : ∃ z, μ377 106 39 = z := ⟨_, rfl⟩
            have h382 : (0 ≤ z380 ∧ z380 ≤ 12) := by rw [← q381]; exact T379 106 106 (A_106 hw) 39
            have I383 : PK μ377 := PK.use I354 u378 (u378.2 106 39 (Or.inl (by decide)) ▸ q381) (vc_X12_tie_v_37 h382)
            refine mr_iinc (pc := 149) (lv' := [(4, iv (z345 + 1)), (0, .ref 106)]) dX12_tie_149 rfl (by decide) rfl ?_
            refine sv_goto (pc := 152) (tgt := 127) dX12_tie_152 (by decide) ?_
            refine mr_lvS (lv' := [(0, .ref 106), (4, iv (z345 + 1))]) (List.forall_mem_cons.mpr ⟨rfl, List.forall_mem_cons.mpr ⟨rfl, fun _ h => absurd h List.not_mem_nil⟩⟩) ?_
            exact ih359 (z345 + 1) μ377 T379 (mF.up (mF.call mF.refl F350 rfl) (A_115 hw) u378 rfl) (rW (c := 0) (d := 4) (rAdd (e := 1) (f := 4) h376 (rR (x := 1)) rfl) rfl) (JC.keepJ I352 hw ((mF.up mF.refl (A_115 hw) u378 rfl) : mF [115999] w μ346 μ377) rfl) (RP.keep I353 hw ((mF.up mF.refl (A_115 hw) u378 rfl) : mF [115999] w μ346 μ377) rfl ((mG.upO mG.refl u378 rfl) : mG [] μ346 μ377) (fun _ h => absurd h List.not_mem_nil)) I383 (EV.keep I355 hw ((mF.up mF.refl (A_115 hw) u378 rfl) : mF [115999] w μ346 μ377) rfl) (pnT.succ R356 u378 (vc_X12_tie_v_39 h285 h365 h286 h376) (vc_X12_tie_v_40 h285 h365 h286 h376) vc_X12_tie_v_41 (vc_X12_tie_v_42 h365 h376)) (TI.up R357 u378 (Or.inr (Or.inr (Or.inr (Or.inr (Or.inr ⟨rfl, (by have h := (vc_X12_tie_v_43 h285 h365 h286 h376); omega)⟩)))))) (vc_X12_message_v_88 (nS h358) h365 h376)
        refine mr_lvS (lv' := [(0, .ref 106), (4, iv 0)]) (List.forall_mem_cons.mpr ⟨rfl, List.forall_mem_cons.mpr ⟨rfl, fun _ h => absurd h List.not_mem_nil⟩⟩) ?_
        exact L347 6 0 μ302 T304 mF.refl (rW (c := 0) (d := 4) (rR (x := 0)) rfl) (JC.keepJ hIJC hw ((mF.up (mF.up (mF.up (mF.up (mF.up (mF.up mF.refl (A_110 hw) u288 rfl) (A_110 hw) u291 rfl) (A_111 hw) u294 rfl) (A_112 hw) u297 rfl) (A_113 hw) u300 rfl) (A_114 hw) u303 rfl) : mF [110999, 111999, 112999, 113999, 114999] w μ μ302) rfl) (RP.keep hIRP hw ((mF.up (mF.up (mF.up (mF.up (mF.up (mF.up mF.refl (A_110 hw) u288 rfl) (A_110 hw) u291 rfl) (A_111 hw) u294 rfl) (A_112 hw) u297 rfl) (A_113 hw) u300 rfl) (A_114 hw) u303 rfl) : mF [110999, 111999, 112999, 113999, 114999] w μ μ302) rfl ((mG.upO (mG.upO (mG.upO (mG.upO (mG.upO (mG.upO mG.refl u288 rfl) u291 rfl) u294 rfl) u297 rfl) u300 rfl) u303 rfl) : mG [] μ μ302) (fun _ h => absurd h List.not_mem_nil)) (PK.keep hIPK hw ((mF.up (mF.up (mF.up (mF.up (mF.up (mF.up mF.refl (A_110 hw) u288 rfl) (A_110 hw) u291 rfl) (A_111 hw) u294 rfl) (A_112 hw) u297 rfl) (A_113 hw) u300 rfl) (A_114 hw) u303 rfl) : mF [110999, 111999, 112999, 113999, 114999] w μ μ302) rfl) (EV.keep hIEV hw ((mF.up (mF.up (mF.up (mF.up (mF.up (mF.up mF.refl (A_110 hw) u288 rfl) (A_110 hw) u291 rfl) (A_111 hw) u294 rfl) (A_112 hw) u297 rfl) (A_113 hw) u300 rfl) (A_114 hw) u303 rfl) : mF [110999, 111999, 112999, 113999, 114999] w μ μ302) rfl) (pnT.zero vc_X3_forget_z_1) (TI.up (TI.up (TI.up (TI.up (TI.up (TI.up TI.refl u288 (Or.inl ⟨rfl, (by have h := (vc_X12_tie_v_46 h285 h286); omega)⟩)) u291 (Or.inl ⟨rfl, (by have h := (vc_X12_tie_v_47 h285 h286); omega)⟩)) u294 (Or.inr (Or.inl ⟨rfl, (by have h := (vc_X12_tie_v_48 h285 h286); omega)⟩))) u297 (Or.inr (Or.inr (Or.inl ⟨rfl, (by have h := (vc_X12_tie_v_48 h285 h286); omega)⟩)))) u300 (Or.inr (Or.inr (Or.inr (Or.inl rfl))))) u303 (Or.inr (Or.inr (Or.inr (Or.inr (Or.inl rfl)))))) vc_X12_prefixOut_14
      have h384 : 20 ≤ f_t ∧ f_t ≤ 20 := (vc_X12_walk_6 h285 ht_f_t)
      refine mr_bipush (pc := 55) (z := (-3)) dX12_tie_55 (by decide) ?_
      exact mr_iret dX12_tie_57 rfl (le_t rfl) (le_t rfl) hT mF.refl ⟨(rW (c := (-2147483648)) (d := 2147483647) (rR (x := (-3))) rfl), hIJC, hIRP, hIEP, hIHP, hIUP, hITE, hIPK, hIEV, (Or.inr ⟨(by unfold tieB; exact (vc_X12_tie_v_28 h249.2.1 h249.2.2.1 h255 h260.2.1 h260.2.2.1 h266 h268 h272.2.1 h272.2.2.1 h276 h251 h262 h274 ht_f_dm h256 h267 h277 h254 h265 h275)), Or.inr ⟨((h281.2.2.1).not (by decide) (vc_X12_tie_v_29 h281.2.1 h283 h284)), Or.inl ⟨(vc_X12_tie_v_50 h285 h384), rfl⟩⟩⟩), (Or.inr ⟨vc_X12_tie_v_51, rfl⟩), trivial⟩
    have h385 : 0 ≤ z282 ∧ z282 ≤ 19 := (vc_X12_provides_2 h283 h281.2.1 h281.1)
    refine mr_bipush (pc := 43) (z := (-2)) dX12_tie_43 (by decide) ?_
    exact mr_iret dX12_tie_45 rfl (le_t rfl) (le_t rfl) hT mF.refl ⟨(rW (c := (-2147483648)) (d := 2147483647) (rR (x := (-2))) rfl), hIJC, hIRP, hIEP, hIHP, hIUP, hITE, hIPK, hIEV, (Or.inr ⟨(by unfold tieB; exact (vc_X12_tie_v_28 h249.2.1 h249.2.2.1 h255 h260.2.1 h260.2.2.1 h266 h268 h272.2.1 h272.2.2.1 h276 h251 h262 h274 ht_f_dm h256 h267 h277 h254 h265 h275)), Or.inl ⟨(h281.2.2.1).has (vc_X12_look_u_6 h281.2.1 h283 h385), rfl⟩⟩), (Or.inr ⟨vc_X12_tie_v_54, rfl⟩), trivial⟩
  have h386 : 0 ≤ z273 ∧ z273 ≤ 0 := (vc_X12_units_9 h274 h272.2.1 h272.2.2.1 hp3 h272.1)
  have h387 : p3 < (0 : Int) ∨ (2 : Int) < p3 := (h272.2.2.1 (vc_X12_units_10 h272.2.1 h272.2.2.1 h274 hp3 h386))
  refine mr_iconst (pc := 30) (z := (-1)) dX12_tie_30 ?_
  exact mr_iret dX12_tie_31 rfl (le_t rfl) (le_t rfl) hT mF.refl ⟨(rW (c := (-2147483648)) (d := 2147483647) (rR (x := (-1))) rfl), hIJC, hIRP, hIEP, hIHP, hIUP, hITE, hIPK, hIEV, (Or.inl ⟨(by unfold tieB; exact (vc_X12_tie_v_57 h249.2.1 h249.2.2.1 h255 h260.2.1 h260.2.2.1 h266 h268 h272.2.1 h272.2.2.1 h387 h251 h262 h274 ht_f_dm h256 h267 hp3 h254 h265 h386)), rfl⟩), (Or.inr ⟨vc_X12_raise_u_49, rfl⟩), trivial⟩
theorem vc_X11_feedNumber_v_1 {f_t0 : Int} (h0 : f_t0 ≤ 996) (h1 : 0 ≤ f_t0 ∧ f_t0 ≤ 1000) : 0 ≤ f_t0 ∧ f_t0 ≤ 996 := by omega
theorem vc_X11_feedNumber_v_2 {f_t f_t0 z328 : Int} (h0 : (z328 - (-9)) < ((0 : Nat) : Int)) (h1 : 8 * f_t + z328 = 8 * f_t0 + 24) (h2 : f_t0 ≤ 996) (h3 : f_t0 ≤ f_t) (h4 : 0 ≤ f_t0 ∧ f_t0 ≤ 996) (h5 : (-8) ≤ z328 ∧ z328 ≤ 24) : False := by omega
theorem vc_X11_feedNumber_v_3 {f_t f_t0 z328 : Int} (h0 : z328 < 0) (h1 : 8 * f_t + z328 = 8 * f_t0 + 24) (h2 : 0 ≤ f_t ∧ f_t ≤ 1000) (h3 : 0 ≤ f_t0 ∧ f_t0 ≤ 996) (h4 : (-8) ≤ z328 ∧ z328 ≤ 24) : (-8) ≤ z328 ∧ z328 ≤ (-1) := by omega
theorem vc_X11_feedNumber_v_4 {f_t f_t0 z328 : Int} (h0 : f_t0 ≤ 996) (h1 : 8 * f_t + z328 = 8 * f_t0 + 24) (h2 : f_t0 ≤ f_t) (h3 : z328 < 0) (h4 : 0 ≤ f_t ∧ f_t ≤ 1000) (h5 : 0 ≤ f_t0 ∧ f_t0 ≤ 996) (h6 : (-8) ≤ z328 ∧ z328 ≤ (-1)) : f_t = f_t0 + 4 := by omega
theorem vc_X11_feedNumber_v_5 {f_t f_t0 z328 : Int} (h0 : f_t0 ≤ 996) (h1 : 8 * f_t + z328 = 8 * f_t0 + 24) (h2 : f_t0 ≤ f_t) (h3 : z328 < 0) (h4 : 0 ≤ f_t ∧ f_t ≤ 1000) (h5 : 0 ≤ f_t0 ∧ f_t0 ≤ 996) (h6 : (-8) ≤ z328 ∧ z328 ≤ (-1)) : f_t0 + 4 = f_t := by omega
theorem vc_X11_feedNumber_v_6 {f_t f_t0 z328 : Int} (h0 : 0 ≤ z328) (h1 : 8 * f_t + z328 = 8 * f_t0 + 24) (h2 : 0 ≤ f_t ∧ f_t ≤ 1000) (h3 : 0 ≤ f_t0 ∧ f_t0 ≤ 996) (h4 : (-8) ≤ z328 ∧ z328 ≤ 24) : 0 ≤ z328 ∧ z328 ≤ 24 := by omega
theorem vc_X11_feedNumber_v_7 {f_t f_t0 z328 : Int} (h0 : 8 * f_t + z328 = 8 * f_t0 + 24) (h1 : f_t0 ≤ f_t) (h2 : f_t0 ≤ 996) (h3 : 0 ≤ z328) (h4 : 0 ≤ f_t ∧ f_t ≤ 1000) (h5 : 0 ≤ f_t0 ∧ f_t0 ≤ 996) (h6 : 0 ≤ z328 ∧ z328 ≤ 24) : 0 ≤ f_t ∧ f_t < 1000 := by omega
theorem vc_X11_feedNumber_v_8 {f_t f_t0 z328 : Int} (h0 : 8 * f_t + z328 = 8 * f_t0 + 24) (h1 : f_t0 ≤ f_t) (h2 : f_t0 ≤ 996) (h3 : 0 ≤ z328) (h4 : 0 ≤ f_t ∧ f_t ≤ 1000) (h5 : 0 ≤ f_t0 ∧ f_t0 ≤ 996) (h6 : 0 ≤ z328 ∧ z328 ≤ 24) : 0 ≤ (f_t + 1) ∧ (f_t + 1) ≤ 1000 := by omega
theorem vc_X11_feedNumber_v_9 {f_t f_t0 z328 : Int} (h0 : f_t0 ≤ 996) (h1 : 8 * f_t + z328 = 8 * f_t0 + 24) (h2 : f_t0 ≤ f_t) (h3 : 0 ≤ z328) (h4 : 0 ≤ f_t ∧ f_t ≤ 1000) (h5 : 0 ≤ f_t0 ∧ f_t0 ≤ 996) (h6 : 0 ≤ z328 ∧ z328 ≤ 24) : 8 * (f_t + 1) + (z328 + (-8)) = 8 * f_t0 + 24 := by omega
theorem vc_X11_feedNumber_v_10 {f_t f_t0 z328 : Int} (h0 : f_t0 ≤ 996) (h1 : 8 * f_t + z328 = 8 * f_t0 + 24) (h2 : f_t0 ≤ f_t) (h3 : 0 ≤ z328) (h4 : 0 ≤ f_t ∧ f_t ≤ 1000) (h5 : 0 ≤ f_t0 ∧ f_t0 ≤ 996) (h6 : 0 ≤ z328 ∧ z328 ≤ 24) : f_t0 ≤ (f_t + 1) := by omega
theorem vc_X11_feedNumber_v_11 {N f_t f_t0 z328 : Int} (h0 : (z328 - (-9)) < N + 1) (h1 : 8 * f_t + z328 = 8 * f_t0 + 24) (h2 : 0 ≤ z328) (h3 : f_t0 ≤ 996) (h4 : f_t0 ≤ f_t) (h5 : 0 ≤ f_t ∧ f_t ≤ 1000) (h6 : 0 ≤ f_t0 ∧ f_t0 ≤ 996) (h7 : 0 ≤ z328 ∧ z328 ≤ 24) : ((z328 + (-8)) - (-9)) < N := by omega
theorem vc_X11_feedNumber_v_12 {f_t f_t0 z328 : Int} (h0 : f_t0 ≤ 996) (h1 : 8 * f_t + z328 = 8 * f_t0 + 24) (h2 : f_t0 ≤ f_t) (h3 : 0 ≤ z328) (h4 : 0 ≤ f_t ∧ f_t ≤ 1000) (h5 : 0 ≤ f_t0 ∧ f_t0 ≤ 996) (h6 : 0 ≤ z328 ∧ z328 ≤ 24) : 0 ≤ f_t0 ∧ f_t0 ≤ f_t := by omega
theorem vc_X11_feedNumber_v_13 {f_t f_t0 z328 : Int} (h0 : f_t0 ≤ 996) (h1 : 8 * f_t + z328 = 8 * f_t0 + 24) (h2 : f_t0 ≤ f_t) (h3 : 0 ≤ z328) (h4 : 0 ≤ f_t ∧ f_t ≤ 1000) (h5 : 0 ≤ f_t0 ∧ f_t0 ≤ 996) (h6 : 0 ≤ z328 ∧ z328 ≤ 24) : z328 = 24 - 8 * (f_t - f_t0) := by omega
theorem vc_X11_feedNumber_v_14 {f_t f_t0 z328 : Int} (h0 : 8 * f_t + z328 = 8 * f_t0 + 24) (h1 : f_t0 ≤ f_t) (h2 : f_t0 ≤ 996) (h3 : 0 ≤ z328) (h4 : 0 ≤ f_t ∧ f_t ≤ 1000) (h5 : 0 ≤ f_t0 ∧ f_t0 ≤ 996) (h6 : 0 ≤ z328 ∧ z328 ≤ 24) : (f_t + 1) = f_t + 1 := by omega
theorem vc_X11_feedNumber_v_15 {f_t0 : Int} (h0 : f_t0 ≤ 996) (h1 : 0 ≤ f_t0 ∧ f_t0 ≤ 996) : 8 * f_t0 + (24 : Int) = 8 * f_t0 + 24 := by omega
theorem vc_X11_feedNumber_v_16 {f_t0 : Int} (h0 : f_t0 ≤ 996) (h1 : 0 ≤ f_t0 ∧ f_t0 ≤ 996) : f_t0 ≤ f_t0 := by omega
set_option maxRecDepth 4000 in
set_option maxHeartbeats 4000000 in
theorem c_X11_feedNumber_v {l : Launch} {D : va_G} {c : Nat → ClassId} {H0 : Heap} {sa : Nat × Nat × (Nat → Int32)} {w : mW} {μ : mM} (hw : mWF w) (hT : mT w μ) {p1 : Int} (hp1 : (-2147483648) ≤ p1 ∧ p1 ≤ 2147483647) {f_t0 : Int} (q_f_t0 : μ 0 10 = f_t0) (hq0 : f_t0 ≤ 996) : sC (gG l D c H0 sa) mX11_feedNumber 1 0 0 [.ref 0, iv p1] (mk w μ) (qV w [10, 1999] μ (fun μ1 => ∃ o_t : Int, μ1 0 10 = o_t ∧ (o_t = f_t0 + 4) ∧ (fdN μ μ1 f_t0 (f_t0 + 4) p1) ∧ True)) := by
  refine sC.of rfl (by decide) (le_t rfl) ?_
  have ht_f_t0 : (0 ≤ f_t0 ∧ f_t0 ≤ 1000) := by rw [← q_f_t0]; exact hT 0 0 (A_0 hw) 10
  have h1 : 0 ≤ f_t0 ∧ f_t0 ≤ 996 := (vc_X11_feedNumber_v_1 hq0 ht_f_t0)
  refine mr_lvE (lv' := [(0, .ref 0), (1, iv p1)]) rfl ?_
  refine mr_bipush (pc := 0) (z := 24) dX11_feedNumber_0 (by decide) ?_
  refine mr_istore_n (pc := 2) (lv' := [(2, iv 24), (0, .ref 0), (1, iv p1)]) dX11_feedNumber_2 rfl (by decide) rfl ?_
  have L330 : ∀ (nL330 : Nat) (z328 : Int) (μ329 : mM) (f_t : Int), mT w μ329 → mF [10, 1999] w μ μ329 → μ329 0 (10) = f_t → ((-8) ≤ z328 ∧ z328 ≤ 24) → (8 * f_t + z328 = 8 * f_t0 + 24) → (f_t0 ≤ f_t) → fdN μ μ329 f_t0 f_t p1 → (z328 - (-9)) < (nL330 : Int) → sV (gG l D c H0 sa) mX11_feedNumber (sRm 1 0 0) (sZ (gG l D c H0 sa) 0 0 (qV w [10, 1999] μ (fun μ1 => ∃ o_t : Int, μ1 0 10 = o_t ∧ (o_t = f_t0 + 4) ∧ (fdN μ μ1 f_t0 (f_t0 + 4) p1) ∧ True))) 3 [(0, .ref 0), (1, iv p1), (2, iv z328)] [] (mk w μ329) 0 0 := by
    intro nL330
    induction nL330 with
    | zero => intro z328 μ329 f_t T332 F333 q339 h331 h335 h336 R337 h338; exact ((vc_X11_feedNumber_v_2 h338 h335 hq0 h336 h1 h331)).elim
    | succ nL330 ih340 =>
      intro z328 μ329 f_t T332 F333 q339 h331 h335 h336 R337 h338
      have h341 : (0 ≤ f_t ∧ f_t ≤ 1000) := by rw [← q339]; exact T332 0 0 (A_0 hw) (10)
      refine mr_iload_n (pc := 3) (z := z328) dX11_feedNumber_3 rfl rfl ?_
      refine mr_if_lt (pc := 4) (tgt := 39) dX11_feedNumber_4 (by decide) (r32 h331 rfl) (fun h356 => ?_) (fun h356 => ?_)
      · have h357 : (-8) ≤ z328 ∧ z328 ≤ (-1) := (vc_X11_feedNumber_v_3 h356 h335 h341 h1 h331)
        exact mr_vret dX11_feedNumber_39 rfl (le_t rfl) (le_t rfl) T332 (mF.call mF.refl F333 rfl) ⟨f_t, q339, (vc_X11_feedNumber_v_4 hq0 h335 h336 h356 h341 h1 h357), (fdN.fin R337 (vc_X11_feedNumber_v_5 hq0 h335 h336 h356 h341 h1 h357)), trivial⟩
      have h358 : 0 ≤ z328 ∧ z328 ≤ 24 := (vc_X11_feedNumber_v_6 h356 h335 h341 h1 h331)
      refine sv_aload_n (pc := 7) dX11_feedNumber_7 rfl rfl ?_
      refine gf_X11_0 (pc := 8) dX11_feedNumber_8 wF_X11_9 (A_0 hw) T332 ?_
      refine sv_aload_n (pc := 11) dX11_feedNumber_11 rfl rfl ?_
      refine gk_X11_10 (pc := 12) dX11_feedNumber_12 wF_X11_76 (A_0 hw) q339 ?_
      refine mr_iload_n (pc := 15) (z := p1) dX11_feedNumber_15 rfl rfl ?_
      refine mr_iload_n (pc := 16) (z := z328) dX11_feedNumber_16 rfl rfl ?_
      refine mr_iushr (pc := 17) (x := p1) (y := z328) dX11_feedNumber_17 ?_
      refine mr_gen (P := fun z => (-2147483648) ≤ z ∧ z ≤ 2147483647) (r32i _) fun z359 q360 h361 => ?_
      refine mr_sipush (pc := 18) (z := 255) dX11_feedNumber_18 (by decide) ?_
      refine mr_iand (pc := 21) (x := z359) (y := 255) dX11_feedNumber_21 ?_
      refine mr_gen (P := fun z => 0 ≤ z ∧ z ≤ 255) (rAndR (rR (x := 255)) rfl) fun z362 q363 h364 => ?_
      refine ss_1 (pc := 22) dX11_feedNumber_22 (A_1 hw) T332 (vc_X11_feedNumber_v_7 h335 h336 hq0 h356 h341 h1 h358) h364 fun μ365 u366 T367 => ?_
      refine sv_aload_n (pc := 23) dX11_feedNumber_23 rfl rfl ?_
      refine sv_dup (pc := 24) dX11_feedNumber_24 rfl ?_
      refine gk_X11_10 (pc := 25) dX11_feedNumber_25 wF_X11_76 (A_0 hw) (u366.f (Or.inl (mAt.ne (A_1 hw) (A_0 hw) rfl)) q339) ?_
      refine mr_iconst (pc := 28) (z := 1) dX11_feedNumber_28 ?_
      refine mr_iadd (pc := 29) (x := f_t) (y := 1) dX11_feedNumber_29 ?_
      refine pf_X11_10 (pc := 30) dX11_feedNumber_30 wF_X11_76 (A_0 hw) T367 (vc_X11_feedNumber_v_8 h335 h336 hq0 h356 h341 h1 h358) fun μ368 u369 T370 => ?_
      refine mr_iinc (pc := 33) (lv' := [(2, iv (z328 + (-8))), (0, .ref 0), (1, iv p1)]) dX11_feedNumber_33 rfl (by decide) rfl ?_
      refine sv_goto (pc := 36) (tgt := 3) dX11_feedNumber_36 (by decide) ?_
      refine mr_lvS (lv' := [(0, .ref 0), (1, iv p1), (2, iv (z328 + (-8)))]) (List.forall_mem_cons.mpr ⟨rfl, List.forall_mem_cons.mpr ⟨rfl, List.forall_mem_cons.mpr ⟨rfl, fun _ h => absurd h List.not_mem_nil⟩⟩⟩) ?_
      exact ih340 (z328 + (-8)) μ368 (f_t + 1) T370 (mF.up (mF.up (mF.call mF.refl F333 rfl) (A_1 hw) u366 rfl) (A_0 hw) u369 rfl) u369.1 (rW (c := (-8)) (d := 24) (rAdd (e := (-8)) (f := 16) h358 (rR (x := (-8))) rfl) rfl) (vc_X11_feedNumber_v_9 hq0 h335 h336 h356 h341 h1 h358) (vc_X11_feedNumber_v_10 hq0 h335 h336 h356 h341 h1 h358) (fdN.next R337 (vc_X11_feedNumber_v_12 hq0 h335 h336 h356 h341 h1 h358) q360 q363 (vc_X11_feedNumber_v_13 hq0 h335 h336 h356 h341 h1 h358) u366 (rowB (A_1 hw) ((mF.up mF.refl (A_0 hw) u369 rfl) : mF [10] w μ365 μ368) rfl rfl) (vc_X11_feedNumber_v_14 h335 h336 hq0 h356 h341 h1 h358)) (vc_X11_feedNumber_v_11 (nS h338) h335 h356 hq0 h336 h341 h1 h358)
  refine mr_lvS (lv' := [(0, .ref 0), (1, iv p1), (2, iv 24)]) (List.forall_mem_cons.mpr ⟨rfl, List.forall_mem_cons.mpr ⟨rfl, List.forall_mem_cons.mpr ⟨rfl, fun _ h => absurd h List.not_mem_nil⟩⟩⟩) ?_
  exact L330 34 24 μ f_t0 hT mF.refl q_f_t0 (rW (c := (-8)) (d := 24) (rR (x := 24)) rfl) (vc_X11_feedNumber_v_15 hq0 h1) (vc_X11_feedNumber_v_16 hq0 h1) fdN.start vc_X12_octet4_10
theorem vc_X11_feed_w_1 {f_q : Int} (h0 : (f_q + 20) ≤ 1000) (h1 : 0 ≤ f_q ∧ f_q ≤ 1000) : 0 ≤ f_q ∧ f_q ≤ 980 := by omega
theorem vc_X11_feed_w_2 {f_q : Int} (h0 : (f_q + 20) ≤ 1000) (h1 : 0 ≤ f_q ∧ f_q ≤ 980) : f_q ≤ 996 := by omega
theorem vc_X11_feed_w_3 {f_q z148 : Int} (h0 : (f_q + 20) ≤ 1000) (h1 : z148 = f_q + 4) (h2 : 0 ≤ f_q ∧ f_q ≤ 980) (h3 : 0 ≤ z148 ∧ z148 ≤ 1000) : (f_q + 4) ≤ 996 := by omega
theorem vc_X11_feed_w_4 {f_q z148 z157 : Int} (h0 : (f_q + 20) ≤ 1000) (h1 : z148 = f_q + 4) (h2 : z157 = (f_q + 4) + 4) (h3 : 0 ≤ f_q ∧ f_q ≤ 980) (h4 : 0 ≤ z148 ∧ z148 ≤ 1000) (h5 : 0 ≤ z157 ∧ z157 ≤ 1000) : ((f_q + 4) + 4) ≤ 996 := by omega
theorem vc_X11_feed_w_5 {f_q z148 z157 z166 : Int} (h0 : (f_q + 20) ≤ 1000) (h1 : z148 = f_q + 4) (h2 : z157 = (f_q + 4) + 4) (h3 : z166 = ((f_q + 4) + 4) + 4) (h4 : 0 ≤ f_q ∧ f_q ≤ 980) (h5 : 0 ≤ z148 ∧ z148 ≤ 1000) (h6 : 0 ≤ z157 ∧ z157 ≤ 1000) (h7 : 0 ≤ z166 ∧ z166 ≤ 1000) : (((f_q + 4) + 4) + 4) ≤ 996 := by omega
theorem vc_X11_feed_w_6 {f_q z148 z157 z166 z175 : Int} (h0 : (f_q + 20) ≤ 1000) (h1 : z148 = f_q + 4) (h2 : z157 = (f_q + 4) + 4) (h3 : z166 = ((f_q + 4) + 4) + 4) (h4 : z175 = (((f_q + 4) + 4) + 4) + 4) (h5 : 0 ≤ f_q ∧ f_q ≤ 980) (h6 : 0 ≤ z148 ∧ z148 ≤ 1000) (h7 : 0 ≤ z157 ∧ z157 ≤ 1000) (h8 : 0 ≤ z166 ∧ z166 ≤ 1000) (h9 : 0 ≤ z175 ∧ z175 ≤ 1000) : ((((f_q + 4) + 4) + 4) + 4) ≤ 996 := by omega
theorem vc_X11_feed_w_7 {f_q z148 z157 z166 z175 z184 : Int} (h0 : (f_q + 20) ≤ 1000) (h1 : z148 = f_q + 4) (h2 : z157 = (f_q + 4) + 4) (h3 : z166 = ((f_q + 4) + 4) + 4) (h4 : z175 = (((f_q + 4) + 4) + 4) + 4) (h5 : z184 = ((((f_q + 4) + 4) + 4) + 4) + 4) (h6 : 0 ≤ f_q ∧ f_q ≤ 980) (h7 : 0 ≤ z148 ∧ z148 ≤ 1000) (h8 : 0 ≤ z157 ∧ z157 ≤ 1000) (h9 : 0 ≤ z166 ∧ z166 ≤ 1000) (h10 : 0 ≤ z175 ∧ z175 ≤ 1000) (h11 : 0 ≤ z184 ∧ z184 ≤ 1000) : f_q ≤ 980 → (((((f_q + 4) + 4) + 4) + 4) + 4) = f_q + 20 ∧ (((((f_q + 4) + 4) + 4) + 4) + 4) = f_q + 20 := by omega
theorem vc_X11_feed_w_8 {f_q z148 z157 z166 z175 z184 : Int} (h0 : (f_q + 20) ≤ 1000) (h1 : z148 = f_q + 4) (h2 : z157 = (f_q + 4) + 4) (h3 : z166 = ((f_q + 4) + 4) + 4) (h4 : z175 = (((f_q + 4) + 4) + 4) + 4) (h5 : z184 = ((((f_q + 4) + 4) + 4) + 4) + 4) (h6 : 0 ≤ f_q ∧ f_q ≤ 980) (h7 : 0 ≤ z148 ∧ z148 ≤ 1000) (h8 : 0 ≤ z157 ∧ z157 ≤ 1000) (h9 : 0 ≤ z166 ∧ z166 ≤ 1000) (h10 : 0 ≤ z175 ∧ z175 ≤ 1000) (h11 : 0 ≤ z184 ∧ z184 ≤ 1000) : 980 < f_q → (((((f_q + 4) + 4) + 4) + 4) + 4) = -3 ∧ (((((f_q + 4) + 4) + 4) + 4) + 4) = f_q := by omega
theorem vc_X11_feed_w_9 {f_q z148 z157 z166 z175 z184 : Int} (h0 : (f_q + 20) ≤ 1000) (h1 : z148 = f_q + 4) (h2 : z157 = (f_q + 4) + 4) (h3 : z166 = ((f_q + 4) + 4) + 4) (h4 : z175 = (((f_q + 4) + 4) + 4) + 4) (h5 : z184 = ((((f_q + 4) + 4) + 4) + 4) + 4) (h6 : 0 ≤ f_q ∧ f_q ≤ 980) (h7 : 0 ≤ z148 ∧ z148 ≤ 1000) (h8 : 0 ≤ z157 ∧ z157 ≤ 1000) (h9 : 0 ≤ z166 ∧ z166 ≤ 1000) (h10 : 0 ≤ z175 ∧ z175 ≤ 1000) (h11 : 0 ≤ z184 ∧ z184 ≤ 1000) : (f_q + 4) = f_q + 4 := by omega
theorem vc_X11_feed_w_10 {f_q z148 z157 z166 z175 z184 : Int} (h0 : (f_q + 20) ≤ 1000) (h1 : z148 = f_q + 4) (h2 : z157 = (f_q + 4) + 4) (h3 : z166 = ((f_q + 4) + 4) + 4) (h4 : z175 = (((f_q + 4) + 4) + 4) + 4) (h5 : z184 = ((((f_q + 4) + 4) + 4) + 4) + 4) (h6 : 0 ≤ f_q ∧ f_q ≤ 980) (h7 : 0 ≤ z148 ∧ z148 ≤ 1000) (h8 : 0 ≤ z157 ∧ z157 ≤ 1000) (h9 : 0 ≤ z166 ∧ z166 ≤ 1000) (h10 : 0 ≤ z175 ∧ z175 ≤ 1000) (h11 : 0 ≤ z184 ∧ z184 ≤ 1000) : ((f_q + 4) + 4) = f_q + 8 := by omega
theorem vc_X11_feed_w_11 {f_q z148 z157 z166 z175 z184 : Int} (h0 : (f_q + 20) ≤ 1000) (h1 : z148 = f_q + 4) (h2 : z157 = (f_q + 4) + 4) (h3 : z166 = ((f_q + 4) + 4) + 4) (h4 : z175 = (((f_q + 4) + 4) + 4) + 4) (h5 : z184 = ((((f_q + 4) + 4) + 4) + 4) + 4) (h6 : 0 ≤ f_q ∧ f_q ≤ 980) (h7 : 0 ≤ z148 ∧ z148 ≤ 1000) (h8 : 0 ≤ z157 ∧ z157 ≤ 1000) (h9 : 0 ≤ z166 ∧ z166 ≤ 1000) (h10 : 0 ≤ z175 ∧ z175 ≤ 1000) (h11 : 0 ≤ z184 ∧ z184 ≤ 1000) : (((f_q + 4) + 4) + 4) = f_q + 12 := by omega
theorem vc_X11_feed_w_12 {f_q z148 z157 z166 z175 z184 : Int} (h0 : (f_q + 20) ≤ 1000) (h1 : z148 = f_q + 4) (h2 : z157 = (f_q + 4) + 4) (h3 : z166 = ((f_q + 4) + 4) + 4) (h4 : z175 = (((f_q + 4) + 4) + 4) + 4) (h5 : z184 = ((((f_q + 4) + 4) + 4) + 4) + 4) (h6 : 0 ≤ f_q ∧ f_q ≤ 980) (h7 : 0 ≤ z148 ∧ z148 ≤ 1000) (h8 : 0 ≤ z157 ∧ z157 ≤ 1000) (h9 : 0 ≤ z166 ∧ z166 ≤ 1000) (h10 : 0 ≤ z175 ∧ z175 ≤ 1000) (h11 : 0 ≤ z184 ∧ z184 ≤ 1000) : ((((f_q + 4) + 4) + 4) + 4) = f_q + 16 := by omega
theorem vc_X11_feed_w_13 {f_q z148 z157 z166 z175 z184 : Int} (h0 : (f_q + 20) ≤ 1000) (h1 : z148 = f_q + 4) (h2 : z157 = (f_q + 4) + 4) (h3 : z166 = ((f_q + 4) + 4) + 4) (h4 : z175 = (((f_q + 4) + 4) + 4) + 4) (h5 : z184 = ((((f_q + 4) + 4) + 4) + 4) + 4) (h6 : 0 ≤ f_q ∧ f_q ≤ 980) (h7 : 0 ≤ z148 ∧ z148 ≤ 1000) (h8 : 0 ≤ z157 ∧ z157 ≤ 1000) (h9 : 0 ≤ z166 ∧ z166 ≤ 1000) (h10 : 0 ≤ z175 ∧ z175 ≤ 1000) (h11 : 0 ≤ z184 ∧ z184 ≤ 1000) : 0 ≤ (((((f_q + 4) + 4) + 4) + 4) + 4) := by omega
theorem vc_X11_feed_w_14 {f_q z148 z157 z166 z175 z184 : Int} (h0 : (f_q + 20) ≤ 1000) (h1 : z148 = f_q + 4) (h2 : z157 = (f_q + 4) + 4) (h3 : z166 = ((f_q + 4) + 4) + 4) (h4 : z175 = (((f_q + 4) + 4) + 4) + 4) (h5 : z184 = ((((f_q + 4) + 4) + 4) + 4) + 4) (h6 : 0 ≤ f_q ∧ f_q ≤ 980) (h7 : 0 ≤ z148 ∧ z148 ≤ 1000) (h8 : 0 ≤ z157 ∧ z157 ≤ 1000) (h9 : 0 ≤ z166 ∧ z166 ≤ 1000) (h10 : 0 ≤ z175 ∧ z175 ≤ 1000) (h11 : 0 ≤ z184 ∧ z184 ≤ 1000) : 0 ≤ f_q := by omega
theorem vc_X11_feed_w_15 {f_q : Int} (h0 : 1000 < (f_q + 20)) (h1 : 0 ≤ f_q ∧ f_q ≤ 1000) : 981 ≤ f_q ∧ f_q ≤ 1000 := by omega
theorem vc_X11_feed_w_16 {f_q : Int} (h0 : 1000 < (f_q + 20)) (h1 : 981 ≤ f_q ∧ f_q ≤ 1000) : f_q ≤ 980 → (-3 : Int) = f_q + 20 ∧ f_q = f_q + 20 := by omega
theorem vc_X11_feed_w_17 {f_q : Int} (h0 : 1000 < (f_q + 20)) (h1 : 981 ≤ f_q ∧ f_q ≤ 1000) : 980 < f_q → (-3 : Int) = -3 ∧ f_q = f_q := by omega
set_option maxRecDepth 4000 in
set_option maxHeartbeats 4000000 in
theorem c_X11_feed_w {l : Launch} {D : va_G} {c : Nat → ClassId} {H0 : Heap} {sa : Nat × Nat × (Nat → Int32)} {w : mW} {μ : mM} (hw : mWF w) (hT : mT w μ) {p1 : Int} (hp1 : (-2147483648) ≤ p1 ∧ p1 ≤ 2147483647) {p2 : Int} (hp2 : (-2147483648) ≤ p2 ∧ p2 ≤ 2147483647) {p3 : Int} (hp3 : (-2147483648) ≤ p3 ∧ p3 ≤ 2147483647) {p4 : Int} (hp4 : (-2147483648) ≤ p4 ∧ p4 ≤ 2147483647) {p5 : Int} (hp5 : (-2147483648) ≤ p5 ∧ p5 ≤ 2147483647) {f_q : Int} (q_f_q : μ 0 10 = f_q) : sC (gG l D c H0 sa) mX11_feed 2 0 0 [.ref 0, iv p1, iv p2, iv p3, iv p4, iv p5] (mk w μ) (qI w [10, 1999] μ (fun z μ1 => ∃ o_q : Int, μ1 0 10 = o_q ∧ ((-2147483648) ≤ z ∧ z ≤ 2147483647) ∧ (f_q ≤ 980 → z = f_q + 20 ∧ o_q = f_q + 20) ∧ (980 < f_q → z = -3 ∧ o_q = f_q) ∧ (((z < 0 ∧ μ1 1 = μ 1) ∨ (0 ≤ z ∧ fdC μ μ1 f_q p1 p2 p3 p4 p5))) ∧ True)) := by
  refine sC.of rfl (by decide) (le_t rfl) ?_
  have ht_f_q : (0 ≤ f_q ∧ f_q ≤ 1000) := by rw [← q_f_q]; exact hT 0 0 (A_0 hw) 10
  refine mr_lvE (lv' := [(0, .ref 0), (1, iv p1), (2, iv p2), (3, iv p3), (4, iv p4), (5, iv p5)]) rfl ?_
  refine sv_aload_n (pc := 0) dX11_feed_0 rfl rfl ?_
  refine gk_X11_10 (pc := 1) dX11_feed_1 wF_X11_76 (A_0 hw) q_f_q ?_
  refine mr_bipush (pc := 4) (z := 20) dX11_feed_4 (by decide) ?_
  refine mr_iadd (pc := 6) (x := f_q) (y := 20) dX11_feed_6 ?_
  refine mr_sipush (pc := 7) (z := 1000) dX11_feed_7 (by decide) ?_
  refine mr_icmp_le (pc := 10) (tgt := 16) dX11_feed_10 (by decide) (r32 (rAdd (e := 20) (f := 1020) ht_f_q (rR (x := 20)) rfl) rfl) (r32 (rR (x := 1000)) rfl) (fun h142 => ?_) (fun h142 => ?_)
  · have h143 : 0 ≤ f_q ∧ f_q ≤ 980 := (vc_X11_feed_w_1 h142 ht_f_q)
    refine sv_aload_n (pc := 16) dX11_feed_16 rfl rfl ?_
    refine mr_iload_n (pc := 17) (z := p1) dX11_feed_17 rfl rfl ?_
    refine mr_cVV (pc := 18) (c_X11_feedNumber_v hw hT hp1 q_f_q (vc_X11_feed_w_2 h142 h143)) (gOk _ _ _ _ _) dX11_feed_18 (tX11_feedNumber _ _ _ _ _) ⟨wV_X11_feedNumber, wL_X11_feedNumber⟩ wM_X11_80 (gCX11 _ _ _ _ _) rfl (A_0 hw) rfl ⟨le_t rfl, le_t rfl⟩ ⟨le_t rfl, le_t rfl⟩ rfl (le_t rfl) fun μ144 T145 F146 h147 => ?_
    obtain ⟨z148, q149, h150⟩ := h147
    have h151 : (0 ≤ z148 ∧ z148 ≤ 1000) := by rw [← q149]; exact T145 0 0 (A_0 hw) 10
    have q152 : μ144 0 10 = (f_q + 4) := q149.trans h150.1
    refine sv_aload_n (pc := 21) dX11_feed_21 rfl rfl ?_
    refine mr_iload_n (pc := 22) (z := p2) dX11_feed_22 rfl rfl ?_
    refine mr_cVV (pc := 23) (c_X11_feedNumber_v hw T145 hp2 q152 (vc_X11_feed_w_3 h142 h150.1 h143 h151)) (gOk _ _ _ _ _) dX11_feed_23 (tX11_feedNumber _ _ _ _ _) ⟨wV_X11_feedNumber, wL_X11_feedNumber⟩ wM_X11_80 (gCX11 _ _ _ _ _) rfl (A_0 hw) rfl ⟨le_t rfl, le_t rfl⟩ ⟨le_t rfl, le_t rfl⟩ rfl (le_t rfl) fun μ153 T154 F155 h156 => ?_
    obtain ⟨z157, q158, h159⟩ := h156
    have h160 : (0 ≤ z157 ∧ z157 ≤ 1000) := by rw [← q158]; exact T154 0 0 (A_0 hw) 10
    have q161 : μ153 0 10 = ((f_q + 4) + 4) := q158.trans h159.1
    refine sv_aload_n (pc := 26) dX11_feed_26 rfl rfl ?_
    refine mr_iload_n (pc := 27) (z := p3) dX11_feed_27 rfl rfl ?_
    refine mr_cVV (pc := 28) (c_X11_feedNumber_v hw T154 hp3 q161 (vc_X11_feed_w_4 h142 h150.1 h159.1 h143 h151 h160)) (gOk _ _ _ _ _) dX11_feed_28 (tX11_feedNumber _ _ _ _ _) ⟨wV_X11_feedNumber, wL_X11_feedNumber⟩ wM_X11_80 (gCX11 _ _ _ _ _) rfl (A_0 hw) rfl ⟨le_t rfl, le_t rfl⟩ ⟨le_t rfl, le_t rfl⟩ rfl (le_t rfl) fun μ162 T163 F164 h165 => ?_
    obtain ⟨z166, q167, h168⟩ := h165
    have h169 : (0 ≤ z166 ∧ z166 ≤ 1000) := by rw [← q167]; exact T163 0 0 (A_0 hw) 10
    have q170 : μ162 0 10 = (((f_q + 4) + 4) + 4) := q167.trans h168.1
    refine sv_aload_n (pc := 31) dX11_feed_31 rfl rfl ?_
    refine mr_iload (pc := 32) (z := p4) dX11_feed_32 rfl ?_
    refine mr_cVV (pc := 34) (c_X11_feedNumber_v hw T163 hp4 q170 (vc_X11_feed_w_5 h142 h150.1 h159.1 h168.1 h143 h151 h160 h169)) (gOk _ _ _ _ _) dX11_feed_34 (tX11_feedNumber _ _ _ _ _) ⟨wV_X11_feedNumber, wL_X11_feedNumber⟩ wM_X11_80 (gCX11 _ _ _ _ _) rfl (A_0 hw) rfl ⟨le_t rfl, le_t rfl⟩ ⟨le_t rfl, le_t rfl⟩ rfl (le_t rfl) fun μ171 T172 F173 h174 => ?_
    obtain ⟨z175, q176, h177⟩ := h174
    have h178 : (0 ≤ z175 ∧ z175 ≤ 1000) := by rw [← q176]; exact T172 0 0 (A_0 hw) 10
    have q179 : μ171 0 10 = ((((f_q + 4) + 4) + 4) + 4) := q176.trans h177.1
    refine sv_aload_n (pc := 37) dX11_feed_37 rfl rfl ?_
    refine mr_iload (pc := 38) (z := p5) dX11_feed_38 rfl ?_
    refine mr_cVV (pc := 40) (c_X11_feedNumber_v hw T172 hp5 q179 (vc_X11_feed_w_6 h142 h150.1 h159.1 h168.1 h177.1 h143 h151 h160 h169 h178)) (gOk _ _ _ _ _) dX11_feed_40 (tX11_feedNumber _ _ _ _ _) ⟨wV_X11_feedNumber, wL_X11_feedNumber⟩ wM_X11_80 (gCX11 _ _ _ _ _) rfl (A_0 hw) rfl ⟨le_t rfl, le_t rfl⟩ ⟨le_t rfl, le_t rfl⟩ rfl (le_t rfl) fun μ180 T181 F182 h183 => ?_
    obtain ⟨z184, q185, h186⟩ := h183
    have h187 : (0 ≤ z184 ∧ z184 ≤ 1000) := by rw [← q185]; exact T181 0 0 (A_0 hw) 10
    have q188 : μ180 0 10 = (((((f_q + 4) + 4) + 4) + 4) + 4) := q185.trans h186.1
    refine sv_aload_n (pc := 43) dX11_feed_43 rfl rfl ?_
    refine gk_X11_10 (pc := 44) dX11_feed_44 wF_X11_76 (A_0 hw) q188 ?_
    exact mr_iret dX11_feed_47 rfl (le_t rfl) (le_t rfl) T181 (mF.call (mF.call (mF.call (mF.call (mF.call mF.refl F146 rfl) F155 rfl) F164 rfl) F173 rfl) F182 rfl) ⟨(((((f_q + 4) + 4) + 4) + 4) + 4), q188, (rW (c := (-2147483648)) (d := 2147483647) (rAdd (e := 20) (f := 1000) (rAdd (e := 16) (f := 996) (rAdd (e := 12) (f := 992) (rAdd (e := 8) (f := 988) (rAdd (e := 4) (f := 984) h143 (rR (x := 4)) rfl) (rR (x := 4)) rfl) (rR (x := 4)) rfl) (rR (x := 4)) rfl) (rR (x := 4)) rfl) rfl), (vc_X11_feed_w_7 h142 h150.1 h159.1 h168.1 h177.1 h186.1 h143 h151 h160 h169 h178 h187), (vc_X11_feed_w_8 h142 h150.1 h159.1 h168.1 h177.1 h186.1 h143 h151 h160 h169 h178 h187), (Or.inr ⟨(vc_X11_feed_w_13 h142 h150.1 h159.1 h168.1 h177.1 h186.1 h143 h151 h160 h169 h178 h187), fdC.mk (vc_X11_feed_w_14 h142 h150.1 h159.1 h168.1 h177.1 h186.1 h143 h151 h160 h169 h178 h187) h150.2.1 (vc_X11_feed_w_9 h142 h150.1 h159.1 h168.1 h177.1 h186.1 h143 h151 h160 h169 h178 h187) h159.2.1 (vc_X11_feed_w_10 h142 h150.1 h159.1 h168.1 h177.1 h186.1 h143 h151 h160 h169 h178 h187) h168.2.1 (vc_X11_feed_w_11 h142 h150.1 h159.1 h168.1 h177.1 h186.1 h143 h151 h160 h169 h178 h187) h177.2.1 (vc_X11_feed_w_12 h142 h150.1 h159.1 h168.1 h177.1 h186.1 h143 h151 h160 h169 h178 h187) h186.2.1⟩), trivial⟩
  have h189 : 981 ≤ f_q ∧ f_q ≤ 1000 := (vc_X11_feed_w_15 h142 ht_f_q)
  refine mr_bipush (pc := 13) (z := (-3)) dX11_feed_13 (by decide) ?_
  exact mr_iret dX11_feed_15 rfl (le_t rfl) (le_t rfl) hT mF.refl ⟨f_q, q_f_q, (rW (c := (-2147483648)) (d := 2147483647) (rR (x := (-3))) rfl), (vc_X11_feed_w_16 h142 h189), (vc_X11_feed_w_17 h142 h189), (Or.inl ⟨by decide, rfl⟩), trivial⟩
theorem vc_X12_feed_w_4 {f_q : Int} (h0 : (f_q + 20) ≤ 1000) (h1 : 0 ≤ f_q ∧ f_q ≤ 980) : f_q ≤ 980 → (f_q + 20) = f_q + 20 ∧ (f_q + 20) = f_q + 20 := by omega
theorem vc_X12_feed_w_5 {f_q : Int} (h0 : (f_q + 20) ≤ 1000) (h1 : 0 ≤ f_q ∧ f_q ≤ 980) : 980 < f_q → (f_q + 20) = -3 ∧ (f_q + 20) = f_q := by omega
theorem vc_X12_feed_w_6 {f_q : Int} (h0 : (f_q + 20) ≤ 1000) (h1 : 0 ≤ f_q ∧ f_q ≤ 980) : 0 ≤ (f_q + 20) := by omega
theorem vc_X12_feed_w_7 {z1935 : Int} (h0 : 20 ≤ z1935) (h1 : 20 ≤ z1935 ∧ z1935 ≤ 20) : 20 ≤ z1935 := by omega
theorem vc_X12_feed_w_9 {z1935 : Int} (h0 : 4 ≤ z1935) (h1 : z1935 < 20) (h2 : 0 ≤ z1935 ∧ z1935 ≤ 19) : 4 ≤ z1935 ∧ z1935 ≤ 19 := by omega
theorem vc_X12_feed_w_10 {z1935 : Int} (h0 : 8 ≤ z1935) (h1 : z1935 < 20) (h2 : 4 ≤ z1935) (h3 : 4 ≤ z1935 ∧ z1935 ≤ 19) : 8 ≤ z1935 ∧ z1935 ≤ 19 := by omega
theorem vc_X12_feed_w_11 {z1935 : Int} (h0 : 12 ≤ z1935) (h1 : z1935 < 20) (h2 : 4 ≤ z1935) (h3 : 8 ≤ z1935) (h4 : 8 ≤ z1935 ∧ z1935 ≤ 19) : 12 ≤ z1935 ∧ z1935 ≤ 19 := by omega
theorem vc_X12_feed_w_12 {z1935 : Int} (h0 : 16 ≤ z1935) (h1 : z1935 < 20) (h2 : 4 ≤ z1935) (h3 : 8 ≤ z1935) (h4 : 12 ≤ z1935) (h5 : 12 ≤ z1935 ∧ z1935 ≤ 19) : 16 ≤ z1935 ∧ z1935 ≤ 19 := by omega
theorem vc_X12_feed_w_14 {N z1935 z2029 : Int} (h0 : (21 - z1935) < N + 1) (h1 : z1935 < 20) (h2 : 4 ≤ z1935) (h3 : 8 ≤ z1935) (h4 : 12 ≤ z1935) (h5 : 16 ≤ z1935) (h6 : z1935 % 4 = z2029) (h7 : 16 ≤ z1935 ∧ z1935 ≤ 19) (h8 : 0 ≤ z2029 ∧ z2029 ≤ 3) : (21 - (z1935 + 1)) < N := by omega
theorem vc_X12_feed_w_15 {p1 p2 p3 p4 p5 z1935 z2029 : Int} (h0 : z1935 < 20) (h1 : 4 ≤ z1935) (h2 : 8 ≤ z1935) (h3 : 12 ≤ z1935) (h4 : 16 ≤ z1935) (h5 : z1935 % 4 = z2029) (h6 : (-2147483648) ≤ p1 ∧ p1 ≤ 2147483647) (h7 : (-2147483648) ≤ p2 ∧ p2 ≤ 2147483647) (h8 : (-2147483648) ≤ p3 ∧ p3 ≤ 2147483647) (h9 : (-2147483648) ≤ p4 ∧ p4 ≤ 2147483647) (h10 : (-2147483648) ≤ p5 ∧ p5 ≤ 2147483647) (h11 : 16 ≤ z1935 ∧ z1935 ≤ 19) (h12 : 0 ≤ z2029 ∧ z2029 ≤ 3) : (z1935 < 4 ∧ p5 = p1) ∨ (4 ≤ z1935 ∧ z1935 < 8 ∧ p5 = p2) ∨ (8 ≤ z1935 ∧ z1935 < 12 ∧ p5 = p3) ∨ (12 ≤ z1935 ∧ z1935 < 16 ∧ p5 = p4) ∨ (16 ≤ z1935 ∧ p5 = p5) := by omega
theorem vc_X12_feed_w_16 {f_q : Int} (h0 : (f_q + 20) ≤ 1000) (h1 : 0 ≤ f_q ∧ f_q ≤ 980) : 0 ≤ f_q := by omega
theorem vc_X12_feed_w_17 {z1935 z2029 : Int} (h0 : z1935 < 20) (h1 : 4 ≤ z1935) (h2 : 8 ≤ z1935) (h3 : 12 ≤ z1935) (h4 : 16 ≤ z1935) (h5 : z1935 % 4 = z2029) (h6 : 16 ≤ z1935 ∧ z1935 ≤ 19) (h7 : 0 ≤ z2029 ∧ z2029 ≤ 3) : 0 ≤ z1935 := by omega
theorem vc_X12_feed_w_18 {z1935 z2029 : Int} (h0 : z1935 < 20) (h1 : 4 ≤ z1935) (h2 : 8 ≤ z1935) (h3 : 12 ≤ z1935) (h4 : 16 ≤ z1935) (h5 : z1935 % 4 = z2029) (h6 : 16 ≤ z1935 ∧ z1935 ≤ 19) (h7 : 0 ≤ z2029 ∧ z2029 ≤ 3) : (24 - (8 * z2029)) = 0 ∨ (24 - (8 * z2029)) = 8 ∨ (24 - (8 * z2029)) = 16 ∨ (24 - (8 * z2029)) = 24 := by omega
theorem vc_X12_feed_w_19 {z1935 z2029 : Int} (h0 : z1935 < 20) (h1 : 4 ≤ z1935) (h2 : 8 ≤ z1935) (h3 : 12 ≤ z1935) (h4 : 16 ≤ z1935) (h5 : z1935 % 4 = z2029) (h6 : 16 ≤ z1935 ∧ z1935 ≤ 19) (h7 : 0 ≤ z2029 ∧ z2029 ≤ 3) : (24 - (8 * z2029)) = 24 - 8 * (z1935 % 4) := by omega
theorem vc_X12_feed_w_20 {f_q z1935 z2029 : Int} (h0 : (f_q + 20) ≤ 1000) (h1 : z1935 < 20) (h2 : 4 ≤ z1935) (h3 : 8 ≤ z1935) (h4 : 12 ≤ z1935) (h5 : 16 ≤ z1935) (h6 : z1935 % 4 = z2029) (h7 : 0 ≤ f_q ∧ f_q ≤ 980) (h8 : 16 ≤ z1935 ∧ z1935 ≤ 19) (h9 : 0 ≤ z2029 ∧ z2029 ≤ 3) : (f_q + z1935) = f_q + z1935 := by omega
theorem vc_X12_feed_w_21 {z1935 : Int} (h0 : z1935 < 16) (h1 : z1935 < 20) (h2 : 4 ≤ z1935) (h3 : 8 ≤ z1935) (h4 : 12 ≤ z1935) (h5 : 12 ≤ z1935 ∧ z1935 ≤ 19) : 12 ≤ z1935 ∧ z1935 ≤ 15 := by omega
theorem vc_X12_feed_w_22 {N z1935 z2042 : Int} (h0 : (21 - z1935) < N + 1) (h1 : z1935 < 20) (h2 : 4 ≤ z1935) (h3 : 8 ≤ z1935) (h4 : 12 ≤ z1935) (h5 : z1935 < 16) (h6 : z1935 % 4 = z2042) (h7 : 12 ≤ z1935 ∧ z1935 ≤ 15) (h8 : 0 ≤ z2042 ∧ z2042 ≤ 3) : (21 - (z1935 + 1)) < N := by omega
theorem vc_X12_feed_w_23 {p1 p2 p3 p4 p5 z1935 z2042 : Int} (h0 : z1935 < 20) (h1 : 4 ≤ z1935) (h2 : 8 ≤ z1935) (h3 : 12 ≤ z1935) (h4 : z1935 < 16) (h5 : z1935 % 4 = z2042) (h6 : (-2147483648) ≤ p1 ∧ p1 ≤ 2147483647) (h7 : (-2147483648) ≤ p2 ∧ p2 ≤ 2147483647) (h8 : (-2147483648) ≤ p3 ∧ p3 ≤ 2147483647) (h9 : (-2147483648) ≤ p4 ∧ p4 ≤ 2147483647) (h10 : (-2147483648) ≤ p5 ∧ p5 ≤ 2147483647) (h11 : 12 ≤ z1935 ∧ z1935 ≤ 15) (h12 : 0 ≤ z2042 ∧ z2042 ≤ 3) : (z1935 < 4 ∧ p4 = p1) ∨ (4 ≤ z1935 ∧ z1935 < 8 ∧ p4 = p2) ∨ (8 ≤ z1935 ∧ z1935 < 12 ∧ p4 = p3) ∨ (12 ≤ z1935 ∧ z1935 < 16 ∧ p4 = p4) ∨ (16 ≤ z1935 ∧ p4 = p5) := by omega
theorem vc_X12_feed_w_24 {z1935 z2042 : Int} (h0 : z1935 < 20) (h1 : 4 ≤ z1935) (h2 : 8 ≤ z1935) (h3 : 12 ≤ z1935) (h4 : z1935 < 16) (h5 : z1935 % 4 = z2042) (h6 : 12 ≤ z1935 ∧ z1935 ≤ 15) (h7 : 0 ≤ z2042 ∧ z2042 ≤ 3) : 0 ≤ z1935 := by omega
theorem vc_X12_feed_w_25 {z1935 z2042 : Int} (h0 : z1935 < 20) (h1 : 4 ≤ z1935) (h2 : 8 ≤ z1935) (h3 : 12 ≤ z1935) (h4 : z1935 < 16) (h5 : z1935 % 4 = z2042) (h6 : 12 ≤ z1935 ∧ z1935 ≤ 15) (h7 : 0 ≤ z2042 ∧ z2042 ≤ 3) : (24 - (8 * z2042)) = 0 ∨ (24 - (8 * z2042)) = 8 ∨ (24 - (8 * z2042)) = 16 ∨ (24 - (8 * z2042)) = 24 := by omega
theorem vc_X12_feed_w_26 {z1935 z2042 : Int} (h0 : z1935 < 20) (h1 : 4 ≤ z1935) (h2 : 8 ≤ z1935) (h3 : 12 ≤ z1935) (h4 : z1935 < 16) (h5 : z1935 % 4 = z2042) (h6 : 12 ≤ z1935 ∧ z1935 ≤ 15) (h7 : 0 ≤ z2042 ∧ z2042 ≤ 3) : (24 - (8 * z2042)) = 24 - 8 * (z1935 % 4) := by omega
theorem vc_X12_feed_w_27 {f_q z1935 z2042 : Int} (h0 : (f_q + 20) ≤ 1000) (h1 : z1935 < 20) (h2 : 4 ≤ z1935) (h3 : 8 ≤ z1935) (h4 : 12 ≤ z1935) (h5 : z1935 < 16) (h6 : z1935 % 4 = z2042) (h7 : 0 ≤ f_q ∧ f_q ≤ 980) (h8 : 12 ≤ z1935 ∧ z1935 ≤ 15) (h9 : 0 ≤ z2042 ∧ z2042 ≤ 3) : (f_q + z1935) = f_q + z1935 := by omega
theorem vc_X12_feed_w_28 {z1935 : Int} (h0 : z1935 < 12) (h1 : z1935 < 20) (h2 : 4 ≤ z1935) (h3 : 8 ≤ z1935) (h4 : 8 ≤ z1935 ∧ z1935 ≤ 19) : 8 ≤ z1935 ∧ z1935 ≤ 11 := by omega
theorem vc_X12_feed_w_29 {N z1935 z2055 : Int} (h0 : (21 - z1935) < N + 1) (h1 : z1935 < 20) (h2 : 4 ≤ z1935) (h3 : 8 ≤ z1935) (h4 : z1935 < 12) (h5 : z1935 % 4 = z2055) (h6 : 8 ≤ z1935 ∧ z1935 ≤ 11) (h7 : 0 ≤ z2055 ∧ z2055 ≤ 3) : (21 - (z1935 + 1)) < N := by omega
theorem vc_X12_feed_w_30 {p1 p2 p3 p4 p5 z1935 z2055 : Int} (h0 : z1935 < 20) (h1 : 4 ≤ z1935) (h2 : 8 ≤ z1935) (h3 : z1935 < 12) (h4 : z1935 % 4 = z2055) (h5 : (-2147483648) ≤ p1 ∧ p1 ≤ 2147483647) (h6 : (-2147483648) ≤ p2 ∧ p2 ≤ 2147483647) (h7 : (-2147483648) ≤ p3 ∧ p3 ≤ 2147483647) (h8 : (-2147483648) ≤ p4 ∧ p4 ≤ 2147483647) (h9 : (-2147483648) ≤ p5 ∧ p5 ≤ 2147483647) (h10 : 8 ≤ z1935 ∧ z1935 ≤ 11) (h11 : 0 ≤ z2055 ∧ z2055 ≤ 3) : (z1935 < 4 ∧ p3 = p1) ∨ (4 ≤ z1935 ∧ z1935 < 8 ∧ p3 = p2) ∨ (8 ≤ z1935 ∧ z1935 < 12 ∧ p3 = p3) ∨ (12 ≤ z1935 ∧ z1935 < 16 ∧ p3 = p4) ∨ (16 ≤ z1935 ∧ p3 = p5) := by omega
theorem vc_X12_feed_w_31 {z1935 z2055 : Int} (h0 : z1935 < 20) (h1 : 4 ≤ z1935) (h2 : 8 ≤ z1935) (h3 : z1935 < 12) (h4 : z1935 % 4 = z2055) (h5 : 8 ≤ z1935 ∧ z1935 ≤ 11) (h6 : 0 ≤ z2055 ∧ z2055 ≤ 3) : 0 ≤ z1935 := by omega
theorem vc_X12_feed_w_32 {z1935 z2055 : Int} (h0 : z1935 < 20) (h1 : 4 ≤ z1935) (h2 : 8 ≤ z1935) (h3 : z1935 < 12) (h4 : z1935 % 4 = z2055) (h5 : 8 ≤ z1935 ∧ z1935 ≤ 11) (h6 : 0 ≤ z2055 ∧ z2055 ≤ 3) : (24 - (8 * z2055)) = 0 ∨ (24 - (8 * z2055)) = 8 ∨ (24 - (8 * z2055)) = 16 ∨ (24 - (8 * z2055)) = 24 := by omega
theorem vc_X12_feed_w_33 {z1935 z2055 : Int} (h0 : z1935 < 20) (h1 : 4 ≤ z1935) (h2 : 8 ≤ z1935) (h3 : z1935 < 12) (h4 : z1935 % 4 = z2055) (h5 : 8 ≤ z1935 ∧ z1935 ≤ 11) (h6 : 0 ≤ z2055 ∧ z2055 ≤ 3) : (24 - (8 * z2055)) = 24 - 8 * (z1935 % 4) := by omega
theorem vc_X12_feed_w_34 {f_q z1935 z2055 : Int} (h0 : (f_q + 20) ≤ 1000) (h1 : z1935 < 20) (h2 : 4 ≤ z1935) (h3 : 8 ≤ z1935) (h4 : z1935 < 12) (h5 : z1935 % 4 = z2055) (h6 : 0 ≤ f_q ∧ f_q ≤ 980) (h7 : 8 ≤ z1935 ∧ z1935 ≤ 11) (h8 : 0 ≤ z2055 ∧ z2055 ≤ 3) : (f_q + z1935) = f_q + z1935 := by omega
theorem vc_X12_feed_w_35 {z1935 : Int} (h0 : z1935 < 8) (h1 : z1935 < 20) (h2 : 4 ≤ z1935) (h3 : 4 ≤ z1935 ∧ z1935 ≤ 19) : 4 ≤ z1935 ∧ z1935 ≤ 7 := by omega
theorem vc_X12_feed_w_36 {N z1935 z2068 : Int} (h0 : (21 - z1935) < N + 1) (h1 : z1935 < 20) (h2 : 4 ≤ z1935) (h3 : z1935 < 8) (h4 : z1935 % 4 = z2068) (h5 : 4 ≤ z1935 ∧ z1935 ≤ 7) (h6 : 0 ≤ z2068 ∧ z2068 ≤ 3) : (21 - (z1935 + 1)) < N := by omega
theorem vc_X12_feed_w_37 {p1 p2 p3 p4 p5 z1935 z2068 : Int} (h0 : z1935 < 20) (h1 : 4 ≤ z1935) (h2 : z1935 < 8) (h3 : z1935 % 4 = z2068) (h4 : (-2147483648) ≤ p1 ∧ p1 ≤ 2147483647) (h5 : (-2147483648) ≤ p2 ∧ p2 ≤ 2147483647) (h6 : (-2147483648) ≤ p3 ∧ p3 ≤ 2147483647) (h7 : (-2147483648) ≤ p4 ∧ p4 ≤ 2147483647) (h8 : (-2147483648) ≤ p5 ∧ p5 ≤ 2147483647) (h9 : 4 ≤ z1935 ∧ z1935 ≤ 7) (h10 : 0 ≤ z2068 ∧ z2068 ≤ 3) : (z1935 < 4 ∧ p2 = p1) ∨ (4 ≤ z1935 ∧ z1935 < 8 ∧ p2 = p2) ∨ (8 ≤ z1935 ∧ z1935 < 12 ∧ p2 = p3) ∨ (12 ≤ z1935 ∧ z1935 < 16 ∧ p2 = p4) ∨ (16 ≤ z1935 ∧ p2 = p5) := by omega
theorem vc_X12_feed_w_38 {z1935 z2068 : Int} (h0 : z1935 < 20) (h1 : 4 ≤ z1935) (h2 : z1935 < 8) (h3 : z1935 % 4 = z2068) (h4 : 4 ≤ z1935 ∧ z1935 ≤ 7) (h5 : 0 ≤ z2068 ∧ z2068 ≤ 3) : 0 ≤ z1935 := by omega
theorem vc_X12_feed_w_39 {z1935 z2068 : Int} (h0 : z1935 < 20) (h1 : 4 ≤ z1935) (h2 : z1935 < 8) (h3 : z1935 % 4 = z2068) (h4 : 4 ≤ z1935 ∧ z1935 ≤ 7) (h5 : 0 ≤ z2068 ∧ z2068 ≤ 3) : (24 - (8 * z2068)) = 0 ∨ (24 - (8 * z2068)) = 8 ∨ (24 - (8 * z2068)) = 16 ∨ (24 - (8 * z2068)) = 24 := by omega
theorem vc_X12_feed_w_40 {z1935 z2068 : Int} (h0 : z1935 < 20) (h1 : 4 ≤ z1935) (h2 : z1935 < 8) (h3 : z1935 % 4 = z2068) (h4 : 4 ≤ z1935 ∧ z1935 ≤ 7) (h5 : 0 ≤ z2068 ∧ z2068 ≤ 3) : (24 - (8 * z2068)) = 24 - 8 * (z1935 % 4) := by omega
theorem vc_X12_feed_w_41 {f_q z1935 z2068 : Int} (h0 : (f_q + 20) ≤ 1000) (h1 : z1935 < 20) (h2 : 4 ≤ z1935) (h3 : z1935 < 8) (h4 : z1935 % 4 = z2068) (h5 : 0 ≤ f_q ∧ f_q ≤ 980) (h6 : 4 ≤ z1935 ∧ z1935 ≤ 7) (h7 : 0 ≤ z2068 ∧ z2068 ≤ 3) : (f_q + z1935) = f_q + z1935 := by omega
theorem vc_X12_feed_w_42 {z1935 : Int} (h0 : z1935 < 4) (h1 : z1935 < 20) (h2 : 0 ≤ z1935 ∧ z1935 ≤ 19) : 0 ≤ z1935 ∧ z1935 ≤ 3 := by omega
theorem vc_X12_feed_w_43 {N z1935 z2081 : Int} (h0 : (21 - z1935) < N + 1) (h1 : z1935 < 20) (h2 : z1935 < 4) (h3 : z1935 % 4 = z2081) (h4 : 0 ≤ z1935 ∧ z1935 ≤ 3) (h5 : 0 ≤ z2081 ∧ z2081 ≤ 3) : (21 - (z1935 + 1)) < N := by omega
theorem vc_X12_feed_w_44 {p1 p2 p3 p4 p5 z1935 z2081 : Int} (h0 : z1935 < 20) (h1 : z1935 < 4) (h2 : z1935 % 4 = z2081) (h3 : (-2147483648) ≤ p1 ∧ p1 ≤ 2147483647) (h4 : (-2147483648) ≤ p2 ∧ p2 ≤ 2147483647) (h5 : (-2147483648) ≤ p3 ∧ p3 ≤ 2147483647) (h6 : (-2147483648) ≤ p4 ∧ p4 ≤ 2147483647) (h7 : (-2147483648) ≤ p5 ∧ p5 ≤ 2147483647) (h8 : 0 ≤ z1935 ∧ z1935 ≤ 3) (h9 : 0 ≤ z2081 ∧ z2081 ≤ 3) : (z1935 < 4 ∧ p1 = p1) ∨ (4 ≤ z1935 ∧ z1935 < 8 ∧ p1 = p2) ∨ (8 ≤ z1935 ∧ z1935 < 12 ∧ p1 = p3) ∨ (12 ≤ z1935 ∧ z1935 < 16 ∧ p1 = p4) ∨ (16 ≤ z1935 ∧ p1 = p5) := by omega
theorem vc_X12_feed_w_45 {z1935 z2081 : Int} (h0 : z1935 < 20) (h1 : z1935 < 4) (h2 : z1935 % 4 = z2081) (h3 : 0 ≤ z1935 ∧ z1935 ≤ 3) (h4 : 0 ≤ z2081 ∧ z2081 ≤ 3) : 0 ≤ z1935 := by omega
theorem vc_X12_feed_w_46 {z1935 z2081 : Int} (h0 : z1935 < 20) (h1 : z1935 < 4) (h2 : z1935 % 4 = z2081) (h3 : 0 ≤ z1935 ∧ z1935 ≤ 3) (h4 : 0 ≤ z2081 ∧ z2081 ≤ 3) : (24 - (8 * z2081)) = 0 ∨ (24 - (8 * z2081)) = 8 ∨ (24 - (8 * z2081)) = 16 ∨ (24 - (8 * z2081)) = 24 := by omega
theorem vc_X12_feed_w_47 {z1935 z2081 : Int} (h0 : z1935 < 20) (h1 : z1935 < 4) (h2 : z1935 % 4 = z2081) (h3 : 0 ≤ z1935 ∧ z1935 ≤ 3) (h4 : 0 ≤ z2081 ∧ z2081 ≤ 3) : (24 - (8 * z2081)) = 24 - 8 * (z1935 % 4) := by omega
theorem vc_X12_feed_w_48 {f_q z1935 z2081 : Int} (h0 : (f_q + 20) ≤ 1000) (h1 : z1935 < 20) (h2 : z1935 < 4) (h3 : z1935 % 4 = z2081) (h4 : 0 ≤ f_q ∧ f_q ≤ 980) (h5 : 0 ≤ z1935 ∧ z1935 ≤ 3) (h6 : 0 ≤ z2081 ∧ z2081 ≤ 3) : (f_q + z1935) = f_q + z1935 := by omega
set_option maxRecDepth 4000 in
set_option maxHeartbeats 4000000 in
theorem c_X12_feed_w {l : Launch} {D : va_G} {c : Nat → ClassId} {H0 : Heap} {sa : Nat × Nat × (Nat → Int32)} {w : mW} {μ : mM} (hw : mWF w) (hT : mT w μ) {p1 : Int} (hp1 : (-2147483648) ≤ p1 ∧ p1 ≤ 2147483647) {p2 : Int} (hp2 : (-2147483648) ≤ p2 ∧ p2 ≤ 2147483647) {p3 : Int} (hp3 : (-2147483648) ≤ p3 ∧ p3 ≤ 2147483647) {p4 : Int} (hp4 : (-2147483648) ≤ p4 ∧ p4 ≤ 2147483647) {p5 : Int} (hp5 : (-2147483648) ≤ p5 ∧ p5 ≤ 2147483647) {f_q : Int} (q_f_q : μ 106 1 = f_q) : sC (gG l D c H0 sa) mX12_feed 1 0 0 [.ref 106, iv p1, iv p2, iv p3, iv p4, iv p5] (mk w μ) (qI w [106001, 107999] μ (fun z μ1 => ∃ o_q : Int, μ1 106 1 = o_q ∧ ((-2147483648) ≤ z ∧ z ≤ 2147483647) ∧ (f_q ≤ 980 → z = f_q + 20 ∧ o_q = f_q + 20) ∧ (980 < f_q → z = -3 ∧ o_q = f_q) ∧ (((z < 0 ∧ μ1 107 = μ 107) ∨ (0 ≤ z ∧ fdR μ μ1 f_q 20 p1 p2 p3 p4 p5))) ∧ True)) := by
  refine sC.of rfl (by decide) (le_t rfl) ?_
  have ht_f_q : (0 ≤ f_q ∧ f_q ≤ 1000) := by rw [← q_f_q]; exact hT 106 106 (A_106 hw) 1
  refine mr_lvE (lv' := [(0, .ref 106), (1, iv p1), (2, iv p2), (3, iv p3), (4, iv p4), (5, iv p5)]) rfl ?_
  refine sv_aload_n (pc := 0) dX12_feed_0 rfl rfl ?_
  refine gk_X12_1 (pc := 1) dX12_feed_1 wF_X12_1 (A_106 hw) q_f_q ?_
  refine mr_bipush (pc := 4) (z := 20) dX12_feed_4 (by decide) ?_
  refine mr_iadd (pc := 6) (x := f_q) (y := 20) dX12_feed_6 ?_
  refine mr_sipush (pc := 7) (z := 1000) dX12_feed_7 (by decide) ?_
  refine mr_icmp_le (pc := 10) (tgt := 16) dX12_feed_10 (by decide) (r32 (rAdd (e := 20) (f := 1020) ht_f_q (rR (x := 20)) rfl) rfl) (r32 (rR (x := 1000)) rfl) (fun h1111 => ?_) (fun h1111 => ?_)
  · have h1112 : 0 ≤ f_q ∧ f_q ≤ 980 := (vc_X11_feed_w_1 h1111 ht_f_q)
    refine mr_iconst (pc := 16) (z := 0) dX12_feed_16 ?_
    refine mr_istore (pc := 17) (lv' := [(6, iv 0), (0, .ref 106), (1, iv p1), (2, iv p2), (3, iv p3), (4, iv p4), (5, iv p5)]) dX12_feed_17 (by decide) rfl ?_
    have L1937 : ∀ (nL1937 : Nat) (z1935 : Int) (μ1936 : mM), mT w μ1936 → mF [107999] w μ μ1936 → (0 ≤ z1935 ∧ z1935 ≤ 20) → fdR μ μ1936 f_q z1935 p1 p2 p3 p4 p5 → (21 - z1935) < (nL1937 : Int) → sV (gG l D c H0 sa) mX12_feed (sRm 1 0 0) (sZ (gG l D c H0 sa) 0 0 (qI w [106001, 107999] μ (fun z μ1 => ∃ o_q : Int, μ1 106 1 = o_q ∧ ((-2147483648) ≤ z ∧ z ≤ 2147483647) ∧ (f_q ≤ 980 → z = f_q + 20 ∧ o_q = f_q + 20) ∧ (980 < f_q → z = -3 ∧ o_q = f_q) ∧ (((z < 0 ∧ μ1 107 = μ 107) ∨ (0 ≤ z ∧ fdR μ μ1 f_q 20 p1 p2 p3 p4 p5))) ∧ True))) 19 [(0, .ref 106), (1, iv p1), (2, iv p2), (3, iv p3), (4, iv p4), (5, iv p5), (6, iv z1935)] [] (mk w μ1936) 0 0 := by
      intro nL1937
      induction nL1937 with
      | zero => intro z1935 μ1936 T1939 F1940 h1938 R1942 h1943; exact ((vc_X12_tieOf_1 h1943 h1938)).elim
      | succ nL1937 ih1944 =>
        intro z1935 μ1936 T1939 F1940 h1938 R1942 h1943
        refine mr_iload (pc := 19) (z := z1935) dX12_feed_19 rfl ?_
        refine mr_bipush (pc := 21) (z := 20) dX12_feed_21 (by decide) ?_
        refine mr_icmp_ge (pc := 23) (tgt := 106) dX12_feed_23 (by decide) (r32 h1938 rfl) (r32 (rR (x := 20)) rfl) (fun h2015 => ?_) (fun h2015 => ?_)
        · have h2016 : 20 ≤ z1935 ∧ z1935 ≤ 20 := (vc_X12_same_29 h2015 h1938)
          refine sv_aload_n (pc := 106) dX12_feed_106 rfl rfl ?_
          refine sv_dup (pc := 107) dX12_feed_107 rfl ?_
          refine gk_X12_1 (pc := 108) dX12_feed_108 wF_X12_1 (A_106 hw) (F1940.f (A_106 hw) rfl q_f_q) ?_
          refine mr_bipush (pc := 111) (z := 20) dX12_feed_111 (by decide) ?_
          refine mr_iadd (pc := 113) (x := f_q) (y := 20) dX12_feed_113 ?_
          refine pf_X12_1 (pc := 114) dX12_feed_114 wF_X12_1 (A_106 hw) T1939 (rW (c := 0) (d := 1000) (rAdd (e := 20) (f := 1000) h1112 (rR (x := 20)) rfl) rfl) fun μ2017 u2018 T2019 => ?_
          refine sv_aload_n (pc := 117) dX12_feed_117 rfl rfl ?_
          refine gk_X12_1 (pc := 118) dX12_feed_118 wF_X12_1 (A_106 hw) u2018.1 ?_
          exact mr_iret dX12_feed_121 rfl (le_t rfl) (le_t rfl) T2019 (mF.up (mF.call mF.refl F1940 rfl) (A_106 hw) u2018 rfl) ⟨(f_q + 20), u2018.1, (rW (c := (-2147483648)) (d := 2147483647) (rAdd (e := 20) (f := 1000) h1112 (rR (x := 20)) rfl) rfl), (vc_X12_feed_w_4 h1111 h1112), (vc_X12_feed_w_5 h1111 h1112), (Or.inr ⟨(vc_X12_feed_w_6 h1111 h1112), fdR.of R1942 (rowB (A_107 hw) ((mF.up mF.refl (A_106 hw) u2018 rfl) : mF [106001] w μ1936 μ2017) rfl rfl) (vc_X12_feed_w_7 h2015 h2016)⟩), trivial⟩
        have h2020 : 0 ≤ z1935 ∧ z1935 ≤ 19 := (vc_X12_same_30 h2015 h1938)
        refine mr_iload (pc := 26) (z := z1935) dX12_feed_26 rfl ?_
        refine mr_iconst (pc := 28) (z := 4) dX12_feed_28 ?_
        refine mr_icmp_ge (pc := 29) (tgt := 36) dX12_feed_29 (by decide) (r32 h2020 rfl) (r32 (rR (x := 4)) rfl) (fun h2021 => ?_) (fun h2021 => ?_)
        · have h2022 : 4 ≤ z1935 ∧ z1935 ≤ 19 := (vc_X12_feed_w_9 h2021 h2015 h2020)
          refine mr_iload (pc := 36) (z := z1935) dX12_feed_36 rfl ?_
          refine mr_bipush (pc := 38) (z := 8) dX12_feed_38 (by decide) ?_
          refine mr_icmp_ge (pc := 40) (tgt := 47) dX12_feed_40 (by decide) (r32 h2022 rfl) (r32 (rR (x := 8)) rfl) (fun h2023 => ?_) (fun h2023 => ?_)
          · have h2024 : 8 ≤ z1935 ∧ z1935 ≤ 19 := (vc_X12_feed_w_10 h2023 h2015 h2021 h2022)
            refine mr_iload (pc := 47) (z := z1935) dX12_feed_47 rfl ?_
            refine mr_bipush (pc := 49) (z := 12) dX12_feed_49 (by decide) ?_
            refine mr_icmp_ge (pc := 51) (tgt := 58) dX12_feed_51 (by decide) (r32 h2024 rfl) (r32 (rR (x := 12)) rfl) (fun h2025 => ?_) (fun h2025 => ?_)
            · have h2026 : 12 ≤ z1935 ∧ z1935 ≤ 19 := (vc_X12_feed_w_11 h2025 h2015 h2021 h2023 h2024)
              refine mr_iload (pc := 58) (z := z1935) dX12_feed_58 rfl ?_
              refine mr_bipush (pc := 60) (z := 16) dX12_feed_60 (by decide) ?_
              refine mr_icmp_ge (pc := 62) (tgt := 70) dX12_feed_62 (by decide) (r32 h2026 rfl) (r32 (rR (x := 16)) rfl) (fun h2027 => ?_) (fun h2027 => ?_)
              · have h2028 : 16 ≤ z1935 ∧ z1935 ≤ 19 := (vc_X12_feed_w_12 h2027 h2015 h2021 h2023 h2025 h2026)
                refine mr_iload (pc := 70) (z := p5) dX12_feed_70 rfl ?_
                refine mr_istore (pc := 72) (lv' := [(7, iv p5), (0, .ref 106), (1, iv p1), (2, iv p2), (3, iv p3), (4, iv p4), (5, iv p5), (6, iv z1935)]) dX12_feed_72 (by decide) rfl ?_
                refine sv_aload_n (pc := 74) dX12_feed_74 rfl rfl ?_
                refine gf_X12_0 (pc := 75) dX12_feed_75 wF_X12_7 (A_106 hw) T1939 ?_
                refine sv_aload_n (pc := 78) dX12_feed_78 rfl rfl ?_
                refine gk_X12_1 (pc := 79) dX12_feed_79 wF_X12_1 (A_106 hw) (F1940.f (A_106 hw) rfl q_f_q) ?_
                refine mr_iload (pc := 82) (z := z1935) dX12_feed_82 rfl ?_
                refine mr_iadd (pc := 84) (x := f_q) (y := z1935) dX12_feed_84 ?_
                refine mr_iload (pc := 85) (z := p5) dX12_feed_85 rfl ?_
                refine mr_bipush (pc := 87) (z := 24) dX12_feed_87 (by decide) ?_
                refine mr_bipush (pc := 89) (z := 8) dX12_feed_89 (by decide) ?_
                refine mr_iload (pc := 91) (z := z1935) dX12_feed_91 rfl ?_
                refine mr_iconst (pc := 93) (z := 4) dX12_feed_93 ?_
                refine mr_irem (pc := 94) (x := z1935) (y := 4) dX12_feed_94 (rW (c := 0) (d := 2147483647) h2028 rfl) vc_X3_readMarks_1 ?_
                refine mr_gen (P := fun z => 0 ≤ z ∧ z ≤ 3) (rMod h2028 rfl) fun z2029 q2030 h2031 => ?_
                refine mr_imul (pc := 95) (x := 8) (y := z2029) dX12_feed_95 ?_
                refine mr_isub (pc := 96) (x := 24) (y := (8 * z2029)) dX12_feed_96 ?_
                refine mr_ishr (pc := 97) (x := p5) (y := (24 - (8 * z2029))) dX12_feed_97 ?_
                refine mr_gen (P := fun z => (-2147483648) ≤ z ∧ z ≤ 2147483647) (r32i _) fun z2032 q2033 h2034 => ?_
                refine mr_i2b (pc := 98) dX12_feed_98 ?_
                refine mr_gen (P := fun z => (-128) ≤ z ∧ z ≤ 127) (rByte _) fun z2035 q2036 h2037 => ?_
                refine ss_107 (pc := 99) dX12_feed_99 (A_107 hw) T1939 (rIx (n := 1000) (rAdd (e := 16) (f := 999) h1112 h2028 rfl) rfl) h2037 fun μ2038 u2039 T2040 => ?_
                refine mr_iinc (pc := 100) (lv' := [(6, iv (z1935 + 1)), (7, iv p5), (0, .ref 106), (1, iv p1), (2, iv p2), (3, iv p3), (4, iv p4), (5, iv p5)]) dX12_feed_100 rfl (by decide) rfl ?_
                refine sv_goto (pc := 103) (tgt := 19) dX12_feed_103 (by decide) ?_
                refine mr_lvS (lv' := [(0, .ref 106), (1, iv p1), (2, iv p2), (3, iv p3), (4, iv p4), (5, iv p5), (6, iv (z1935 + 1))]) (List.forall_mem_cons.mpr ⟨rfl, List.forall_mem_cons.mpr ⟨rfl, List.forall_mem_cons.mpr ⟨rfl, List.forall_mem_cons.mpr ⟨rfl, List.forall_mem_cons.mpr ⟨rfl, List.forall_mem_cons.mpr ⟨rfl, List.forall_mem_cons.mpr ⟨rfl, fun _ h => absurd h List.not_mem_nil⟩⟩⟩⟩⟩⟩⟩) ?_
                exact ih1944 (z1935 + 1) μ2038 T2040 (mF.up (mF.call mF.refl F1940 rfl) (A_107 hw) u2039 rfl) (rW (c := 0) (d := 20) (rAdd (e := 17) (f := 20) h2028 (rR (x := 1)) rfl) rfl) (fdR.next R1942 (vc_X12_feed_w_16 h1111 h1112) (vc_X12_feed_w_17 h2015 h2021 h2023 h2025 h2027 q2030 h2028 h2031) (vc_X12_feed_w_18 h2015 h2021 h2023 h2025 h2027 q2030 h2028 h2031) q2033 q2036 (vc_X12_feed_w_19 h2015 h2021 h2023 h2025 h2027 q2030 h2028 h2031) (fdS.is (vc_X12_feed_w_17 h2015 h2021 h2023 h2025 h2027 q2030 h2028 h2031) (vc_X12_feed_w_15 h2015 h2021 h2023 h2025 h2027 q2030 hp1 hp2 hp3 hp4 hp5 h2028 h2031)) u2039 (vc_X12_feed_w_20 h1111 h2015 h2021 h2023 h2025 h2027 q2030 h1112 h2028 h2031)) (vc_X12_feed_w_14 (nS h1943) h2015 h2021 h2023 h2025 h2027 q2030 h2028 h2031)
              have h2041 : 12 ≤ z1935 ∧ z1935 ≤ 15 := (vc_X12_feed_w_21 h2027 h2015 h2021 h2023 h2025 h2026)
              refine mr_iload (pc := 65) (z := p4) dX12_feed_65 rfl ?_
              refine sv_goto (pc := 67) (tgt := 72) dX12_feed_67 (by decide) ?_
              refine mr_istore (pc := 72) (lv' := [(7, iv p4), (0, .ref 106), (1, iv p1), (2, iv p2), (3, iv p3), (4, iv p4), (5, iv p5), (6, iv z1935)]) dX12_feed_72 (by decide) rfl ?_
              refine sv_aload_n (pc := 74) dX12_feed_74 rfl rfl ?_
              refine gf_X12_0 (pc := 75) dX12_feed_75 wF_X12_7 (A_106 hw) T1939 ?_
              refine sv_aload_n (pc := 78) dX12_feed_78 rfl rfl ?_
              refine gk_X12_1 (pc := 79) dX12_feed_79 wF_X12_1 (A_106 hw) (F1940.f (A_106 hw) rfl q_f_q) ?_
              refine mr_iload (pc := 82) (z := z1935) dX12_feed_82 rfl ?_
              refine mr_iadd (pc := 84) (x := f_q) (y := z1935) dX12_feed_84 ?_
              refine mr_iload (pc := 85) (z := p4) dX12_feed_85 rfl ?_
              refine mr_bipush (pc := 87) (z := 24) dX12_feed_87 (by decide) ?_
              refine mr_bipush (pc := 89) (z := 8) dX12_feed_89 (by decide) ?_
              refine mr_iload (pc := 91) (z := z1935) dX12_feed_91 rfl ?_
              refine mr_iconst (pc := 93) (z := 4) dX12_feed_93 ?_
              refine mr_irem (pc := 94) (x := z1935) (y := 4) dX12_feed_94 (rW (c := 0) (d := 2147483647) h2041 rfl) vc_X3_readMarks_1 ?_
              refine mr_gen (P := fun z => 0 ≤ z ∧ z ≤ 3) (rMod h2041 rfl) fun z2042 q2043 h2044 => ?_
              refine mr_imul (pc := 95) (x := 8) (y := z2042) dX12_feed_95 ?_
              refine mr_isub (pc := 96) (x := 24) (y := (8 * z2042)) dX12_feed_96 ?_
              refine mr_ishr (pc := 97) (x := p4) (y := (24 - (8 * z2042))) dX12_feed_97 ?_
              refine mr_gen (P := fun z => (-2147483648) ≤ z ∧ z ≤ 2147483647) (r32i _) fun z2045 q2046 h2047 => ?_
              refine mr_i2b (pc := 98) dX12_feed_98 ?_
              refine mr_gen (P := fun z => (-128) ≤ z ∧ z ≤ 127) (rByte _) fun z2048 q2049 h2050 => ?_
              refine ss_107 (pc := 99) dX12_feed_99 (A_107 hw) T1939 (rIx (n := 1000) (rAdd (e := 12) (f := 995) h1112 h2041 rfl) rfl) h2050 fun μ2051 u2052 T2053 => ?_
              refine mr_iinc (pc := 100) (lv' := [(6, iv (z1935 + 1)), (7, iv p4), (0, .ref 106), (1, iv p1), (2, iv p2), (3, iv p3), (4, iv p4), (5, iv p5)]) dX12_feed_100 rfl (by decide) rfl ?_
              refine sv_goto (pc := 103) (tgt := 19) dX12_feed_103 (by decide) ?_
              refine mr_lvS (lv' := [(0, .ref 106), (1, iv p1), (2, iv p2), (3, iv p3), (4, iv p4), (5, iv p5), (6, iv (z1935 + 1))]) (List.forall_mem_cons.mpr ⟨rfl, List.forall_mem_cons.mpr ⟨rfl, List.forall_mem_cons.mpr ⟨rfl, List.forall_mem_cons.mpr ⟨rfl, List.forall_mem_cons.mpr ⟨rfl, List.forall_mem_cons.mpr ⟨rfl, List.forall_mem_cons.mpr ⟨rfl, fun _ h => absurd h List.not_mem_nil⟩⟩⟩⟩⟩⟩⟩) ?_
              exact ih1944 (z1935 + 1) μ2051 T2053 (mF.up (mF.call mF.refl F1940 rfl) (A_107 hw) u2052 rfl) (rW (c := 0) (d := 20) (rAdd (e := 13) (f := 16) h2041 (rR (x := 1)) rfl) rfl) (fdR.next R1942 (vc_X12_feed_w_16 h1111 h1112) (vc_X12_feed_w_24 h2015 h2021 h2023 h2025 h2027 q2043 h2041 h2044) (vc_X12_feed_w_25 h2015 h2021 h2023 h2025 h2027 q2043 h2041 h2044) q2046 q2049 (vc_X12_feed_w_26 h2015 h2021 h2023 h2025 h2027 q2043 h2041 h2044) (fdS.is (vc_X12_feed_w_24 h2015 h2021 h2023 h2025 h2027 q2043 h2041 h2044) (vc_X12_feed_w_23 h2015 h2021 h2023 h2025 h2027 q2043 hp1 hp2 hp3 hp4 hp5 h2041 h2044)) u2052 (vc_X12_feed_w_27 h1111 h2015 h2021 h2023 h2025 h2027 q2043 h1112 h2041 h2044)) (vc_X12_feed_w_22 (nS h1943) h2015 h2021 h2023 h2025 h2027 q2043 h2041 h2044)
            have h2054 : 8 ≤ z1935 ∧ z1935 ≤ 11 := (vc_X12_feed_w_28 h2025 h2015 h2021 h2023 h2024)
            refine mr_iload_n (pc := 54) (z := p3) dX12_feed_54 rfl rfl ?_
            refine sv_goto (pc := 55) (tgt := 72) dX12_feed_55 (by decide) ?_
            refine mr_istore (pc := 72) (lv' := [(7, iv p3), (0, .ref 106), (1, iv p1), (2, iv p2), (3, iv p3), (4, iv p4), (5, iv p5), (6, iv z1935)]) dX12_feed_72 (by decide) rfl ?_
            refine sv_aload_n (pc := 74) dX12_feed_74 rfl rfl ?_
            refine gf_X12_0 (pc := 75) dX12_feed_75 wF_X12_7 (A_106 hw) T1939 ?_
            refine sv_aload_n (pc := 78) dX12_feed_78 rfl rfl ?_
            refine gk_X12_1 (pc := 79) dX12_feed_79 wF_X12_1 (A_106 hw) (F1940.f (A_106 hw) rfl q_f_q) ?_
            refine mr_iload (pc := 82) (z := z1935) dX12_feed_82 rfl ?_
            refine mr_iadd (pc := 84) (x := f_q) (y := z1935) dX12_feed_84 ?_
            refine mr_iload (pc := 85) (z := p3) dX12_feed_85 rfl ?_
            refine mr_bipush (pc := 87) (z := 24) dX12_feed_87 (by decide) ?_
            refine mr_bipush (pc := 89) (z := 8) dX12_feed_89 (by decide) ?_
            refine mr_iload (pc := 91) (z := z1935) dX12_feed_91 rfl ?_
            refine mr_iconst (pc := 93) (z := 4) dX12_feed_93 ?_
            refine mr_irem (pc := 94) (x := z1935) (y := 4) dX12_feed_94 (rW (c := 0) (d := 2147483647) h2054 rfl) vc_X3_readMarks_1 ?_
            refine mr_gen (P := fun z => 0 ≤ z ∧ z ≤ 3) (rMod h2054 rfl) fun z2055 q2056 h2057 => ?_
            refine mr_imul (pc := 95) (x := 8) (y := z2055) dX12_feed_95 ?_
            refine mr_isub (pc := 96) (x := 24) (y := (8 * z2055)) dX12_feed_96 ?_
            refine mr_ishr (pc := 97) (x := p3) (y := (24 - (8 * z2055))) dX12_feed_97 ?_
            refine mr_gen (P := fun z => (-2147483648) ≤ z ∧ z ≤ 2147483647) (r32i _) fun z2058 q2059 h2060 => ?_
            refine mr_i2b (pc := 98) dX12_feed_98 ?_
            refine mr_gen (P := fun z => (-128) ≤ z ∧ z ≤ 127) (rByte _) fun z2061 q2062 h2063 => ?_
            refine ss_107 (pc := 99) dX12_feed_99 (A_107 hw) T1939 (rIx (n := 1000) (rAdd (e := 8) (f := 991) h1112 h2054 rfl) rfl) h2063 fun μ2064 u2065 T2066 => ?_
            refine mr_iinc (pc := 100) (lv' := [(6, iv (z1935 + 1)), (7, iv p3), (0, .ref 106), (1, iv p1), (2, iv p2), (3, iv p3), (4, iv p4), (5, iv p5)]) dX12_feed_100 rfl (by decide) rfl ?_
            refine sv_goto (pc := 103) (tgt := 19) dX12_feed_103 (by decide) ?_
            refine mr_lvS (lv' := [(0, .ref 106), (1, iv p1), (2, iv p2), (3, iv p3), (4, iv p4), (5, iv p5), (6, iv (z1935 + 1))]) (List.forall_mem_cons.mpr ⟨rfl, List.forall_mem_cons.mpr ⟨rfl, List.forall_mem_cons.mpr ⟨rfl, List.forall_mem_cons.mpr ⟨rfl, List.forall_mem_cons.mpr ⟨rfl, List.forall_mem_cons.mpr ⟨rfl, List.forall_mem_cons.mpr ⟨rfl, fun _ h => absurd h List.not_mem_nil⟩⟩⟩⟩⟩⟩⟩) ?_
            exact ih1944 (z1935 + 1) μ2064 T2066 (mF.up (mF.call mF.refl F1940 rfl) (A_107 hw) u2065 rfl) (rW (c := 0) (d := 20) (rAdd (e := 9) (f := 12) h2054 (rR (x := 1)) rfl) rfl) (fdR.next R1942 (vc_X12_feed_w_16 h1111 h1112) (vc_X12_feed_w_31 h2015 h2021 h2023 h2025 q2056 h2054 h2057) (vc_X12_feed_w_32 h2015 h2021 h2023 h2025 q2056 h2054 h2057) q2059 q2062 (vc_X12_feed_w_33 h2015 h2021 h2023 h2025 q2056 h2054 h2057) (fdS.is (vc_X12_feed_w_31 h2015 h2021 h2023 h2025 q2056 h2054 h2057) (vc_X12_feed_w_30 h2015 h2021 h2023 h2025 q2056 hp1 hp2 hp3 hp4 hp5 h2054 h2057)) u2065 (vc_X12_feed_w_34 h1111 h2015 h2021 h2023 h2025 q2056 h1112 h2054 h2057)) (vc_X12_feed_w_29 (nS h1943) h2015 h2021 h2023 h2025 q2056 h2054 h2057)
          have h2067 : 4 ≤ z1935 ∧ z1935 ≤ 7 := (vc_X12_feed_w_35 h2023 h2015 h2021 h2022)
          refine mr_iload_n (pc := 43) (z := p2) dX12_feed_43 rfl rfl ?_
          refine sv_goto (pc := 44) (tgt := 72) dX12_feed_44 (by decide) ?_
          refine mr_istore (pc := 72) (lv' := [(7, iv p2), (0, .ref 106), (1, iv p1), (2, iv p2), (3, iv p3), (4, iv p4), (5, iv p5), (6, iv z1935)]) dX12_feed_72 (by decide) rfl ?_
          refine sv_aload_n (pc := 74) dX12_feed_74 rfl rfl ?_
          refine gf_X12_0 (pc := 75) dX12_feed_75 wF_X12_7 (A_106 hw) T1939 ?_
          refine sv_aload_n (pc := 78) dX12_feed_78 rfl rfl ?_
          refine gk_X12_1 (pc := 79) dX12_feed_79 wF_X12_1 (A_106 hw) (F1940.f (A_106 hw) rfl q_f_q) ?_
          refine mr_iload (pc := 82) (z := z1935) dX12_feed_82 rfl ?_
          refine mr_iadd (pc := 84) (x := f_q) (y := z1935) dX12_feed_84 ?_
          refine mr_iload (pc := 85) (z := p2) dX12_feed_85 rfl ?_
          refine mr_bipush (pc := 87) (z := 24) dX12_feed_87 (by decide) ?_
          refine mr_bipush (pc := 89) (z := 8) dX12_feed_89 (by decide) ?_
          refine mr_iload (pc := 91) (z := z1935) dX12_feed_91 rfl ?_
          refine mr_iconst (pc := 93) (z := 4) dX12_feed_93 ?_
          refine mr_irem (pc := 94) (x := z1935) (y := 4) dX12_feed_94 (rW (c := 0) (d := 2147483647) h2067 rfl) vc_X3_readMarks_1 ?_
          refine mr_gen (P := fun z => 0 ≤ z ∧ z ≤ 3) (rMod h2067 rfl) fun z2068 q2069 h2070 => ?_
          refine mr_imul (pc := 95) (x := 8) (y := z2068) dX12_feed_95 ?_
          refine mr_isub (pc := 96) (x := 24) (y := (8 * z2068)) dX12_feed_96 ?_
          refine mr_ishr (pc := 97) (x := p2) (y := (24 - (8 * z2068))) dX12_feed_97 ?_
          refine mr_gen (P := fun z => (-2147483648) ≤ z ∧ z ≤ 2147483647) (r32i _) fun z2071 q2072 h2073 => ?_
          refine mr_i2b (pc := 98) dX12_feed_98 ?_
          refine mr_gen (P := fun z => (-128) ≤ z ∧ z ≤ 127) (rByte _) fun z2074 q2075 h2076 => ?_
          refine ss_107 (pc := 99) dX12_feed_99 (A_107 hw) T1939 (rIx (n := 1000) (rAdd (e := 4) (f := 987) h1112 h2067 rfl) rfl) h2076 fun μ2077 u2078 T2079 => ?_
          refine mr_iinc (pc := 100) (lv' := [(6, iv (z1935 + 1)), (7, iv p2), (0, .ref 106), (1, iv p1), (2, iv p2), (3, iv p3), (4, iv p4), (5, iv p5)]) dX12_feed_100 rfl (by decide) rfl ?_
          refine sv_goto (pc := 103) (tgt := 19) dX12_feed_103 (by decide) ?_
          refine mr_lvS (lv' := [(0, .ref 106), (1, iv p1), (2, iv p2), (3, iv p3), (4, iv p4), (5, iv p5), (6, iv (z1935 + 1))]) (List.forall_mem_cons.mpr ⟨rfl, List.forall_mem_cons.mpr ⟨rfl, List.forall_mem_cons.mpr ⟨rfl, List.forall_mem_cons.mpr ⟨rfl, List.forall_mem_cons.mpr ⟨rfl, List.forall_mem_cons.mpr ⟨rfl, List.forall_mem_cons.mpr ⟨rfl, fun _ h => absurd h List.not_mem_nil⟩⟩⟩⟩⟩⟩⟩) ?_
          exact ih1944 (z1935 + 1) μ2077 T2079 (mF.up (mF.call mF.refl F1940 rfl) (A_107 hw) u2078 rfl) (rW (c := 0) (d := 20) (rAdd (e := 5) (f := 8) h2067 (rR (x := 1)) rfl) rfl) (fdR.next R1942 (vc_X12_feed_w_16 h1111 h1112) (vc_X12_feed_w_38 h2015 h2021 h2023 q2069 h2067 h2070) (vc_X12_feed_w_39 h2015 h2021 h2023 q2069 h2067 h2070) q2072 q2075 (vc_X12_feed_w_40 h2015 h2021 h2023 q2069 h2067 h2070) (fdS.is (vc_X12_feed_w_38 h2015 h2021 h2023 q2069 h2067 h2070) (vc_X12_feed_w_37 h2015 h2021 h2023 q2069 hp1 hp2 hp3 hp4 hp5 h2067 h2070)) u2078 (vc_X12_feed_w_41 h1111 h2015 h2021 h2023 q2069 h1112 h2067 h2070)) (vc_X12_feed_w_36 (nS h1943) h2015 h2021 h2023 q2069 h2067 h2070)
        have h2080 : 0 ≤ z1935 ∧ z1935 ≤ 3 := (vc_X12_feed_w_42 h2021 h2015 h2020)
        refine mr_iload_n (pc := 32) (z := p1) dX12_feed_32 rfl rfl ?_
        refine sv_goto (pc := 33) (tgt := 72) dX12_feed_33 (by decide) ?_
        refine mr_istore (pc := 72) (lv' := [(7, iv p1), (0, .ref 106), (1, iv p1), (2, iv p2), (3, iv p3), (4, iv p4), (5, iv p5), (6, iv z1935)]) dX12_feed_72 (by decide) rfl ?_
        refine sv_aload_n (pc := 74) dX12_feed_74 rfl rfl ?_
        refine gf_X12_0 (pc := 75) dX12_feed_75 wF_X12_7 (A_106 hw) T1939 ?_
        refine sv_aload_n (pc := 78) dX12_feed_78 rfl rfl ?_
        refine gk_X12_1 (pc := 79) dX12_feed_79 wF_X12_1 (A_106 hw) (F1940.f (A_106 hw) rfl q_f_q) ?_
        refine mr_iload (pc := 82) (z := z1935) dX12_feed_82 rfl ?_
        refine mr_iadd (pc := 84) (x := f_q) (y := z1935) dX12_feed_84 ?_
        refine mr_iload (pc := 85) (z := p1) dX12_feed_85 rfl ?_
        refine mr_bipush (pc := 87) (z := 24) dX12_feed_87 (by decide) ?_
        refine mr_bipush (pc := 89) (z := 8) dX12_feed_89 (by decide) ?_
        refine mr_iload (pc := 91) (z := z1935) dX12_feed_91 rfl ?_
        refine mr_iconst (pc := 93) (z := 4) dX12_feed_93 ?_
        refine mr_irem (pc := 94) (x := z1935) (y := 4) dX12_feed_94 (rW (c := 0) (d := 2147483647) h2080 rfl) vc_X3_readMarks_1 ?_
        refine mr_gen (P := fun z => 0 ≤ z ∧ z ≤ 3) (rMod h2080 rfl) fun z2081 q2082 h2083 => ?_
        refine mr_imul (pc := 95) (x := 8) (y := z2081) dX12_feed_95 ?_
        refine mr_isub (pc := 96) (x := 24) (y := (8 * z2081)) dX12_feed_96 ?_
        refine mr_ishr (pc := 97) (x := p1) (y := (24 - (8 * z2081))) dX12_feed_97 ?_
        refine mr_gen (P := fun z => (-2147483648) ≤ z ∧ z ≤ 2147483647) (r32i _) fun z2084 q2085 h2086 => ?_
        refine mr_i2b (pc := 98) dX12_feed_98 ?_
        refine mr_gen (P := fun z => (-128) ≤ z ∧ z ≤ 127) (rByte _) fun z2087 q2088 h2089 => ?_
        refine ss_107 (pc := 99) dX12_feed_99 (A_107 hw) T1939 (rIx (n := 1000) (rAdd (e := 0) (f := 983) h1112 h2080 rfl) rfl) h2089 fun μ2090 u2091 T2092 => ?_
        refine mr_iinc (pc := 100) (lv' := [(6, iv (z1935 + 1)), (7, iv p1), (0, .ref 106), (1, iv p1), (2, iv p2), (3, iv p3), (4, iv p4), (5, iv p5)]) dX12_feed_100 rfl (by decide) rfl ?_
        refine sv_goto (pc := 103) (tgt := 19) dX12_feed_103 (by decide) ?_
        refine mr_lvS (lv' := [(0, .ref 106), (1, iv p1), (2, iv p2), (3, iv p3), (4, iv p4), (5, iv p5), (6, iv (z1935 + 1))]) (List.forall_mem_cons.mpr ⟨rfl, List.forall_mem_cons.mpr ⟨rfl, List.forall_mem_cons.mpr ⟨rfl, List.forall_mem_cons.mpr ⟨rfl, List.forall_mem_cons.mpr ⟨rfl, List.forall_mem_cons.mpr ⟨rfl, List.forall_mem_cons.mpr ⟨rfl, fun _ h => absurd h List.not_mem_nil⟩⟩⟩⟩⟩⟩⟩) ?_
        exact ih1944 (z1935 + 1) μ2090 T2092 (mF.up (mF.call mF.refl F1940 rfl) (A_107 hw) u2091 rfl) (rW (c := 0) (d := 20) (rAdd (e := 1) (f := 4) h2080 (rR (x := 1)) rfl) rfl) (fdR.next R1942 (vc_X12_feed_w_16 h1111 h1112) (vc_X12_feed_w_45 h2015 h2021 q2082 h2080 h2083) (vc_X12_feed_w_46 h2015 h2021 q2082 h2080 h2083) q2085 q2088 (vc_X12_feed_w_47 h2015 h2021 q2082 h2080 h2083) (fdS.is (vc_X12_feed_w_45 h2015 h2021 q2082 h2080 h2083) (vc_X12_feed_w_44 h2015 h2021 q2082 hp1 hp2 hp3 hp4 hp5 h2080 h2083)) u2091 (vc_X12_feed_w_48 h1111 h2015 h2021 q2082 h1112 h2080 h2083)) (vc_X12_feed_w_43 (nS h1943) h2015 h2021 q2082 h2080 h2083)
    refine mr_lvS (lv' := [(0, .ref 106), (1, iv p1), (2, iv p2), (3, iv p3), (4, iv p4), (5, iv p5), (6, iv 0)]) (List.forall_mem_cons.mpr ⟨rfl, List.forall_mem_cons.mpr ⟨rfl, List.forall_mem_cons.mpr ⟨rfl, List.forall_mem_cons.mpr ⟨rfl, List.forall_mem_cons.mpr ⟨rfl, List.forall_mem_cons.mpr ⟨rfl, List.forall_mem_cons.mpr ⟨rfl, fun _ h => absurd h List.not_mem_nil⟩⟩⟩⟩⟩⟩⟩) ?_
    exact L1937 22 0 μ hT mF.refl (rW (c := 0) (d := 20) (rR (x := 0)) rfl) (fdR.start vc_X10_tieBetween_v_23) vc_X12_tieOf_12
  have h2093 : 981 ≤ f_q ∧ f_q ≤ 1000 := (vc_X11_feed_w_15 h1111 ht_f_q)
  refine mr_bipush (pc := 13) (z := (-3)) dX12_feed_13 (by decide) ?_
  exact mr_iret dX12_feed_15 rfl (le_t rfl) (le_t rfl) hT mF.refl ⟨f_q, q_f_q, (rW (c := (-2147483648)) (d := 2147483647) (rR (x := (-3))) rfl), (vc_X11_feed_w_16 h1111 h2093), (vc_X11_feed_w_17 h1111 h2093), (Or.inl ⟨by decide, rfl⟩), trivial⟩
theorem vc_X6_fail_v_2 {f_at f_end : Int} (h0 : f_at ≤ f_end) (h1 : 0 ≤ f_at ∧ f_at ≤ 1000) (h2 : 0 ≤ f_end ∧ f_end ≤ 1000) : f_end = f_end := by omega
theorem vc_X6_fail_v_3 {f_ft : Int} (h0 : ¬ f_ft = 0) (h1 : 1 ≤ f_ft ∧ f_ft ≤ 4) : 1 ≤ f_ft := by omega
theorem vc_X6_fail_v_4 {f_ft : Int} (h0 : ¬ f_ft = 0) (h1 : 1 ≤ f_ft ∧ f_ft ≤ 4) : ¬ f_ft = 0 := by omega
theorem vc_X6_fail_v_6 {p1 : Int} (h0 : 1 ≤ p1 ∧ p1 ≤ 4) : 1 ≤ p1 := by omega
theorem vc_X6_fail_v_8 {p1 z88 : Int} (h0 : ¬ z88 = (-3)) (h1 : 1 ≤ p1 ∧ p1 ≤ 4) (h2 : (-2147483648) ≤ z88 ∧ z88 ≤ 2147483647) : (z88 = -3 ∧ p1 = 1) ∨ (¬ z88 = -3 ∧ p1 = p1) := by omega
theorem vc_X6_fail_v_9 {f_pl : Int} (h0 : 0 ≤ f_pl ∧ f_pl ≤ 1000) : f_pl = f_pl := by omega
theorem vc_X6_fail_v_10 {z88 : Int} (h0 : z88 = (-3)) (h1 : (-2147483648) ≤ z88 ∧ z88 ≤ 2147483647) : (-3) ≤ z88 ∧ z88 ≤ (-3) := by omega
theorem vc_X6_fail_v_12 {p1 z88 : Int} (h0 : z88 = (-3)) (h1 : 1 ≤ p1 ∧ p1 ≤ 4) (h2 : (-3) ≤ z88 ∧ z88 ≤ (-3)) : (z88 = -3 ∧ (1 : Int) = 1) ∨ (¬ z88 = -3 ∧ (1 : Int) = p1) := by omega
set_option maxRecDepth 4000 in
set_option maxHeartbeats 4000000 in
theorem c_X6_fail_v {l : Launch} {D : va_G} {c : Nat → ClassId} {H0 : Heap} {sa : Nat × Nat × (Nat → Int32)} {w : mW} {μ : mM} (hw : mWF w) (hT : mT w μ) {p1 : Int} (hp1 : 1 ≤ p1 ∧ p1 ≤ 4) {f_at : Int} (q_f_at : μ 23 9 = f_at) {f_end : Int} (q_f_end : μ 23 8 = f_end) {f_ft : Int} (q_f_ft : μ 23 18 = f_ft) {f_fp : Int} (q_f_fp : μ 23 19 = f_fp) {f_pl : Int} (q_f_pl : μ 26 (f_at.toNat) = f_pl) (hq0 : f_at ≤ f_end) : sC (gG l D c H0 sa) mX6_fail 1 0 0 [.ref 23, iv p1] (mk w μ) (qV w [23009, 23018, 23019] μ (fun μ1 => ∃ o_at o_ft : Int, μ1 23 9 = o_at ∧ μ1 23 18 = o_ft ∧ (o_at = f_end) ∧ (1 ≤ o_ft) ∧ (flK μ μ1 p1) ∧ True)) := by
  refine sC.of rfl (by decide) (le_t rfl) ?_
  have ht_f_at : (0 ≤ f_at ∧ f_at ≤ 1000) := by rw [← q_f_at]; exact hT 23 23 (A_23 hw) 9
  have ht_f_end : (0 ≤ f_end ∧ f_end ≤ 1000) := by rw [← q_f_end]; exact hT 23 23 (A_23 hw) 8
  have ht_f_ft : (0 ≤ f_ft ∧ f_ft ≤ 4) := by rw [← q_f_ft]; exact hT 23 23 (A_23 hw) 18
  have ht_f_fp : (0 ≤ f_fp ∧ f_fp ≤ 1000) := by rw [← q_f_fp]; exact hT 23 23 (A_23 hw) 19
  have ht_f_pl : (0 ≤ f_pl ∧ f_pl ≤ 1000) := by rw [← q_f_pl]; exact hT 26 26 (A_26 hw) (f_at.toNat)
  refine mr_lvE (lv' := [(0, .ref 23), (1, iv p1)]) rfl ?_
  refine sv_aload_n (pc := 0) dX6_fail_0 rfl rfl ?_
  refine gk_X6_18 (pc := 1) dX6_fail_1 wF_X6_37 (A_23 hw) q_f_ft ?_
  refine mr_if_ne (pc := 4) (tgt := 43) dX6_fail_4 (by decide) (r32 ht_f_ft rfl) (fun h82 => ?_) (fun h82 => ?_)
  · have h83 : 1 ≤ f_ft ∧ f_ft ≤ 4 := (vc_X12_isSign_1 h82 ht_f_ft)
    refine sv_aload_n (pc := 43) dX6_fail_43 rfl rfl ?_
    refine sv_aload_n (pc := 44) dX6_fail_44 rfl rfl ?_
    refine gk_X6_8 (pc := 45) dX6_fail_45 wF_X6_83 (A_23 hw) q_f_end ?_
    refine pf_X6_9 (pc := 48) dX6_fail_48 wF_X6_63 (A_23 hw) hT ht_f_end fun μ84 u85 T86 => ?_
    exact mr_vret dX6_fail_51 rfl (le_t rfl) (le_t rfl) T86 (mF.up mF.refl (A_23 hw) u85 rfl) ⟨f_end, f_ft, u85.1, (u85.f (Or.inr (by decide)) q_f_ft), (vc_X6_fail_v_2 hq0 ht_f_at ht_f_end), (vc_X6_fail_v_3 h82 h83), (flK.mk1 q_f_end (u85.1.trans (vc_X6_fail_v_2 hq0 ht_f_at ht_f_end)) q_f_ft (vc_X6_fail_v_4 h82 h83) (u85.f (Or.inr (by decide)) q_f_ft) q_f_fp (u85.f (Or.inr (by decide)) q_f_fp)), trivial⟩
  have h87 : 0 ≤ f_ft ∧ f_ft ≤ 0 := (vc_X12_isSign_4 h82 ht_f_ft)
  refine sv_aload_n (pc := 7) dX6_fail_7 rfl rfl ?_
  refine sv_aload_n (pc := 8) dX6_fail_8 rfl rfl ?_
  refine gf_X6_0 (pc := 9) dX6_fail_9 wF_X6_9 (A_23 hw) hT ?_
  refine sv_aload_n (pc := 12) dX6_fail_12 rfl rfl ?_
  refine gk_X6_9 (pc := 13) dX6_fail_13 wF_X6_63 (A_23 hw) q_f_at ?_
  refine la_24 (pc := 16) dX6_fail_16 (A_24 hw) hT (rIx (n := 1001) ht_f_at rfl) fun z88 q89 h90 => ?_
  refine mr_bipush (pc := 17) (z := (-3)) dX6_fail_17 (by decide) ?_
  refine mr_icmp_ne (pc := 19) (tgt := 26) dX6_fail_19 (by decide) h90 (r32 (rR (x := (-3))) rfl) (fun h91 => ?_) (fun h91 => ?_)
  · refine mr_iload_n (pc := 26) (z := p1) dX6_fail_26 rfl rfl ?_
    refine pf_X6_18 (pc := 27) dX6_fail_27 wF_X6_37 (A_23 hw) hT (rW (c := 0) (d := 4) hp1 rfl) fun μ92 u93 T94 => ?_
    refine sv_aload_n (pc := 30) dX6_fail_30 rfl rfl ?_
    refine sv_aload_n (pc := 31) dX6_fail_31 rfl rfl ?_
    refine gf_X6_2 (pc := 32) dX6_fail_32 wF_X6_18 (A_23 hw) T94 ?_
    refine sv_aload_n (pc := 35) dX6_fail_35 rfl rfl ?_
    refine gk_X6_9 (pc := 36) dX6_fail_36 wF_X6_63 (A_23 hw) (u93.f (Or.inr (by decide)) q_f_at) ?_
    refine lk_26 (pc := 39) dX6_fail_39 (A_26 hw) (rIx (n := 1001) ht_f_at rfl) (u93.f (Or.inl (mAt.ne (A_23 hw) (A_26 hw) rfl)) q_f_pl) ?_
    refine pf_X6_19 (pc := 40) dX6_fail_40 wF_X6_41 (A_23 hw) T94 ht_f_pl fun μ95 u96 T97 => ?_
    refine sv_aload_n (pc := 43) dX6_fail_43 rfl rfl ?_
    refine sv_aload_n (pc := 44) dX6_fail_44 rfl rfl ?_
    refine gk_X6_8 (pc := 45) dX6_fail_45 wF_X6_83 (A_23 hw) (u96.f (Or.inr (by decide)) (u93.f (Or.inr (by decide)) q_f_end)) ?_
    refine pf_X6_9 (pc := 48) dX6_fail_48 wF_X6_63 (A_23 hw) T97 ht_f_end fun μ98 u99 T100 => ?_
    exact mr_vret dX6_fail_51 rfl (le_t rfl) (le_t rfl) T100 (mF.up (mF.up (mF.up mF.refl (A_23 hw) u93 rfl) (A_23 hw) u96 rfl) (A_23 hw) u99 rfl) ⟨f_end, p1, u99.1, (u99.f (Or.inr (by decide)) (u96.f (Or.inr (by decide)) u93.1)), (vc_X6_fail_v_2 hq0 ht_f_at ht_f_end), (vc_X6_fail_v_6 hp1), (flK.mk2 q_f_end (u99.1.trans (vc_X6_fail_v_2 hq0 ht_f_at ht_f_end)) q_f_ft (vc_X12_goes_7 h82 h87) q_f_at q89 (u99.f (Or.inr (by decide)) (u96.f (Or.inr (by decide)) u93.1)) (vc_X6_fail_v_8 h91 hp1 h90) q_f_pl ((u99.f (Or.inr (by decide)) u96.1).trans (vc_X6_fail_v_9 ht_f_pl))), trivial⟩
  have h101 : (-3) ≤ z88 ∧ z88 ≤ (-3) := (vc_X6_fail_v_10 h91 h90)
  refine mr_iconst (pc := 22) (z := 1) dX6_fail_22 ?_
  refine sv_goto (pc := 23) (tgt := 27) dX6_fail_23 (by decide) ?_
  refine pf_X6_18 (pc := 27) dX6_fail_27 wF_X6_37 (A_23 hw) hT (rW (c := 0) (d := 4) (rR (x := 1)) rfl) fun μ102 u103 T104 => ?_
  refine sv_aload_n (pc := 30) dX6_fail_30 rfl rfl ?_
  refine sv_aload_n (pc := 31) dX6_fail_31 rfl rfl ?_
  refine gf_X6_2 (pc := 32) dX6_fail_32 wF_X6_18 (A_23 hw) T104 ?_
  refine sv_aload_n (pc := 35) dX6_fail_35 rfl rfl ?_
  refine gk_X6_9 (pc := 36) dX6_fail_36 wF_X6_63 (A_23 hw) (u103.f (Or.inr (by decide)) q_f_at) ?_
  refine lk_26 (pc := 39) dX6_fail_39 (A_26 hw) (rIx (n := 1001) ht_f_at rfl) (u103.f (Or.inl (mAt.ne (A_23 hw) (A_26 hw) rfl)) q_f_pl) ?_
  refine pf_X6_19 (pc := 40) dX6_fail_40 wF_X6_41 (A_23 hw) T104 ht_f_pl fun μ105 u106 T107 => ?_
  refine sv_aload_n (pc := 43) dX6_fail_43 rfl rfl ?_
  refine sv_aload_n (pc := 44) dX6_fail_44 rfl rfl ?_
  refine gk_X6_8 (pc := 45) dX6_fail_45 wF_X6_83 (A_23 hw) (u106.f (Or.inr (by decide)) (u103.f (Or.inr (by decide)) q_f_end)) ?_
  refine pf_X6_9 (pc := 48) dX6_fail_48 wF_X6_63 (A_23 hw) T107 ht_f_end fun μ108 u109 T110 => ?_
  exact mr_vret dX6_fail_51 rfl (le_t rfl) (le_t rfl) T110 (mF.up (mF.up (mF.up mF.refl (A_23 hw) u103 rfl) (A_23 hw) u106 rfl) (A_23 hw) u109 rfl) ⟨f_end, 1, u109.1, (u109.f (Or.inr (by decide)) (u106.f (Or.inr (by decide)) u103.1)), (vc_X6_fail_v_2 hq0 ht_f_at ht_f_end), vc_X12_states_28, (flK.mk2 q_f_end (u109.1.trans (vc_X6_fail_v_2 hq0 ht_f_at ht_f_end)) q_f_ft (vc_X12_goes_7 h82 h87) q_f_at q89 (u109.f (Or.inr (by decide)) (u106.f (Or.inr (by decide)) u103.1)) (vc_X6_fail_v_12 h91 hp1 h101) q_f_pl ((u109.f (Or.inr (by decide)) u106.1).trans (vc_X6_fail_v_9 ht_f_pl))), trivial⟩
